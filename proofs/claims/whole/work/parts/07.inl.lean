theorem hp_in {big : List Cond} (ws : List Cond) (ps : List Nat) (hp : ws = ps.filterMap (fun i => big[i]?)) : ∀ w ∈ ws, w ∈ big := by
  intro w hw
  rw [hp] at hw
  obtain ⟨i, -, hi⟩ := List.mem_filterMap.mp hw
  exact List.mem_of_getElem? hi
theorem hp_ap {big a b : List Cond} (ha : ∀ w ∈ a, w ∈ big) (hb : ∀ w ∈ b, w ∈ big) : ∀ w ∈ a ++ b, w ∈ big := fun w h => (List.mem_append.mp h).elim (ha w) (hb w)
set_option maxRecDepth 20000 in
theorem wsL_law_r1_in : ∀ w ∈ wsL_law_r1, w ∈ lw_tbl := hp_in _ [34, 35, 23, 534, 535, 29, 809, 36, 37, 38, 39, 40, 41, 42, 43, 24, 154, 58, 59, 25, 155, 79, 80, 26] (by decide +kernel)
set_option maxRecDepth 20000 in
theorem wsL_law_r2_in : ∀ w ∈ wsL_law_r2, w ∈ lw_tbl := hp_in _ [156, 118, 119, 27, 157, 158, 153, 159, 57, 160, 161, 162, 163, 164, 165, 138, 139, 28, 166, 45, 46, 47, 48, 49] (by decide +kernel)
set_option maxRecDepth 20000 in
theorem wsL_law_r3_in : ∀ w ∈ wsL_law_r3, w ∈ lw_tbl := hp_in _ [61, 62, 63, 64, 66, 68, 69, 81, 82, 83, 84, 86, 88, 90, 92, 94, 96, 97, 98, 85, 120, 121, 122, 123] (by decide +kernel)
set_option maxRecDepth 20000 in
theorem wsL_law_r4_in : ∀ w ∈ wsL_law_r4, w ∈ lw_tbl := hp_in _ [124, 127, 128, 129, 126, 141, 142, 143, 144, 146, 536, 537, 538, 539, 541, 546, 547, 550, 551, 552, 553, 554, 556, 557] (by decide +kernel)
set_option maxRecDepth 20000 in
theorem wsL_law_r5_in : ∀ w ∈ wsL_law_r5, w ∈ lw_tbl := hp_in _ [559, 560, 194, 195, 196, 197, 198, 199, 200, 201, 202, 203, 204, 610, 611, 612, 613, 540, 614, 542, 615, 616, 617, 205] (by decide +kernel)
set_option maxRecDepth 20000 in
theorem wsL_law_r6_in : ∀ w ∈ wsL_law_r6, w ∈ lw_tbl := hp_in _ [206, 207, 208, 209, 210, 211, 212, 618, 619, 620, 621, 213, 214, 215, 216, 217, 218, 219, 220, 221, 222, 223, 224, 229] (by decide +kernel)
set_option maxRecDepth 20000 in
theorem wsL_law_r7_in : ∀ w ∈ wsL_law_r7, w ∈ lw_tbl := hp_in _ [231, 0, 232, 622, 623, 624, 625, 626, 628, 9, 629, 543, 548, 549, 630, 632, 10, 633, 634, 636, 11, 637, 638, 639] (by decide +kernel)
set_option maxRecDepth 20000 in
theorem wsL_law_r8_in : ∀ w ∈ wsL_law_r8, w ∈ lw_tbl := hp_in _ [640, 641, 643, 12, 644, 645, 647, 13, 648, 238, 239, 240, 241, 242, 243, 244, 245, 246, 247, 248, 249, 250, 251, 252] (by decide +kernel)
set_option maxRecDepth 20000 in
theorem wsL_law_r9_in : ∀ w ∈ wsL_law_r9, w ∈ lw_tbl := hp_in _ [253, 254, 255, 30, 256, 257, 258, 259, 260, 261, 262, 263, 264, 265, 266, 267, 269, 270, 271, 272, 649, 650, 651, 652] (by decide +kernel)
set_option maxRecDepth 20000 in
theorem wsL_law_r10_in : ∀ w ∈ wsL_law_r10, w ∈ lw_tbl := hp_in _ [544, 545, 555, 273, 274, 275, 276, 653, 654, 655, 656, 558, 277, 278, 279, 280, 281, 282, 283, 284, 285, 286, 287, 288] (by decide +kernel)
set_option maxRecDepth 20000 in
theorem wsL_law_r11_in : ∀ w ∈ wsL_law_r11, w ∈ lw_tbl := hp_in _ [289, 290, 291, 292, 293, 295, 296, 31, 297, 294, 298, 657, 658, 659, 660, 661, 663, 14, 664, 665, 666, 667, 299, 300] (by decide +kernel)
set_option maxRecDepth 20000 in
theorem wsL_law_r12_in : ∀ w ∈ wsL_law_r12, w ∈ lw_tbl := hp_in _ [301, 302, 303, 304, 305, 306, 307, 308, 309, 310, 311, 312, 313, 314, 668, 669, 670, 671, 676, 672, 674, 15, 675, 315] (by decide +kernel)
set_option maxRecDepth 20000 in
theorem wsL_law_r13_in : ∀ w ∈ wsL_law_r13, w ∈ lw_tbl := hp_in _ [316, 317, 318, 319, 320, 321, 322, 323, 324, 325, 326, 327, 329, 328, 32, 330, 331, 332, 333, 336, 337, 338, 334, 335] (by decide +kernel)
set_option maxRecDepth 20000 in
theorem wsL_law_r14_in : ∀ w ∈ wsL_law_r14, w ∈ lw_tbl := hp_in _ [340, 341, 342, 343, 344, 345, 346, 347, 348, 349, 350, 351, 33, 352, 353, 354, 355, 356, 677, 678, 679, 680, 681, 683] (by decide +kernel)
set_option maxRecDepth 20000 in
theorem wsL_law_r15_in : ∀ w ∈ wsL_law_r15, w ∈ lw_tbl := hp_in _ [16, 684, 685, 687, 17, 688, 689, 690, 691, 692, 693, 694, 357, 358, 359, 360, 361, 362, 363, 364, 365, 366, 367, 368] (by decide +kernel)
set_option maxRecDepth 20000 in
theorem wsL_law_r16_in : ∀ w ∈ wsL_law_r16, w ∈ lw_tbl := hp_in _ [370, 1, 371, 372, 373, 375, 2, 376, 377, 378, 379, 695, 696, 697, 698, 699, 701, 18, 702, 562, 380, 381, 382, 383] (by decide +kernel)
set_option maxRecDepth 20000 in
theorem wsL_law_r17_in : ∀ w ∈ wsL_law_r17, w ∈ lw_tbl := hp_in _ [703, 704, 705, 706, 707, 384, 385, 386, 387, 388, 389, 390, 391, 708, 709, 710, 711, 392, 393, 394, 395, 396, 712, 713] (by decide +kernel)
set_option maxRecDepth 20000 in
theorem wsL_law_r18_in : ∀ w ∈ wsL_law_r18, w ∈ lw_tbl := hp_in _ [714, 715, 716, 718, 19, 719, 397, 398, 399, 400, 401, 403, 3, 404, 405, 406, 407, 408, 409, 410, 411, 412, 414, 4] (by decide +kernel)
set_option maxRecDepth 20000 in
theorem wsL_law_r19_in : ∀ w ∈ wsL_law_r19, w ∈ lw_tbl := hp_in _ [415, 416, 417, 418, 419, 420, 421, 422, 424, 5, 425, 426, 427, 428, 429, 720, 721, 722, 723, 724, 725, 726, 727, 430] (by decide +kernel)
set_option maxRecDepth 20000 in
theorem wsL_law_r20_in : ∀ w ∈ wsL_law_r20, w ∈ lw_tbl := hp_in _ [431, 432, 433, 728, 729, 730, 731, 434, 435, 436, 437, 438, 439, 440, 732, 733, 734, 735, 736, 441, 442, 443, 444, 737] (by decide +kernel)
set_option maxRecDepth 20000 in
theorem wsL_law_r21_in : ∀ w ∈ wsL_law_r21, w ∈ lw_tbl := hp_in _ [738, 739, 740, 445, 446, 447, 448, 449, 451, 6, 452, 741, 742, 743, 744, 745, 746, 748, 20, 749, 453, 454, 455, 456] (by decide +kernel)
set_option maxRecDepth 20000 in
theorem wsL_law_r22_in : ∀ w ∈ wsL_law_r22, w ∈ lw_tbl := hp_in _ [457, 750, 751, 752, 753, 458, 459, 460, 461, 462, 463, 464, 465, 466, 467, 754, 755, 756, 757, 758, 759, 760, 761, 468] (by decide +kernel)
set_option maxRecDepth 20000 in
theorem wsL_law_r23_in : ∀ w ∈ wsL_law_r23, w ∈ lw_tbl := hp_in _ [469, 470, 471, 472, 473, 474, 762, 763, 764, 765, 766, 475, 476, 477, 478, 479, 480, 481, 482, 483, 485, 7, 486, 487] (by decide +kernel)
set_option maxRecDepth 20000 in
theorem wsL_law_r24_in : ∀ w ∈ wsL_law_r24, w ∈ lw_tbl := hp_in _ [488, 489, 490, 491, 767, 768, 769, 770, 771, 773, 21, 774, 492, 493, 494, 495, 775, 776, 777, 778, 496, 497, 498, 499] (by decide +kernel)
set_option maxRecDepth 20000 in
theorem wsL_law_r25_in : ∀ w ∈ wsL_law_r25, w ∈ lw_tbl := hp_in _ [779, 780, 781, 782, 500, 501, 502, 503, 504, 505, 507, 8, 508, 509, 510, 511, 783, 784, 785, 786, 787, 788, 789, 790] (by decide +kernel)
set_option maxRecDepth 20000 in
theorem wsL_law_r26_in : ∀ w ∈ wsL_law_r26, w ∈ lw_tbl := hp_in _ [512, 513, 514, 515, 791, 792, 793, 794, 561, 516, 517, 518, 519, 520, 521, 522, 795, 796, 797, 798, 799, 800, 523, 524] (by decide +kernel)
set_option maxRecDepth 20000 in
theorem wsL_law_r27_in : ∀ w ∈ wsL_law_r27, w ∈ lw_tbl := hp_in _ [525, 526, 527, 528, 529, 801, 802, 803, 804, 530, 531, 532, 533, 805, 806, 807, 808] (by decide +kernel)
set_option maxRecDepth 20000 in
theorem inX0 : ∀ w ∈ wsX00, w ∈ lw_tbl := hp_in _ [131, 133, 135] (by decide +kernel)
set_option maxRecDepth 20000 in
theorem inX1 : ∀ w ∈ wsX10, w ∈ lw_tbl := hp_in _ [148, 150] (by decide +kernel)
set_option maxRecDepth 20000 in
theorem inX2 : ∀ w ∈ wsX20, w ∈ lw_tbl := hp_in _ [70, 72, 74, 76] (by decide +kernel)
set_option maxRecDepth 20000 in
theorem inX3 : ∀ w ∈ wsX30, w ∈ lw_tbl := hp_in _ [99, 101, 103, 105, 107, 109, 111, 113, 115] (by decide +kernel)
set_option maxRecDepth 20000 in
theorem inX4 : ∀ w ∈ wsX40, w ∈ lw_tbl := hp_in _ [52, 54] (by decide +kernel)
set_option maxRecDepth 20000 in
theorem inX5 : ∀ w ∈ wsX50, w ∈ lw_tbl := hp_in _ [167, 169, 171, 173, 175, 177, 179, 181, 183, 185, 187, 189, 191] (by decide +kernel)
set_option maxRecDepth 20000 in
theorem inX6 : ∀ w ∈ wsX60, w ∈ lw_tbl := hp_in _ [563, 565, 567, 569, 571, 573, 575, 577, 579, 581, 583, 585, 587, 589, 591, 593, 595, 597, 599, 601, 603, 605, 607] (by decide +kernel)
theorem wsL_law_in : ∀ w ∈ wsL_law, w ∈ lw_tbl := hp_ap (hp_ap (hp_ap (hp_ap (hp_ap (hp_ap (hp_ap (hp_ap ((hp_ap wsL_law_r1_in (hp_ap wsL_law_r2_in (hp_ap wsL_law_r3_in (hp_ap wsL_law_r4_in (hp_ap wsL_law_r5_in (hp_ap wsL_law_r6_in (hp_ap wsL_law_r7_in (hp_ap wsL_law_r8_in (hp_ap wsL_law_r9_in (hp_ap wsL_law_r10_in (hp_ap wsL_law_r11_in (hp_ap wsL_law_r12_in (hp_ap wsL_law_r13_in (hp_ap wsL_law_r14_in (hp_ap wsL_law_r15_in (hp_ap wsL_law_r16_in (hp_ap wsL_law_r17_in (hp_ap wsL_law_r18_in (hp_ap wsL_law_r19_in (hp_ap wsL_law_r20_in (hp_ap wsL_law_r21_in (hp_ap wsL_law_r22_in (hp_ap wsL_law_r23_in (hp_ap wsL_law_r24_in (hp_ap wsL_law_r25_in (hp_ap wsL_law_r26_in wsL_law_r27_in))))))))))))))))))))))))))) inX5) inX6) inX4) inX2) inX3) inX0) inX1) (fun _ h => absurd h List.not_mem_nil)
/-- the nest mates' words of the tables -/
def hNF : List (String × Nat × String × String × String × String) := [("HatRound$Facts", 25, "HatRound$Text", "length", "I", "HatRound"), ("HatRound", 79, "HatRound$Text", "length", "I", "HatRound"), ("HatRound", 103, "HatRound$Facts", "people", "I", "HatRound"), ("HatRound", 106, "HatRound$Facts", "tunes", "I", "HatRound"), ("HatRound", 109, "HatRound$Scene", "minute", "I", "HatRound"), ("HatRound", 112, "HatRound$Scene", "hat", "I", "HatRound"), ("HatRound", 115, "HatRound$Scene", "bait", "I", "HatRound"), ("HatRound", 118, "HatRound$Scene", "standing", "I", "HatRound"), ("HatRound", 121, "HatRound$Scene", "waiting", "I", "HatRound"), ("HatRound", 124, "HatRound$Acts", "count", "I", "HatRound"), ("HatRound", 179, "HatRound$Best", "most", "I", "HatRound"), ("HatRound", 182, "HatRound$Best", "choice", "I", "HatRound"), ("HatRound$Text", 23, "HatRound", "PERSON_LEAST", "[I", "HatRound"), ("HatRound$Text", 26, "HatRound", "PERSON_MOST", "[I", "HatRound"), ("HatRound$Text", 33, "HatRound", "TUNE_LEAST", "[I", "HatRound"), ("HatRound$Text", 36, "HatRound", "TUNE_MOST", "[I", "HatRound")]
def hNM : List (String × Nat × MethodName × String) := [("HatRound", 9, (⟨"HatRound$Text", "<init>", "()V"⟩ : MethodName), "HatRound"), ("HatRound", 18, (⟨"HatRound$Facts", "<init>", "()V"⟩ : MethodName), "HatRound"), ("HatRound", 70, (⟨"HatRound$Best", "<init>", "()V"⟩ : MethodName), "HatRound"), ("HatRound$Text", 39, (⟨"HatRound", "isWithin", "(III)Z"⟩ : MethodName), "HatRound"), ("HatRound$Facts", 38, (⟨"HatRound", "isWithin", "(III)Z"⟩ : MethodName), "HatRound"), ("HatRound$Scene", 77, (⟨"HatRound", "has", "(II)Z"⟩ : MethodName), "HatRound")]
