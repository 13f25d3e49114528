set_option maxRecDepth 100000 in
theorem wi_wsL_law0_r1 : ∀ w ∈ wsL_law0_r1, w ∈ lw_tbl := by
  intro w h
  have hp : wsL_law0_r1 = ([39, 40, 23, 587, 588, 27, 651, 814, 41, 42, 43, 44, 45, 46, 47, 121, 68, 122, 49, 50, 24, 123, 69, 70] : List Nat).filterMap (fun i => lw_tbl[i]?) := by rfl
  rw [hp] at h
  obtain ⟨i, -, hi⟩ := List.mem_filterMap.mp h
  exact List.mem_of_getElem? hi
set_option maxRecDepth 100000 in
theorem wi_wsL_law0_r2 : ∀ w ∈ wsL_law0_r2, w ∈ lw_tbl := by
  intro w h
  have hp : wsL_law0_r2 = ([25, 124, 52, 53, 54, 55, 57, 72, 73, 74, 75, 76, 26, 100, 78, 79, 80, 81, 91, 82, 589, 590, 591, 592] : List Nat).filterMap (fun i => lw_tbl[i]?) := by rfl
  rw [hp] at h
  obtain ⟨i, -, hi⟩ := List.mem_filterMap.mp h
  exact List.mem_of_getElem? hi
set_option maxRecDepth 100000 in
theorem wi_wsL_law0_r3 : ∀ w ∈ wsL_law0_r3, w ∈ lw_tbl := by
  intro w h
  have hp : wsL_law0_r3 = ([593, 594, 598, 600, 601, 602, 603, 604, 605, 606, 610, 149, 150, 22, 151, 152, 153, 154, 155, 156, 160, 31, 56, 58] : List Nat).filterMap (fun i => lw_tbl[i]?) := by rfl
  rw [hp] at h
  obtain ⟨i, -, hi⟩ := List.mem_filterMap.mp h
  exact List.mem_of_getElem? hi
set_option maxRecDepth 100000 in
theorem wi_wsL_law0_r4 : ∀ w ∈ wsL_law0_r4, w ∈ lw_tbl := by
  intro w h
  have hp : wsL_law0_r4 = ([157, 158, 159, 228, 230, 1, 231, 232, 233, 234, 235, 98, 102, 236, 238, 2, 239, 96, 240, 241, 242, 243, 83, 244] : List Nat).filterMap (fun i => lw_tbl[i]?) := by rfl
  rw [hp] at h
  obtain ⟨i, -, hi⟩ := List.mem_filterMap.mp h
  exact List.mem_of_getElem? hi
set_option maxRecDepth 100000 in
theorem wi_wsL_law0_r5 : ∀ w ∈ wsL_law0_r5, w ∈ lw_tbl := by
  intro w h
  have hp : wsL_law0_r5 = ([245, 246, 247, 101, 400, 390, 248, 249, 250, 35, 251, 402, 404, 396, 252, 254, 3, 255, 103, 95, 256, 257, 258, 259] : List Nat).filterMap (fun i => lw_tbl[i]?) := by rfl
  rw [hp] at h
  obtain ⟨i, -, hi⟩ := List.mem_filterMap.mp h
  exact List.mem_of_getElem? hi
set_option maxRecDepth 100000 in
theorem wi_wsL_law0_r6 : ∀ w ∈ wsL_law0_r6, w ∈ lw_tbl := by
  intro w h
  have hp : wsL_law0_r6 = ([393, 60, 407, 260, 261, 262, 263, 264, 265, 266, 267, 268, 270, 271, 272, 273, 275, 276, 277, 278, 279, 280, 281, 292] : List Nat).filterMap (fun i => lw_tbl[i]?) := by rfl
  rw [hp] at h
  obtain ⟨i, -, hi⟩ := List.mem_filterMap.mp h
  exact List.mem_of_getElem? hi
set_option maxRecDepth 100000 in
theorem wi_wsL_law0_r7 : ∀ w ∈ wsL_law0_r7, w ∈ lw_tbl := by
  intro w h
  have hp : wsL_law0_r7 = ([293, 33, 294, 282, 283, 284, 285, 394, 286, 287, 32, 288, 289, 290, 291, 295, 296, 297, 298, 299, 300, 301, 302, 397] : List Nat).filterMap (fun i => lw_tbl[i]?) := by rfl
  rw [hp] at h
  obtain ⟨i, -, hi⟩ := List.mem_filterMap.mp h
  exact List.mem_of_getElem? hi
set_option maxRecDepth 100000 in
theorem wi_wsL_law0_r8 : ∀ w ∈ wsL_law0_r8, w ∈ lw_tbl := by
  intro w h
  have hp : wsL_law0_r8 = ([405, 303, 305, 4, 306, 406, 392, 307, 309, 5, 310, 93, 311, 312, 313, 314, 315, 316, 317, 318, 319, 320, 321, 322] : List Nat).filterMap (fun i => lw_tbl[i]?) := by rfl
  rw [hp] at h
  obtain ⟨i, -, hi⟩ := List.mem_filterMap.mp h
  exact List.mem_of_getElem? hi
set_option maxRecDepth 100000 in
theorem wi_wsL_law0_r9 : ∀ w ∈ wsL_law0_r9, w ∈ lw_tbl := by
  intro w h
  have hp : wsL_law0_r9 = ([323, 324, 326, 6, 327, 328, 329, 331, 7, 332, 398, 656, 657, 658, 659, 611, 660, 661, 662, 652, 653, 654, 655, 333] : List Nat).filterMap (fun i => lw_tbl[i]?) := by rfl
  rw [hp] at h
  obtain ⟨i, -, hi⟩ := List.mem_filterMap.mp h
  exact List.mem_of_getElem? hi
set_option maxRecDepth 100000 in
theorem wi_wsL_law0_r10 : ∀ w ∈ wsL_law0_r10, w ∈ lw_tbl := by
  intro w h
  have hp : wsL_law0_r10 = ([334, 335, 336, 337, 338, 339, 59, 92, 94, 663, 664, 665, 666, 595, 596, 597, 341, 342, 343, 344, 345, 346, 347, 348] : List Nat).filterMap (fun i => lw_tbl[i]?) := by rfl
  rw [hp] at h
  obtain ⟨i, -, hi⟩ := List.mem_filterMap.mp h
  exact List.mem_of_getElem? hi
set_option maxRecDepth 100000 in
theorem wi_wsL_law0_r11 : ∀ w ∈ wsL_law0_r11, w ∈ lw_tbl := by
  intro w h
  have hp : wsL_law0_r11 = ([349, 350, 667, 668, 669, 670, 352, 353, 354, 355, 356, 357, 358, 359, 368, 34, 125, 384, 360, 361, 362, 363, 364, 365] : List Nat).filterMap (fun i => lw_tbl[i]?) := by rfl
  rw [hp] at h
  obtain ⟨i, -, hi⟩ := List.mem_filterMap.mp h
  exact List.mem_of_getElem? hi
set_option maxRecDepth 100000 in
theorem wi_wsL_law0_r12 : ∀ w ∈ wsL_law0_r12, w ∈ lw_tbl := by
  intro w h
  have hp : wsL_law0_r12 = ([366, 385, 386, 387, 388, 389, 391, 671, 672, 673, 674, 599, 675, 676, 677, 678, 680, 9, 681, 682, 684, 10, 685, 424] : List Nat).filterMap (fun i => lw_tbl[i]?) := by rfl
  rw [hp] at h
  obtain ⟨i, -, hi⟩ := List.mem_filterMap.mp h
  exact List.mem_of_getElem? hi
set_option maxRecDepth 100000 in
theorem wi_wsL_law0_r13 : ∀ w ∈ wsL_law0_r13, w ∈ lw_tbl := by
  intro w h
  have hp : wsL_law0_r13 = ([425, 426, 427, 428, 429, 430, 395, 432, 434, 8, 435, 686, 687, 688, 689, 437, 438, 439, 440, 441, 442, 443, 690, 691] : List Nat).filterMap (fun i => lw_tbl[i]?) := by rfl
  rw [hp] at h
  obtain ⟨i, -, hi⟩ := List.mem_filterMap.mp h
  exact List.mem_of_getElem? hi
set_option maxRecDepth 100000 in
theorem wi_wsL_law0_r14 : ∀ w ∈ wsL_law0_r14, w ∈ lw_tbl := by
  intro w h
  have hp : wsL_law0_r14 = ([692, 693, 137, 138, 139, 140, 694, 695, 696, 697, 444, 445, 446, 447, 448, 449, 450, 451, 452, 36, 698, 699, 700, 701] : List Nat).filterMap (fun i => lw_tbl[i]?) := by rfl
  rw [hp] at h
  obtain ⟨i, -, hi⟩ := List.mem_filterMap.mp h
  exact List.mem_of_getElem? hi
set_option maxRecDepth 100000 in
theorem wi_wsL_law0_r15 : ∀ w ∈ wsL_law0_r15, w ∈ lw_tbl := by
  intro w h
  have hp : wsL_law0_r15 = ([468, 469, 470, 471, 472, 473, 474, 399, 702, 703, 704, 705, 706, 708, 11, 709, 710, 712, 12, 713, 607, 608, 609, 714] : List Nat).filterMap (fun i => lw_tbl[i]?) := by rfl
  rw [hp] at h
  obtain ⟨i, -, hi⟩ := List.mem_filterMap.mp h
  exact List.mem_of_getElem? hi
set_option maxRecDepth 100000 in
theorem wi_wsL_law0_r16 : ∀ w ∈ wsL_law0_r16, w ∈ lw_tbl := by
  intro w h
  have hp : wsL_law0_r16 = ([716, 13, 717, 718, 720, 14, 721, 722, 724, 15, 725, 726, 728, 16, 729, 730, 731, 732, 733, 735, 17, 736, 737, 739] : List Nat).filterMap (fun i => lw_tbl[i]?) := by rfl
  rw [hp] at h
  obtain ⟨i, -, hi⟩ := List.mem_filterMap.mp h
  exact List.mem_of_getElem? hi
set_option maxRecDepth 100000 in
theorem wi_wsL_law0_r17 : ∀ w ∈ wsL_law0_r17, w ∈ lw_tbl := by
  intro w h
  have hp : wsL_law0_r17 = ([18, 740, 741, 743, 19, 744, 745, 747, 20, 748, 749, 751, 21, 752, 475, 476, 477, 478, 479, 480, 481, 401, 753, 754] : List Nat).filterMap (fun i => lw_tbl[i]?) := by rfl
  rw [hp] at h
  obtain ⟨i, -, hi⟩ := List.mem_filterMap.mp h
  exact List.mem_of_getElem? hi
set_option maxRecDepth 100000 in
theorem wi_wsL_law0_r18 : ∀ w ∈ wsL_law0_r18, w ∈ lw_tbl := by
  intro w h
  have hp : wsL_law0_r18 = ([755, 756, 141, 142, 143, 144, 97, 757, 758, 759, 760, 145, 146, 147, 148, 99, 761, 762, 763, 764, 482, 483, 484, 485] : List Nat).filterMap (fun i => lw_tbl[i]?) := by rfl
  rw [hp] at h
  obtain ⟨i, -, hi⟩ := List.mem_filterMap.mp h
  exact List.mem_of_getElem? hi
set_option maxRecDepth 100000 in
theorem wi_wsL_law0_r19 : ∀ w ∈ wsL_law0_r19, w ∈ lw_tbl := by
  intro w h
  have hp : wsL_law0_r19 = ([486, 487, 488, 403, 765, 766, 767, 768, 489, 490, 491, 492, 493, 494, 495, 408, 769, 770, 771, 772, 496, 497, 498, 499] : List Nat).filterMap (fun i => lw_tbl[i]?) := by rfl
  rw [hp] at h
  obtain ⟨i, -, hi⟩ := List.mem_filterMap.mp h
  exact List.mem_of_getElem? hi
set_option maxRecDepth 100000 in
theorem wi_wsL_law0_r20 : ∀ w ∈ wsL_law0_r20, w ∈ lw_tbl := by
  intro w h
  have hp : wsL_law0_r20 = ([500, 501, 502, 773, 774, 775, 776, 504, 505, 506, 507, 508, 509, 510, 512, 777, 778, 779, 780, 513, 514, 515, 516, 517] : List Nat).filterMap (fun i => lw_tbl[i]?) := by rfl
  rw [hp] at h
  obtain ⟨i, -, hi⟩ := List.mem_filterMap.mp h
  exact List.mem_of_getElem? hi
set_option maxRecDepth 100000 in
theorem wi_wsL_law0_r21 : ∀ w ∈ wsL_law0_r21, w ∈ lw_tbl := by
  intro w h
  have hp : wsL_law0_r21 = ([518, 519, 521, 781, 782, 783, 784, 522, 523, 524, 525, 526, 527, 528, 529, 785, 786, 787, 788, 530, 531, 532, 533, 534] : List Nat).filterMap (fun i => lw_tbl[i]?) := by rfl
  rw [hp] at h
  obtain ⟨i, -, hi⟩ := List.mem_filterMap.mp h
  exact List.mem_of_getElem? hi
set_option maxRecDepth 100000 in
theorem wi_wsL_law0_r22 : ∀ w ∈ wsL_law0_r22, w ∈ lw_tbl := by
  intro w h
  have hp : wsL_law0_r22 = ([535, 536, 538, 539, 37, 540, 789, 790, 791, 792, 793, 794, 795, 796, 797, 798, 541, 542, 543, 544, 545, 546, 547, 549] : List Nat).filterMap (fun i => lw_tbl[i]?) := by rfl
  rw [hp] at h
  obtain ⟨i, -, hi⟩ := List.mem_filterMap.mp h
  exact List.mem_of_getElem? hi
set_option maxRecDepth 100000 in
theorem wi_wsL_law0_r23 : ∀ w ∈ wsL_law0_r23, w ∈ lw_tbl := by
  intro w h
  have hp : wsL_law0_r23 = ([550, 551, 552, 553, 554, 555, 799, 800, 801, 802, 803, 804, 805, 556, 557, 558, 559, 560, 561, 562, 563, 564, 565, 566] : List Nat).filterMap (fun i => lw_tbl[i]?) := by rfl
  rw [hp] at h
  obtain ⟨i, -, hi⟩ := List.mem_filterMap.mp h
  exact List.mem_of_getElem? hi
set_option maxRecDepth 100000 in
theorem wi_wsL_law0_r24 : ∀ w ∈ wsL_law0_r24, w ∈ lw_tbl := by
  intro w h
  have hp : wsL_law0_r24 = ([567, 38, 568, 569, 570, 571, 572, 573, 574, 575, 806, 807, 808, 809, 576, 577, 578, 579, 580, 581, 582, 583, 584, 585] : List Nat).filterMap (fun i => lw_tbl[i]?) := by rfl
  rw [hp] at h
  obtain ⟨i, -, hi⟩ := List.mem_filterMap.mp h
  exact List.mem_of_getElem? hi
set_option maxRecDepth 100000 in
theorem wi_wsL_law0_r25 : ∀ w ∈ wsL_law0_r25, w ∈ lw_tbl := by
  intro w h
  have hp : wsL_law0_r25 = ([586, 810, 811, 812, 813] : List Nat).filterMap (fun i => lw_tbl[i]?) := by rfl
  rw [hp] at h
  obtain ⟨i, -, hi⟩ := List.mem_filterMap.mp h
  exact List.mem_of_getElem? hi
set_option maxRecDepth 100000 in
theorem inX0 : ∀ w ∈ wsX00, w ∈ lw_tbl := by
  intro w h
  have hp : wsX00 = ([104, 106, 108, 110, 112, 114, 116, 118] : List Nat).filterMap (fun i => lw_tbl[i]?) := by rfl
  rw [hp] at h
  obtain ⟨i, -, hi⟩ := List.mem_filterMap.mp h
  exact List.mem_of_getElem? hi
set_option maxRecDepth 100000 in
theorem inX2 : ∀ w ∈ wsX20, w ∈ lw_tbl := by
  intro w h
  have hp : wsX20 = ([84, 86, 88] : List Nat).filterMap (fun i => lw_tbl[i]?) := by rfl
  rw [hp] at h
  obtain ⟨i, -, hi⟩ := List.mem_filterMap.mp h
  exact List.mem_of_getElem? hi
set_option maxRecDepth 100000 in
theorem inX3 : ∀ w ∈ wsX30, w ∈ lw_tbl := by
  intro w h
  have hp : wsX30 = ([409, 411, 413, 415, 417, 419, 421] : List Nat).filterMap (fun i => lw_tbl[i]?) := by rfl
  rw [hp] at h
  obtain ⟨i, -, hi⟩ := List.mem_filterMap.mp h
  exact List.mem_of_getElem? hi
set_option maxRecDepth 100000 in
theorem inX4 : ∀ w ∈ wsX40, w ∈ lw_tbl := by
  intro w h
  have hp : wsX40 = ([61, 63, 65] : List Nat).filterMap (fun i => lw_tbl[i]?) := by rfl
  rw [hp] at h
  obtain ⟨i, -, hi⟩ := List.mem_filterMap.mp h
  exact List.mem_of_getElem? hi
set_option maxRecDepth 100000 in
theorem inX5 : ∀ w ∈ wsX50, w ∈ lw_tbl := by
  intro w h
  have hp : wsX50 = ([126, 128, 130, 132, 134] : List Nat).filterMap (fun i => lw_tbl[i]?) := by rfl
  rw [hp] at h
  obtain ⟨i, -, hi⟩ := List.mem_filterMap.mp h
  exact List.mem_of_getElem? hi
set_option maxRecDepth 100000 in
theorem inX6 : ∀ w ∈ wsX60, w ∈ lw_tbl := by
  intro w h
  have hp : wsX60 = ([612, 614, 616, 618, 620, 622, 624, 626, 628, 630, 632, 634, 636, 638, 640, 642, 644, 646, 648] : List Nat).filterMap (fun i => lw_tbl[i]?) := by rfl
  rw [hp] at h
  obtain ⟨i, -, hi⟩ := List.mem_filterMap.mp h
  exact List.mem_of_getElem? hi
theorem wsL_law_in0 : ∀ w ∈ wsL_law0, w ∈ lw_tbl := by
  unfold wsL_law0
  exact List.forall_mem_append.mpr ⟨List.forall_mem_append.mpr ⟨List.forall_mem_append.mpr ⟨List.forall_mem_append.mpr ⟨List.forall_mem_append.mpr ⟨List.forall_mem_append.mpr ⟨List.forall_mem_append.mpr ⟨List.forall_mem_append.mpr ⟨wi_wsL_law0_r1, List.forall_mem_append.mpr ⟨wi_wsL_law0_r2, List.forall_mem_append.mpr ⟨wi_wsL_law0_r3, List.forall_mem_append.mpr ⟨wi_wsL_law0_r4, List.forall_mem_append.mpr ⟨wi_wsL_law0_r5, List.forall_mem_append.mpr ⟨wi_wsL_law0_r6, List.forall_mem_append.mpr ⟨wi_wsL_law0_r7, List.forall_mem_append.mpr ⟨wi_wsL_law0_r8, List.forall_mem_append.mpr ⟨wi_wsL_law0_r9, List.forall_mem_append.mpr ⟨wi_wsL_law0_r10, List.forall_mem_append.mpr ⟨wi_wsL_law0_r11, List.forall_mem_append.mpr ⟨wi_wsL_law0_r12, List.forall_mem_append.mpr ⟨wi_wsL_law0_r13, List.forall_mem_append.mpr ⟨wi_wsL_law0_r14, List.forall_mem_append.mpr ⟨wi_wsL_law0_r15, List.forall_mem_append.mpr ⟨wi_wsL_law0_r16, List.forall_mem_append.mpr ⟨wi_wsL_law0_r17, List.forall_mem_append.mpr ⟨wi_wsL_law0_r18, List.forall_mem_append.mpr ⟨wi_wsL_law0_r19, List.forall_mem_append.mpr ⟨wi_wsL_law0_r20, List.forall_mem_append.mpr ⟨wi_wsL_law0_r21, List.forall_mem_append.mpr ⟨wi_wsL_law0_r22, List.forall_mem_append.mpr ⟨wi_wsL_law0_r23, List.forall_mem_append.mpr ⟨wi_wsL_law0_r24, wi_wsL_law0_r25⟩⟩⟩⟩⟩⟩⟩⟩⟩⟩⟩⟩⟩⟩⟩⟩⟩⟩⟩⟩⟩⟩⟩⟩, inX5⟩, inX6⟩, inX4⟩, inX0⟩, inX2⟩, inX3⟩, (fun _ h => nomatch h)⟩
theorem wsL_law_x0 : ∀ w ∈ (vx_atS RX5 41 "java/lang/IllegalArgumentException" ["java/lang/RuntimeException", "java/lang/Exception"]).filter goodWord, w ∈ lw_tbl := by decide +kernel
theorem wsL_law_x1 : ∀ w ∈ (vx_atS RX5 88 "java/lang/IllegalStateException" ["java/lang/RuntimeException", "java/lang/Exception"]).filter goodWord, w ∈ lw_tbl := by decide +kernel
theorem wsL_law_x2 : ∀ w ∈ (vx_atS RX5 108 "java/lang/IndexOutOfBoundsException" ["java/lang/RuntimeException", "java/lang/Exception"]).filter goodWord, w ∈ lw_tbl := by decide +kernel
theorem wsL_law_in : ∀ w ∈ wsL_law, w ∈ lw_tbl := fun w h => (List.mem_append.mp h).elim (fun h => (List.mem_append.mp h).elim (fun h => (List.mem_append.mp h).elim (fun h => wsL_law_in0 w h) (fun h => wsL_law_x0 w h)) (fun h => wsL_law_x1 w h)) (fun h => wsL_law_x2 w h)
theorem inlX0 : ∀ w ∈ wsX00, w ∈ wsL_law := fun _ h => List.mem_append_left _ (List.mem_append_left _ (List.mem_append_left _ (List.mem_append_left _ (List.mem_append_left _ (List.mem_append_left _ (List.mem_append_right _ h))))))
theorem inlX2 : ∀ w ∈ wsX20, w ∈ wsL_law := fun _ h => List.mem_append_left _ (List.mem_append_left _ (List.mem_append_left _ (List.mem_append_left _ (List.mem_append_left _ (List.mem_append_right _ h)))))
theorem inlX3 : ∀ w ∈ wsX30, w ∈ wsL_law := fun _ h => List.mem_append_left _ (List.mem_append_left _ (List.mem_append_left _ (List.mem_append_left _ (List.mem_append_right _ h))))
theorem inlX4 : ∀ w ∈ wsX40, w ∈ wsL_law := fun _ h => List.mem_append_left _ (List.mem_append_left _ (List.mem_append_left _ (List.mem_append_left _ (List.mem_append_left _ (List.mem_append_left _ (List.mem_append_left _ (List.mem_append_right _ h)))))))
theorem inlX5 : ∀ w ∈ wsX50, w ∈ wsL_law := fun _ h => List.mem_append_left _ (List.mem_append_left _ (List.mem_append_left _ (List.mem_append_left _ (List.mem_append_left _ (List.mem_append_left _ (List.mem_append_left _ (List.mem_append_left _ (List.mem_append_left _ (List.mem_append_right _ h)))))))))
theorem inlX6 : ∀ w ∈ wsX60, w ∈ wsL_law := fun _ h => List.mem_append_left _ (List.mem_append_left _ (List.mem_append_left _ (List.mem_append_left _ (List.mem_append_left _ (List.mem_append_left _ (List.mem_append_left _ (List.mem_append_left _ (List.mem_append_right _ h))))))))
theorem inX1 : ∀ w ∈ wsX10, w ∈ lw_tbl := by decide +kernel
