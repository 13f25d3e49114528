set_option maxRecDepth 100000 in
theorem wi_wsL_law0_r1 : ∀ w ∈ wsL_law0_r1, w ∈ lw_tbl := by
  intro w h
  have hp : wsL_law0_r1 = ([25, 26, 10, 27, 28, 29, 30, 31, 32, 33, 107, 54, 108, 35, 36, 11, 109, 55, 56, 12, 110, 38, 39, 40] : List Nat).filterMap (fun i => lw_tbl[i]?) := by rfl
  rw [hp] at h
  obtain ⟨i, -, hi⟩ := List.mem_filterMap.mp h
  exact List.mem_of_getElem? hi
set_option maxRecDepth 100000 in
theorem wi_wsL_law0_r2 : ∀ w ∈ wsL_law0_r2, w ∈ lw_tbl := by
  intro w h
  have hp : wsL_law0_r2 = ([41, 43, 58, 59, 60, 61, 62, 13, 86, 64, 65, 66, 67, 77, 68, 411, 412, 9, 413, 414, 415, 416, 417, 130] : List Nat).filterMap (fun i => lw_tbl[i]?) := by rfl
  rw [hp] at h
  obtain ⟨i, -, hi⟩ := List.mem_filterMap.mp h
  exact List.mem_of_getElem? hi
set_option maxRecDepth 100000 in
theorem wi_wsL_law0_r3 : ∀ w ∈ wsL_law0_r3, w ∈ lw_tbl := by
  intro w h
  have hp : wsL_law0_r3 = ([17, 375, 127, 128, 129, 316, 317, 318, 319, 111, 419, 420, 421, 422, 423, 18, 439, 440, 441, 442, 344, 19, 443, 445] : List Nat).filterMap (fun i => lw_tbl[i]?) := by rfl
  rw [hp] at h
  obtain ⟨i, -, hi⟩ := List.mem_filterMap.mp h
  exact List.mem_of_getElem? hi
set_option maxRecDepth 100000 in
theorem wi_wsL_law0_r4 : ∀ w ∈ wsL_law0_r4, w ∈ lw_tbl := by
  intro w h
  have hp : wsL_law0_r4 = ([8, 446, 312, 313, 314, 447, 448, 449, 450, 377, 451, 452, 453, 454, 379, 455, 456, 457, 458, 384, 459, 460, 461, 462] : List Nat).filterMap (fun i => lw_tbl[i]?) := by rfl
  rw [hp] at h
  obtain ⟨i, -, hi⟩ := List.mem_filterMap.mp h
  exact List.mem_of_getElem? hi
set_option maxRecDepth 100000 in
theorem wi_wsL_law0_r5 : ∀ w ∈ wsL_law0_r5, w ∈ lw_tbl := by
  intro w h
  have hp : wsL_law0_r5 = ([83, 463, 464, 465, 466, 85, 324, 325, 326, 327, 320, 321, 322, 323, 408, 409, 410, 328, 329, 330, 331, 332, 333, 334] : List Nat).filterMap (fun i => lw_tbl[i]?) := by rfl
  rw [hp] at h
  obtain ⟨i, -, hi⟩ := List.mem_filterMap.mp h
  exact List.mem_of_getElem? hi
set_option maxRecDepth 100000 in
theorem wi_wsL_law0_r6 : ∀ w ∈ wsL_law0_r6, w ∈ lw_tbl := by
  intro w h
  have hp : wsL_law0_r6 = ([335, 360, 20, 336, 337, 338, 339, 340, 341, 342, 361, 362, 363, 364, 365, 367, 370, 198, 200, 1, 201, 202, 203, 204] : List Nat).filterMap (fun i => lw_tbl[i]?) := by rfl
  rw [hp] at h
  obtain ⟨i, -, hi⟩ := List.mem_filterMap.mp h
  exact List.mem_of_getElem? hi
set_option maxRecDepth 100000 in
theorem wi_wsL_law0_r7 : ∀ w ∈ wsL_law0_r7, w ∈ lw_tbl := by
  intro w h
  have hp : wsL_law0_r7 = ([205, 84, 88, 206, 208, 2, 209, 82, 210, 211, 212, 213, 69, 214, 215, 216, 217, 87, 376, 366, 218, 219, 220, 221] : List Nat).filterMap (fun i => lw_tbl[i]?) := by rfl
  rw [hp] at h
  obtain ⟨i, -, hi⟩ := List.mem_filterMap.mp h
  exact List.mem_of_getElem? hi
set_option maxRecDepth 100000 in
theorem wi_wsL_law0_r8 : ∀ w ∈ wsL_law0_r8, w ∈ lw_tbl := by
  intro w h
  have hp : wsL_law0_r8 = ([378, 380, 372, 222, 224, 3, 225, 89, 81, 226, 227, 228, 229, 369, 46, 383, 230, 231, 232, 233, 234, 235, 236, 237] : List Nat).filterMap (fun i => lw_tbl[i]?) := by rfl
  rw [hp] at h
  obtain ⟨i, -, hi⟩ := List.mem_filterMap.mp h
  exact List.mem_of_getElem? hi
set_option maxRecDepth 100000 in
theorem wi_wsL_law0_r9 : ∀ w ∈ wsL_law0_r9, w ∈ lw_tbl := by
  intro w h
  have hp : wsL_law0_r9 = ([238, 240, 241, 242, 243, 245, 246, 247, 248, 249, 250, 251, 262, 263, 22, 264, 252, 253, 254, 255, 256, 257, 21, 258] : List Nat).filterMap (fun i => lw_tbl[i]?) := by rfl
  rw [hp] at h
  obtain ⟨i, -, hi⟩ := List.mem_filterMap.mp h
  exact List.mem_of_getElem? hi
set_option maxRecDepth 100000 in
theorem wi_wsL_law0_r10 : ∀ w ∈ wsL_law0_r10, w ∈ lw_tbl := by
  intro w h
  have hp : wsL_law0_r10 = ([259, 260, 261, 265, 266, 267, 268, 269, 270, 271, 272, 373, 381, 273, 275, 4, 276, 382, 368, 277, 279, 5, 280, 79] : List Nat).filterMap (fun i => lw_tbl[i]?) := by rfl
  rw [hp] at h
  obtain ⟨i, -, hi⟩ := List.mem_filterMap.mp h
  exact List.mem_of_getElem? hi
set_option maxRecDepth 100000 in
theorem wi_wsL_law0_r11 : ∀ w ∈ wsL_law0_r11, w ∈ lw_tbl := by
  intro w h
  have hp : wsL_law0_r11 = ([281, 282, 283, 284, 285, 286, 287, 288, 289, 290, 291, 292, 293, 294, 296, 6, 297, 298, 299, 301, 7, 302, 374, 467] : List Nat).filterMap (fun i => lw_tbl[i]?) := by rfl
  rw [hp] at h
  obtain ⟨i, -, hi⟩ := List.mem_filterMap.mp h
  exact List.mem_of_getElem? hi
set_option maxRecDepth 100000 in
theorem wi_wsL_law0_r12 : ∀ w ∈ wsL_law0_r12, w ∈ lw_tbl := by
  intro w h
  have hp : wsL_law0_r12 = ([468, 469, 470, 471, 472, 473, 371, 403, 404, 405, 406, 400, 401, 402, 123, 124, 125, 126, 42, 44, 303, 304, 305, 306] : List Nat).filterMap (fun i => lw_tbl[i]?) := by rfl
  rw [hp] at h
  obtain ⟨i, -, hi⟩ := List.mem_filterMap.mp h
  exact List.mem_of_getElem? hi
set_option maxRecDepth 100000 in
theorem wi_wsL_law0_r13 : ∀ w ∈ wsL_law0_r13, w ∈ lw_tbl := by
  intro w h
  have hp : wsL_law0_r13 = ([45, 78, 80, 308, 309, 310, 311, 475, 476, 477, 478, 479, 480, 481, 483, 484, 23, 485, 486, 487, 488, 489, 490, 491] : List Nat).filterMap (fun i => lw_tbl[i]?) := by rfl
  rw [hp] at h
  obtain ⟨i, -, hi⟩ := List.mem_filterMap.mp h
  exact List.mem_of_getElem? hi
set_option maxRecDepth 100000 in
theorem wi_wsL_law0_r14 : ∀ w ∈ wsL_law0_r14, w ∈ lw_tbl := by
  intro w h
  have hp : wsL_law0_r14 = ([492, 493, 494, 495, 496, 497, 498, 499, 500, 24, 501, 502, 503, 504, 505, 506, 507, 508, 509, 510, 511, 512, 514] : List Nat).filterMap (fun i => lw_tbl[i]?) := by rfl
  rw [hp] at h
  obtain ⟨i, -, hi⟩ := List.mem_filterMap.mp h
  exact List.mem_of_getElem? hi
set_option maxRecDepth 100000 in
theorem inX0 : ∀ w ∈ wsX00, w ∈ lw_tbl := by
  intro w h
  have hp : wsX00 = ([90, 92, 94, 96, 98, 100, 102, 104] : List Nat).filterMap (fun i => lw_tbl[i]?) := by rfl
  rw [hp] at h
  obtain ⟨i, -, hi⟩ := List.mem_filterMap.mp h
  exact List.mem_of_getElem? hi
set_option maxRecDepth 100000 in
theorem inX2 : ∀ w ∈ wsX20, w ∈ lw_tbl := by
  intro w h
  have hp : wsX20 = ([70, 72, 74] : List Nat).filterMap (fun i => lw_tbl[i]?) := by rfl
  rw [hp] at h
  obtain ⟨i, -, hi⟩ := List.mem_filterMap.mp h
  exact List.mem_of_getElem? hi
set_option maxRecDepth 100000 in
theorem inX3 : ∀ w ∈ wsX30, w ∈ lw_tbl := by
  intro w h
  have hp : wsX30 = ([385, 387, 389, 391, 393, 395, 397] : List Nat).filterMap (fun i => lw_tbl[i]?) := by rfl
  rw [hp] at h
  obtain ⟨i, -, hi⟩ := List.mem_filterMap.mp h
  exact List.mem_of_getElem? hi
set_option maxRecDepth 100000 in
theorem inX4 : ∀ w ∈ wsX40, w ∈ lw_tbl := by
  intro w h
  have hp : wsX40 = ([47, 49, 51] : List Nat).filterMap (fun i => lw_tbl[i]?) := by rfl
  rw [hp] at h
  obtain ⟨i, -, hi⟩ := List.mem_filterMap.mp h
  exact List.mem_of_getElem? hi
set_option maxRecDepth 100000 in
theorem inX5 : ∀ w ∈ wsX50, w ∈ lw_tbl := by
  intro w h
  have hp : wsX50 = ([112, 114, 116, 118, 120] : List Nat).filterMap (fun i => lw_tbl[i]?) := by rfl
  rw [hp] at h
  obtain ⟨i, -, hi⟩ := List.mem_filterMap.mp h
  exact List.mem_of_getElem? hi
theorem wsL_law_in0 : ∀ w ∈ wsL_law0, w ∈ lw_tbl := by
  unfold wsL_law0
  exact List.forall_mem_append.mpr ⟨List.forall_mem_append.mpr ⟨List.forall_mem_append.mpr ⟨List.forall_mem_append.mpr ⟨List.forall_mem_append.mpr ⟨List.forall_mem_append.mpr ⟨List.forall_mem_append.mpr ⟨wi_wsL_law0_r1, List.forall_mem_append.mpr ⟨wi_wsL_law0_r2, List.forall_mem_append.mpr ⟨wi_wsL_law0_r3, List.forall_mem_append.mpr ⟨wi_wsL_law0_r4, List.forall_mem_append.mpr ⟨wi_wsL_law0_r5, List.forall_mem_append.mpr ⟨wi_wsL_law0_r6, List.forall_mem_append.mpr ⟨wi_wsL_law0_r7, List.forall_mem_append.mpr ⟨wi_wsL_law0_r8, List.forall_mem_append.mpr ⟨wi_wsL_law0_r9, List.forall_mem_append.mpr ⟨wi_wsL_law0_r10, List.forall_mem_append.mpr ⟨wi_wsL_law0_r11, List.forall_mem_append.mpr ⟨wi_wsL_law0_r12, List.forall_mem_append.mpr ⟨wi_wsL_law0_r13, wi_wsL_law0_r14⟩⟩⟩⟩⟩⟩⟩⟩⟩⟩⟩⟩⟩, inX5⟩, inX4⟩, inX0⟩, inX2⟩, inX3⟩, (fun _ h => nomatch h)⟩
theorem wsL_law_x0 : ∀ w ∈ (vx_atS RX5 41 "java/lang/IllegalArgumentException" ["java/lang/RuntimeException", "java/lang/Exception"]).filter goodWord, w ∈ lw_tbl := by decide +kernel
theorem wsL_law_x1 : ∀ w ∈ (vx_atS RX5 108 "java/lang/IndexOutOfBoundsException" ["java/lang/RuntimeException", "java/lang/Exception"]).filter goodWord, w ∈ lw_tbl := by decide +kernel
theorem wsL_law_x2 : ∀ w ∈ (vx_atS RX5 88 "java/lang/IllegalStateException" ["java/lang/RuntimeException", "java/lang/Exception"]).filter goodWord, w ∈ lw_tbl := by decide +kernel
theorem wsL_law_in : ∀ w ∈ wsL_law, w ∈ lw_tbl := fun w h => (List.mem_append.mp h).elim (fun h => (List.mem_append.mp h).elim (fun h => (List.mem_append.mp h).elim (fun h => wsL_law_in0 w h) (fun h => wsL_law_x0 w h)) (fun h => wsL_law_x1 w h)) (fun h => wsL_law_x2 w h)
theorem inlX0 : ∀ w ∈ wsX00, w ∈ wsL_law := fun _ h => List.mem_append_left _ (List.mem_append_left _ (List.mem_append_left _ (List.mem_append_left _ (List.mem_append_left _ (List.mem_append_left _ (List.mem_append_right _ h))))))
theorem inlX2 : ∀ w ∈ wsX20, w ∈ wsL_law := fun _ h => List.mem_append_left _ (List.mem_append_left _ (List.mem_append_left _ (List.mem_append_left _ (List.mem_append_left _ (List.mem_append_right _ h)))))
theorem inlX3 : ∀ w ∈ wsX30, w ∈ wsL_law := fun _ h => List.mem_append_left _ (List.mem_append_left _ (List.mem_append_left _ (List.mem_append_left _ (List.mem_append_right _ h))))
theorem inlX4 : ∀ w ∈ wsX40, w ∈ wsL_law := fun _ h => List.mem_append_left _ (List.mem_append_left _ (List.mem_append_left _ (List.mem_append_left _ (List.mem_append_left _ (List.mem_append_left _ (List.mem_append_left _ (List.mem_append_right _ h)))))))
theorem inlX5 : ∀ w ∈ wsX50, w ∈ wsL_law := fun _ h => List.mem_append_left _ (List.mem_append_left _ (List.mem_append_left _ (List.mem_append_left _ (List.mem_append_left _ (List.mem_append_left _ (List.mem_append_left _ (List.mem_append_left _ (List.mem_append_right _ h))))))))
theorem inX1 : ∀ w ∈ wsX10, w ∈ lw_tbl := by decide +kernel
theorem inJ6 : ∀ w ∈ wsJ60, w ∈ lw_tbl := by decide +kernel
theorem inJ13 : ∀ w ∈ wsJ130, w ∈ lw_tbl := by decide +kernel
theorem inJ9 : ∀ w ∈ wsJ90, w ∈ lw_tbl := by decide +kernel
theorem inJ0 : ∀ w ∈ wsJ00, w ∈ lw_tbl := by decide +kernel
