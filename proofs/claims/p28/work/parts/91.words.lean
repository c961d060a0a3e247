/-! ===== the words of the walk are the tables' words, each by its place ===== -/
theorem tb_in {big ws : List Cond} (ps : List Nat) (h : ws = ps.filterMap (fun i => big[i]?)) : ∀ w ∈ ws, w ∈ big := fun w hw => by
  rw [h] at hw
  obtain ⟨i, -, hi⟩ := List.mem_filterMap.mp hw
  exact List.mem_of_getElem? hi
set_option maxRecDepth 20000 in
theorem tb_0 : ∀ w ∈ pr_A0, w ∈ lw_tbl := tb_in [78, 79, 23, 24, 302, 80, 83, 86, 89, 92, 95, 98, 101, 103, 501, 498, 500, 7, 134, 135, 73, 136, 310, 137, 447, 539, 540, 541, 16, 542, 546, 547, 461, 462, 535, 548, 393, 394, 536, 537] (by decide +kernel)
set_option maxRecDepth 20000 in
theorem tb_1 : ∀ w ∈ pr_A1, w ∈ lw_tbl := tb_in [538, 13, 543, 545, 5, 552, 557, 260, 261, 262, 42, 43, 44, 45, 128, 129, 130, 131, 143, 133, 37, 188, 38, 39, 10, 189, 74, 75, 11, 192, 124, 125, 12, 195, 41, 77, 127, 36, 30, 31] (by decide +kernel)
set_option maxRecDepth 20000 in
theorem tb_2 : ∀ w ∈ pr_A2, w ∈ lw_tbl := tb_in [207, 208, 209, 33, 9, 35, 29, 298, 46, 48, 50, 51, 52, 53, 314, 153, 157, 306, 145, 148, 150, 155, 156, 161, 164, 307, 308, 309, 311, 312, 313, 295, 296, 297, 299, 300, 301, 303, 304, 305] (by decide +kernel)
set_option maxRecDepth 20000 in
theorem tb_3 : ∀ w ∈ pr_A3, w ∈ lw_tbl := tb_in [292, 211, 213, 215, 217, 218, 219, 220, 289, 290, 291, 288, 346, 530, 531, 344, 345, 8, 351, 390, 391, 349, 350, 382, 386, 392, 387, 388, 389, 366, 412, 413, 364, 365, 414, 409, 410, 411, 408, 426] (by decide +kernel)
set_option maxRecDepth 20000 in
theorem tb_4 : ∀ w ∈ pr_A4, w ∈ lw_tbl := tb_in [422, 423, 425, 1, 419, 420, 421, 418, 435, 439, 443, 444, 445, 446, 455, 459, 460, 452, 454, 3, 456, 457, 458, 451, 474, 470, 471, 473, 478, 482, 486, 490, 467, 468, 469, 475, 476, 477, 479, 480] (by decide +kernel)
set_option maxRecDepth 20000 in
theorem tb_5 : ∀ w ∈ pr_A5, w ∈ lw_tbl := tb_in [481, 483, 484, 485, 487, 488, 489, 466, 431, 432, 433, 434, 436, 437, 438, 440, 441, 442, 448, 449, 450, 463, 465, 4, 430, 494, 495, 496, 497, 405, 407, 0, 415, 416, 417, 427, 429, 2, 491, 492] (by decide +kernel)
set_option maxRecDepth 20000 in
theorem tb_6 : ∀ w ∈ pr_A6, w ∈ lw_tbl := tb_in [493, 404, 521, 622, 512, 247, 248, 26, 250, 249, 28, 246, 612, 22, 25, 315, 316, 242, 243, 14, 317, 318, 256, 257, 15, 319, 27, 245, 259, 285, 286, 287, 21, 337, 338, 335, 336, 334, 601, 602] (by decide +kernel)
set_option maxRecDepth 20000 in
theorem tb_7 : ∀ w ∈ pr_A7, w ∈ lw_tbl := tb_in [604, 608, 347, 400, 343, 599, 600, 606, 607, 348, 609, 610, 611, 598, 342, 617, 518, 519, 520, 619, 620, 621, 616, 355, 362, 360, 361, 363, 359, 370, 374, 379, 380, 381, 383, 384, 385, 378, 399, 401] (by decide +kernel)
set_option maxRecDepth 20000 in
theorem tb_8 : ∀ w ∈ pr_A8, w ∈ lw_tbl := tb_in [402, 403, 398, 513, 507, 508, 509, 510, 511, 506, 522, 517, 527, 528, 529, 532, 533, 534, 549, 550, 551, 553, 554, 555, 556, 526, 561, 565, 462, 394, 542, 568, 569, 588, 572, 514, 515, 516, 575, 581] (by decide +kernel)
set_option maxRecDepth 100000 in
theorem tb_9x : Cond.code yL_isSeen cL_isSeen 21 (some .boolean) ∈ lw_tbl := List.mem_of_getElem? (i := 584) rfl
set_option maxRecDepth 20000 in
theorem tb_9y : ∀ w ∈ pr_A9.take 15, w ∈ lw_tbl := tb_in [579, 580, 6, 339, 340, 341, 503, 504, 505, 578, 585, 570, 571, 586, 587] (by decide +kernel)
set_option maxRecDepth 20000 in
theorem tb_9z : ∀ w ∈ pr_A9.drop 16, w ∈ lw_tbl := tb_in [591, 566, 567, 595, 596, 597, 613, 614, 615, 594, 625, 17, 18, 626, 19, 20, 331, 332, 333, 592, 593, 352, 353, 354] (by decide +kernel)
theorem tb_9 : ∀ w ∈ pr_A9, w ∈ lw_tbl := fun w hw => by
  rw [← List.take_append_drop 15 pr_A9] at hw
  rcases List.mem_append.mp hw with h | h
  · exact tb_9y w h
  · rw [show pr_A9.drop 15 = Cond.code yL_isSeen cL_isSeen 21 (some .boolean) :: pr_A9.drop 16 from rfl] at h
    rcases List.mem_cons.mp h with h | h
    · rw [h]; exact tb_9x
    · exact tb_9z w h
set_option maxRecDepth 20000 in
theorem tb_10 : ∀ w ∈ pr_A10, w ∈ lw_tbl := tb_in [356, 357, 358, 367, 368, 369, 371, 372, 373, 375, 376, 377, 573, 574, 562, 563, 564, 623, 624, 395, 396, 397, 576, 577, 582, 583, 589, 590, 523, 524, 525, 558, 559, 560] (by decide +kernel)
set_option maxRecDepth 20000 in
theorem tb_11 : ∀ w ∈ wsX00, w ∈ lw_tbl := tb_in [105, 107, 109, 111, 113, 115, 117, 119, 121] (by decide +kernel)
set_option maxRecDepth 20000 in
theorem tb_12 : ∀ w ∈ wsX10, w ∈ lw_tbl := tb_in [138, 140] (by decide +kernel)
set_option maxRecDepth 20000 in
theorem tb_13 : ∀ w ∈ wsX20, w ∈ lw_tbl := tb_in [264, 266, 268, 270, 272, 274, 276, 278, 280, 282] (by decide +kernel)
set_option maxRecDepth 20000 in
theorem tb_14 : ∀ w ∈ wsX30, w ∈ lw_tbl := tb_in [221, 223, 225, 227, 229, 231, 233, 235, 237, 239] (by decide +kernel)
set_option maxRecDepth 20000 in
theorem tb_15 : ∀ w ∈ wsX40, w ∈ lw_tbl := tb_in [56, 58, 60, 62, 64, 66, 68, 70] (by decide +kernel)
set_option maxRecDepth 20000 in
theorem tb_16 : ∀ w ∈ wsX50, w ∈ lw_tbl := tb_in [167, 169, 171, 173, 175, 177, 179, 181, 183, 185] (by decide +kernel)
set_option maxRecDepth 20000 in
theorem tb_17 : ∀ w ∈ wsX60, w ∈ lw_tbl := tb_in [251, 253] (by decide +kernel)
set_option maxRecDepth 20000 in
theorem tb_18 : ∀ w ∈ wsX70, w ∈ lw_tbl := tb_in [198, 200, 202, 204] (by decide +kernel)
set_option maxRecDepth 20000 in
theorem tb_19 : ∀ w ∈ wsX80, w ∈ lw_tbl := tb_in [320, 322, 324, 326, 328] (by decide +kernel)
theorem tb_all : ∀ w ∈ pr_AL, w ∈ lw_tbl := by
  intro w h
  unfold pr_AL at h
  rcases List.mem_append.mp h with h | h
  · exact tb_0 w h
  rcases List.mem_append.mp h with h | h
  · exact tb_1 w h
  rcases List.mem_append.mp h with h | h
  · exact tb_2 w h
  rcases List.mem_append.mp h with h | h
  · exact tb_3 w h
  rcases List.mem_append.mp h with h | h
  · exact tb_4 w h
  rcases List.mem_append.mp h with h | h
  · exact tb_5 w h
  rcases List.mem_append.mp h with h | h
  · exact tb_6 w h
  rcases List.mem_append.mp h with h | h
  · exact tb_7 w h
  rcases List.mem_append.mp h with h | h
  · exact tb_8 w h
  rcases List.mem_append.mp h with h | h
  · exact tb_9 w h
  rcases List.mem_append.mp h with h | h
  · exact tb_10 w h
  rcases List.mem_append.mp h with h | h
  · exact tb_11 w h
  rcases List.mem_append.mp h with h | h
  · exact tb_12 w h
  rcases List.mem_append.mp h with h | h
  · exact tb_13 w h
  rcases List.mem_append.mp h with h | h
  · exact tb_14 w h
  rcases List.mem_append.mp h with h | h
  · exact tb_15 w h
  rcases List.mem_append.mp h with h | h
  · exact tb_16 w h
  rcases List.mem_append.mp h with h | h
  · exact tb_17 w h
  rcases List.mem_append.mp h with h | h
  · exact tb_18 w h
  exact tb_19 w h
