theorem in_of {big : List Cond} (ws : List Cond) (ps : List Nat) (hp : ws = ps.filterMap (fun i => big[i]?)) : ∀ w ∈ ws, w ∈ big := fun w hw => by
  rw [hp] at hw
  obtain ⟨i, -, hi⟩ := List.mem_filterMap.mp hw
  first | exact List.mem_of_getElem? hi | exact List.getElem?_mem hi
theorem in_app {big a b : List Cond} (ha : ∀ w ∈ a, w ∈ big) (hb : ∀ w ∈ b, w ∈ big) : ∀ w ∈ a ++ b, w ∈ big := fun w h => (List.mem_append.mp h).elim (ha w) (hb w)
set_option maxRecDepth 20000 in
theorem wsL_law_r1_in : ∀ w ∈ wsL_law_r1, w ∈ lw_tbl := in_of _ [20, 21, 11, 99, 408, 22, 23, 24, 25, 26, 27, 28, 29, 12, 198, 199, 200, 101, 102, 13, 201, 118, 119, 14] (by rfl)
set_option maxRecDepth 20000 in
theorem wsL_law_r2_in : ∀ w ∈ wsL_law_r2, w ∈ lw_tbl := in_of _ [202, 132, 133, 15, 203, 160, 161, 16, 204, 175, 176, 17, 205, 206, 31, 32, 33, 36, 50, 53, 57, 100, 60, 63] (by rfl)
set_option maxRecDepth 20000 in
theorem wsL_law_r3_in : ∀ w ∈ wsL_law_r3, w ∈ lw_tbl := in_of _ [66, 69, 103, 104, 105, 106, 107, 110, 121, 122, 123, 131, 124, 134, 135, 136, 137, 139, 140, 141, 142, 138, 163, 164] (by rfl)
set_option maxRecDepth 20000 in
theorem wsL_law_r4_in : ∀ w ∈ wsL_law_r4, w ∈ lw_tbl := in_of _ [165, 166, 168, 169, 177, 178, 179, 180, 182, 197, 184, 186, 181, 252, 253, 10, 254, 255, 256, 257, 258, 259, 226, 227] (by rfl)
set_option maxRecDepth 20000 in
theorem wsL_law_r5_in : ∀ w ∈ wsL_law_r5, w ∈ lw_tbl := in_of _ [228, 229, 35, 230, 231, 232, 233, 234, 235, 236, 111, 237, 239, 0, 240, 241, 242, 243, 244, 34, 38, 40, 43, 47] (by rfl)
set_option maxRecDepth 20000 in
theorem wsL_law_r6_in : ∀ w ∈ wsL_law_r6, w ∈ lw_tbl := in_of _ [245, 247, 246, 18, 248, 249, 250, 251, 528, 529, 530, 541, 542, 441, 531, 532, 533, 534, 71, 56, 416, 417, 418, 419] (by rfl)
set_option maxRecDepth 20000 in
theorem wsL_law_r7_in : ∀ w ∈ wsL_law_r7, w ∈ lw_tbl := in_of _ [420, 291, 292, 293, 334, 335, 336, 337, 338, 340, 3, 341, 329, 330, 331, 332, 333, 535, 536, 537, 538, 68, 539, 540] (by rfl)
set_option maxRecDepth 20000 in
theorem wsL_law_r8_in : ∀ w ∈ wsL_law_r8, w ∈ lw_tbl := in_of _ [429, 430, 431, 432, 433, 543, 544, 545, 546, 438, 439, 440, 482, 483, 484, 485, 547, 548, 549, 550, 551, 552, 19, 553] (by rfl)
set_option maxRecDepth 20000 in
theorem wsL_law_r9_in : ∀ w ∈ wsL_law_r9, w ∈ lw_tbl := in_of _ [510, 511, 495, 496, 497, 498, 499, 500, 501, 502, 503, 504, 505, 506, 517, 554, 555, 556, 557, 46, 54, 67, 70, 44] (by rfl)
set_option maxRecDepth 20000 in
theorem wsL_law_r10_in : ∀ w ∈ wsL_law_r10, w ∈ lw_tbl := in_of _ [558, 559, 560, 561, 527, 562, 563, 564, 565, 39, 41, 566, 567, 568, 569, 378, 379, 380, 381, 49, 45, 112, 125, 282] (by rfl)
set_option maxRecDepth 20000 in
theorem wsL_law_r11_in : ∀ w ∈ wsL_law_r11, w ∈ lw_tbl := in_of _ [283, 284, 285, 286, 288, 1, 289, 48, 55, 290, 294, 295, 296, 297, 298, 300, 2, 301, 302, 303, 304, 305, 58, 310] (by rfl)
set_option maxRecDepth 20000 in
theorem wsL_law_r12_in : ∀ w ∈ wsL_law_r12, w ∈ lw_tbl := in_of _ [311, 306, 307, 308, 309, 64, 61, 382, 383, 384, 385, 386, 387, 388, 389, 390, 391, 392, 393, 394, 395, 396, 397, 398] (by rfl)
set_option maxRecDepth 20000 in
theorem wsL_law_r13_in : ∀ w ∈ wsL_law_r13, w ∈ lw_tbl := in_of _ [399, 400, 401, 402, 403, 346, 347, 348, 349, 350, 352, 4, 353, 51, 354, 356, 5, 357, 42, 404, 405, 406, 407, 362] (by rfl)
set_option maxRecDepth 20000 in
theorem wsL_law_r14_in : ∀ w ∈ wsL_law_r14, w ∈ lw_tbl := in_of _ [364, 6, 365, 366, 368, 7, 369, 570, 571, 572, 573, 37, 459, 460, 461, 462, 479, 480, 481, 526, 486, 487, 488, 489] (by rfl)
set_option maxRecDepth 20000 in
theorem wsL_law_r15_in : ∀ w ∈ wsL_law_r15, w ∈ lw_tbl := in_of _ [275, 276, 277, 490, 491, 492, 493, 494, 507, 508, 509, 512, 513, 514, 515, 516, 518, 519, 520, 521, 522, 523, 524, 525] (by rfl)
set_option maxRecDepth 20000 in
theorem wsL_law_r16_in : ∀ w ∈ wsL_law_r16, w ∈ lw_tbl := in_of _ [260, 261, 262, 263, 264, 265, 269, 270, 266, 267, 268, 271, 272, 273, 274, 185, 187, 278, 279, 280, 281, 312, 313, 314] (by rfl)
set_option maxRecDepth 20000 in
theorem wsL_law_r17_in : ∀ w ∈ wsL_law_r17, w ∈ lw_tbl := in_of _ [315, 316, 317, 318, 319, 320, 321, 322, 323, 324, 183, 325, 326, 327, 328, 342, 343, 344, 345, 358, 359, 360, 361, 370] (by rfl)
set_option maxRecDepth 20000 in
theorem wsL_law_r18_in : ∀ w ∈ wsL_law_r18, w ∈ lw_tbl := in_of _ [371, 372, 373, 374, 375, 376, 377, 409, 410, 411, 412, 413, 414, 415, 52, 59, 421, 422, 423, 424, 425, 426, 427, 428] (by rfl)
set_option maxRecDepth 20000 in
theorem wsL_law_r19_in : ∀ w ∈ wsL_law_r19, w ∈ lw_tbl := in_of _ [434, 436, 8, 437, 442, 443, 444, 445, 65, 62, 446, 447, 448, 449, 450, 451, 452, 453, 454, 455, 456, 457, 458, 463] (by rfl)
set_option maxRecDepth 20000 in
theorem wsL_law_r20_in : ∀ w ∈ wsL_law_r20, w ∈ lw_tbl := in_of _ [464, 465, 466, 467, 468, 469, 470, 471, 473, 9, 474, 475, 476, 477, 478] (by rfl)
set_option maxRecDepth 20000 in
theorem wsX70_in : ∀ w ∈ wsX70, w ∈ lw_tbl := in_of _ [207, 209, 211, 213, 215, 217, 219, 221, 223] (by rfl)
set_option maxRecDepth 20000 in
theorem wsX10_in : ∀ w ∈ wsX10, w ∈ lw_tbl := in_of _ [72, 74, 76, 78, 80, 82, 84, 86, 88, 90, 92, 94, 96] (by rfl)
set_option maxRecDepth 20000 in
theorem wsX20_in : ∀ w ∈ wsX20, w ∈ lw_tbl := in_of _ [113, 115] (by rfl)
set_option maxRecDepth 20000 in
theorem wsX50_in : ∀ w ∈ wsX50, w ∈ lw_tbl := in_of _ [126, 128] (by rfl)
set_option maxRecDepth 20000 in
theorem wsX30_in : ∀ w ∈ wsX30, w ∈ lw_tbl := in_of _ [143, 145, 147, 149, 151, 153, 155, 157] (by rfl)
set_option maxRecDepth 20000 in
theorem wsX60_in : ∀ w ∈ wsX60, w ∈ lw_tbl := in_of _ [170, 172] (by rfl)
set_option maxRecDepth 20000 in
theorem wsX40_in : ∀ w ∈ wsX40, w ∈ lw_tbl := in_of _ [188, 190, 192, 194] (by rfl)
theorem wsL_law_in : ∀ w ∈ wsL_law, w ∈ lw_tbl := in_app (in_app (in_app (in_app (in_app (in_app (in_app (in_app (in_app wsL_law_r1_in (in_app wsL_law_r2_in (in_app wsL_law_r3_in (in_app wsL_law_r4_in (in_app wsL_law_r5_in (in_app wsL_law_r6_in (in_app wsL_law_r7_in (in_app wsL_law_r8_in (in_app wsL_law_r9_in (in_app wsL_law_r10_in (in_app wsL_law_r11_in (in_app wsL_law_r12_in (in_app wsL_law_r13_in (in_app wsL_law_r14_in (in_app wsL_law_r15_in (in_app wsL_law_r16_in (in_app wsL_law_r17_in (in_app wsL_law_r18_in (in_app wsL_law_r19_in wsL_law_r20_in))))))))))))))))))) wsX70_in) wsX10_in) wsX20_in) wsX50_in) wsX30_in) wsX60_in) wsX40_in) (fun _ h => absurd h List.not_mem_nil)
