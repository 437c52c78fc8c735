theorem k_mem {big ws : List Cond} (ps : List Nat) (h : ps.map (fun i => big[i]?) = ws.map some) : ∀ w ∈ ws, w ∈ big := by
  intro w hw
  have h1 : some w ∈ ws.map some := List.mem_map.mpr ⟨w, hw, rfl⟩
  rw [← h] at h1
  obtain ⟨i, -, hi⟩ := List.mem_map.mp h1
  exact List.mem_of_getElem? hi
theorem k_app {T a b : List Cond} (ha : ∀ w ∈ a, w ∈ T) (hb : ∀ w ∈ b, w ∈ T) : ∀ w ∈ a ++ b, w ∈ T := fun w h => (List.mem_append.mp h).elim (ha w) (hb w)
set_option maxRecDepth 20000 in
theorem k_inr1 : ∀ w ∈ wsL_law_r1, w ∈ lw_tbl := k_mem [28, 29, 19, 500, 501, 26, 30, 31, 32, 33, 34, 35, 36, 37, 20, 179, 82, 83, 21, 84, 85, 22, 180, 181] rfl
set_option maxRecDepth 20000 in
theorem k_inr2 : ∀ w ∈ wsL_law_r2, w ∈ lw_tbl := k_mem [148, 149, 25, 182, 183, 38, 39, 40, 41, 81, 47, 49, 51, 56, 58, 42, 60, 61, 86, 87, 88, 89, 90, 91] rfl
set_option maxRecDepth 20000 in
theorem k_inr3 : ∀ w ∈ wsL_law_r3, w ∈ lw_tbl := k_mem [23, 92, 93, 94, 105, 106, 107, 108, 116, 117, 121, 123, 126, 128, 130, 109, 110, 111, 112, 119, 96, 113, 114, 24] rfl
set_option maxRecDepth 20000 in
theorem k_inr4 : ∀ w ∈ wsL_law_r4, w ∈ lw_tbl := k_mem [115, 150, 151, 152, 153, 155, 156, 158, 177, 159, 161, 178, 163, 154, 502, 503, 504, 505, 508, 509, 510, 512, 513, 514] rfl
set_option maxRecDepth 20000 in
theorem k_inr5 : ∀ w ∈ wsL_law_r5, w ∈ lw_tbl := k_mem [515, 516, 517, 518, 519, 520, 523, 525, 526, 527, 528, 529, 530, 531, 532, 533, 195, 196, 197, 198, 199, 200, 201, 202] rfl
set_option maxRecDepth 20000 in
theorem k_inr6 : ∀ w ∈ wsL_law_r6, w ∈ lw_tbl := k_mem [203, 204, 205, 206, 207, 208, 209, 210, 211, 212, 44, 591, 592, 593, 594, 506, 595, 599, 600, 507, 596, 597, 598, 213] rfl
set_option maxRecDepth 20000 in
theorem k_inr7 : ∀ w ∈ wsL_law_r7, w ∈ lw_tbl := k_mem [214, 215, 216, 217, 218, 219, 220, 53, 601, 602, 603, 604, 605, 511, 221, 222, 223, 224, 225, 226, 227, 228, 229, 230] rfl
set_option maxRecDepth 20000 in
theorem k_inr8 : ∀ w ∈ wsL_law_r8, w ∈ lw_tbl := k_mem [231, 232, 233, 234, 235, 236, 237, 238, 239, 240, 241, 242, 243, 244, 606, 607, 608, 609, 610, 612, 8, 613, 614, 616] rfl
set_option maxRecDepth 20000 in
theorem k_inr9 : ∀ w ∈ wsL_law_r9, w ∈ lw_tbl := k_mem [9, 617, 245, 246, 247, 248, 249, 250, 251, 252, 253, 254, 255, 256, 618, 619, 620, 621, 622, 624, 10, 625, 257, 258] rfl
set_option maxRecDepth 20000 in
theorem k_inr10 : ∀ w ∈ wsL_law_r10, w ∈ lw_tbl := k_mem [259, 260, 261, 262, 263, 264, 265, 626, 627, 628, 629, 266, 267, 268, 269, 48, 50, 52, 122, 124, 127, 270, 271, 272] rfl
set_option maxRecDepth 20000 in
theorem k_inr11 : ∀ w ∈ wsL_law_r11, w ∈ lw_tbl := k_mem [273, 274, 275, 276, 277, 278, 279, 630, 631, 632, 633, 280, 281, 282, 283, 57, 59, 129, 284, 285, 286, 287, 288, 289] rfl
set_option maxRecDepth 20000 in
theorem k_inr12 : ∀ w ∈ wsL_law_r12, w ∈ lw_tbl := k_mem [27, 290, 291, 292, 293, 634, 635, 636, 637, 294, 295, 296, 297, 638, 639, 640, 641, 298, 299, 300, 301, 302, 303, 304] rfl
set_option maxRecDepth 20000 in
theorem k_inr13 : ∀ w ∈ wsL_law_r13, w ∈ lw_tbl := k_mem [305, 306, 307, 642, 643, 644, 645, 646, 648, 11, 649, 308, 309, 310, 311, 312, 313, 314, 315, 45, 316, 317, 319, 0] rfl
set_option maxRecDepth 20000 in
theorem k_inr14 : ∀ w ∈ wsL_law_r14, w ∈ lw_tbl := k_mem [320, 321, 322, 323, 324, 650, 651, 652, 653, 654, 656, 12, 657, 325, 326, 327, 328, 120, 329, 330, 331, 332, 333, 334] rfl
set_option maxRecDepth 20000 in
theorem k_inr15 : ∀ w ∈ wsL_law_r15, w ∈ lw_tbl := k_mem [335, 336, 338, 1, 339, 54, 340, 342, 2, 343, 344, 345, 347, 3, 348, 349, 350, 351, 352, 353, 95, 354, 356, 4] rfl
set_option maxRecDepth 20000 in
theorem k_inr16 : ∀ w ∈ wsL_law_r16, w ∈ lw_tbl := k_mem [357, 358, 359, 360, 361, 658, 659, 660, 661, 662, 521, 663, 665, 13, 666, 522, 362, 363, 364, 365, 118, 97, 667, 668] rfl
set_option maxRecDepth 20000 in
theorem k_inr17 : ∀ w ∈ wsL_law_r17, w ∈ lw_tbl := k_mem [669, 670, 366, 367, 368, 369, 370, 371, 372, 373, 374, 375, 376, 377, 671, 672, 673, 674, 675, 378, 379, 380, 381, 382] rfl
set_option maxRecDepth 20000 in
theorem k_inr18 : ∀ w ∈ wsL_law_r18, w ∈ lw_tbl := k_mem [383, 384, 385, 386, 388, 5, 389, 390, 392, 6, 393, 676, 677, 678, 679, 680, 682, 14, 683, 394, 395, 396, 397, 398] rfl
set_option maxRecDepth 20000 in
theorem k_inr19 : ∀ w ∈ wsL_law_r19, w ∈ lw_tbl := k_mem [399, 400, 401, 684, 685, 686, 687, 402, 403, 404, 405, 406, 407, 408, 409, 410, 411, 412, 413, 414, 688, 689, 690, 691] rfl
set_option maxRecDepth 20000 in
theorem k_inr20 : ∀ w ∈ wsL_law_r20, w ∈ lw_tbl := k_mem [692, 694, 15, 695, 415, 416, 417, 418, 696, 697, 698, 699, 524, 419, 420, 421, 422, 157, 700, 701, 702, 703, 704, 423] rfl
set_option maxRecDepth 20000 in
theorem k_inr21 : ∀ w ∈ wsL_law_r21, w ∈ lw_tbl := k_mem [424, 425, 426, 427, 428, 429, 430, 431, 432, 433, 434, 435, 436, 437, 438, 439, 440, 441, 442, 443, 444, 445, 446, 447] rfl
set_option maxRecDepth 20000 in
theorem k_inr22 : ∀ w ∈ wsL_law_r22, w ∈ lw_tbl := k_mem [448, 449, 705, 706, 707, 708, 709, 711, 16, 712, 450, 451, 452, 453, 160, 454, 455, 456, 457, 713, 714, 715, 716, 458] rfl
set_option maxRecDepth 20000 in
theorem k_inr23 : ∀ w ∈ wsL_law_r23, w ∈ lw_tbl := k_mem [459, 460, 461, 162, 462, 463, 464, 465, 717, 718, 719, 720, 466, 467, 468, 469, 470, 472, 7, 473, 721, 722, 723, 724] rfl
set_option maxRecDepth 20000 in
theorem k_inr24 : ∀ w ∈ wsL_law_r24, w ∈ lw_tbl := k_mem [474, 475, 476, 477, 478, 479, 480, 481, 482, 483, 484, 485, 125, 486, 725, 726, 727, 728, 729, 731, 17, 732, 487, 488] rfl
set_option maxRecDepth 20000 in
theorem k_inr25 : ∀ w ∈ wsL_law_r25, w ∈ lw_tbl := k_mem [489, 490, 733, 734, 735, 736, 491, 492, 493, 494, 46, 495, 737, 738, 739, 740, 496, 497, 498, 499, 55, 741, 742, 743] rfl
set_option maxRecDepth 20000 in
theorem k_inr26 : ∀ w ∈ wsL_law_r26, w ∈ lw_tbl := k_mem [744] rfl
set_option maxRecDepth 20000 in
theorem k_inX4 : ∀ w ∈ wsX40, w ∈ lw_tbl := k_mem [184, 186, 188, 190, 192] rfl
set_option maxRecDepth 20000 in
theorem k_inX5 : ∀ w ∈ wsX50, w ∈ lw_tbl := k_mem [534, 536, 538, 540, 542, 544, 546, 548, 550, 552, 554, 556, 558, 560, 562, 564, 566, 568, 570, 572, 574, 576, 578, 580, 582, 584, 586, 588] rfl
set_option maxRecDepth 20000 in
theorem k_inX2 : ∀ w ∈ wsX20, w ∈ lw_tbl := k_mem [62, 64, 66, 68, 70, 72, 74, 76, 78] rfl
set_option maxRecDepth 20000 in
theorem k_inX0 : ∀ w ∈ wsX00, w ∈ lw_tbl := k_mem [131, 133, 135, 137, 139, 141, 143, 145] rfl
set_option maxRecDepth 20000 in
theorem k_inX1 : ∀ w ∈ wsX10, w ∈ lw_tbl := k_mem [98, 100, 102] rfl
set_option maxRecDepth 20000 in
theorem k_inX3 : ∀ w ∈ wsX30, w ∈ lw_tbl := k_mem [164, 166, 168, 170, 172, 174] rfl
theorem wsL_law_in : ∀ w ∈ wsL_law, w ∈ lw_tbl := k_app (k_app (k_app (k_app (k_app (k_app (k_app (k_app k_inr1 (k_app k_inr2 (k_app k_inr3 (k_app k_inr4 (k_app k_inr5 (k_app k_inr6 (k_app k_inr7 (k_app k_inr8 (k_app k_inr9 (k_app k_inr10 (k_app k_inr11 (k_app k_inr12 (k_app k_inr13 (k_app k_inr14 (k_app k_inr15 (k_app k_inr16 (k_app k_inr17 (k_app k_inr18 (k_app k_inr19 (k_app k_inr20 (k_app k_inr21 (k_app k_inr22 (k_app k_inr23 (k_app k_inr24 (k_app k_inr25 (k_inr26)))))))))))))))))))))))))) k_inX4) k_inX5) k_inX2) k_inX0) k_inX1) k_inX3) (fun _ h => absurd h List.not_mem_nil)
