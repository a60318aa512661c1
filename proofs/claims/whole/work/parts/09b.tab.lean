set_option maxRecDepth 100000 in
theorem wi_0 : ∀ w ∈ wa_0, w ∈ lw_tbl := fun w h => (goodIn_r wa_0 [57, 58, 59, 60, 61, 62, 63, 64, 65, 66, 67, 68, 69, 70, 71, 72, 73, 74, 75, 76, 77, 78, 79, 80, 81, 82, 83, 84, 85, 86, 87, 88, 89, 90, 91, 92, 93, 94, 95, 96] (by decide +kernel) wg_0 w h).1
set_option maxRecDepth 100000 in
theorem wi_1 : ∀ w ∈ wa_1, w ∈ lw_tbl := fun w h => (goodIn_r wa_1 [97, 98, 99, 100, 101, 102, 103, 104, 105, 106, 107, 108, 109, 110, 112, 114, 116, 118, 120, 122, 124, 126, 128, 129, 130, 131, 132, 133, 134, 135, 136, 137, 138, 139, 140, 141, 143, 145, 147, 149] (by decide +kernel) wg_1 w h).1
set_option maxRecDepth 100000 in
theorem wi_2 : ∀ w ∈ wa_2, w ∈ lw_tbl := fun w h => (goodIn_r wa_2 [151, 152, 153, 154, 155, 156, 157, 158, 159, 160, 161, 162, 163, 164, 165, 166, 167, 168, 169, 170, 171, 172, 173, 175, 177, 179, 181, 183, 185, 187, 189, 191, 193, 195, 197, 198, 199, 200, 201, 202] (by decide +kernel) wg_2 w h).1
set_option maxRecDepth 100000 in
theorem wi_3 : ∀ w ∈ wa_3, w ∈ lw_tbl := fun w h => (goodIn_r wa_3 [204, 206, 208, 209, 210, 211, 212, 213, 214, 216, 217, 218, 219, 220, 221, 222, 223, 224, 225, 226, 227, 228, 230, 231, 233, 234, 235, 237, 239, 240, 241, 242, 243, 244, 245, 247, 248, 249, 251, 252] (by decide +kernel) wg_3 w h).1
set_option maxRecDepth 100000 in
theorem wi_4 : ∀ w ∈ wa_4, w ∈ lw_tbl := fun w h => (goodIn_r wa_4 [253, 254, 255, 256, 258, 259, 260, 261, 269, 270, 271, 272, 273, 274, 275, 276, 277, 278, 279, 280, 281, 282, 283, 284, 285, 286, 288, 290, 291, 293, 294, 295, 296, 297, 299, 300, 301, 303, 304, 305] (by decide +kernel) wg_4 w h).1
set_option maxRecDepth 100000 in
theorem wi_5 : ∀ w ∈ wa_5, w ∈ lw_tbl := fun w h => (goodIn_r wa_5 [306, 307, 308, 309, 310, 311, 312, 313, 314, 316, 317, 318, 319, 324, 327, 329, 330, 331, 332, 333, 334, 336, 337, 338, 339, 340, 341, 343, 344, 345, 346, 347, 348, 349, 350, 351, 352, 353, 354, 356] (by decide +kernel) wg_5 w h).1
set_option maxRecDepth 100000 in
theorem wi_6 : ∀ w ∈ wa_6, w ∈ lw_tbl := fun w h => (goodIn_r wa_6 [357, 358, 359, 360, 361, 362, 363, 365, 367, 368, 369, 371, 372, 373, 374, 375, 376, 377, 378, 379, 380, 381, 382, 383, 384, 386, 387, 388, 389, 390, 392, 393, 394, 395, 396, 397, 399, 400, 401, 402] (by decide +kernel) wg_6 w h).1
set_option maxRecDepth 100000 in
theorem wi_7 : ∀ w ∈ wa_7, w ∈ lw_tbl := fun w h => (goodIn_r wa_7 [403, 404, 405, 406, 407, 408, 410, 412, 413, 414, 416, 417, 418, 419, 420, 421, 422, 423, 424, 425, 426, 427, 429, 430, 431, 433, 434, 435, 437, 438, 439, 441, 442, 443, 445, 446, 447, 449, 450, 451] (by decide +kernel) wg_7 w h).1
set_option maxRecDepth 100000 in
theorem wi_8 : ∀ w ∈ wa_8, w ∈ lw_tbl := fun w h => (goodIn_r wa_8 [452, 453, 454, 455, 456, 457, 459, 460, 461, 462, 463, 464, 465, 466, 468, 469, 470, 471, 472, 473, 474, 475, 476, 477, 479, 480, 481, 482, 483, 484, 485, 486, 487, 489, 490, 491, 492, 494, 495, 496] (by decide +kernel) wg_8 w h).1
set_option maxRecDepth 100000 in
theorem wi_9 : ∀ w ∈ wa_9, w ∈ lw_tbl := fun w h => (goodIn_r wa_9 [497, 498, 499, 500, 501, 502, 503, 505, 506, 507, 508, 509, 510, 511, 512, 513, 514, 515, 517, 518, 519, 521, 522, 523, 525, 526, 527, 528, 530, 531, 532, 534, 535, 536, 537, 538, 539, 540, 541, 542] (by decide +kernel) wg_9 w h).1
set_option maxRecDepth 100000 in
theorem wi_10 : ∀ w ∈ wa_10, w ∈ lw_tbl := fun w h => (goodIn_r wa_10 [543, 544, 545, 547, 548, 549, 550, 551, 552, 553, 554, 555, 556, 557, 558, 560, 561, 562, 563, 565, 566, 567, 569, 570, 571, 573, 574, 575, 577, 578, 579, 581, 582, 583, 584, 585, 587, 588, 589, 591] (by decide +kernel) wg_10 w h).1
set_option maxRecDepth 100000 in
theorem wi_11 : ∀ w ∈ wa_11, w ∈ lw_tbl := fun w h => (goodIn_r wa_11 [592, 593, 594, 595, 596, 598, 599, 600, 601, 602, 603, 604, 606, 607, 608, 609, 610, 611, 612, 614, 615, 616, 617, 618, 619, 620, 622, 623, 624, 625, 626, 627, 629, 630, 631, 632, 633, 634, 635, 636] (by decide +kernel) wg_11 w h).1
set_option maxRecDepth 100000 in
theorem wi_12 : ∀ w ∈ wa_12, w ∈ lw_tbl := fun w h => (goodIn_r wa_12 [637, 638, 639, 640, 641, 642, 643, 644, 645, 646, 647, 648, 649, 650, 651, 652, 653, 654, 655, 656, 657, 658, 659, 660, 661, 662, 663, 664, 665, 666, 667, 668, 669, 670, 671, 672, 673, 674, 675, 676] (by decide +kernel) wg_12 w h).1
set_option maxRecDepth 100000 in
theorem wi_13 : ∀ w ∈ wa_13, w ∈ lw_tbl := fun w h => (goodIn_r wa_13 [677, 679, 681, 683, 685, 687, 689, 691, 693, 695, 697, 699, 701, 703, 705, 707, 709, 711, 713, 715, 717, 719, 721, 723, 725, 727, 729, 731, 733, 735, 737, 739, 741, 743, 745, 747, 749, 750, 751, 752] (by decide +kernel) wg_13 w h).1
set_option maxRecDepth 100000 in
theorem wi_14 : ∀ w ∈ wa_14, w ∈ lw_tbl := fun w h => (goodIn_r wa_14 [753, 754, 755, 756, 757, 758, 759, 760, 761, 762, 763, 764, 765, 766, 767, 768, 769, 770, 771, 772, 773, 774, 776, 777, 778, 779, 780, 781, 782, 783, 784, 785, 786, 788, 789, 790, 792, 793, 794, 796] (by decide +kernel) wg_14 w h).1
set_option maxRecDepth 100000 in
theorem wi_15 : ∀ w ∈ wa_15, w ∈ lw_tbl := fun w h => (goodIn_r wa_15 [797, 798, 800, 801, 802, 804, 805, 806, 808, 809, 810, 811, 812, 813, 815, 816, 817, 819, 820, 821, 823, 824, 825, 826, 827, 828, 830, 831, 832, 833, 834, 835, 836, 837, 838, 839, 840, 842, 843, 844] (by decide +kernel) wg_15 w h).1
set_option maxRecDepth 100000 in
theorem wi_16 : ∀ w ∈ wa_16, w ∈ lw_tbl := fun w h => (goodIn_r wa_16 [845, 846, 847, 848, 849, 850, 851, 852, 854, 855, 856, 858, 859, 860, 862, 863, 864, 866, 867, 868, 870, 871, 872, 874, 875, 876, 878, 879, 880, 882, 883, 884, 886, 887, 888, 890, 891, 892, 894, 895] (by decide +kernel) wg_16 w h).1
set_option maxRecDepth 100000 in
theorem wi_17 : ∀ w ∈ wa_17, w ∈ lw_tbl := fun w h => (goodIn_r wa_17 [896, 898, 899, 900, 902, 903, 904, 906, 907, 908, 910, 911, 912, 913, 914, 915, 917, 918, 919, 920, 921, 922, 923, 924, 925, 926, 0, 1, 2, 3, 5, 6, 7, 8, 9, 10, 11, 12, 13, 14] (by decide +kernel) wg_17 w h).1
set_option maxRecDepth 100000 in
theorem wi_18 : ∀ w ∈ wa_18, w ∈ lw_tbl := fun w h => (goodIn_r wa_18 [15, 16, 17, 18, 19, 20, 21, 22, 23, 24, 25, 26, 27, 28, 29, 30, 31, 32, 33, 34, 35, 36, 37, 38, 39, 40, 41, 42, 43, 44, 45, 46, 47, 48, 49, 50, 51, 52, 53, 54] (by decide +kernel) wg_18 w h).1
set_option maxRecDepth 100000 in
theorem wi_19 : ∀ w ∈ wa_19, w ∈ lw_tbl := fun w h => (goodIn_r wa_19 [55, 56] (by decide +kernel) wg_19 w h).1
theorem wi_A : ∀ w ∈ wa_A, w ∈ lw_tbl := by
  intro w h
  unfold wa_A at h
  rcases List.mem_append.mp h with h | h
  · exact wi_0 w h
  rcases List.mem_append.mp h with h | h
  · exact wi_1 w h
  rcases List.mem_append.mp h with h | h
  · exact wi_2 w h
  rcases List.mem_append.mp h with h | h
  · exact wi_3 w h
  rcases List.mem_append.mp h with h | h
  · exact wi_4 w h
  rcases List.mem_append.mp h with h | h
  · exact wi_5 w h
  rcases List.mem_append.mp h with h | h
  · exact wi_6 w h
  rcases List.mem_append.mp h with h | h
  · exact wi_7 w h
  rcases List.mem_append.mp h with h | h
  · exact wi_8 w h
  rcases List.mem_append.mp h with h | h
  · exact wi_9 w h
  rcases List.mem_append.mp h with h | h
  · exact wi_10 w h
  rcases List.mem_append.mp h with h | h
  · exact wi_11 w h
  rcases List.mem_append.mp h with h | h
  · exact wi_12 w h
  rcases List.mem_append.mp h with h | h
  · exact wi_13 w h
  rcases List.mem_append.mp h with h | h
  · exact wi_14 w h
  rcases List.mem_append.mp h with h | h
  · exact wi_15 w h
  rcases List.mem_append.mp h with h | h
  · exact wi_16 w h
  rcases List.mem_append.mp h with h | h
  · exact wi_17 w h
  rcases List.mem_append.mp h with h | h
  · exact wi_18 w h
  exact wi_19 w h
def wl_C : List Cond := [Cond.codeWith yn_L_make cd_L_make 8 (some .int) [(0, 16, 19, 13), (0, 16, 23, 15)], Cond.codeWith yn_L_define cd_L_define 5 (some .int) [(0, 10, 13, 13)], Cond.codeWith yn_L_may cd_L_may 5 (some .int) [(0, 10, 13, 13)], Cond.codeWith yn_L_gives cd_L_gives 4 (some .int) [(0, 9, 12, 13)], Cond.codeWith yn_L_hopeless cd_L_hopeless 4 (some .int) [(0, 9, 12, 13)], Cond.codeWith yn_L_isHopeless cd_L_isHopeless 5 (some .int) [(0, 17, 20, 13)], Cond.codeWith yn_L_run cd_L_run 6 (some .int) [(0, 12, 15, 13), (0, 12, 19, 39), (0, 12, 23, 15)], Cond.codeWith yn_L_part cd_L_part 4 (some .int) [(0, 9, 12, 44)]]
def wl_A : List Cond := wl_C ++ wa_A
theorem wm_cw_L_make : Cond.codeWith yn_L_make cd_L_make 8 (some .int) [(0, 16, 19, 13), (0, 16, 23, 15)] ∈ wl_C := List.mem_of_getElem? (i := 0) rfl
theorem wm_cw_L_define : Cond.codeWith yn_L_define cd_L_define 5 (some .int) [(0, 10, 13, 13)] ∈ wl_C := List.mem_of_getElem? (i := 1) rfl
theorem wm_cw_L_may : Cond.codeWith yn_L_may cd_L_may 5 (some .int) [(0, 10, 13, 13)] ∈ wl_C := List.mem_of_getElem? (i := 2) rfl
theorem wm_cw_L_gives : Cond.codeWith yn_L_gives cd_L_gives 4 (some .int) [(0, 9, 12, 13)] ∈ wl_C := List.mem_of_getElem? (i := 3) rfl
theorem wm_cw_L_hopeless : Cond.codeWith yn_L_hopeless cd_L_hopeless 4 (some .int) [(0, 9, 12, 13)] ∈ wl_C := List.mem_of_getElem? (i := 4) rfl
theorem wm_cw_L_isHopeless : Cond.codeWith yn_L_isHopeless cd_L_isHopeless 5 (some .int) [(0, 17, 20, 13)] ∈ wl_C := List.mem_of_getElem? (i := 5) rfl
theorem wm_cw_L_run : Cond.codeWith yn_L_run cd_L_run 6 (some .int) [(0, 12, 15, 13), (0, 12, 19, 39), (0, 12, 23, 15)] ∈ wl_C := List.mem_of_getElem? (i := 6) rfl
theorem wm_cw_L_part : Cond.codeWith yn_L_part cd_L_part 4 (some .int) [(0, 9, 12, 44)] ∈ wl_C := List.mem_of_getElem? (i := 7) rfl
set_option maxRecDepth 100000 in
theorem wl_in : ∀ w ∈ wl_A, w ∈ lw_tbl := fun w h => (List.mem_append.mp h).elim (fun h => (goodIn_r wl_C [215, 355, 385, 467, 478, 493, 504, 613] (by decide +kernel) (by decide +kernel) w h).1) (fun h => wi_A w h)
theorem wl_g {y' : MethodName} {c' : ByteArray} {n' : Nat} {r' : Option FieldType} (h : Cond.code y' c' n' r' ∈ wa_A) : GoodIn wl_A (Cond.code y' c' n' r' :: wa_A) := fun w hw => (List.mem_cons.mp hw).elim (fun e => ⟨by rw [e]; exact List.mem_append_right _ h, by rw [e]; exact Or.inl rfl⟩) (fun hw => ⟨List.mem_append_right _ hw, good_of_word (List.all_eq_true.mp wg_A w hw)⟩)
theorem wl_gW {y' : MethodName} {c' : ByteArray} {n' : Nat} {r' : Option FieldType} {hh : List (Nat × Nat × Nat × Nat)} (h : Cond.codeWith y' c' n' r' hh ∈ wl_C) : GoodIn wl_A (Cond.codeWith y' c' n' r' hh :: wa_A) := fun w hw => (List.mem_cons.mp hw).elim (fun e => ⟨by rw [e]; exact List.mem_append_left _ h, by rw [e]; exact Or.inl rfl⟩) (fun hw => ⟨List.mem_append_right _ hw, good_of_word (List.all_eq_true.mp wg_A w hw)⟩)
theorem la_K {args : Array Value} {s : State} (hts : ∀ w ∈ lw_tbl, w.before args s = true) : ∃ (D : va_G) (cI cL cZ : ClassId), va_K D cl_A (wd_T cI cL cZ) s := by
  have ht : ∀ w ∈ wa_A, w.before args s = true := fun w h => hts w (wi_A w h)
  obtain ⟨c0, i0, h0⟩ := u_known ht wf_S (ht _ wm_ii_S)
  obtain ⟨c1, i1, h1⟩ := u_known ht wf_P (ht _ wm_ii_P)
  obtain ⟨c2, i2, h2⟩ := u_known ht wf_K (ht _ wm_ii_K)
  obtain ⟨c3, i3, h3⟩ := u_known ht wf_H (ht _ wm_ii_H)
  obtain ⟨c4, i4, h4⟩ := u_known ht wf_M (ht _ wm_ii_M)
  obtain ⟨cI, kI, xI, a1, a2, a3⟩ := Cond.arrayClass_spec (ht _ wm_ac_int)
  obtain ⟨cL, kL, xL, b1, b2, b3⟩ := Cond.arrayClass_spec (ht _ wm_ac_long)
  obtain ⟨cZ, kZ, xZ, d1, d2, d3⟩ := Cond.arrayClass_spec (ht _ wm_ac_boolean)
  refine ⟨(fun c => if c = 0 then c0 else if c = 1 then c1 else if c = 2 then c2 else if c = 3 then c3 else c4, fun c => if c = 0 then i0 else if c = 1 then i1 else if c = 2 then i2 else if c = 3 then i3 else i4), cI, cL, cZ, fun c q hq => ?_, fun k q hk => ?_⟩
  · have hlt : c < 5 := (List.getElem?_eq_some_iff.mp hq).1
    have hc : c = 0 ∨ c = 1 ∨ c = 2 ∨ c = 3 ∨ c = 4 := by omega
    rcases hc with rfl | rfl | rfl | rfl | rfl <;> (cases hq; assumption)
  · have hlt : k < 3 := (List.getElem?_eq_some_iff.mp hk).1
    have hc : k = 0 ∨ k = 1 ∨ k = 2 := by omega
    rcases hc with rfl | rfl | rfl
    · cases hk; exact ⟨fun n z => ⟨fun k h => (by cases h), kI, a2, xI, a3⟩, a1⟩
    · cases hk; exact ⟨fun n z => ⟨fun k h => (by cases h), kL, b2, xL, b3⟩, b1⟩
    · cases hk; exact ⟨fun n z => ⟨fun k h => (by cases h), kZ, d2, xZ, d3⟩, d1⟩
set_option maxRecDepth 100000 in
theorem la_nw : nw_A = [229, 232, 409, 586].filterMap (fun i => lw_tbl[i]?) := by decide +kernel
theorem la_N {args : Array Value} {s : State} (hts : ∀ w ∈ lw_tbl, w.before args s = true) : ∀ z ∈ nw_A, va_Nw z s := by
  intro z hz
  refine va_Nw.of (nw_okA z hz).1 (hts z ?_)
  rw [la_nw] at hz
  obtain ⟨i, -, hi⟩ := List.mem_filterMap.mp hz
  exact List.mem_of_getElem? hi
set_option maxRecDepth 100000 in
theorem la_E {args : Array Value} {s : State} (hts : ∀ w ∈ lw_tbl, w.before args s = true) (hg : (Jvm.Cond.and given_1 narrow_1).before args s = true) {A : Nat → Prop} (hA : ∀ a : Nat, a < s.heap.size → ¬ A a) : en_P A s s.heap := by
  have hf := flat_of_before _ hg
  have hel : ∀ j : Nat, j < 15 → (Term.elem (.static "SuccessKinds$Program" "PARTS" "[I") (.int (Int32.ofNat j))).eval args s none [] s = some (.int (pt_P j)) := by
    intro j hj
    have hc : j = 0 ∨ j = 1 ∨ j = 2 ∨ j = 3 ∨ j = 4 ∨ j = 5 ∨ j = 6 ∨ j = 7 ∨ j = 8 ∨ j = 9 ∨ j = 10 ∨ j = 11 ∨ j = 12 ∨ j = 13 ∨ j = 14 := by omega
    rcases hc with rfl | rfl | rfl | rfl | rfl | rfl | rfl | rfl | rfl | rfl | rfl | rfl | rfl | rfl | rfl <;> exact va_eqt (hf _ (by decide +kernel))
  obtain ⟨t, h1, h2⟩ := va_Tof (A := A) (N := 15) (f := fun j => .int (pt_P j)) (by decide) (hf (.arrayOf (.static "SuccessKinds$Program" "PARTS" "[I") .int) (by decide +kernel)) (va_eqt (hf _ (by decide +kernel))) hel hA
  exact ⟨t, va_Zref (hts _ (by decide +kernel)) (hts _ (by decide +kernel)) h1 hA, h2⟩
theorem la_s {args : Array Value} {s : State} {k : Nat} {tx : String} (h1 : (Cond.stringRef rn_S k tx).before args s = true) (h2 : (Cond.exactly (.string rn_S k) "java/lang/String").before args s = true) : ∃ sa : Nat, vk_R rn_S k tx sa s := by
  obtain ⟨a, c, cell, kk, hv, -⟩ := Cond.exactly_spec (args := args) (first := s) (o := none) (s := s) (idx := []) h2
  exact ⟨a, vk_R.of h1 hv⟩
set_option maxRecDepth 100000 in
theorem la_X {args : Array Value} {s : State} (hts : ∀ w ∈ lw_tbl, w.before args s = true) (hg : (Jvm.Cond.and given_1 narrow_1).before args s = true) {A : Nat → Prop} (hA : ∀ a : Nat, a < s.heap.size → ¬ A a) : en_X A s s.heap := by
  have hf := flat_of_before _ hg
  refine ⟨vx_Zqof (hts _ (by decide +kernel)) (hts _ (by decide +kernel)) (hf _ (by decide +kernel)) hA, vx_Zqof (hts _ (by decide +kernel)) (hts _ (by decide +kernel)) (hf _ (by decide +kernel)) hA, fun z hz => va_Nw.of (xb_ok z hz).1 (hts z ?_), ?_⟩
  · have hall : ∀ w ∈ xb_A, w ∈ lw_tbl := by decide +kernel
    exact hall z hz
  · intro q hq
    rcases List.mem_cons.mp hq with rfl | hq
    · exact la_s (hts _ (by decide +kernel)) (hf _ (by decide +kernel))
    rcases List.mem_cons.mp hq with rfl | hq
    · exact la_s (hts _ (by decide +kernel)) (hf _ (by decide +kernel))
    rcases List.mem_cons.mp hq with rfl | hq
    · exact la_s (hts _ (by decide +kernel)) (hf _ (by decide +kernel))
    rcases List.mem_cons.mp hq with rfl | hq
    · exact la_s (hts _ (by decide +kernel)) (hf _ (by decide +kernel))
    rcases List.mem_cons.mp hq with rfl | hq
    · exact la_s (hts _ (by decide +kernel)) (hf _ (by decide +kernel))
    rcases List.mem_cons.mp hq with rfl | hq
    · exact la_s (hts _ (by decide +kernel)) (hf _ (by decide +kernel))
    rcases List.mem_cons.mp hq with rfl | hq
    · exact la_s (hts _ (by decide +kernel)) (hf _ (by decide +kernel))
    rcases List.mem_cons.mp hq with rfl | hq
    · exact la_s (hts _ (by decide +kernel)) (hf _ (by decide +kernel))
    cases hq
set_option maxRecDepth 100000 in
theorem la_C {args : Array Value} {s : State} (hg : (Jvm.Cond.and given_1 narrow_1).before args s = true) : en_C s := by
  have hf := flat_of_before _ hg
  intro q hq
  rcases List.mem_cons.mp hq with rfl | hq
  · exact va_Nc.of (hf (.not (.castable "java/lang/IllegalStateException" "java/lang/IllegalArgumentException")) (by decide +kernel))
  rcases List.mem_cons.mp hq with rfl | hq
  · exact va_Nc.of (hf (.not (.castable "java/lang/UnsupportedOperationException" "java/lang/IllegalArgumentException")) (by decide +kernel))
  rcases List.mem_cons.mp hq with rfl | hq
  · exact va_Nc.of (hf (.not (.castable "java/lang/IllegalStateException" "java/lang/UnsupportedOperationException")) (by decide +kernel))
  cases hq
