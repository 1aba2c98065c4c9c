/-! repairing: the class's search by traces, the model's search by codewords -/
theorem zn_ztr {ρ : Type} {j : Nat} (hj : j < 32) (K : Int32 → Option ρ) : zf_tr (nI j) K = K (zs_tr j) := by
  unfold zf_tr
  rw [nI_clamp (by omega), if_pos ⟨nI_pos (by omega), hj⟩]
def zn_o1 : Nat → Int32 → Int32
  | 0, _ => -1
  | j + 1, t => if zs_tr (31 - j) = t then zi_shl 1 (nI (31 - j)) else zn_o1 j t
theorem zn_o1L (F : Nat) (w : zw_T) (t : Int32) (j : Nat) : ∀ n, j ≤ 32 → j < n → zf_Rp_oneWrongBit_L2 F n w t (nI (32 - j)) = some (zn_o1 j t, w) := by
  induction j with
  | zero =>
    intro n _ hn
    cases n with
    | zero => omega
    | succ n =>
      rw [zf_Rp_oneWrongBit_L2, if_pos (by decide)]
      rfl
  | succ j ih =>
    intro n hj hn
    cases n with
    | zero => omega
    | succ n =>
      have h1 : ¬ (32 : Int32) ≤ nI (32 - (j + 1)) := zn_le (a := 32) (by omega) (by omega) (by omega)
      rw [zf_Rp_oneWrongBit_L2, if_neg h1, zn_ztr (by omega)]
      simp only [zf_let]
      rw [nI_1, show 32 - (j + 1) + 1 = 32 - j by omega, ih n (by omega) (by omega), show 32 - (j + 1) = 31 - j by omega]
      unfold zn_o1
      by_cases h : zs_tr (31 - j) = t
      · rw [if_pos h, if_pos h]
      · rw [if_neg h, if_neg h]
        cases j <;> rfl
theorem zn_o1W {F : Nat} (hF : 2500 ≤ F) (w : zw_T) (t : Int32) : zf_Rp_oneWrongBit F w t = some (zn_o1 32 t, w) := by
  unfold zf_Rp_oneWrongBit
  simp only [zf_let]
  exact zn_o1L F w t 32 F (Nat.le_refl 32) (by omega)
def zn_i2 (a : Nat) : Nat → Int32 → Option Int32
  | 0, _ => none
  | j + 1, t => if zs_tr a ^^^ zs_tr (31 - j) = t then some (zi_shl 1 (nI a) ||| zi_shl 1 (nI (31 - j))) else zn_i2 a j t
def zn_o2 : Nat → Int32 → Int32
  | 0, _ => -1
  | j + 1, t => match zn_i2 (31 - j) j t with
    | some r => r
    | none => zn_o2 j t
theorem zn_i2L (F : Nat) (k2 : zw_T → Int32 → Int32 → Option (Int32 × zw_T)) (w : zw_T) (t : Int32) (a : Nat) (ha : a < 32) (j : Nat) : ∀ n, j ≤ 32 → j < n → zf_Rp_twoWrongBits_L12 F k2 n w t (nI a) (nI (32 - j)) = match zn_i2 a j t with
    | some r => some (r, w)
    | none => k2 w t (nI (a + 1)) := by
  induction j with
  | zero =>
    intro n _ hn
    cases n with
    | zero => omega
    | succ n =>
      rw [zf_Rp_twoWrongBits_L12, if_pos (by decide)]
      simp only [zf_let]
      rw [nI_1]
      rfl
  | succ j ih =>
    intro n hj hn
    cases n with
    | zero => omega
    | succ n =>
      have h1 : ¬ (32 : Int32) ≤ nI (32 - (j + 1)) := zn_le (a := 32) (by omega) (by omega) (by omega)
      rw [zf_Rp_twoWrongBits_L12, if_neg h1, zn_ztr ha, zn_ztr (by omega)]
      simp only [zf_let]
      rw [nI_1, show 32 - (j + 1) + 1 = 32 - j by omega, ih n (by omega) (by omega), show 32 - (j + 1) = 31 - j by omega]
      by_cases h : zs_tr a ^^^ zs_tr (31 - j) = t
      · rw [if_pos h]
        have e : zn_i2 a (j + 1) t = some (zi_shl 1 (nI a) ||| zi_shl 1 (nI (31 - j))) := if_pos h
        rw [e]
      · rw [if_neg h]
        have e : zn_i2 a (j + 1) t = zn_i2 a j t := if_neg h
        rw [e]
theorem zn_o2L (F : Nat) (hF : 2500 ≤ F) (w : zw_T) (t : Int32) (j : Nat) : ∀ n, j ≤ 32 → j < n → zf_Rp_twoWrongBits_L2 F n w t (nI (32 - j)) = some (zn_o2 j t, w) := by
  induction j with
  | zero =>
    intro n _ hn
    cases n with
    | zero => omega
    | succ n =>
      rw [zf_Rp_twoWrongBits_L2, if_pos (by decide)]
      rfl
  | succ j ih =>
    intro n hj hn
    cases n with
    | zero => omega
    | succ n =>
      have h1 : ¬ (32 : Int32) ≤ nI (32 - (j + 1)) := zn_le (a := 32) (by omega) (by omega) (by omega)
      rw [zf_Rp_twoWrongBits_L2, if_neg h1]
      simp only [zf_let]
      rw [nI_1, show 32 - (j + 1) + 1 = 32 - j by omega, zn_i2L F _ w t _ (by omega) j F (by omega) (by omega), show 32 - (j + 1) + 1 = 32 - j by omega, show 32 - (j + 1) = 31 - j by omega, ih n (by omega) (by omega)]
      show _ = some ((match zn_i2 (31 - j) j t with
        | some r => r
        | none => zn_o2 j t), w)
      cases zn_i2 (31 - j) j t <;> rfl
theorem zn_o2W {F : Nat} (hF : 2500 ≤ F) (w : zw_T) (t : Int32) : zf_Rp_twoWrongBits F w t = some (zn_o2 32 t, w) := by
  unfold zf_Rp_twoWrongBits
  simp only [zf_let]
  exact zn_o2L F hF w t 32 F (Nat.le_refl 32) (by omega)
/-- the wrong bits of a word; -1 where it is broken -/
def zn_wr (x : Int32) : Int32 := if zn_tx x = 0 then 0 else if zn_tx x &&& 1 = 1 then zn_o1 32 (zn_tx x) else zn_o2 32 (zn_tx x)
theorem zn_wrW {F : Nat} (hF : 2500 ≤ F) (w : zw_T) (x : Int32) : zf_Rp_wrongBits F w x = some (zn_wr x, w) := by
  unfold zf_Rp_wrongBits zn_wr
  simp only [zf_bd, zf_let, zn_trW hF, zn_o1W hF, zn_o2W hF]
  by_cases h : zn_tx x = 0
  · rw [if_pos h, if_pos h]
  · rw [if_neg h, if_neg h]
    by_cases h1 : zn_tx x &&& 1 = 1
    · rw [if_pos h1, if_pos h1]
    · rw [if_neg h1, if_neg h1]
/-! what the searches find -/
theorem zn_o1s (t : Int32) : ∀ j, j ≤ 32 → (∃ b, 32 - j ≤ b ∧ b < 32 ∧ zs_tr b = t ∧ zn_o1 j t = zi_shl 1 (nI b)) ∨ (zn_o1 j t = -1 ∧ ∀ b, 32 - j ≤ b → b < 32 → zs_tr b ≠ t)
  | 0, _ => Or.inr ⟨rfl, fun b h1 h2 => by omega⟩
  | j + 1, hj => by
    unfold zn_o1
    by_cases h : zs_tr (31 - j) = t
    · rw [if_pos h]
      exact Or.inl ⟨31 - j, by omega, by omega, h, rfl⟩
    · rw [if_neg h]
      rcases zn_o1s t j (by omega) with ⟨b, h1, h2, h3, h4⟩ | ⟨h1, h2⟩
      · exact Or.inl ⟨b, by omega, h2, h3, h4⟩
      · refine Or.inr ⟨h1, fun b h3 h4 => ?_⟩
        by_cases h5 : b = 31 - j
        · rw [h5]; exact h
        · exact h2 b (by omega) h4
theorem zn_i2s (t : Int32) (a : Nat) : ∀ j, j ≤ 32 → (∃ b, 32 - j ≤ b ∧ b < 32 ∧ zs_tr a ^^^ zs_tr b = t ∧ zn_i2 a j t = some (zi_shl 1 (nI a) ||| zi_shl 1 (nI b))) ∨ (zn_i2 a j t = none ∧ ∀ b, 32 - j ≤ b → b < 32 → zs_tr a ^^^ zs_tr b ≠ t)
  | 0, _ => Or.inr ⟨rfl, fun b h1 h2 => by omega⟩
  | j + 1, hj => by
    unfold zn_i2
    by_cases h : zs_tr a ^^^ zs_tr (31 - j) = t
    · rw [if_pos h]
      exact Or.inl ⟨31 - j, by omega, by omega, h, rfl⟩
    · rw [if_neg h]
      rcases zn_i2s t a j (by omega) with ⟨b, h1, h2, h3, h4⟩ | ⟨h1, h2⟩
      · exact Or.inl ⟨b, by omega, h2, h3, h4⟩
      · refine Or.inr ⟨h1, fun b h3 h4 => ?_⟩
        by_cases h5 : b = 31 - j
        · rw [h5]; exact h
        · exact h2 b (by omega) h4
theorem zn_o2s (t : Int32) : ∀ j, j ≤ 32 → (∃ a b, 32 - j ≤ a ∧ a < b ∧ b < 32 ∧ zs_tr a ^^^ zs_tr b = t ∧ zn_o2 j t = zi_shl 1 (nI a) ||| zi_shl 1 (nI b)) ∨ (zn_o2 j t = -1 ∧ ∀ a b, 32 - j ≤ a → a < b → b < 32 → zs_tr a ^^^ zs_tr b ≠ t)
  | 0, _ => Or.inr ⟨rfl, fun a b h1 h2 h3 => by omega⟩
  | j + 1, hj => by
    have e : zn_o2 (j + 1) t = match zn_i2 (31 - j) j t with
      | some r => r
      | none => zn_o2 j t := rfl
    rcases zn_i2s t (31 - j) j (by omega) with ⟨b, h1, h2, h3, h4⟩ | ⟨h1, h2⟩
    · rw [h4] at e
      exact Or.inl ⟨31 - j, b, by omega, by omega, h2, h3, e⟩
    · rw [h1] at e
      rw [e]
      rcases zn_o2s t j (by omega) with ⟨a, b, g1, g2, g3, g4, g5⟩ | ⟨g1, g2⟩
      · exact Or.inl ⟨a, b, by omega, g2, g3, g4, g5⟩
      · refine Or.inr ⟨g1, fun a b g3 g4 g5 => ?_⟩
        by_cases h5 : a = 31 - j
        · rw [h5]; exact h2 b (by omega) g5
        · exact g2 a b (by omega) g4 g5
theorem zn_u1q : ∀ i, i < 32 → ∀ j, j < 32 → zs_tr i = zs_tr j → i = j := by decide +kernel
theorem zn_ne1 : ∀ b, b < 32 → zi_shl 1 (nI b) ≠ -1 := by decide +kernel
theorem zn_ne2 : ∀ a, a < 32 → ∀ b, b < 32 → zi_shl 1 (nI a) ||| zi_shl 1 (nI b) ≠ -1 := by decide +kernel
theorem zn_or2 : ∀ a, a < 32 → ∀ b, b < a → zi_shl 1 (nI a) ||| zi_shl 1 (nI b) = zi_shl 1 (nI a) ^^^ zi_shl 1 (nI b) := by decide +kernel
theorem zn_ev : ∀ a, a < 32 → ∀ b, b < 32 → (zs_tr a ^^^ zs_tr b) &&& 1 = 0 := by decide +kernel
/-- which two bits have a trace together: 32 * the greater + the smaller, by half the trace -/
def zn_inv : List Nat := [0, 32, 64, 65, 96, 97, 98, 0, 128, 129, 130, 0, 131, 916, 0, 886, 160, 161, 162, 756, 163, 0, 0, 0, 164, 812, 949, 0, 0, 0, 919, 427, 192, 193, 194, 0, 195, 0, 789, 814, 196, 0, 0, 0, 0, 843, 0, 0, 197, 0, 845, 0, 982, 0, 0, 0, 0, 0, 0, 987, 952, 0, 460, 0, 224, 225, 226, 889, 227, 0, 0, 0, 228, 0, 0, 0, 822, 0, 847, 0, 229, 776, 0, 618, 0, 716, 0, 0, 0, 0, 876, 0, 0, 0, 0, 974, 230, 972, 0, 491, 878, 0, 0, 593, 1015, 0, 0, 718, 0, 936, 0, 0, 0, 0, 0, 0, 0, 0, 1020, 680, 985, 0, 0, 1012, 493, 521, 0, 0, 256, 257, 258, 0, 259, 457, 922, 0, 260, 0, 0, 852, 0, 0, 0, 0, 261, 775, 0, 720, 0, 0, 0, 0, 855, 0, 0, 0, 880, 586, 0, 0, 262, 0, 809, 0, 0, 0, 651, 976, 0, 625, 749, 907, 0, 935, 0, 0, 0, 0, 0, 0, 909, 747, 0, 679, 0, 653, 0, 393, 0, 0, 1007, 0, 263, 773, 1005, 0, 0, 655, 524, 0, 911, 0, 0, 0, 0, 934, 626, 0, 769, 768, 0, 770, 0, 771, 751, 678, 0, 772, 969, 0, 0, 1003, 0, 816, 0, 873, 0, 0, 0, 932, 0, 677, 0, 931, 0, 0, 929, 928, 713, 930, 1018, 774, 0, 675, 0, 674, 673, 672, 526, 0, 554, 0, 0, 933, 0, 676, 288, 289, 290, 950, 291, 456, 0, 0, 292, 0, 490, 984, 955, 0, 0, 0, 293, 0, 0, 0, 0, 0, 885, 851, 0, 725, 0, 0, 0, 0, 0, 0, 294, 0, 808, 0, 0, 621, 753, 0, 0, 1010, 0, 0, 0, 981, 0, 0, 888, 0, 0, 0, 0, 657, 0, 989, 913, 0, 619, 392, 0, 519, 0, 790, 295, 754, 0, 0, 842, 0, 0, 0, 0, 0, 0, 0, 684, 0, 1009, 953, 0, 0, 658, 0, 782, 821, 940, 0, 0, 623, 968, 0, 0, 518, 0, 914, 0, 872, 0, 0, 0, 0, 0, 0, 942, 362, 780, 0, 0, 517, 712, 0, 0, 0, 686, 824, 0, 516, 426, 0, 0, 515, 0, 0, 513, 512, 0, 514, 296, 451, 806, 0, 449, 448, 0, 450, 0, 0, 688, 0, 557, 452, 0, 755, 944, 915, 0, 555, 0, 453, 0, 591, 0, 0, 967, 390, 659, 0, 0, 0, 802, 871, 800, 801, 0, 454, 803, 0, 0, 0, 804, 389, 784, 0, 711, 0, 0, 0, 805, 388, 1002, 0, 0, 0, 0, 386, 385, 384, 0, 0, 849, 387, 0, 870, 906, 0, 0, 455, 0, 0, 0, 0, 965, 0, 0, 0, 710, 650, 0, 777, 964, 0, 0, 0, 0, 0, 962, 850, 960, 961, 746, 0, 963, 0, 865, 864, 807, 866, 0, 867, 708, 1011, 0, 868, 707, 589, 706, 937, 704, 705, 559, 869, 0, 0, 587, 0, 0, 681, 0, 0, 966, 391, 0, 520, 709, 0, 320, 321, 322, 0, 323, 0, 983, 0, 324, 0, 489, 525, 0, 689, 0, 1004, 325, 0, 0, 615, 523, 980, 1017, 945, 988, 0, 0, 0, 0, 584, 0, 0, 326, 724, 0, 923, 0, 0, 0, 0, 0, 0, 0, 785, 918, 0, 884, 0, 0, 1006, 758, 0, 0, 0, 0, 0, 0, 848, 0, 0, 0, 887, 0, 0, 327, 0, 0, 613, 841, 0, 0, 910, 0, 0, 654, 0, 786, 0, 0, 0, 0, 610, 609, 608, 0, 1019, 0, 611, 0, 750, 1014, 612, 0, 0, 0, 0, 921, 0, 0, 0, 0, 0, 0, 748, 0, 361, 690, 0, 0, 820, 1022, 0, 946, 0, 0, 614, 652, 0, 425, 527, 0, 908, 552, 0, 0, 0, 823, 0, 328, 0, 787, 0, 0, 0, 0, 715, 875, 0, 0, 0, 0, 581, 0, 494, 0, 0, 0, 0, 0, 580, 0, 877, 717, 579, 0, 0, 577, 576, 986, 578, 0, 752, 0, 0, 691, 890, 0, 0, 815, 0, 854, 0, 973, 0, 0, 0, 0, 492, 656, 971, 1001, 0, 0, 0, 0, 0, 551, 0, 0, 582, 947, 912, 0, 846, 905, 0, 0, 0, 0, 0, 0, 1008, 0, 811, 0, 428, 0, 649, 975, 778, 395, 616, 813, 0, 0, 0, 0, 0, 550, 0, 745, 583, 0, 0, 0, 0, 0, 0, 719, 0, 857, 0, 0, 0, 549, 879, 459, 938, 0, 0, 0, 0, 548, 461, 0, 0, 0, 682, 546, 0, 544, 545, 0, 0, 547, 844, 329, 0, 484, 0, 839, 0, 0, 0, 482, 0, 480, 481, 0, 791, 483, 0, 0, 0, 0, 920, 721, 0, 0, 0, 590, 0, 485, 881, 0, 0, 788, 0, 977, 0, 948, 0, 0, 0, 588, 0, 0, 359, 486, 757, 0, 0, 624, 956, 0, 951, 0, 0, 1000, 917, 423, 0, 692, 0, 0, 0, 0, 0, 0, 818, 835, 556, 904, 1013, 832, 833, 834, 978, 0, 358, 487, 0, 836, 0, 0, 648, 0, 0, 0, 617, 837, 0, 422, 0, 817, 1021, 0, 0, 744, 0, 0, 0, 0, 356, 0, 0, 838, 1016, 421, 0, 353, 352, 0, 354, 0, 355, 0, 0, 0, 0, 419, 722, 418, 0, 416, 417, 0, 357, 0, 0, 882, 522, 420, 558, 0, 685, 903, 0, 939, 458, 0, 560, 0, 979, 488, 0, 0, 0, 0, 647, 0, 0, 0, 0, 998, 856, 0, 0, 0, 0, 0, 941, 743, 585, 683, 0, 0, 0, 810, 0, 997, 0, 0, 781, 0, 954, 0, 0, 0, 0, 0, 0, 995, 0, 883, 853, 992, 993, 994, 0, 779, 0, 0, 394, 996, 723, 0, 0, 898, 0, 896, 897, 840, 0, 899, 644, 0, 0, 900, 643, 741, 642, 641, 640, 0, 0, 901, 0, 740, 0, 622, 0, 739, 0, 970, 783, 736, 737, 738, 645, 592, 874, 902, 0, 0, 0, 0, 943, 620, 360, 0, 0, 0, 0, 714, 646, 0, 819, 0, 0, 999, 0, 424, 0, 0, 0, 553, 0, 742, 687, 0, 0]
theorem zn_invP : ∀ i, i < 32 → ∀ j, j < i → zn_inv.getD ((zs_tr i ^^^ zs_tr j).toBitVec.toNat / 2) 0 = 32 * i + j := by decide +kernel
theorem zn_u2q {i j a b : Nat} (hi : i < 32) (hj : j < i) (ha : a < 32) (hb : b < a) (h : zs_tr i ^^^ zs_tr j = zs_tr a ^^^ zs_tr b) : i = a ∧ j = b := by
  have h1 := zn_invP i hi j hj
  rw [h, zn_invP a ha b hb] at h1
  omega
/-! the model's search -/
theorem zn_r42 {F : Nat} (hF : 2500 ≤ F) (k14 : zw_T → Int32 → Int32 → Option (Int32 × zw_T)) (w : zw_T) (x : Int32) (i : Nat) (hi : i < 32) (d : Nat) : ∀ (j n : Nat), j + d = i → d < n → (∃ b, j ≤ b ∧ b < i ∧ zs_tr i ^^^ zs_tr b = zn_tx x ∧ zf_Mo_repair_L42 F k14 n w x (nI i) (nI j) = some (zi_ushr (x ^^^ zi_shl 1 (nI i) ^^^ zi_shl 1 (nI b)) 11, w)) ∨ ((∀ b, j ≤ b → b < i → zs_tr i ^^^ zs_tr b ≠ zn_tx x) ∧ zf_Mo_repair_L42 F k14 n w x (nI i) (nI j) = k14 w x (nI (i + 1))) := by
  induction d with
  | zero =>
    intro j n hj hn
    cases n with
    | zero => omega
    | succ n =>
      refine Or.inr ⟨fun b h1 h2 => by omega, ?_⟩
      rw [zf_Mo_repair_L42, if_pos (by rw [nI_leI (by omega) (by omega)]; omega)]
      simp only [zf_let]
      rw [nI_1 i]
  | succ d ih =>
    intro j n hj hn
    cases n with
    | zero => omega
    | succ n =>
      rw [zf_Mo_repair_L42, if_neg (zn_le (by omega) (by omega) (by omega))]
      simp only [zf_let, zf_bd, zn_isC hF, nI_1]
      by_cases h : zs_tr i ^^^ zs_tr j = zn_tx x
      · refine Or.inl ⟨j, Nat.le_refl j, by omega, h, ?_⟩
        rw [if_pos ((zn_tb2 x hi (by omega)).mpr h), if_neg (by decide)]
      · rw [if_neg (fun q => h ((zn_tb2 x hi (by omega)).mp q)), if_pos rfl]
        rcases ih (j + 1) n (by omega) (by omega) with ⟨b, h1, h2, h3, h4⟩ | ⟨h1, h2⟩
        · exact Or.inl ⟨b, by omega, h2, h3, h4⟩
        · refine Or.inr ⟨fun b h3 h4 => ?_, h2⟩
          by_cases h5 : b = j
          · rw [h5]; exact h
          · exact h1 b (by omega) h4
theorem zn_r14 {F : Nat} (hF : 2500 ≤ F) (w : zw_T) (x : Int32) (d : Nat) : ∀ (i n : Nat), i + d = 32 → d < n → (∃ b, i ≤ b ∧ b < 32 ∧ zs_tr b = zn_tx x ∧ zf_Mo_repair_L14 F n w x (nI i) = some (zi_ushr (x ^^^ zi_shl 1 (nI b)) 11, w)) ∨ (∃ a b, i ≤ a ∧ a < 32 ∧ b < a ∧ zs_tr a ^^^ zs_tr b = zn_tx x ∧ zf_Mo_repair_L14 F n w x (nI i) = some (zi_ushr (x ^^^ zi_shl 1 (nI a) ^^^ zi_shl 1 (nI b)) 11, w)) ∨ ((∀ b, i ≤ b → b < 32 → zs_tr b ≠ zn_tx x) ∧ (∀ a b, i ≤ a → a < 32 → b < a → zs_tr a ^^^ zs_tr b ≠ zn_tx x) ∧ zf_Mo_repair_L14 F n w x (nI i) = some (-1, w)) := by
  induction d with
  | zero =>
    intro i n hi hn
    cases n with
    | zero => omega
    | succ n =>
      have hi' : i = 32 := by omega
      subst hi'
      refine Or.inr (Or.inr ⟨fun b h1 h2 => by omega, fun a b h1 h2 => by omega, ?_⟩)
      rw [zf_Mo_repair_L14, if_pos (by decide)]
  | succ d ih =>
    intro i n hi hn
    cases n with
    | zero => omega
    | succ n =>
      have h1 : ¬ (32 : Int32) ≤ nI i := zn_le (a := 32) (by omega) (by omega) (by omega)
      rw [zf_Mo_repair_L14, if_neg h1]
      simp only [zf_let, zf_bd, zn_isC hF]
      by_cases h : zs_tr i = zn_tx x
      · refine Or.inl ⟨i, Nat.le_refl i, by omega, h, ?_⟩
        rw [if_pos ((zn_tb x (by omega)).mpr h), if_neg (by decide)]
      · rw [if_neg (fun q => h ((zn_tb x (by omega)).mp q)), if_pos rfl]
        rcases zn_r42 hF (zf_Mo_repair_L14 F n) w x i (by omega) i 0 F (by omega) (by omega) with ⟨b, h1, h2, h3, h4⟩ | ⟨h1, h2⟩
        · exact Or.inr (Or.inl ⟨i, b, Nat.le_refl i, by omega, h2, h3, h4⟩)
        · have e : zf_Mo_repair_L42 F (zf_Mo_repair_L14 F n) F w x (nI i) 0 = zf_Mo_repair_L14 F n w x (nI (i + 1)) := h2
          rw [e]
          rcases ih (i + 1) n (by omega) (by omega) with ⟨b, g1, g2, g3, g4⟩ | ⟨a, b, g1, g2, g3, g4, g5⟩ | ⟨g1, g2, g3⟩
          · exact Or.inl ⟨b, by omega, g2, g3, g4⟩
          · exact Or.inr (Or.inl ⟨a, b, by omega, g2, g3, g4, g5⟩)
          · refine Or.inr (Or.inr ⟨fun b k1 k2 => ?_, fun a b k1 k2 k3 => ?_, g3⟩)
            · by_cases h5 : b = i
              · rw [h5]; exact h
              · exact g1 b (by omega) k2
            · by_cases h5 : a = i
              · rw [h5]; exact h1 b (Nat.zero_le b) (by omega)
              · exact g2 a b (by omega) k2 k3
theorem zn_tr0 : ∀ b, b < 32 → zs_tr b ≠ 0 := by decide +kernel
/-- the model answers with the data that the class's wrong bits leave -/
theorem zn_rpM {F : Nat} (hF : 2500 ≤ F) (w : zw_T) (m : Nat) (x : Int32) : zf_Mo_repair F w m x = some (if zn_wr x = -1 then -1 else zi_ushr (x ^^^ zn_wr x) 11, w) := by
  unfold zf_Mo_repair
  simp only [zf_let, zf_bd, zn_isC hF]
  by_cases h0 : zn_tx x = 0
  · have e : zn_wr x = 0 := by unfold zn_wr; rw [if_pos h0]
    rw [if_pos h0, if_neg (by decide), e, if_neg (by decide), zn_x0]
  · rw [if_neg h0, if_pos rfl]
    have hz : zf_Mo_repair_L14 F F w x 0 = zf_Mo_repair_L14 F F w x (nI 0) := rfl
    rw [hz]
    rcases zn_r14 hF w x 32 0 F (by omega) (by omega) with ⟨b, g1, g2, g3, g4⟩ | ⟨a, b, g1, g2, g3, g4, g5⟩ | ⟨g1, g2, g3⟩
    · have ho : zn_tx x &&& 1 = 1 := by rw [← g3]; exact zn_odd b g2
      have e : zn_wr x = zi_shl 1 (nI b) := by
        unfold zn_wr
        rw [if_neg h0, if_pos ho]
        rcases zn_o1s (zn_tx x) 32 (Nat.le_refl 32) with ⟨b', k1, k2, k3, k4⟩ | ⟨k1, k2⟩
        · have : b' = b := zn_u1q b' k2 b g2 (k3.trans g3.symm)
          rw [k4, this]
        · exact absurd g3 (k2 b (by omega) g2)
      rw [g4, e, if_neg (zn_ne1 b g2)]
    · have ho : ¬ zn_tx x &&& 1 = 1 := by
        rw [← g4, zn_ev a g2 b (by omega)]
        decide
      have e : zn_wr x = zi_shl 1 (nI a) ^^^ zi_shl 1 (nI b) := by
        unfold zn_wr
        rw [if_neg h0, if_neg ho]
        rcases zn_o2s (zn_tx x) 32 (Nat.le_refl 32) with ⟨b', a', k1, k2, k3, k4, k5⟩ | ⟨k1, k2⟩
        · have k6 : zs_tr a' ^^^ zs_tr b' = zs_tr a ^^^ zs_tr b := by rw [zn_xc, k4, g4]
          obtain ⟨e1, e2⟩ := zn_u2q k3 k2 g2 g3 k6
          rw [k5, e1, e2, ← zn_or2 a g2 b g3]
          apply b_ext
          intro i _
          rw [b_or, b_or]
          cases bt (zi_shl 1 (nI a)) i <;> cases bt (zi_shl 1 (nI b)) i <;> rfl
        · exact absurd (by rw [zn_xc]; exact g4) (k2 b a (by omega) g3 g2)
      have en : zi_shl 1 (nI a) ^^^ zi_shl 1 (nI b) ≠ -1 := by
        rw [← zn_or2 a g2 b g3]
        exact zn_ne2 a g2 b (by omega)
      rw [g5, e, if_neg en, zn_xa]
    · have e : zn_wr x = -1 := by
        unfold zn_wr
        rw [if_neg h0]
        by_cases ho : zn_tx x &&& 1 = 1
        · rw [if_pos ho]
          rcases zn_o1s (zn_tx x) 32 (Nat.le_refl 32) with ⟨b', k1, k2, k3, k4⟩ | ⟨k1, k2⟩
          · exact absurd k3 (g1 b' (by omega) k2)
          · exact k1
        · rw [if_neg ho]
          rcases zn_o2s (zn_tx x) 32 (Nat.le_refl 32) with ⟨b', a', k1, k2, k3, k4, k5⟩ | ⟨k1, k2⟩
          · exact absurd (by rw [zn_xc]; exact k4) (g2 a' b' (by omega) k3 k2)
          · exact k1
      rw [g3, e, if_pos rfl]
/-- without its wrong bits a word is a codeword -/
theorem zn_wr0 (x : Int32) (h : zn_wr x ≠ -1) : zn_cw (zi_ushr (x ^^^ zn_wr x) 11) = x ^^^ zn_wr x := by
  rw [zn_isc]
  unfold zn_wr at h ⊢
  by_cases h0 : zn_tx x = 0
  · rw [if_pos h0, zn_x0]
    exact h0
  · rw [if_neg h0] at h ⊢
    by_cases ho : zn_tx x &&& 1 = 1
    · rw [if_pos ho] at h ⊢
      rcases zn_o1s (zn_tx x) 32 (Nat.le_refl 32) with ⟨b', k1, k2, k3, k4⟩ | ⟨k1, k2⟩
      · rw [k4, zn_tb x k2]
        exact k3
      · exact absurd k1 h
    · rw [if_neg ho] at h ⊢
      rcases zn_o2s (zn_tx x) 32 (Nat.le_refl 32) with ⟨b', a', k1, k2, k3, k4, k5⟩ | ⟨k1, k2⟩
      · have e : zi_shl 1 (nI b') ||| zi_shl 1 (nI a') = zi_shl 1 (nI a') ^^^ zi_shl 1 (nI b') := by
          rw [← zn_or2 a' k3 b' k2]
          apply b_ext
          intro i _
          rw [b_or, b_or]
          cases bt (zi_shl 1 (nI a')) i <;> cases bt (zi_shl 1 (nI b')) i <;> rfl
        rw [k5, e, ← zn_xa, zn_tb2 x k3 (by omega), zn_xc]
        exact k4
      · exact absurd k1 h
theorem zn_rpW {F : Nat} (hF : 2500 ≤ F) (w : zw_T) (a : Nat) (x : Int32) : zf_WP_repair F w a x = some (if zn_wr x = -1 then -1 else zi_ushr (x ^^^ zn_wr x) 11, w) := by
  unfold zf_WP_repair
  simp only [zf_bd, zf_let, zn_wrW hF]
  by_cases h : zn_wr x = -1
  · rw [if_pos h, if_pos h]
  · rw [if_neg h, if_neg h]
