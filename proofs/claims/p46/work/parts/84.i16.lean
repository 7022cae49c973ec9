/-! ===== a hall copied; a trader comes; one cell of the script ===== -/
theorem nk {a b : Nat} {p : Prop} (h : a ≠ b) : ¬ (a = b ∧ p) := fun z => h z.1
theorem nj {a b : Nat} {p : Prop} (h : a ≠ b) : ¬ (p ∧ a = b) := fun z => h z.2
/-- bounds, names of numbers -/
theorem rb2 {x y : Int} {h : Nat} (e : x = (h : Int)) (hl : (h : Int) < y) : 0 ≤ x ∧ x < y := by omega
theorem rb3 {x y z : Int} {h : Nat} (e : x = (h : Int)) (c : y = z) (hl : (h : Int) < z) : 0 ≤ x ∧ x < y := by omega
theorem nc2 {x : Int} {a b : Nat} (q : (a : Int) = x) (e : x = (b : Int)) : a = b := by omega
theorem lt1 {a : Nat} {x y : Int} (h : (a : Int) < x) (e : y = x) : (a : Int) < y := by omega
theorem lts1 {a b : Nat} (h : (a : Int) < (b : Int)) : (a : Int) < (b : Int) + 1 := by omega
theorem fe7 {F G H K : Int → Int} {v : Int} (f15 : ∀ j, F j = if j = 11 then v else G j) (f9 : ∀ j, G j = if j = 6 then H 6 else if j = 5 then H 5 else if j = 4 then H 4 else if j = 3 then H 3 else if j = 2 then H 2 else if j = 1 then H 1 else if j = 0 then H 0 else K j) : ∀ k, 0 ≤ k ∧ k < 7 → F k = H k := by
  intro k hk
  rw [f15, if_neg (by omega), f9]
  by_cases q6 : k = 6
  · rw [if_pos q6, q6]
  rw [if_neg q6]
  by_cases q5 : k = 5
  · rw [if_pos q5, q5]
  rw [if_neg q5]
  by_cases q4 : k = 4
  · rw [if_pos q4, q4]
  rw [if_neg q4]
  by_cases q3 : k = 3
  · rw [if_pos q3, q3]
  rw [if_neg q3]
  by_cases q2 : k = 2
  · rw [if_pos q2, q2]
  rw [if_neg q2]
  by_cases q1 : k = 1
  · rw [if_pos q1, q1]
  rw [if_neg q1, if_pos (by omega), show k = 0 by omega]
theorem z21 {x y : Nat} (hx : x = 21) (hy : y = 21) : ((0 : Int) ≤ 21 ∧ (0 : Int) ≤ 0 ∧ (0 : Int) ≤ 0 ∧ (0 : Int) + 21 ≤ (x : Nat) ∧ (0 : Int) + 21 ≤ (y : Nat)) := by
  subst hx; subst hy
  decide
theorem z21a {x : Nat} (hx : x = 21) : x ≤ 1000000 := by
  subst hx
  decide
abbrev hK : List Nat := [64, 70, 71, 72, 73, 74]
theorem hI.gr {M M1 M2 : zM} {h : Nat} (g : Gr hK M M1) (i : hI M1 M2 h) (hh : M 97 0 64 ≤ (h : Int)) (hy : M1 97 0 70 = h ∧ M1 97 0 71 = h ∧ M1 97 0 72 = h ∧ M1 97 0 73 = h) : Gr hK M M2 := by
  obtain ⟨i1, i2, i3, i4, i5, i6, i7⟩ := i
  have hc : ∀ q : Int, M1 97 0 q ≤ M2 97 0 q := by
    intro q
    by_cases q0 : q = 70
    · subst q0; omega
    by_cases q1 : q = 71
    · subst q1; omega
    by_cases q2 : q = 72
    · subst q2; omega
    by_cases q3 : q = 73
    · subst q3; omega
    by_cases q4 : q = 74
    · subst q4; omega
    rw [i6 q q0 q1 q2 q3 q4]
    exact Int.le_refl _
  refine ⟨fun k j h1 h2 => (i1 k j h1 h2).trans (g.1 k j h1 h2), fun k j h1 h2 => ?_, fun q => Int.le_trans (g.2.2.1 q) (hc q), fun q hq => ?_⟩
  · refine (i2 k j h1 (Int.lt_of_lt_of_le h2 (g.2.2.1 _)) ?_).trans (g.2.1 k j h1 h2)
    rintro ⟨rfl, rfl⟩
    rw [show ((64 : Nat) : Int) = 64 from rfl] at h2
    omega
  · simp only [List.mem_cons, List.not_mem_nil, or_false, not_or] at hq
    exact (i6 q (by omega) (by omega) (by omega) (by omega) (by omega)).trans (g.2.2.2 q (by simp only [List.mem_cons, List.not_mem_nil, or_false, not_or]; exact hq))
section
variable {l : Launch} {M : zM} {S : zS}
theorem zl7 {M : zM} {i : Nat} : zln M 70 i = 21 ∧ zln M 71 i = 21 ∧ zln M 72 i = 21 ∧ zln M 73 i = 21 := ⟨zln_s (by decide), zln_s (by decide), zln_s (by decide), zln_s (by decide)⟩
theorem zcl_c {M : zM} {k i i0 : Nat} : zcl M k i i0 97 0 (k : Int) = (i : Int) + 1 := zmg_c
theorem zcl_n {M : zM} {k i i0 : Nat} {q : Int} (hk : k ≠ 97) (h : q ≠ (k : Int)) : zcl M k i i0 97 0 q = M 97 0 q := zmg_n hk h
theorem zcl_s {M : zM} {k i i0 : Nat} (hk : k ≠ 97) : zcl M k i i0 k i = M k i0 := zmg_s hk
theorem zcl_o {M : zM} {k i i0 k' i' : Nat} (h : ¬ (k' = k ∧ i' = i)) (h97 : k' ≠ 97) : zcl M k i i0 k' i' = M k' i' := zmg_o h h97
theorem zcq_1 {M : zM} {k0 i0 k1 i1 : Nat} {n j : Int} (h : 0 ≤ j ∧ j < n) : zcq M k0 i0 0 k1 i1 0 n k1 i1 j = M k0 i0 j := by
  refine (if_pos ⟨rfl, rfl, h.1, by omega⟩).trans ?_
  rw [show (0 : Int) + (j - 0) = j by omega]
theorem vX9_copy {l : Launch} {P : Nat → zM → Prop} {h : Nat} {M : zM}
    (H0 : (∀ n1 : Nat, (n1 : Int) = M 97 0 64 → ∀ M3 : zM, M3 = zmk M 64 n1 0 → (CVn l m_X9_init 5 105 [zr 64 n1] M3 (fun M4 => (∀ M7 : zM, M7 = zu M4 64 n1 0 (M4 64 h 0) → (∀ M9 : zM, M9 = zu M7 64 n1 1 (M7 64 h 1) → (∀ M11 : zM, M11 = zu M9 64 n1 2 (M9 64 h 2) → (∀ M13 : zM, M13 = zu M11 64 n1 3 (M11 64 h 3) → (∀ M15 : zM, M15 = zu M13 64 n1 4 (M13 64 h 4) → (∀ M17 : zM, M17 = zu M15 64 n1 5 (M15 64 h 5) → (∀ M19 : zM, M19 = zu M17 64 n1 6 (M17 64 h 6) → ((0 ≤ M19 64 h 7 ∧ M19 64 h 7 < M19 97 0 70) ∧ ∀ r21 : Nat, (r21 : Int) = M19 64 h 7 → ((0 ≤ M19 64 n1 7 ∧ M19 64 n1 7 < M19 97 0 70) ∧ ∀ r24 : Nat, (r24 : Int) = M19 64 n1 7 → (((0 : Int) ≤ 21 ∧ (0 : Int) ≤ 0 ∧ (0 : Int) ≤ 0 ∧ (0 : Int) + 21 ≤ (zln M19 70 r21 : Nat) ∧ (0 : Int) + 21 ≤ (zln M19 70 r24 : Nat)) ∧ zln M19 70 r21 ≤ 1000000 ∧ zln M19 70 r24 ≤ 1000000 ∧ (∀ j : Int, 0 ≤ j → j < 0 + 21 → zft 1 (M19 70 r21 j)) ∧ ∀ M31 : zM, M31 = zcq M19 70 r21 0 70 r24 0 21 → ((0 ≤ M31 64 h 8 ∧ M31 64 h 8 < M31 97 0 71) ∧ ∀ r33 : Nat, (r33 : Int) = M31 64 h 8 → ((0 ≤ M31 64 n1 8 ∧ M31 64 n1 8 < M31 97 0 71) ∧ ∀ r36 : Nat, (r36 : Int) = M31 64 n1 8 → (((0 : Int) ≤ 21 ∧ (0 : Int) ≤ 0 ∧ (0 : Int) ≤ 0 ∧ (0 : Int) + 21 ≤ (zln M31 71 r33 : Nat) ∧ (0 : Int) + 21 ≤ (zln M31 71 r36 : Nat)) ∧ zln M31 71 r33 ≤ 1000000 ∧ zln M31 71 r36 ≤ 1000000 ∧ ∀ M42 : zM, M42 = zcq M31 71 r33 0 71 r36 0 21 → ((0 ≤ M42 64 h 9 ∧ M42 64 h 9 < M42 97 0 72) ∧ ∀ r44 : Nat, (r44 : Int) = M42 64 h 9 → ((0 ≤ M42 64 n1 9 ∧ M42 64 n1 9 < M42 97 0 72) ∧ ∀ r47 : Nat, (r47 : Int) = M42 64 n1 9 → (((0 : Int) ≤ 21 ∧ (0 : Int) ≤ 0 ∧ (0 : Int) ≤ 0 ∧ (0 : Int) + 21 ≤ (zln M42 72 r44 : Nat) ∧ (0 : Int) + 21 ≤ (zln M42 72 r47 : Nat)) ∧ zln M42 72 r44 ≤ 1000000 ∧ zln M42 72 r47 ≤ 1000000 ∧ ∀ M53 : zM, M53 = zcq M42 72 r44 0 72 r47 0 21 → ((0 ≤ M53 64 h 10 ∧ M53 64 h 10 < M53 97 0 73) ∧ ∀ r55 : Nat, (r55 : Int) = M53 64 h 10 → ((0 ≤ M53 64 n1 10 ∧ M53 64 n1 10 < M53 97 0 73) ∧ ∀ r58 : Nat, (r58 : Int) = M53 64 n1 10 → (((0 : Int) ≤ 21 ∧ (0 : Int) ≤ 0 ∧ (0 : Int) ≤ 0 ∧ (0 : Int) + 21 ≤ (zln M53 73 r55 : Nat) ∧ (0 : Int) + 21 ≤ (zln M53 73 r58 : Nat)) ∧ zln M53 73 r55 ≤ 1000000 ∧ zln M53 73 r58 ≤ 1000000 ∧ ∀ M64 : zM, M64 = zcq M53 73 r55 0 73 r58 0 21 → ((0 ≤ M64 64 h 11 ∧ M64 64 h 11 < M64 97 0 74) ∧ ∀ r66 : Nat, (r66 : Int) = M64 64 h 11 → (∀ n68 : Nat, (n68 : Int) = M64 97 0 74 → ∀ M70 : zM, M70 = zcl M64 74 n68 r66 → (∀ M72 : zM, M72 = zu M70 64 n1 11 (n68 : Int) → P n1 M72)))))))))))))))))))))))))) :
    CRn l m_X9_copy 64 7 138 [zr 64 h] M P :=
(aw_new (k := 64) (n := 12) d_X9_copy_0 rfl nw9_8 ⟨Nat.le_of_ble_eq_true rfl, Nat.le_of_ble_eq_true rfl⟩
(fun n1 hqn1 => (aw_nm fun M3 hqM3 => have e2 := H0 n1 hqn1 M3 hqM3; (aw_dup d_X9_copy_3 rfl rfl
(aw_NVn (As := []) (st := [zr 64 n1]) d_X9_copy_4 rfl cn9_28 ⟨Nat.le_of_ble_eq_true rfl, Nat.le_of_ble_eq_true rfl⟩ ⟨Nat.le_of_ble_eq_true rfl, Nat.le_of_ble_eq_true rfl⟩ rfl rfl (Nat.le_of_ble_eq_true rfl) (Nat.le_of_ble_eq_true rfl) e2 (fun M4 e5 => (aw_astore_n (lv' := [(1, zr 64 n1), (0, zr 64 h)]) (by decide) d_X9_copy_7 rfl rfl (by decide) rfl
(aw_aload_n d_X9_copy_8 rfl rfl 0 rfl (by decide)
(aw_aload_n d_X9_copy_9 rfl rfl 1 rfl (by decide)
(aw_getI (kc := 0) d_X9_copy_10 rfl fl9_29 rfl rfl
(aw_put (kc := 0) d_X9_copy_13 rfl fp9_29 rfl rfl rfl rfl
(aw_nm fun M7 hqM7 => have e6 := e5 M7 hqM7; (aw_aload_n d_X9_copy_16 rfl rfl 0 rfl (by decide)
(aw_aload_n d_X9_copy_17 rfl rfl 1 rfl (by decide)
(aw_getI (kc := 1) d_X9_copy_18 rfl fl9_33 rfl rfl
(aw_put (kc := 1) d_X9_copy_21 rfl fp9_33 rfl rfl rfl rfl
(aw_nm fun M9 hqM9 => have e8 := e6 M9 hqM9; (aw_aload_n d_X9_copy_24 rfl rfl 0 rfl (by decide)
(aw_aload_n d_X9_copy_25 rfl rfl 1 rfl (by decide)
(aw_getI (kc := 2) d_X9_copy_26 rfl fl9_36 rfl rfl
(aw_put (kc := 2) d_X9_copy_29 rfl fp9_36 rfl rfl rfl rfl
(aw_nm fun M11 hqM11 => have e10 := e8 M11 hqM11; (aw_aload_n d_X9_copy_32 rfl rfl 0 rfl (by decide)
(aw_aload_n d_X9_copy_33 rfl rfl 1 rfl (by decide)
(aw_getI (kc := 3) d_X9_copy_34 rfl fl9_39 rfl rfl
(aw_put (kc := 3) d_X9_copy_37 rfl fp9_39 rfl rfl rfl rfl
(aw_nm fun M13 hqM13 => have e12 := e10 M13 hqM13; (aw_aload_n d_X9_copy_40 rfl rfl 0 rfl (by decide)
(aw_aload_n d_X9_copy_41 rfl rfl 1 rfl (by decide)
(aw_getI (kc := 4) d_X9_copy_42 rfl fl9_42 rfl rfl
(aw_put (kc := 4) d_X9_copy_45 rfl fp9_42 rfl rfl rfl rfl
(aw_nm fun M15 hqM15 => have e14 := e12 M15 hqM15; (aw_aload_n d_X9_copy_48 rfl rfl 0 rfl (by decide)
(aw_aload_n d_X9_copy_49 rfl rfl 1 rfl (by decide)
(aw_getI (kc := 5) d_X9_copy_50 rfl fl9_45 rfl rfl
(aw_put (kc := 5) d_X9_copy_53 rfl fp9_45 rfl rfl rfl rfl
(aw_nm fun M17 hqM17 => have e16 := e14 M17 hqM17; (aw_aload_n d_X9_copy_56 rfl rfl 0 rfl (by decide)
(aw_aload_n d_X9_copy_57 rfl rfl 1 rfl (by decide)
(aw_getI (kc := 6) d_X9_copy_58 rfl fl9_48 rfl rfl
(aw_put (kc := 6) d_X9_copy_61 rfl fp9_48 rfl rfl rfl rfl
(aw_nm fun M19 hqM19 => have e18 := e16 M19 hqM19; (aw_aload_n d_X9_copy_64 rfl rfl 1 rfl (by decide)
(have z20 := e18.1; aw_getE (kc := 7) d_X9_copy_65 rfl fl9_7 rfl rfl (by decide) z20
(fun r21 hqr21 => (have e22 := e18.2 r21 hqr21; (aw_iconst d_X9_copy_68 rfl
(aw_aload_n d_X9_copy_69 rfl rfl 0 rfl (by decide)
(have z23 := e22.1; aw_getE (kc := 7) d_X9_copy_70 rfl fl9_7 rfl rfl (by decide) z23
(fun r24 hqr24 => (have e25 := e22.2 r24 hqr24; (aw_iconst d_X9_copy_73 rfl
(aw_bipush d_X9_copy_74 rfl (by decide)
(have z26 := e25.1; have z27 := e25.2.1; have z28 := e25.2.2.1; have z29 := e25.2.2.2.1; aw_copyG d_X9_copy_76 rfl cm9_51 ⟨Nat.le_of_ble_eq_true rfl, Nat.le_of_ble_eq_true rfl⟩ (by decide : 1 < 3) zd70.G zd70.G z26 z27 z28 z29
(aw_nm fun M31 hqM31 => have e30 := e25.2.2.2.2 M31 hqM31; (aw_aload_n d_X9_copy_79 rfl rfl 1 rfl (by decide)
(have z32 := e30.1; aw_getE (kc := 8) d_X9_copy_80 rfl fl9_13 rfl rfl (by decide) z32
(fun r33 hqr33 => (have e34 := e30.2 r33 hqr33; (aw_iconst d_X9_copy_83 rfl
(aw_aload_n d_X9_copy_84 rfl rfl 0 rfl (by decide)
(have z35 := e34.1; aw_getE (kc := 8) d_X9_copy_85 rfl fl9_13 rfl rfl (by decide) z35
(fun r36 hqr36 => (have e37 := e34.2 r36 hqr36; (aw_iconst d_X9_copy_88 rfl
(aw_bipush d_X9_copy_89 rfl (by decide)
(have z38 := e37.1; have z39 := e37.2.1; have z40 := e37.2.2.1; aw_copyG d_X9_copy_91 rfl cm9_51 ⟨Nat.le_of_ble_eq_true rfl, Nat.le_of_ble_eq_true rfl⟩ (by decide : 0 < 3) zd71.G zd71.G z38 z39 z40 (fun _ _ _ => Or.inl rfl)
(aw_nm fun M42 hqM42 => have e41 := e37.2.2.2 M42 hqM42; (aw_aload_n d_X9_copy_94 rfl rfl 1 rfl (by decide)
(have z43 := e41.1; aw_getE (kc := 9) d_X9_copy_95 rfl fl9_17 rfl rfl (by decide) z43
(fun r44 hqr44 => (have e45 := e41.2 r44 hqr44; (aw_iconst d_X9_copy_98 rfl
(aw_aload_n d_X9_copy_99 rfl rfl 0 rfl (by decide)
(have z46 := e45.1; aw_getE (kc := 9) d_X9_copy_100 rfl fl9_17 rfl rfl (by decide) z46
(fun r47 hqr47 => (have e48 := e45.2 r47 hqr47; (aw_iconst d_X9_copy_103 rfl
(aw_bipush d_X9_copy_104 rfl (by decide)
(have z49 := e48.1; have z50 := e48.2.1; have z51 := e48.2.2.1; aw_copyG d_X9_copy_106 rfl cm9_51 ⟨Nat.le_of_ble_eq_true rfl, Nat.le_of_ble_eq_true rfl⟩ (by decide : 0 < 3) zd72.G zd72.G z49 z50 z51 (fun _ _ _ => Or.inl rfl)
(aw_nm fun M53 hqM53 => have e52 := e48.2.2.2 M53 hqM53; (aw_aload_n d_X9_copy_109 rfl rfl 1 rfl (by decide)
(have z54 := e52.1; aw_getE (kc := 10) d_X9_copy_110 rfl fl9_20 rfl rfl (by decide) z54
(fun r55 hqr55 => (have e56 := e52.2 r55 hqr55; (aw_iconst d_X9_copy_113 rfl
(aw_aload_n d_X9_copy_114 rfl rfl 0 rfl (by decide)
(have z57 := e56.1; aw_getE (kc := 10) d_X9_copy_115 rfl fl9_20 rfl rfl (by decide) z57
(fun r58 hqr58 => (have e59 := e56.2 r58 hqr58; (aw_iconst d_X9_copy_118 rfl
(aw_bipush d_X9_copy_119 rfl (by decide)
(have z60 := e59.1; have z61 := e59.2.1; have z62 := e59.2.2.1; aw_copyG d_X9_copy_121 rfl cm9_51 ⟨Nat.le_of_ble_eq_true rfl, Nat.le_of_ble_eq_true rfl⟩ (by decide : 0 < 3) zd73.G zd73.G z60 z61 z62 (fun _ _ _ => Or.inl rfl)
(aw_nm fun M64 hqM64 => have e63 := e59.2.2.2 M64 hqM64; (aw_aload_n d_X9_copy_124 rfl rfl 0 rfl (by decide)
(aw_aload_n d_X9_copy_125 rfl rfl 1 rfl (by decide)
(have z65 := e63.1; aw_getE (kc := 11) d_X9_copy_126 rfl fl9_24 rfl rfl (by decide) z65
(fun r66 hqr66 => (have e67 := e63.2 r66 hqr66; (aw_cloneR (k := 74) d_X9_copy_129 rfl cc9_57 zd74 ⟨Nat.le_of_ble_eq_true rfl, Nat.le_of_ble_eq_true rfl⟩ ⟨Nat.le_of_ble_eq_true rfl, Nat.le_of_ble_eq_true rfl⟩
(fun n68 hqn68 => (aw_nm fun M70 hqM70 => have e69 := e67 n68 hqn68 M70 hqM70; (aw_cast d_X9_copy_132 rfl zd74 cl9_58 (Or.inr ⟨rfl, rfl⟩)
(aw_putD (kc := 11) d_X9_copy_135 rfl (.inl fp9_24) rfl rfl (by decide) (fun _ => ⟨rfl, rfl⟩)
(aw_nm fun M72 hqM72 => have e71 := e69 M72 hqM72; (aw_aload_n d_X9_copy_138 rfl rfl 0 rfl (by decide)
(aw_rrn d_X9_copy_139 rfl (Or.inl ⟨_, rfl⟩) (by decide) e71)))))))))))))))))))))))))))))))))))))))))))))))))))))))))))))))))))))))))))))))))))))))))))))))))))))))))))
set_option maxHeartbeats 8000000 in
theorem c_X9_copy {h : Nat} (w : lH M h S) (y : zSy M) : CRn l m_X9_copy 64 7 138 [zr 64 h] M (fun a M' => Gr hK M M' ∧ zSy M' ∧ (a : Int) = M 97 0 64 ∧ M 97 0 74 ≤ M' 64 a 11 ∧ lH M' a S) := by
  obtain ⟨w0, wS⟩ := w
  have wU := lU_v w0
  refine vX9_copy fun a ha M1 e1 => ?_
  have hlt : (h : Int) < (a : Int) := by rw [ha]; exact w0.1.1
  have hna : h ≠ a := fun z => by rw [z] at hlt; exact absurd hlt (Int.lt_irrefl _)
  have hne : ¬ ((64 : Nat) = 64 ∧ h = a) := nj hna
  have A0 : M 97 0 70 = (a : Int) := y.1.trans ha.symm
  have A1 : M 97 0 71 = (a : Int) := y.2.1.trans ha.symm
  have A2 : M 97 0 72 = (a : Int) := y.2.2.1.trans ha.symm
  have A3 : M 97 0 73 = (a : Int) := y.2.2.2.trans ha.symm
  have g1 : Gr hK M M1 := by rw [e1]; exact Gr.mk (by decide) (by simp) ha
  have n1 : ∀ q : Int, q ≠ 64 → M1 97 0 q = M 97 0 q := fun q hq => by rw [e1]; exact zmk_n (by decide) hq
  have n64 : M1 97 0 64 = (a : Int) + 1 := by rw [e1]; exact zmk_c
  have B0 : M1 97 0 70 = (a : Int) := (n1 70 (by decide)).trans A0
  have B1 : M1 97 0 71 = (a : Int) := (n1 71 (by decide)).trans A1
  have B2 : M1 97 0 72 = (a : Int) := (n1 72 (by decide)).trans A2
  have B3 : M1 97 0 73 = (a : Int) := (n1 73 (by decide)).trans A3
  refine (c_X9_init (h := a) B0 B1 B2 B3).mono ?_
  intro M2 hi
  have hge : M 97 0 64 ≤ (a : Int) := Int.le_of_eq ha.symm
  have g2 := hi.gr g1 hge ⟨B0, B1, B2, B3⟩
  obtain ⟨i1, i2, i3, ⟨j7, j8, j9, j10, j11⟩, ⟨k70, k71, k72, k73, k74⟩, i6, i7⟩ := hi
  intro M3 e3 M4 e4 M5 e5 M6 e6 M7 e7 M8 e8 M9 e9
  have h2 : M2 64 h = M 64 h := g2.2.1 64 h (by decide) w0.1.1
  have o9 : ∀ k i, ¬ (k = 64 ∧ i = a) → M9 k i = M2 k i := fun k i z => by rw [e9, zu_o k i z, e8, zu_o k i z, e7, zu_o k i z, e6, zu_o k i z, e5, zu_o k i z, e4, zu_o k i z, e3, zu_o k i z]
  have h9 : M9 64 h = M 64 h := (o9 64 h hne).trans h2
  have f9 : ∀ j, M9 64 a j = if j = 6 then M 64 h 6 else if j = 5 then M 64 h 5 else if j = 4 then M 64 h 4 else if j = 3 then M 64 h 3 else if j = 2 then M 64 h 2 else if j = 1 then M 64 h 1 else if j = 0 then M 64 h 0 else M2 64 a j := by
    intro j
    have q8 : M8 64 h = M 64 h := by rw [e8, zu_o _ _ hne, e7, zu_o _ _ hne, e6, zu_o _ _ hne, e5, zu_o _ _ hne, e4, zu_o _ _ hne, e3, zu_o _ _ hne, h2]
    have q7 : M7 64 h = M 64 h := by rw [e7, zu_o _ _ hne, e6, zu_o _ _ hne, e5, zu_o _ _ hne, e4, zu_o _ _ hne, e3, zu_o _ _ hne, h2]
    have q6 : M6 64 h = M 64 h := by rw [e6, zu_o _ _ hne, e5, zu_o _ _ hne, e4, zu_o _ _ hne, e3, zu_o _ _ hne, h2]
    have q5 : M5 64 h = M 64 h := by rw [e5, zu_o _ _ hne, e4, zu_o _ _ hne, e3, zu_o _ _ hne, h2]
    have q4 : M4 64 h = M 64 h := by rw [e4, zu_o _ _ hne, e3, zu_o _ _ hne, h2]
    have q3 : M3 64 h = M 64 h := by rw [e3, zu_o _ _ hne, h2]
    rw [e9, zu_w, q8, e8, zu_w, q7, e7, zu_w, q6, e6, zu_w, q5, e5, zu_w, q4, e4, zu_w, q3, e3, zu_w, h2]
  have g9 : Gr hK M M9 := by
    rw [e9, e8, e7, e6, e5, e4, e3]
    exact ((((((g2.zu (k := 64) (i := a) (by decide) hge).zu (k := 64) (i := a) (by decide) hge).zu (k := 64) (i := a) (by decide) hge).zu (k := 64) (i := a) (by decide) hge).zu (k := 64) (i := a) (by decide) hge).zu (k := 64) (i := a) (by decide) hge).zu (k := 64) (i := a) (by decide) hge
  clear e3 e4 e5 e6 e7 e8 e9 g2
  have c9 : ∀ q : Int, M9 97 0 q = M2 97 0 q := fun q => by rw [o9 97 0 (nk (by decide))]
  have C0 := (c9 70).trans k70
  have C1 := (c9 71).trans k71
  have C2 := (c9 72).trans k72
  have C3 := (c9 73).trans k73
  have r7 : M9 64 a 7 = (a : Int) := by rw [f9]; exact j7
  have r8 : M9 64 a 8 = (a : Int) := by rw [f9]; exact j8
  have r9 : M9 64 a 9 = (a : Int) := by rw [f9]; exact j9
  have r10 : M9 64 a 10 = (a : Int) := by rw [f9]; exact j10
  have s70 : M9 70 h = M 70 h := g9.2.1 70 h (by decide) w0.1.2.1
  have s71 : M9 71 h = M 71 h := g9.2.1 71 h (by decide) w0.1.2.2.1
  have s72 : M9 72 h = M 72 h := g9.2.1 72 h (by decide) w0.1.2.2.2.1
  have s73 : M9 73 h = M 73 h := g9.2.1 73 h (by decide) w0.1.2.2.2.2
  have b1 : M9 64 h 7 = (h : Int) := by rw [h9]; exact w0.2.1.1
  have b2 : M9 64 h 8 = (h : Int) := by rw [h9]; exact w0.2.1.2.1
  have b3 : M9 64 h 9 = (h : Int) := by rw [h9]; exact w0.2.1.2.2.1
  have b4 : M9 64 h 10 = (h : Int) := by rw [h9]; exact w0.2.1.2.2.2
  have hl := lts1 hlt
  have al : (a : Int) < (a : Int) + 1 := Int.lt_succ _
  refine ⟨rb3 b1 C0 hl, fun x1 q1 => ⟨rb3 r7 C0 al, fun x2 q2 => ?_⟩⟩
  obtain rfl := nc2 q1 b1
  obtain rfl := nc2 q2 r7
  refine ⟨z21 zl7.1 zl7.1, z21a zl7.1, z21a zl7.1, fun j z1 z2 => Or.inr (Or.inl ⟨rfl, by rw [s70]; exact w0.2.2.2.2.1 j ⟨z1, z2⟩⟩), fun M10 e10 => ?_⟩
  have o10 : ∀ k i, ¬ (k = 70 ∧ i = x2) → M10 k i = M9 k i := fun k i z => by rw [e10]; exact zcq_o k i z
  rw [o10 64 x1 (nk (by decide)), o10 64 x2 (nk (by decide)), o10 97 0 (nk (by decide))]
  refine ⟨rb3 b2 C1 hl, fun x3 q3 => ⟨rb3 r8 C1 al, fun x4 q4 => ?_⟩⟩
  obtain rfl := nc2 q3 b2
  obtain rfl := nc2 q4 r8
  refine ⟨z21 zl7.2.1 zl7.2.1, z21a zl7.2.1, z21a zl7.2.1, fun M11 e11 => ?_⟩
  have o11 : ∀ k i, ¬ (k = 71 ∧ i = x4) → M11 k i = M10 k i := fun k i z => by rw [e11]; exact zcq_o k i z
  rw [o11 64 x3 (nk (by decide)), o11 64 x4 (nk (by decide)), o11 97 0 (nk (by decide)), o10 64 x3 (nk (by decide)), o10 64 x4 (nk (by decide)), o10 97 0 (nk (by decide))]
  refine ⟨rb3 b3 C2 hl, fun x5 q5 => ⟨rb3 r9 C2 al, fun x6 q6 => ?_⟩⟩
  obtain rfl := nc2 q5 b3
  obtain rfl := nc2 q6 r9
  refine ⟨z21 zl7.2.2.1 zl7.2.2.1, z21a zl7.2.2.1, z21a zl7.2.2.1, fun M12 e12 => ?_⟩
  have o12 : ∀ k i, ¬ (k = 72 ∧ i = x6) → M12 k i = M11 k i := fun k i z => by rw [e12]; exact zcq_o k i z
  rw [o12 64 x5 (nk (by decide)), o12 64 x6 (nk (by decide)), o12 97 0 (nk (by decide)), o11 64 x5 (nk (by decide)), o11 64 x6 (nk (by decide)), o11 97 0 (nk (by decide)), o10 64 x5 (nk (by decide)), o10 64 x6 (nk (by decide)), o10 97 0 (nk (by decide))]
  refine ⟨rb3 b4 C3 hl, fun x7 q7 => ⟨rb3 r10 C3 al, fun x8 q8 => ?_⟩⟩
  obtain rfl := nc2 q7 b4
  obtain rfl := nc2 q8 r10
  refine ⟨z21 zl7.2.2.2 zl7.2.2.2, z21a zl7.2.2.2, z21a zl7.2.2.2, fun M13 e13 => ?_⟩
  have o13 : ∀ k i, ¬ (k = 73 ∧ i = x8) → M13 k i = M12 k i := fun k i z => by rw [e13]; exact zcq_o k i z
  have O : ∀ k i, ¬ (k = 70 ∧ i = x8) → ¬ (k = 71 ∧ i = x8) → ¬ (k = 72 ∧ i = x8) → ¬ (k = 73 ∧ i = x8) → M13 k i = M9 k i := fun k i z1 z2 z3 z4 => by rw [o13 k i z4, o12 k i z3, o11 k i z2, o10 k i z1]
  have O97 : M13 97 0 = M9 97 0 := O 97 0 (nk (by decide)) (nk (by decide)) (nk (by decide)) (nk (by decide))
  have c74 : M13 97 0 74 = M 97 0 74 + 1 := by rw [O97, c9, k74, n1 74 (by decide)]
  have h13 : M13 64 x7 = M 64 x7 := (O 64 x7 (nk (by decide)) (nk (by decide)) (nk (by decide)) (nk (by decide))).trans h9
  have g13 : Gr hK M M13 := by
    rw [e13, e12, e11, e10]
    exact (((g9.st (k := 70) (i := x8) (by decide) (Int.le_of_eq A0) zcq_o).st (k := 71) (i := x8) (by decide) (Int.le_of_eq A1) zcq_o).st (k := 72) (i := x8) (by decide) (Int.le_of_eq A2) zcq_o).st (k := 73) (i := x8) (by decide) (Int.le_of_eq A3) zcq_o
  refine ⟨by rw [h13, c74]; exact ⟨w0.2.2.1.1, Int.lt_trans w0.2.2.1.2 (Int.lt_succ _)⟩, fun u qu v hv M14 e14 M15 e15 => ?_⟩
  have U : u = lU M x7 := nc2 qu (by rw [h13]; exact wU.symm)
  have hv1 : (v : Int) = M 97 0 74 + 1 := hv.trans c74
  have hw4 : (lU M x7 : Int) < M 97 0 74 := by rw [wU]; exact w0.2.2.1.2
  have g14 : Gr hK M M14 := by rw [e14]; exact g13.tr (Gr.mg (by decide) (by simp) hv)
  have g15 : Gr hK M M15 := by rw [e15]; exact g14.zu (k := 64) (i := x8) (by decide) hge
  have P : ∀ k i, k ≠ 97 → ¬ (k = 64 ∧ i = x8) → ¬ (k = 74 ∧ i = v) → M15 k i = M13 k i := fun k i z1 z2 z3 => by rw [e15, zu_o k i z2, e14]; exact zcl_o z3 z1
  have f15 : ∀ j, M15 64 x8 j = if j = 11 then (v : Int) else M9 64 x8 j := by
    intro j
    rw [e15, zu_w, e14, zcl_o (nk (by decide)) (by decide), O 64 x8 (nk (by decide)) (nk (by decide)) (nk (by decide)) (nk (by decide))]
  have cc : ∀ q : Int, q ≠ 74 → M15 97 0 q = M2 97 0 q := fun q hq => by
    rw [e15, zu_o _ _ (nk (by decide)), e14]
    refine (zcl_n (by decide) hq).trans ?_
    rw [O97, c9]
  have cv : M15 97 0 74 = (v : Int) + 1 := by
    rw [e15, zu_o _ _ (nk (by decide)), e14]
    exact zcl_c
  have u15 : M15 64 x8 11 = (v : Int) := by rw [f15]; rfl
  have lu : lU M15 x8 = v := by unfold lU; rw [u15, Int.toNat_natCast]
  have t15 : M15 74 v = M 74 (lU M x7) := by
    rw [e15, zu_o _ _ (nk (by decide)), e14, zcl_s (by decide), U]
    exact g13.2.1 74 _ (by decide) hw4
  have s0 : M15 64 x8 0 = M 64 x7 0 := by rw [f15, if_neg (by decide), f9]; rfl
  have z64 : M15 97 0 64 = (x8 : Int) + 1 := by rw [cc 64 (by decide), i6 64 (by decide) (by decide) (by decide) (by decide) (by decide), n64]
  have z70 : M15 97 0 70 = (x8 : Int) + 1 := by rw [cc 70 (by decide)]; exact k70
  have z71 : M15 97 0 71 = (x8 : Int) + 1 := by rw [cc 71 (by decide)]; exact k71
  have z72 : M15 97 0 72 = (x8 : Int) + 1 := by rw [cc 72 (by decide)]; exact k72
  have z73 : M15 97 0 73 = (x8 : Int) + 1 := by rw [cc 73 (by decide)]; exact k73
  have v70 : ∀ j, 0 ≤ j ∧ j < 21 → M15 70 x8 j = M 70 x7 j := fun j hj => by
    rw [P 70 x8 (by decide) (nk (by decide)) (nk (by decide)), o13 70 x8 (nk (by decide)), o12 70 x8 (nk (by decide)), o11 70 x8 (nk (by decide)), e10]
    exact (zcq_1 hj).trans (by rw [s70])
  have v71 : ∀ j, 0 ≤ j ∧ j < 21 → M15 71 x8 j = M 71 x7 j := fun j hj => by
    rw [P 71 x8 (by decide) (nk (by decide)) (nk (by decide)), o13 71 x8 (nk (by decide)), o12 71 x8 (nk (by decide)), e11]
    exact (zcq_1 hj).trans (by rw [o10 71 x7 (nk (by decide)), s71])
  have v72 : ∀ j, 0 ≤ j ∧ j < 21 → M15 72 x8 j = M 72 x7 j := fun j hj => by
    rw [P 72 x8 (by decide) (nk (by decide)) (nk (by decide)), o13 72 x8 (nk (by decide)), e12]
    exact (zcq_1 hj).trans (by rw [o11 72 x7 (nk (by decide)), o10 72 x7 (nk (by decide)), s72])
  have v73 : ∀ j, 0 ≤ j ∧ j < 21 → M15 73 x8 j = M 73 x7 j := fun j hj => by
    rw [P 73 x8 (by decide) (nk (by decide)) (nk (by decide)), e13]
    exact (zcq_1 hj).trans (by rw [o12 73 x7 (nk (by decide)), o11 73 x7 (nk (by decide)), o10 73 x7 (nk (by decide)), s73])
  have lr : ∀ t, lR M15 x8 t = lR M x7 t := fun t => by unfold lR; rw [lu, t15]
  have v75 : ∀ t, 0 ≤ t ∧ t < M 64 x7 0 → M15 75 (lR M x7 t) = M 75 (lR M x7 t) := fun t ht => g15.2.1 75 _ (by decide) (by rw [lR_v w0 ht]; exact (w0.2.2.2.2.2 t ht).1.2)
  have m20 := w0.2.2.2.1
  have lt21 : ∀ t, 0 ≤ t ∧ t < M 64 x7 0 → 0 ≤ t ∧ t < 21 := fun t ht => ⟨ht.1, Int.lt_of_lt_of_le ht.2 (Int.le_trans m20.2 (by decide))⟩
  have fe := fe7 f15 f9
  refine ⟨g15, ⟨z70.trans z64.symm, z71.trans z64.symm, z72.trans z64.symm, z73.trans z64.symm⟩, ha, ?_, ⟨⟨⟨lt1 al z64, lt1 al z70, lt1 al z71, lt1 al z72, lt1 al z73⟩, ⟨?_, ?_, ?_, ?_⟩, ?_, by rw [s0]; exact m20, fun t ht => by rw [v70 t ht]; exact w0.2.2.2.2.1 t ht, fun t ht => ?_⟩, ?_⟩⟩
  · rw [u15, hv1]; exact Int.le_of_lt (Int.lt_succ _)
  · rw [f15, if_neg (by decide)]; exact r7
  · rw [f15, if_neg (by decide)]; exact r8
  · rw [f15, if_neg (by decide)]; exact r9
  · rw [f15, if_neg (by decide)]; exact r10
  · rw [u15, cv]; exact ⟨Int.natCast_nonneg _, Int.lt_succ _⟩
  · rw [s0] at ht
    rw [lu, t15, lr, v75 t ht]
    have ff := w0.2.2.2.2.2 t ht
    exact ⟨⟨ff.1.1, Int.lt_of_lt_of_le ff.1.2 (g15.2.2.1 _)⟩, ff.2⟩
  · rw [← wS]
    exact lS_ext fe (fun t ht => v70 t (lt21 t ht)) (fun t ht => v71 t (lt21 t ht)) (fun t ht => v72 t (lt21 t ht)) (fun t ht => v73 t (lt21 t ht)) (fun t ht => by rw [lr, v75 t ht])
end
