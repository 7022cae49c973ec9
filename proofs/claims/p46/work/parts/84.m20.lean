/-! ===== the law's market ===== -/
/-- a row of triples, by keys -/
def rK (M : zM) (b : Nat) (m : Int) (K pr : Int → Int) : Prop := ∀ j, 0 ≤ j ∧ j < m → (0 ≤ M 76 b j ∧ M 76 b j < M 97 0 77) ∧ M 77 (M 76 b j).toNat 0 = ktr (K j) ∧ M 77 (M 76 b j).toNat 2 = pr (K j)
/-- like ones stay in order -/
def kSt (m : Int) (K : Int → Int) (P : Int → Prop) : Prop := (∀ i j, 0 ≤ i → i < j → j < m → K i / 80 = K j / 80 → K i < K j) ∧ ∀ x, (∃ j, (0 ≤ j ∧ j < m) ∧ K j = x) ↔ P x
def kSd (m p k : Int) (K : Int → Int) : Prop := ∀ j, 0 ≤ j → j < m → (j = k ∨ m - p ≤ j ∨ (m - p - 1 ≤ j ∧ j ≤ k)) → ∀ i, 0 ≤ i → i ≤ j → K i / 80 ≤ K j / 80
def kSw (K : Int → Int) (k : Int) : Int → Int := fun j => if j = k then K (k + 1) else if j = k + 1 then K k else K j
theorem kSw_0 {K : Int → Int} {k : Int} : kSw K k k = K (k + 1) := if_pos rfl
theorem kSw_1 {K : Int → Int} {k : Int} : kSw K k (k + 1) = K k := (if_neg (by omega)).trans (if_pos rfl)
theorem kSw_o {K : Int → Int} {k j : Int} (h0 : j ≠ k) (h1 : j ≠ k + 1) : kSw K k j = K j := (if_neg h0).trans (if_neg h1)
theorem kSt.sw {m k : Int} {K : Int → Int} {P : Int → Prop} (h : kSt m K P) (hk : 0 ≤ k ∧ k + 1 < m) (c : K (k + 1) / 80 < K k / 80) : kSt m (kSw K k) P := by
  refine ⟨fun i j hi hij hj e => ?_, fun x => ⟨?_, ?_⟩⟩
  · by_cases i0 : i = k
    · subst i0
      rw [kSw_0] at e ⊢
      by_cases j1 : j = i + 1
      · subst j1
        rw [kSw_1] at e
        omega
      · rw [kSw_o (by omega) j1] at e ⊢
        exact h.1 (i + 1) j (by omega) (by omega) hj e
    · by_cases i1 : i = k + 1
      · subst i1
        rw [kSw_1] at e ⊢
        rw [kSw_o (by omega) (by omega)] at e ⊢
        exact h.1 k j (by omega) (by omega) hj e
      · rw [kSw_o i0 i1] at e ⊢
        by_cases j0 : j = k
        · subst j0
          rw [kSw_0] at e ⊢
          exact h.1 i (j + 1) hi (by omega) hk.2 e
        · by_cases j1 : j = k + 1
          · subst j1
            rw [kSw_1] at e ⊢
            exact h.1 i k hi (by omega) (by omega) e
          · rw [kSw_o j0 j1] at e ⊢
            exact h.1 i j hi hij hj e
  · rintro ⟨j, hj, rfl⟩
    refine (h.2 _).mp ?_
    by_cases j0 : j = k
    · subst j0; exact ⟨j + 1, by omega, kSw_0.symm⟩
    · by_cases j1 : j = k + 1
      · subst j1; exact ⟨k, by omega, kSw_1.symm⟩
      · exact ⟨j, hj, (kSw_o j0 j1).symm⟩
  · intro hx
    obtain ⟨j, hj, rfl⟩ := (h.2 x).mpr hx
    by_cases j0 : j = k
    · subst j0; exact ⟨j + 1, by omega, kSw_1⟩
    · by_cases j1 : j = k + 1
      · subst j1; exact ⟨k, by omega, kSw_0⟩
      · exact ⟨j, hj, kSw_o j0 j1⟩
theorem kSd.nx {m p k : Int} {K : Int → Int} (h : kSd m p k K) (hk : 0 ≤ k ∧ k + 1 < m) (c : K k / 80 ≤ K (k + 1) / 80) : kSd m p (k + 1) K := by
  intro j h0 h1 hj i hi hij
  by_cases e : j = k + 1
  · subst e
    by_cases e2 : i = k + 1
    · rw [e2]; exact Int.le_refl _
    · exact Int.le_trans (h k hk.1 (by omega) (.inl rfl) i hi (by omega)) c
  · exact h j h0 h1 (by omega) i hi hij
theorem kSd.sw {m p k : Int} {K : Int → Int} (h : kSd m p k K) (hk : 0 ≤ k ∧ k + 1 < m) (c : K (k + 1) / 80 < K k / 80) : kSd m p (k + 1) (kSw K k) := by
  have hp : k + 1 < m - p := by
    by_cases q : k + 1 < m - p
    · exact q
    · have := h (k + 1) (by omega) hk.2 (by omega) k hk.1 (by omega)
      omega
  intro j h0 h1 hj i hi hij
  by_cases e : j = k + 1
  · subst e
    rw [kSw_1]
    by_cases i1 : i = k + 1
    · rw [i1, kSw_1]; exact Int.le_refl _
    · by_cases i0 : i = k
      · rw [i0, kSw_0]; omega
      · rw [kSw_o i0 i1]
        exact h k hk.1 (by omega) (.inl rfl) i hi (by omega)
  · have hj' : m - p ≤ j := by omega
    rw [kSw_o (by omega) e]
    by_cases i1 : i = k + 1
    · rw [i1, kSw_1]; exact h j h0 h1 (.inr (.inl hj')) k hk.1 (by omega)
    · by_cases i0 : i = k
      · rw [i0, kSw_0]; exact h j h0 h1 (.inr (.inl hj')) (k + 1) (by omega) (by omega)
      · rw [kSw_o i0 i1]
        exact h j h0 h1 (.inr (.inl hj')) i hi hij
/-- in order at last: the row of its keys -/
theorem kSt.row {m : Int} {K : Int → Int} {P : Int → Prop} (h : kSt m K P) (s : kSd m m 0 K) (hm : 0 ≤ m) : isRow ((List.range m.toNat).map fun j : Nat => K (j : Int)) P := by
  refine ⟨?_, fun x => ?_⟩
  · rw [List.pairwise_map]
    refine List.Pairwise.imp_of_mem ?_ List.pairwise_lt_range
    intro i j hi hj hij
    rw [List.mem_range] at hi hj
    have a := s (j : Int) (by omega) (by omega) (.inr (.inl (by omega))) (i : Int) (by omega) (by omega)
    have b := h.1 (i : Int) (j : Int) (by omega) (by omega) (by omega)
    by_cases e : K (i : Int) / 80 = K (j : Int) / 80
    · exact b e
    · omega
  · rw [← h.2 x]
    simp only [List.mem_map, List.mem_range]
    constructor
    · rintro ⟨j, hj, e⟩
      exact ⟨(j : Int), by omega, e⟩
    · rintro ⟨j, hj, e⟩
      exact ⟨j.toNat, by omega, by rw [Int.toNat_of_nonneg hj.1]; exact e⟩
section
variable {l : Launch} {M : zM}
def LX10_orders_2 (l : Launch) (P : zM → Prop) (s0 : Nat) (v1 : Int) (v2 : Int) (v3 : Int) (M : zM) : Prop := AW l m_X10_orders (zTv m_X10_orders P) 2 [(0, zr 76 s0), (1, zi v1), (2, zi v2), (3, zi v3)] [] M
def LX10_orders_10 (l : Launch) (P : zM → Prop) (s0 : Nat) (v1 : Int) (v2 : Int) (v3 : Int) (v4 : Int) (M : zM) : Prop := AW l m_X10_orders (zTv m_X10_orders P) 10 [(0, zr 76 s0), (1, zi v1), (2, zi v2), (3, zi v3), (4, zi v4)] [] M
theorem vX10_orders_2 {l : Launch} {P : zM → Prop} {s0 : Nat} {v1 : Int} {v2 : Int} {v3 : Int} {M : zM}
    (H0 : (zI v3 ∧ zI v1 ∧ ((v1 ≤ v3 → P M) ∧ (v3 < v1 → LX10_orders_10 l P s0 v1 v2 v3 0 M)))) :
    LX10_orders_2 l P s0 v1 v2 v3 M :=
(aw_iload_n d_X10_orders_2 rfl rfl 3 rfl
(aw_iload_n d_X10_orders_3 rfl rfl 1 rfl
(have z1 := H0.1; have z2 := H0.2.1; have e3 := H0.2.2; aw_icmp_ge d_X10_orders_4 rfl rfl z1 z2 (fun c4 => have e6 := e3.1 c4; (aw_rv d_X10_orders_78 rfl e6)) (fun c5 => have e7 := e3.2 c5; (aw_iconst d_X10_orders_7 rfl
(aw_istore (lv' := [(4, zi 0), (0, zr 76 s0), (1, zi v1), (2, zi v2), (3, zi v3)]) d_X10_orders_8 rfl (by decide) rfl
(aw_sub [1, 2, 3, 4, 0] rfl e7)))))))
theorem vX10_orders_10 {l : Launch} {P : zM → Prop} {s0 : Nat} {v1 : Int} {v2 : Int} {v3 : Int} {v4 : Int} {M : zM}
    (H0 : (zI (v4 + 1) ∧ zI v1 ∧ ((v1 ≤ (v4 + 1) → LX10_orders_2 l P s0 v1 v2 (v3 + 1) M) ∧ ((v4 + 1) < v1 → ((0 ≤ v4 ∧ v4 < 81) ∧ (0 ≤ M 76 s0 v4 ∧ M 76 s0 v4 < M 97 0 77) ∧ ∀ r17 : Nat, (r17 : Int) = M 76 s0 v4 → ((0 ≤ (v4 + 1) ∧ (v4 + 1) < 81) ∧ (0 ≤ M 76 s0 (v4 + 1) ∧ M 76 s0 (v4 + 1) < M 97 0 77) ∧ ∀ r21 : Nat, (r21 : Int) = M 76 s0 (v4 + 1) → (zI (v2 * (M 77 r17 2)) ∧ zI (v2 * (M 77 r21 2)) ∧ (((v2 * (M 77 r21 2)) < (v2 * (M 77 r17 2)) → (∀ M31 : zM, M31 = zu M 76 s0 v4 (r21 : Int) → (∀ M33 : zM, M33 = zu M31 76 s0 (v4 + 1) (r17 : Int) → LX10_orders_10 l P s0 v1 v2 v3 (v4 + 1) M33))) ∧ ((v2 * (M 77 r17 2)) ≤ (v2 * (M 77 r21 2)) → LX10_orders_10 l P s0 v1 v2 v3 (v4 + 1) M))))))))) :
    LX10_orders_10 l P s0 v1 v2 v3 v4 M :=
(aw_iload d_X10_orders_10 rfl 4 rfl
(aw_iconst d_X10_orders_12 rfl
(aw_iadd d_X10_orders_13 rfl
(aw_iload_n d_X10_orders_14 rfl rfl 1 rfl
(have z8 := H0.1; have z9 := H0.2.1; have e10 := H0.2.2; aw_icmp_ge d_X10_orders_15 rfl rfl z8 z9 (fun c11 => have e13 := e10.1 c11; (aw_iinc (lv' := [(3, zi (v3 + 1)), (0, zr 76 s0), (1, zi v1), (2, zi v2), (4, zi v4)]) (y := (v3 + 1)) d_X10_orders_72 rfl 3 rfl (by decide) rfl rfl
(aw_goto d_X10_orders_75 rfl
(aw_sub [1, 2, 3, 0] rfl e13)))) (fun c12 => have e14 := e10.2 c12; (aw_iload_n d_X10_orders_18 rfl rfl 2 rfl
(aw_aload_n d_X10_orders_19 rfl rfl 0 rfl (by decide)
(aw_iload d_X10_orders_20 rfl 4 rfl
(have z15 := e14.1; have z16 := e14.2.1; aw_rale d_X10_orders_22 rfl zd76.G (by decide) (zix_s z15) z16
(fun r17 hqr17 => (have e18 := e14.2.2 r17 hqr17; (aw_iconst d_X10_orders_23 rfl
(aw_ialdG d_X10_orders_24 rfl zd77.G (zix_s (by decide))
(aw_imul d_X10_orders_25 rfl
(aw_iload_n d_X10_orders_26 rfl rfl 2 rfl
(aw_aload_n d_X10_orders_27 rfl rfl 0 rfl (by decide)
(aw_iload d_X10_orders_28 rfl 4 rfl
(aw_iconst d_X10_orders_30 rfl
(aw_iadd d_X10_orders_31 rfl
(have z19 := e18.1; have z20 := e18.2.1; aw_rale d_X10_orders_32 rfl zd76.G (by decide) (zix_s z19) z20
(fun r21 hqr21 => (have e22 := e18.2.2 r21 hqr21; (aw_iconst d_X10_orders_33 rfl
(aw_ialdG d_X10_orders_34 rfl zd77.G (zix_s (by decide))
(aw_imul d_X10_orders_35 rfl
(have z23 := e22.1; have z24 := e22.2.1; have e25 := e22.2.2; aw_icmp_gt d_X10_orders_36 rfl rfl z23 z24 (fun c26 => have e28 := e25.1 c26; (aw_aload_n d_X10_orders_42 rfl rfl 0 rfl (by decide)
(aw_iload d_X10_orders_43 rfl 4 rfl
(aw_raleq (r := r17) d_X10_orders_45 rfl zd76.G (by decide) (zix_s z15) z16 hqr17
(aw_astore (lv' := [(5, zr 77 r17), (0, zr 76 s0), (1, zi v1), (2, zi v2), (3, zi v3), (4, zi v4)]) (by decide) d_X10_orders_46 rfl (by decide) rfl
(aw_aload_n d_X10_orders_48 rfl rfl 1 rfl (by decide)
(aw_iload d_X10_orders_49 rfl 5 rfl
(aw_aload_n d_X10_orders_51 rfl rfl 1 rfl (by decide)
(aw_iload d_X10_orders_52 rfl 5 rfl
(aw_iconst d_X10_orders_54 rfl
(aw_iadd d_X10_orders_55 rfl
(aw_raleq (r := r21) d_X10_orders_56 rfl zd76.G (by decide) (zix_s z19) z20 hqr21
(aw_rast d_X10_orders_57 rfl zd76.G zd77.G (by decide) (zix_s z15)
(aw_nm fun M31 hqM31 => have e30 := e28 M31 hqM31; (aw_aload_n d_X10_orders_58 rfl rfl 1 rfl (by decide)
(aw_iload d_X10_orders_59 rfl 5 rfl
(aw_iconst d_X10_orders_61 rfl
(aw_iadd d_X10_orders_62 rfl
(aw_aload d_X10_orders_63 rfl 0 rfl (by decide)
(aw_rast d_X10_orders_65 rfl zd76.G zd77.G (by decide) (zix_s z19)
(aw_nm fun M33 hqM33 => have e32 := e30 M33 hqM33; (aw_iinc (lv' := [(4, zi (v4 + 1)), (5, zr 77 r17), (0, zr 76 s0), (1, zi v1), (2, zi v2), (3, zi v3)]) (y := (v4 + 1)) d_X10_orders_66 rfl 5 rfl (by decide) rfl rfl
(aw_goto d_X10_orders_69 rfl
(aw_sub [2, 3, 4, 5, 0] rfl e32)))))))))))))))))))))))) (fun c27 => have e29 := e25.2 c27; (aw_goto d_X10_orders_39 rfl
(aw_iinc (lv' := [(4, zi (v4 + 1)), (0, zr 76 s0), (1, zi v1), (2, zi v2), (3, zi v3)]) (y := (v4 + 1)) d_X10_orders_66 rfl 4 rfl (by decide) rfl rfl
(aw_goto d_X10_orders_69 rfl
(aw_sub [1, 2, 3, 4, 0] rfl e29))))))))))))))))))))))))))))))))
theorem vX10_orders {l : Launch} {P : zM → Prop} {s0 : Nat} {v1 : Int} {v2 : Int} {M : zM}
    (H0 : LX10_orders_2 l P s0 v1 v2 0 M) :
    CV l m_X10_orders [zr 76 s0, zi v1, zi v2] M P :=
(aw_iconst d_X10_orders_0 rfl
(aw_istore_n (lv' := [(3, zi 0), (0, zr 76 s0), (1, zi v1), (2, zi v2)]) d_X10_orders_1 rfl rfl (by decide) rfl
(aw_sub [1, 2, 3, 0] rfl H0)))
def oF (M M' : zM) (b : Nat) : Prop := ∀ k i, ¬ (k = 76 ∧ i = b) → M' k i = M k i
abbrev oP (M : zM) (b : Nat) (m : Int) (pr : Int → Int) (P : Int → Prop) : zM → Prop := fun M' => oF M M' b ∧ ∃ K, rK M' b m K pr ∧ kSt m K P ∧ kSd m m 0 K
theorem orders_10 {b : Nat} {m w p : Int} {pr : Int → Int} {P : Int → Prop} (hm : 0 ≤ m ∧ m ≤ 80) (hp : 0 ≤ p ∧ p < m) (hw : ∀ x y, w * pr x ≤ w * pr y ↔ x / 80 ≤ y / 80) (hz : ∀ x, P x → zI (w * pr x))
    (nx : ∀ M2 K, oF M M2 b → rK M2 b m K pr → kSt m K P → kSd m p (m - 1) K → LX10_orders_2 l (oP M b m pr P) b m w (p + 1) M2) :
    ∀ (f k : Nat) (M1 : zM) (K : Int → Int), (k : Int) + f + 1 = m → oF M M1 b → rK M1 b m K pr → kSt m K P → kSd m p k K → LX10_orders_10 l (oP M b m pr P) b m w p k M1 := by
  intro f
  induction f with
  | zero =>
    intro k M1 K hk F R St Sd
    refine vX10_orders_10 ⟨by omega, by omega, fun _ => nx M1 K F R St ?_, fun q => absurd q (by omega)⟩
    rw [show m - 1 = (k : Int) by omega]
    exact Sd
  | succ f ih =>
    intro k M1 K hk F R St Sd
    obtain ⟨a1, a2, a3⟩ := R (k : Int) (by omega)
    obtain ⟨b1, b2, b3⟩ := R ((k : Int) + 1) (by omega)
    refine vX10_orders_10 ⟨by omega, by omega, fun q => absurd q (by omega), fun _ => ⟨by omega, a1, fun x hx => ⟨by omega, b1, fun y hy => ?_⟩⟩⟩
    have ex : x = (M1 76 b (k : Int)).toNat := by omega
    have ey : y = (M1 76 b ((k : Int) + 1)).toNat := by omega
    rw [ex, ey, a3, b3]
    refine ⟨hz _ ((St.2 _).mp ⟨(k : Int), by omega, rfl⟩), hz _ ((St.2 _).mp ⟨(k : Int) + 1, by omega, rfl⟩), fun q M2 e2 M3 e3 => ?_, fun q => ?_⟩
    · have c : K ((k : Int) + 1) / 80 < K (k : Int) / 80 := Int.not_le.mp fun z => absurd ((hw _ _).mpr z) (Int.not_le.mpr q)
      have o : ∀ k' i', ¬ (k' = 76 ∧ i' = b) → M3 k' i' = M1 k' i' := fun k' i' z => by rw [e3, zu_o k' i' z, e2, zu_o k' i' z]
      have v : ∀ j, M3 76 b j = if j = (k : Int) + 1 then M1 76 b (k : Int) else if j = (k : Int) then M1 76 b ((k : Int) + 1) else M1 76 b j := fun j => by
        rw [e3, zu_w, e2, zu_w, ← ex, ← ey, hx, hy]
      have := ih (k + 1) M3 (kSw K k) (by omega) (fun k' i' z => (o k' i' z).trans (F k' i' z)) (fun j hj => ?_) (St.sw (by omega) c) (by
        have := Sd.sw (by omega) c
        rw [show ((k + 1 : Nat) : Int) = (k : Int) + 1 by omega]
        exact this)
      · rw [show ((k + 1 : Nat) : Int) = (k : Int) + 1 by omega] at this
        exact this
      · rw [v, o 97 0 (nk (by decide))]
        by_cases c1 : j = (k : Int) + 1
        · rw [if_pos c1, c1, kSw_1, o 77 _ (nk (by decide))]
          exact ⟨a1, a2, a3⟩
        · rw [if_neg c1]
          by_cases c0 : j = (k : Int)
          · rw [if_pos c0, c0, kSw_0, o 77 _ (nk (by decide))]
            exact ⟨b1, b2, b3⟩
          · rw [if_neg c0, kSw_o c0 c1, o 77 _ (nk (by decide))]
            exact R j hj
    · have := ih (k + 1) M1 K (by omega) F R St (by
        rw [show ((k + 1 : Nat) : Int) = (k : Int) + 1 by omega]
        exact Sd.nx (by omega) ((hw _ _).mp q))
      rw [show ((k + 1 : Nat) : Int) = (k : Int) + 1 by omega] at this
      exact this
theorem orders_2 {b : Nat} {m w : Int} {pr : Int → Int} {P : Int → Prop} (hm : 0 ≤ m ∧ m ≤ 80) (hw : ∀ x y, w * pr x ≤ w * pr y ↔ x / 80 ≤ y / 80) (hz : ∀ x, P x → zI (w * pr x)) :
    ∀ (f p : Nat) (M1 : zM) (K : Int → Int), (p : Int) + f = m → oF M M1 b → rK M1 b m K pr → kSt m K P → kSd m p 0 K → LX10_orders_2 l (oP M b m pr P) b m w p M1 := by
  intro f
  induction f with
  | zero =>
    intro p M1 K hp F R St Sd
    refine vX10_orders_2 ⟨by omega, by omega, fun _ => ⟨F, K, R, St, ?_⟩, fun q => absurd q (by omega)⟩
    rw [show (p : Int) = m by omega] at Sd
    exact Sd
  | succ f ih =>
    intro p M1 K hp F R St Sd
    refine vX10_orders_2 ⟨by omega, by omega, fun q => absurd q (by omega), fun _ => ?_⟩
    have := orders_10 (l := l) (M := M) (b := b) (p := p) hm (by omega) hw hz (fun M2 K2 F2 R2 St2 Sd2 => by
      have := ih (p + 1) M2 K2 (by omega) F2 R2 St2 (fun j h0 h1 hj i hi hij => by
        by_cases c : j = 0
        · rw [show i = j by omega]
          exact Int.le_refl _
        · exact Sd2 j h0 h1 (by omega) i hi hij)
      rw [show ((p + 1 : Nat) : Int) = (p : Int) + 1 by omega] at this
      exact this) (m - 1).toNat 0 M1 K (by omega) F R St Sd
    exact this
theorem c_orders {b : Nat} {m w : Int} {K pr : Int → Int} {P : Int → Prop} (hm : 0 ≤ m ∧ m ≤ 80) (hw : ∀ x y, w * pr x ≤ w * pr y ↔ x / 80 ≤ y / 80) (hz : ∀ x, P x → zI (w * pr x)) (R : rK M b m K pr) (St : kSt m K P) :
    CV l m_X10_orders [zr 76 b, zi m, zi w] M (oP M b m pr P) := by
  refine vX10_orders ?_
  refine orders_2 hm hw hz m.toNat 0 M K (by omega) (fun _ _ _ => rfl) R St fun j h0 h1 hj i hi hij => ?_
  have : i = j := by omega
  rw [this]
  exact Int.le_refl _
end
