/-! ===== the class: sums over a hall, a hall copied, history, shelves ===== -/
def sNote (S : zS) (d k : Int) : zS := (upf (upf (upf (upf (qsc S) 6 (if qsc S 5 = 0 then k else max (qsc S 6) k)) 3 (qsc S 3 + k)) 4 (qsc S 4 + d)) 5 (qsc S 5 + 1), S.2)
theorem hS_rest {M M' : zM} {h : Nat} (e0 : M' 1 h 6 = M 1 h 6) (e2 : M' 12 h = M 12 h) (e3 : M' 13 h = M 13 h) (e4 : M' 14 h = M 14 h) (e5 : M' 15 h = M 15 h) (e6 : M' 16 h = M 16 h) (e7 : M' 17 h = M 17 h) : (hS M' h).2 = (hS M h).2 := by
  unfold hS hU
  rw [e0, e2, e3, e4, e5, e6, e7]
theorem hW_rest {M M' : zM} {h : Nat} (e0 : M' 1 h 6 = M 1 h 6) (e2 : M' 12 h = M 12 h) (e4 : M' 14 h = M 14 h) (w : hW M h) : hW M' h := by
  unfold hW at w ⊢
  rw [e0, e2, e4]
  exact w
section
variable {l : Launch} {M : zM}
theorem c_X1_noteClose {h : Nat} {d k : Int} (w : hW M h) (z1 : zI (M 1 h 11)) (z2 : zI (M 1 h 12)) (z3 : zI k) : CV l m_X1_noteClose [zr 1 h, zi d, zi k] M (fun M' => Fx (kH h) M M' ∧ hW M' h ∧ hS M' h = sNote (hS M h) d k) := by
  have k1 : kH h 1 h := ⟨by omega, rfl⟩
  have key : ∀ (g : Int) (M1 M2 M3 M4 : zM), g = (if M 1 h 11 = 0 then k else max (M 1 h 12) k) → M1 = zu M 1 h 12 g → M2 = zu M1 1 h 9 ((M1 1 h 9) + k) → M3 = zu M2 1 h 10 ((M2 1 h 10) + d) → M4 = zu M3 1 h 11 ((M3 1 h 11) + 1) → Fx (kH h) M M4 ∧ hW M4 h ∧ hS M4 h = sNote (hS M h) d k := by
    intro g M1 M2 M3 M4 eg e1 e2 e3 e4
    have f : Fx (kH h) M M4 := by rw [e4, e3, e2, e1]; exact Fx.zu (Fx.zu (Fx.zu (Fx.zu Fx.rf k1) k1) k1) k1
    have r1 : ∀ j, M4 1 h j = if j = 11 then M 1 h 11 + 1 else if j = 10 then M 1 h 10 + d else if j = 9 then M 1 h 9 + k else if j = 12 then g else M 1 h j := by
      intro j
      rw [e4, zu_at, e3, zu_at, zu_at, e2, zu_at, zu_at, zu_at, e1, zu_at, zu_at, zu_at, zu_at]
      simp
    have r : ∀ q, q ≠ 1 → M4 q h = M q h := by
      intro q hq
      rw [e4, zu_k hq, e3, zu_k hq, e2, zu_k hq, e1, zu_k hq]
    have r6 : M4 1 h 6 = M 1 h 6 := by rw [r1]; simp
    refine ⟨f, hW_rest r6 (r _ (by decide)) (r _ (by decide)) w, ?_⟩
    refine Prod.ext ?_ (hS_rest r6 (r _ (by decide)) (r _ (by decide)) (r _ (by decide)) (r _ (by decide)) (r _ (by decide)) (r _ (by decide)))
    funext j
    show qsc (hS M4 h) j = upf _ _ _ _
    unfold upf
    rw [hS_sc, r1, hS_k M h (k := 5) (j := 11) (by omega) (by omega), hS_k M h (k := 6) (j := 12) (by omega) (by omega), hS_k M h (k := 3) (j := 9) (by omega) (by omega), hS_k M h (k := 4) (j := 10) (by omega) (by omega), ← eg, hS_sc]
    by_cases h5 : j = 5
    · subst h5; simp
    · by_cases h4 : j = 4
      · subst h4; simp
      · by_cases h3 : j = 3
        · subst h3; simp
        · by_cases h6 : j = 6
          · subst h6; simp
          · rw [if_neg (show ¬ 6 + j = 11 by omega), if_neg (show ¬ 6 + j = 10 by omega), if_neg (show ¬ 6 + j = 9 by omega), if_neg (show ¬ 6 + j = 12 by omega), if_neg h5, if_neg h4, if_neg h3, if_neg h6]
  refine vX1_noteClose ⟨z1, fun h0 => ⟨z2, z3, fun M1 e1 M2 e2 M3 e3 M4 e4 => key _ M1 M2 M3 M4 (by rw [if_neg h0]) e1 e2 e3 e4⟩, fun h0 M1 e1 M2 e2 M3 e3 M4 e4 => key _ M1 M2 M3 M4 (by rw [if_pos h0]) e1 e2 e3 e4⟩
theorem c_X1_clear {h : Nat} (w : hW M h) : CV l m_X1_clear [zr 1 h] M (fun M' => Fx (kH h) M M' ∧ hW M' h ∧ (∀ j, 6 ≤ j ∧ j ≤ 12 → M' 1 h j = 0)) := by
  refine vX1_clear ?_
  intro M1 e1 M2 e2 M3 e3 M4 e4 M5 e5 M6 e6 M7 e7
  have k1 : kH h 1 h := ⟨by omega, rfl⟩
  have f : Fx (kH h) M M7 := by rw [e7, e6, e5, e4, e3, e2, e1]; exact Fx.zu (Fx.zu (Fx.zu (Fx.zu (Fx.zu (Fx.zu (Fx.zu Fx.rf k1) k1) k1) k1) k1) k1) k1
  have r : ∀ q, q ≠ 1 → M7 q h = M q h := by
    intro q hq
    rw [e7, zu_k hq, e6, zu_k hq, e5, zu_k hq, e4, zu_k hq, e3, zu_k hq, e2, zu_k hq, e1, zu_k hq]
  have r1 : ∀ j, 6 ≤ j ∧ j ≤ 12 → M7 1 h j = 0 := by
    intro j hj
    rw [e7, zu_at, e6, zu_at, e5, zu_at, e4, zu_at, e3, zu_at, e2, zu_at, e1, zu_at]
    have : j = 6 ∨ j = 7 ∨ j = 8 ∨ j = 9 ∨ j = 10 ∨ j = 11 ∨ j = 12 := by omega
    rcases this with rfl | rfl | rfl | rfl | rfl | rfl | rfl <;> simp
  have r6 := r1 6 (by omega)
  refine ⟨f, ⟨by omega, fun j hj => by rw [r _ (by decide)]; exact w.2.1 j hj, fun j hj => by omega⟩, r1⟩
theorem s_X1_allUnits {h : Nat} (w : hW M h) : CI l m_X1_allUnits [zr 1 h] M (fun x M' => x = zsum (qun (hS M h)) (qn (hS M h)) ∧ M' = M) := by
  have h1 := w.1
  rw [hS_n]
  have loop : ∀ (n : Nat) (j : Int), (M 1 h 6 - j).toNat = n → 0 ≤ j ∧ j ≤ M 1 h 6 → LX1_allUnits_4 l (fun x M' => x = zsum (qun (hS M h)) (M 1 h 6) ∧ M' = M) h (zsum (qun (hS M h)) j) j M := by
    intro n
    induction n with
    | zero =>
      intro j hn hj
      have : j = M 1 h 6 := by omega
      subst this
      exact vX1_allUnits_4 ⟨by omega, by omega, fun _ => ⟨rfl, rfl⟩, fun e => by omega⟩
    | succ n ih =>
      intro j hn hj
      refine vX1_allUnits_4 ⟨by omega, by omega, fun e => by omega, fun _ => ⟨⟨w, by omega⟩, ?_⟩⟩
      rw [← zsum_s hj.1]
      exact ih (j + 1) (by omega) (by omega)
  exact vX1_allUnits (loop _ 0 rfl (by omega))
theorem s_X1_allPurses {h : Nat} (w : hW M h) : CI l m_X1_allPurses [zr 1 h] M (fun x M' => x = zsum (qpu (hS M h)) (qn (hS M h)) ∧ M' = M) := by
  have h1 := w.1
  rw [hS_n]
  have loop : ∀ (n : Nat) (j : Int), (M 1 h 6 - j).toNat = n → 0 ≤ j ∧ j ≤ M 1 h 6 → LX1_allPurses_4 l (fun x M' => x = zsum (qpu (hS M h)) (M 1 h 6) ∧ M' = M) h (zsum (qpu (hS M h)) j) j M := by
    intro n
    induction n with
    | zero =>
      intro j hn hj
      have : j = M 1 h 6 := by omega
      subst this
      exact vX1_allPurses_4 ⟨by omega, by omega, fun _ => ⟨rfl, rfl⟩, fun e => by omega⟩
    | succ n ih =>
      intro j hn hj
      refine vX1_allPurses_4 ⟨by omega, by omega, fun e => by omega, fun _ => ⟨⟨w, by omega⟩, ?_⟩⟩
      rw [← zsum_s hj.1]
      exact ih (j + 1) (by omega) (by omega)
  exact vX1_allPurses (loop _ 0 rfl (by omega))
theorem s_X1_richest {h : Nat} (w : hW M h ∧ 0 < M 1 h 6 ∧ ∀ t, zI (qpu (hS M h) t)) : CI l m_X1_richest [zr 1 h] M (fun x M' => x = zbest (qpu (hS M h)) (qn (hS M h) - 1).toNat ∧ M' = M) := by
  obtain ⟨w, h0, hz⟩ := w
  have h1 := w.1
  rw [hS_n]
  have loop : ∀ (n : Nat) (m : Nat), (M 1 h 6 - 1 - m).toNat = n → (m : Int) ≤ M 1 h 6 - 1 → LX1_richest_4 l (fun x M' => x = zbest (qpu (hS M h)) (M 1 h 6 - 1).toNat ∧ M' = M) h (zbest (qpu (hS M h)) m) ((m : Int) + 1) M := by
    intro n
    induction n with
    | zero =>
      intro m hn hm
      refine vX1_richest_4 ⟨by omega, by omega, fun _ => ⟨?_, rfl⟩, fun e => by omega⟩
      rw [show (M 1 h 6 - 1).toNat = m by omega]
    | succ n ih =>
      intro m hn hm
      have hb := zbest_in (qpu (hS M h)) m
      refine vX1_richest_4 ⟨by omega, by omega, fun e => by omega, fun _ => ⟨⟨w, by omega⟩, ⟨w, by omega⟩, hz _, hz _, fun e => ?_, fun e => ?_⟩⟩
      · have ih2 := ih (m + 1) (by omega) (by omega)
        rw [zbest, if_neg (by omega)] at ih2
        exact ih2
      · have ih2 := ih (m + 1) (by omega) (by omega)
        rw [zbest, if_pos e] at ih2
        exact ih2
  exact vX1_richest (loop _ 0 rfl (by omega))
theorem c_X1_copyFrom {h h1 : Nat} (w : hW M h1) (hne : h ≠ h1) : CV l m_X1_copyFrom [zr 1 h, zr 1 h1] M (fun M' => Fx (kH h) M M' ∧ hW M' h ∧ hS M' h = hS M h1) := by
  have hn := w.1
  have k1 : kH h 1 h := ⟨by omega, rfl⟩
  have k13 : kH h 13 h := ⟨by omega, rfl⟩
  have k14 : kH h 14 h := ⟨by omega, rfl⟩
  have k15 : kH h 15 h := ⟨by omega, rfl⟩
  have k16 : kH h 16 h := ⟨by omega, rfl⟩
  have k17 : kH h 17 h := ⟨by omega, rfl⟩
  have loop : ∀ (n : Nat) (j : Int) (M' : zM), (20 - j).toNat = n → 0 ≤ j ∧ j ≤ 20 → (∀ k i, ¬ (k = 12 ∧ i = h) → M' k i = M k i) → (∀ q, 0 ≤ q ∧ q < j → M' 12 h q = M 12 h1 q) → LX1_copyFrom_7 l (fun M' => Fx (kH h) M M' ∧ hW M' h ∧ hS M' h = hS M h1) h h1 j M' := by
    intro n
    induction n with
    | zero =>
      intro j M' hn' hj hk h12
      have hj' : j = 20 := by omega
      subst hj'
      refine vX1_copyFrom_7 ⟨by omega, fun _ => ?_, fun e => by omega⟩
      intro M1 e1 M2 e2 M3 e3 M4 e4 M5 e5 M6 e6 M7 e7 M8 e8 M9 e9 M10 e10 M11 e11 M12 e12
      have f0 : Fx (kH h) M M' := fun k i q => hk k i (fun z => q ⟨by omega, z.2⟩)
      have f : Fx (kH h) M M12 := by
        rw [e12, e11, e10, e9, e8, e7, e6, e5, e4, e3, e2, e1]
        exact Fx.zu (Fx.zu (Fx.zu (Fx.zu (Fx.zu (Fx.zu (Fx.zu (Fx.cp (Fx.cp (Fx.cp (Fx.cp (Fx.cp f0 k13) k14) k15) k16) k17) k1) k1) k1) k1) k1) k1) k1
      have s1 : ∀ q i, i ≠ h → M' q i = M q i := fun q i hi => hk q i (fun z => hi z.2)
      have hne' : h1 ≠ h := fun q => hne q.symm
      -- the source's fields all along
      have a5 : M5 1 h1 = M 1 h1 := by rw [e5, zcp_i hne', e4, zcp_i hne', e3, zcp_i hne', e2, zcp_i hne', e1, zcp_i hne', s1 _ _ hne']
      have a6 : M6 1 h1 = M 1 h1 := by rw [e6, zu_i hne', a5]
      have a7 : M7 1 h1 = M 1 h1 := by rw [e7, zu_i hne', a6]
      have a8 : M8 1 h1 = M 1 h1 := by rw [e8, zu_i hne', a7]
      have a9 : M9 1 h1 = M 1 h1 := by rw [e9, zu_i hne', a8]
      have a10 : M10 1 h1 = M 1 h1 := by rw [e10, zu_i hne', a9]
      have a11 : M11 1 h1 = M 1 h1 := by rw [e11, zu_i hne', a10]
      have r1 : ∀ q, 6 ≤ q ∧ q ≤ 12 → M12 1 h q = M 1 h1 q := by
        intro q hq
        rw [e12, zu_at, a11, e11, zu_at, a10, e10, zu_at, a9, e9, zu_at, a8, e8, zu_at, a7, e7, zu_at, a6, e6, zu_at, a5]
        have : q = 6 ∨ q = 7 ∨ q = 8 ∨ q = 9 ∨ q = 10 ∨ q = 11 ∨ q = 12 := by omega
        rcases this with rfl | rfl | rfl | rfl | rfl | rfl | rfl <;> simp
      have up5 : ∀ q, q ≠ 1 → M12 q h = M5 q h := by
        intro q hq
        rw [e12, zu_k hq, e11, zu_k hq, e10, zu_k hq, e9, zu_k hq, e8, zu_k hq, e7, zu_k hq, e6, zu_k hq]
      have r12 : ∀ q, 0 ≤ q ∧ q < 20 → M12 12 h q = M 12 h1 q := by
        intro q hq
        rw [up5 _ (by decide), e5, zcp_k (by decide), e4, zcp_k (by decide), e3, zcp_k (by decide), e2, zcp_k (by decide), e1, zcp_k (by decide)]
        exact h12 q hq
      have r13 : ∀ q, 0 ≤ q ∧ q < 20 → M12 13 h q = M 13 h1 q := by
        intro q hq
        rw [up5 _ (by decide), e5, zcp_k (by decide), e4, zcp_k (by decide), e3, zcp_k (by decide), e2, zcp_k (by decide), e1, zcp_at, if_pos hq, s1 _ _ hne']
      have r14 : ∀ q, 0 ≤ q ∧ q < 20 → M12 14 h q = M 14 h1 q := by
        intro q hq
        rw [up5 _ (by decide), e5, zcp_k (by decide), e4, zcp_k (by decide), e3, zcp_k (by decide), e2, zcp_at, if_pos hq, e1, zcp_i hne', s1 _ _ hne']
      have r15 : ∀ q, 0 ≤ q ∧ q < 80 → M12 15 h q = M 15 h1 q := by
        intro q hq
        rw [up5 _ (by decide), e5, zcp_k (by decide), e4, zcp_k (by decide), e3, zcp_at, if_pos hq, e2, zcp_i hne', e1, zcp_i hne', s1 _ _ hne']
      have r16 : ∀ q, 0 ≤ q ∧ q < 20 → M12 16 h q = M 16 h1 q := by
        intro q hq
        rw [up5 _ (by decide), e5, zcp_k (by decide), e4, zcp_at, if_pos hq, e3, zcp_i hne', e2, zcp_i hne', e1, zcp_i hne', s1 _ _ hne']
      have r17 : ∀ q, 0 ≤ q ∧ q < 20 → M12 17 h q = M 17 h1 q := by
        intro q hq
        rw [up5 _ (by decide), e5, zcp_at, if_pos hq, e4, zcp_i hne', e3, zcp_i hne', e2, zcp_i hne', e1, zcp_i hne', s1 _ _ hne']
      have r6 := r1 6 (by omega)
      refine ⟨f, ⟨by omega, fun t ht => by rw [r12 t ht]; exact w.2.1 t ht, fun t ht => by rw [r14 t (by omega)]; exact w.2.2 t (by omega)⟩, hS_is (fun k hk => ?_) (fun k hk => ?_) (fun t ht => ?_) (fun t ht => ?_) (fun t u hu => ?_) (fun t u hu => ?_)⟩
      · rw [r1 _ (by omega), hS_sc, if_pos hk]
      · rw [hS_sc, if_neg hk]
      · rw [r6] at ht
        rw [r12 t (by omega), r13 t (by omega), r14 t (by omega), r16 t (by omega), r17 t (by omega), hS_sl, hS_gr, hS_un, hS_pu, hS_tr]
        simp [ht]
      · rw [r6] at ht
        rw [hS_sl, hS_gr, hS_un, hS_pu, hS_tr]
        simp [ht]
      · obtain ⟨u1, u2, u3, u4⟩ := hu
        rw [r6] at u2
        have h3 := w.2.2 t ⟨u1, u2⟩
        rw [r14 t (by omega)] at u4
        rw [r15 _ (by omega), hS_sy, if_pos ⟨u1, u2, u3, u4⟩]
      · rw [hS_sy, if_neg]
        rintro ⟨u1, u2, u3, u4⟩
        exact hu ⟨u1, by omega, u3, by rw [r14 t (by omega)]; exact u4⟩
    | succ n ih =>
      intro j M' hn' hj hk h12
      have hb : M' 12 h1 = M 12 h1 := hk _ _ (fun z => hne z.2.symm)
      refine vX1_copyFrom_7 ⟨by omega, fun e => by omega, fun _ => ⟨by omega, by rw [hb]; exact w.2.1 j (by omega), ?_⟩⟩
      intro M2 e2
      refine ih (j + 1) M2 (by omega) (by omega) (fun k i hki => by rw [e2, zu_o _ _ hki, hk _ _ hki]) (fun q hq => ?_)
      rw [e2, zu_at, hb]
      by_cases hqj : q = j
      · rw [if_pos hqj, hqj]
      · rw [if_neg hqj]; exact h12 q (by omega)
  exact vX1_copyFrom (loop _ 0 M rfl (by omega) (fun _ _ _ => rfl) (fun q hq => by omega))
end

