/-! ===== the class: a hall is written ===== -/
abbrev qU (S : zS) (t u : Int) : Prop := 0 ≤ t ∧ t < qn S ∧ 0 ≤ u ∧ u < qun S t
/-- a value v at the unit u goes on as told with those beside it -/
abbrev fitP (S : zS) (t u v : Int) : Prop :=
  (qU S t (u - 1) → (qsl S t = 1 → qsy S t (u - 1) ≤ v) ∧ (¬ qsl S t = 1 → v ≤ qsy S t (u - 1))) ∧
  (qU S t (u + 1) → (qsl S t = 1 → v ≤ qsy S t (u + 1)) ∧ (¬ qsl S t = 1 → qsy S t (u + 1) ≤ v))
theorem hU_q {M : zM} {h : Nat} {t u : Int} : hU M h t u ↔ qU (hS M h) t u := by
  unfold qU hU
  rw [hS_n, hS_un]
  by_cases h1 : 0 ≤ t ∧ t < M 1 h 6
  · rw [if_pos h1]
  · constructor
    · rintro ⟨a, b, -⟩; exact absurd ⟨a, b⟩ h1
    · rintro ⟨a, b, -⟩; exact absurd ⟨a, b⟩ h1
theorem hS_is {M : zM} {h : Nat} {S : zS} (h0 : ∀ k, 0 ≤ k ∧ k < 7 → M 1 h (6 + k) = qsc S k) (h0' : ∀ k, ¬ (0 ≤ k ∧ k < 7) → qsc S k = 0)
    (h1 : ∀ t, 0 ≤ t ∧ t < M 1 h 6 → M 12 h t = qsl S t ∧ M 13 h t = qgr S t ∧ M 14 h t = qun S t ∧ M 16 h t = qpu S t ∧ M 17 h t = qtr S t)
    (h1' : ∀ t, ¬ (0 ≤ t ∧ t < M 1 h 6) → qsl S t = 0 ∧ qgr S t = 0 ∧ qun S t = 0 ∧ qpu S t = 0 ∧ qtr S t = 0)
    (h2 : ∀ t u, hU M h t u → M 15 h (4 * t + u) = qsy S t u) (h2' : ∀ t u, ¬ hU M h t u → qsy S t u = 0) : hS M h = S := by
  refine Prod.ext ?_ (Prod.ext ?_ (Prod.ext ?_ (Prod.ext ?_ (Prod.ext ?_ (Prod.ext ?_ ?_)))))
  · funext k
    show (if _ then _ else _) = _
    split
    · next q => exact h0 k q
    · next q => exact (h0' k q).symm
  · funext t
    show (if _ then _ else _) = _
    split
    · next q => exact (h1 t q).1
    · next q => exact (h1' t q).1.symm
  · funext t
    show (if _ then _ else _) = _
    split
    · next q => exact (h1 t q).2.1
    · next q => exact (h1' t q).2.1.symm
  · funext t
    show (if _ then _ else _) = _
    split
    · next q => exact (h1 t q).2.2.1
    · next q => exact (h1' t q).2.2.1.symm
  · funext t u
    show (if _ then _ else _) = _
    split
    · next q => exact h2 t u q
    · next q => exact (h2' t u q).symm
  · funext t
    show (if _ then _ else _) = _
    split
    · next q => exact (h1 t q).2.2.2.1
    · next q => exact (h1' t q).2.2.2.1.symm
  · funext t
    show (if _ then _ else _) = _
    split
    · next q => exact (h1 t q).2.2.2.2
    · next q => exact (h1' t q).2.2.2.2.symm
/-- a write in the hall h alone -/
def kH (h k i : Nat) : Prop := (k = 1 ∨ (12 ≤ k ∧ k ≤ 17)) ∧ i = h
def Fx (K : Nat → Nat → Prop) (M M' : zM) : Prop := ∀ k i, ¬ K k i → M' k i = M k i
theorem Fx.rf {K : Nat → Nat → Prop} {M : zM} : Fx K M M := fun _ _ _ => rfl
theorem Fx.tr {K : Nat → Nat → Prop} {M M1 M2 : zM} (a : Fx K M M1) (b : Fx K M1 M2) : Fx K M M2 := fun k i h => (b k i h).trans (a k i h)
theorem Fx.zu {K : Nat → Nat → Prop} {M M0 : zM} {k i : Nat} {j x : Int} (a : Fx K M0 M) (h : K k i) : Fx K M0 (zu M k i j x) := fun k' i' hk => (zu_o k' i' (fun q => hk (by rw [q.1, q.2]; exact h))).trans (a k' i' hk)
theorem Fx.mono {K K' : Nat → Nat → Prop} {M M' : zM} (a : Fx K M M') (h : ∀ k i, K k i → K' k i) : Fx K' M M' := fun k i hk => a k i (fun q => hk (h k i q))
theorem Fx.cp {K : Nat → Nat → Prop} {M M0 : zM} {k0 i0 k1 i1 : Nat} {n : Int} (a : Fx K M0 M) (h : K k1 i1) : Fx K M0 (zcp M k0 i0 k1 i1 n) := fun k' i' hk => by
  refine Eq.trans ?_ (a k' i' hk)
  funext j
  exact if_neg fun q => hk (by rw [q.1, q.2.1]; exact h)
theorem zu_at (M : zM) (k i : Nat) (j x j' : Int) : zu M k i j x k i j' = if j' = j then x else M k i j' := by
  unfold zu
  by_cases h : j' = j
  · rw [if_pos ⟨rfl, rfl, h⟩, if_pos h]
  · rw [if_neg (fun q => h q.2.2), if_neg h]
theorem zu_k {M : zM} {k i k' i' : Nat} {j x : Int} (h : k' ≠ k) : zu M k i j x k' i' = M k' i' := zu_o k' i' fun q => h q.1
def sCome (S : zS) (s g : Int) : zS := (upf (qsc S) 0 (qn S + 1), upf (qsl S) (qn S) s, upf (qgr S) (qn S) g, qun S, qsy S, qpu S, qtr S)
def sAdd (S : zS) (t v : Int) : zS := (qsc S, qsl S, qgr S, upf (qun S) t (qun S t + 1), upg (qsy S) t (qun S t) v, qpu S, qtr S)
def sSay (S : zS) (t u v : Int) : zS := (qsc S, qsl S, qgr S, qun S, upg (qsy S) t u v, qpu S, qtr S)
/-- the first c units of t go -/
def sDrop (S : zS) (t c : Int) : zS := (qsc S, qsl S, qgr S, upf (qun S) t (qun S t - c), fun t' u => if t' = t then (if 0 ≤ u ∧ u + c < qun S t then qsy S t (u + c) else 0) else qsy S t' u, qpu S, qtr S)
def sTrade (S : zS) (t c m : Int) : zS := (qsc S, qsl S, qgr S, qun (sDrop S t c), qsy (sDrop S t c), upf (qpu S) t (qpu S t + (if qsl S t = 1 then m else -m)), upf (qtr S) t (qtr S t + c))
section
variable {l : Launch} {M : zM}
theorem vX1_setSaid {l : Launch} {P : zM → Prop} {h : Nat} {v1 : Int} {v2 : Int} {v3 : Int} {M : zM}
    (H0 : ((hW M h ∧ zI v1 ∧ zI v2) ∧ ((¬ (hU M h v1 v2) → P M) ∧ (hU M h v1 v2 → ((0 ≤ ((v1 * 4) + v2) ∧ ((v1 * 4) + v2) < 80) ∧ ∀ M8 : zM, M8 = zu M 15 h ((v1 * 4) + v2) v3 → P M8))))) :
    CV l m_X1_setSaid [zr 1 h, zi v1, zi v2, zi v3] M P :=
(aw_aload_n d_X1_setSaid_0 rfl rfl 0 rfl (by decide)
(aw_iload_n d_X1_setSaid_1 rfl rfl 1 rfl
(aw_iload_n d_X1_setSaid_2 rfl rfl 2 rfl
(have z1 := H0.1; have e2 := H0.2; (aw_VI (As := [zi v1, zi v2]) (st := []) d_X1_setSaid_3 rfl cv1_63 ⟨Nat.le_of_ble_eq_true rfl, Nat.le_of_ble_eq_true rfl⟩ rfl rfl (Nat.le_of_ble_eq_true rfl) (Nat.le_of_ble_eq_true rfl) (s_X1_hasUnit z1) (fun _ _ hq => aw_eqs hq
(aw_if_eq d_X1_setSaid_6 rfl rfl zb_I (fun c3 => have e5 := e2.1 (zb_0 c3); (aw_rv d_X1_setSaid_20 rfl e5)) (fun c4 => have e6 := e2.2 (zb_n0 c4); (aw_aload_n d_X1_setSaid_9 rfl rfl 0 rfl (by decide)
(aw_getR (k' := 15) (a := 1) (b := 0) (j := h) d_X1_setSaid_10 rfl fl1_22 rfl zj1 ⟨by decide, fun h => h⟩
(aw_iload_n d_X1_setSaid_13 rfl rfl 1 rfl
(aw_iconst d_X1_setSaid_14 rfl
(aw_imul d_X1_setSaid_15 rfl
(aw_iload_n d_X1_setSaid_16 rfl rfl 2 rfl
(aw_iadd d_X1_setSaid_17 rfl
(aw_iload_n d_X1_setSaid_18 rfl rfl 3 rfl
(have z7 := e6.1; have e9 := e6.2 _ rfl; aw_iast d_X1_setSaid_19 rfl za15 z7
(aw_rv d_X1_setSaid_20 rfl e9))))))))))))))))))
theorem vX1_fits {l : Launch} {P : Int → zM → Prop} {h : Nat} {v1 : Int} {v2 : Int} {v3 : Int} {M : zM}
    (H0 : ((hW M h ∧ zI v1) ∧ ((hW M h ∧ zI v1 ∧ zI (v2 - 1)) ∧ ((¬ (hU M h v1 (v2 - 1)) → ((hW M h ∧ zI v1 ∧ zI (v2 + 1)) ∧ ((¬ (hU M h v1 (v2 + 1)) → P 1 M) ∧ (hU M h v1 (v2 + 1) → ((hW M h ∧ zI v1 ∧ zI (v2 + 1)) ∧ ((zI (zb (qsl (hS M h) v1 = 1)) ∧ zI v3 ∧ zI (qsy (hS M h) v1 (v2 + 1))) ∧ ((¬ (((zb (qsl (hS M h) v1 = 1)) ≠ 0 ∧ v3 ≤ (qsy (hS M h) v1 (v2 + 1))) ∨ ((zb (qsl (hS M h) v1 = 1)) = 0 ∧ (qsy (hS M h) v1 (v2 + 1)) ≤ v3)) → P 0 M) ∧ (((zb (qsl (hS M h) v1 = 1)) ≠ 0 ∧ v3 ≤ (qsy (hS M h) v1 (v2 + 1))) ∨ ((zb (qsl (hS M h) v1 = 1)) = 0 ∧ (qsy (hS M h) v1 (v2 + 1)) ≤ v3) → P 1 M)))))))) ∧ (hU M h v1 (v2 - 1) → ((hW M h ∧ zI v1 ∧ zI (v2 - 1)) ∧ ((zI (zb (qsl (hS M h) v1 = 1)) ∧ zI (qsy (hS M h) v1 (v2 - 1)) ∧ zI v3) ∧ ((((zb (qsl (hS M h) v1 = 1)) ≠ 0 ∧ (qsy (hS M h) v1 (v2 - 1)) ≤ v3) ∨ ((zb (qsl (hS M h) v1 = 1)) = 0 ∧ v3 ≤ (qsy (hS M h) v1 (v2 - 1))) → ((hW M h ∧ zI v1 ∧ zI (v2 + 1)) ∧ ((¬ (hU M h v1 (v2 + 1)) → P 1 M) ∧ (hU M h v1 (v2 + 1) → ((hW M h ∧ zI v1 ∧ zI (v2 + 1)) ∧ ((zI (zb (qsl (hS M h) v1 = 1)) ∧ zI v3 ∧ zI (qsy (hS M h) v1 (v2 + 1))) ∧ ((¬ (((zb (qsl (hS M h) v1 = 1)) ≠ 0 ∧ v3 ≤ (qsy (hS M h) v1 (v2 + 1))) ∨ ((zb (qsl (hS M h) v1 = 1)) = 0 ∧ (qsy (hS M h) v1 (v2 + 1)) ≤ v3)) → P 0 M) ∧ (((zb (qsl (hS M h) v1 = 1)) ≠ 0 ∧ v3 ≤ (qsy (hS M h) v1 (v2 + 1))) ∨ ((zb (qsl (hS M h) v1 = 1)) = 0 ∧ (qsy (hS M h) v1 (v2 + 1)) ≤ v3) → P 1 M)))))))) ∧ (¬ (((zb (qsl (hS M h) v1 = 1)) ≠ 0 ∧ (qsy (hS M h) v1 (v2 - 1)) ≤ v3) ∨ ((zb (qsl (hS M h) v1 = 1)) = 0 ∧ v3 ≤ (qsy (hS M h) v1 (v2 - 1)))) → P 0 M))))))))) :
    CI l m_X1_fits [zr 1 h, zi v1, zi v2, zi v3] M P :=
(aw_aload_n d_X1_fits_0 rfl rfl 0 rfl (by decide)
(aw_iload_n d_X1_fits_1 rfl rfl 1 rfl
(have z1 := H0.1; have e2 := H0.2; (aw_VI (As := [zi v1]) (st := []) d_X1_fits_2 rfl cv1_71 ⟨Nat.le_of_ble_eq_true rfl, Nat.le_of_ble_eq_true rfl⟩ rfl rfl (Nat.le_of_ble_eq_true rfl) (Nat.le_of_ble_eq_true rfl) (s_X1_isSeller z1) (fun _ _ hq => aw_eqs hq
(aw_istore (lv' := [(4, zi (zb (qsl (hS M h) v1 = 1))), (0, zr 1 h), (1, zi v1), (2, zi v2), (3, zi v3)]) d_X1_fits_5 rfl (by decide) rfl
(aw_aload_n d_X1_fits_7 rfl rfl 1 rfl (by decide)
(aw_iload_n d_X1_fits_8 rfl rfl 2 rfl
(aw_iload_n d_X1_fits_9 rfl rfl 3 rfl
(aw_iconst d_X1_fits_10 rfl
(aw_isub d_X1_fits_11 rfl
(have z3 := e2.1; have e4 := e2.2; (aw_VI (As := [zi v1, zi (v2 - 1)]) (st := []) d_X1_fits_12 rfl cv1_63 ⟨Nat.le_of_ble_eq_true rfl, Nat.le_of_ble_eq_true rfl⟩ rfl rfl (Nat.le_of_ble_eq_true rfl) (Nat.le_of_ble_eq_true rfl) (s_X1_hasUnit z3) (fun _ _ hq => aw_eqs hq
(aw_if_eq d_X1_fits_15 rfl rfl zb_I (fun c5 => have e7 := e4.1 (zb_0 c5); (aw_aload_n d_X1_fits_37 rfl rfl 1 rfl (by decide)
(aw_iload_n d_X1_fits_38 rfl rfl 2 rfl
(aw_iload_n d_X1_fits_39 rfl rfl 3 rfl
(aw_iconst d_X1_fits_40 rfl
(aw_iadd d_X1_fits_41 rfl
(have z9 := e7.1; have e10 := e7.2; (aw_VI (As := [zi v1, zi (v2 + 1)]) (st := []) d_X1_fits_42 rfl cv1_63 ⟨Nat.le_of_ble_eq_true rfl, Nat.le_of_ble_eq_true rfl⟩ rfl rfl (Nat.le_of_ble_eq_true rfl) (Nat.le_of_ble_eq_true rfl) (s_X1_hasUnit z9) (fun _ _ hq => aw_eqs hq
(aw_if_eq d_X1_fits_45 rfl rfl zb_I (fun c11 => have e13 := e10.1 (zb_0 c11); (aw_iconst d_X1_fits_65 rfl
(aw_goto d_X1_fits_66 rfl
(aw_rz d_X1_fits_70 rfl (by decide) e13)))) (fun c12 => have e14 := e10.2 (zb_n0 c12); (aw_iload d_X1_fits_48 rfl 0 rfl
(aw_iload_n d_X1_fits_50 rfl rfl 4 rfl
(aw_aload_n d_X1_fits_51 rfl rfl 1 rfl (by decide)
(aw_iload_n d_X1_fits_52 rfl rfl 2 rfl
(aw_iload_n d_X1_fits_53 rfl rfl 3 rfl
(aw_iconst d_X1_fits_54 rfl
(aw_iadd d_X1_fits_55 rfl
(have z15 := e14.1; have e16 := e14.2; (aw_VI (As := [zi v1, zi (v2 + 1)]) (st := [zi v3, zi (zb (qsl (hS M h) v1 = 1))]) d_X1_fits_56 rfl cv1_67 ⟨Nat.le_of_ble_eq_true rfl, Nat.le_of_ble_eq_true rfl⟩ rfl rfl (Nat.le_of_ble_eq_true rfl) (Nat.le_of_ble_eq_true rfl) (s_X1_said z15) (fun _ _ hq => aw_eqs hq
(have z17 := e16.1; have e18 := e16.2; (aw_SI (As := [zi (zb (qsl (hS M h) v1 = 1)), zi v3, zi (qsy (hS M h) v1 (v2 + 1))]) (st := []) d_X1_fits_59 rfl cs1_74 ⟨Nat.le_of_ble_eq_true rfl, Nat.le_of_ble_eq_true rfl⟩ rfl rfl (Nat.le_of_ble_eq_true rfl) (Nat.le_of_ble_eq_true rfl) (s_X1_inOrder z17) (fun _ _ hq => aw_eqs hq
(aw_if_eq d_X1_fits_62 rfl rfl zb_I (fun c19 => have e21 := e18.1 (zb_0 c19); (aw_iconst d_X1_fits_69 rfl
(aw_rz d_X1_fits_70 rfl (by decide) e21))) (fun c20 => have e22 := e18.2 (zb_n0 c20); (aw_iconst d_X1_fits_65 rfl
(aw_goto d_X1_fits_66 rfl
(aw_rz d_X1_fits_70 rfl (by decide) e22))))))))))))))))))))))))))))) (fun c6 => have e8 := e4.2 (zb_n0 c6); (aw_iload d_X1_fits_18 rfl 0 rfl
(aw_aload_n d_X1_fits_20 rfl rfl 1 rfl (by decide)
(aw_iload_n d_X1_fits_21 rfl rfl 2 rfl
(aw_iload_n d_X1_fits_22 rfl rfl 3 rfl
(aw_iconst d_X1_fits_23 rfl
(aw_isub d_X1_fits_24 rfl
(have z23 := e8.1; have e24 := e8.2; (aw_VI (As := [zi v1, zi (v2 - 1)]) (st := [zi (zb (qsl (hS M h) v1 = 1))]) d_X1_fits_25 rfl cv1_67 ⟨Nat.le_of_ble_eq_true rfl, Nat.le_of_ble_eq_true rfl⟩ rfl rfl (Nat.le_of_ble_eq_true rfl) (Nat.le_of_ble_eq_true rfl) (s_X1_said z23) (fun _ _ hq => aw_eqs hq
(aw_iload_n d_X1_fits_28 rfl rfl 4 rfl
(have z25 := e24.1; have e26 := e24.2; (aw_SI (As := [zi (zb (qsl (hS M h) v1 = 1)), zi (qsy (hS M h) v1 (v2 - 1)), zi v3]) (st := []) d_X1_fits_29 rfl cs1_74 ⟨Nat.le_of_ble_eq_true rfl, Nat.le_of_ble_eq_true rfl⟩ rfl rfl (Nat.le_of_ble_eq_true rfl) (Nat.le_of_ble_eq_true rfl) (s_X1_inOrder z25) (fun _ _ hq => aw_eqs hq
(aw_if_ne d_X1_fits_32 rfl rfl zb_I (fun c27 => have e29 := e26.1 (zb_n0 c27); (aw_aload_n d_X1_fits_37 rfl rfl 1 rfl (by decide)
(aw_iload_n d_X1_fits_38 rfl rfl 2 rfl
(aw_iload_n d_X1_fits_39 rfl rfl 3 rfl
(aw_iconst d_X1_fits_40 rfl
(aw_iadd d_X1_fits_41 rfl
(have z31 := e29.1; have e32 := e29.2; (aw_VI (As := [zi v1, zi (v2 + 1)]) (st := []) d_X1_fits_42 rfl cv1_63 ⟨Nat.le_of_ble_eq_true rfl, Nat.le_of_ble_eq_true rfl⟩ rfl rfl (Nat.le_of_ble_eq_true rfl) (Nat.le_of_ble_eq_true rfl) (s_X1_hasUnit z31) (fun _ _ hq => aw_eqs hq
(aw_if_eq d_X1_fits_45 rfl rfl zb_I (fun c33 => have e35 := e32.1 (zb_0 c33); (aw_iconst d_X1_fits_65 rfl
(aw_goto d_X1_fits_66 rfl
(aw_rz d_X1_fits_70 rfl (by decide) e35)))) (fun c34 => have e36 := e32.2 (zb_n0 c34); (aw_iload d_X1_fits_48 rfl 0 rfl
(aw_iload_n d_X1_fits_50 rfl rfl 4 rfl
(aw_aload_n d_X1_fits_51 rfl rfl 1 rfl (by decide)
(aw_iload_n d_X1_fits_52 rfl rfl 2 rfl
(aw_iload_n d_X1_fits_53 rfl rfl 3 rfl
(aw_iconst d_X1_fits_54 rfl
(aw_iadd d_X1_fits_55 rfl
(have z37 := e36.1; have e38 := e36.2; (aw_VI (As := [zi v1, zi (v2 + 1)]) (st := [zi v3, zi (zb (qsl (hS M h) v1 = 1))]) d_X1_fits_56 rfl cv1_67 ⟨Nat.le_of_ble_eq_true rfl, Nat.le_of_ble_eq_true rfl⟩ rfl rfl (Nat.le_of_ble_eq_true rfl) (Nat.le_of_ble_eq_true rfl) (s_X1_said z37) (fun _ _ hq => aw_eqs hq
(have z39 := e38.1; have e40 := e38.2; (aw_SI (As := [zi (zb (qsl (hS M h) v1 = 1)), zi v3, zi (qsy (hS M h) v1 (v2 + 1))]) (st := []) d_X1_fits_59 rfl cs1_74 ⟨Nat.le_of_ble_eq_true rfl, Nat.le_of_ble_eq_true rfl⟩ rfl rfl (Nat.le_of_ble_eq_true rfl) (Nat.le_of_ble_eq_true rfl) (s_X1_inOrder z39) (fun _ _ hq => aw_eqs hq
(aw_if_eq d_X1_fits_62 rfl rfl zb_I (fun c41 => have e43 := e40.1 (zb_0 c41); (aw_iconst d_X1_fits_69 rfl
(aw_rz d_X1_fits_70 rfl (by decide) e43))) (fun c42 => have e44 := e40.2 (zb_n0 c42); (aw_iconst d_X1_fits_65 rfl
(aw_goto d_X1_fits_66 rfl
(aw_rz d_X1_fits_70 rfl (by decide) e44))))))))))))))))))))))))))))) (fun c28 => have e30 := e26.2 (zb_0 c28); (aw_iconst d_X1_fits_35 rfl
(aw_rz d_X1_fits_36 rfl (by decide) e30)))))))))))))))))))))))))))))))))
theorem s_X1_setSaid {h : Nat} {t u v : Int} (w : hW M h ∧ hU M h t u) : CV l m_X1_setSaid [zr 1 h, zi t, zi u, zi v] M (fun M' => M' = zu M 15 h (4 * t + u) v) := by
  obtain ⟨w1, w2, w3, w4, w5⟩ := w
  have h1 := w1.1
  have h2 := w1.2.2 t ⟨w2, w3⟩
  refine vX1_setSaid ⟨⟨w1, by omega, by omega⟩, fun e => absurd ⟨w2, w3, w4, w5⟩ e, fun e => ⟨by omega, fun M12 e2 => ?_⟩⟩
  rw [e2, Int.mul_comm]
theorem s_X1_fits {h : Nat} {t u v : Int} (w : hW M h ∧ zI t ∧ (0 ≤ u ∧ u ≤ 100) ∧ zI v ∧ (∀ u, zI (qsy (hS M h) t u))) : CI l m_X1_fits [zr 1 h, zi t, zi u, zi v] M (fun x M' => x = zb (fitP (hS M h) t u v) ∧ M' = M) := by
  obtain ⟨w1, w2, w3, w4, w5⟩ := w
  have z1 : zI (u - 1) := by omega
  have z2 : zI (u + 1) := by omega
  have y1 := w5 (u - 1)
  have y2 := w5 (u + 1)
  have hb := @zb_01 (qsl (hS M h) t = 1) _
  have bb : zb (qsl (hS M h) t = 1) ≠ 0 ↔ qsl (hS M h) t = 1 := ⟨zb_n0, fun q => by rw [zb_1 q]; decide⟩
  have bf : zb (qsl (hS M h) t = 1) = 0 ↔ ¬ qsl (hS M h) t = 1 := ⟨zb_0, zb_f⟩
  refine vX1_fits ⟨⟨w1, w2⟩, ⟨w1, w2, z1⟩, fun e1 => ⟨⟨w1, w2, z2⟩, fun e2 => ?_, fun e2 => ⟨⟨w1, w2, z2⟩, ⟨zb_I, w4, y2⟩, fun e3 => ?_, fun e3 => ?_⟩⟩, fun e1 => ⟨⟨w1, w2, z1⟩, ⟨zb_I, y1, w4⟩, fun e0 => ⟨⟨w1, w2, z2⟩, fun e2 => ?_, fun e2 => ⟨⟨w1, w2, z2⟩, ⟨zb_I, w4, y2⟩, fun e3 => ?_, fun e3 => ?_⟩⟩, fun e0 => ?_⟩⟩
  · exact ⟨(zb_1 ⟨fun q => absurd (hU_q.mpr q) e1, fun q => absurd (hU_q.mpr q) e2⟩).symm, rfl⟩
  · refine ⟨(zb_f (fun q => e3 ?_)).symm, rfl⟩
    have q2 := q.2 (hU_q.mp e2)
    rw [bb, bf]
    by_cases hs : qsl (hS M h) t = 1
    · exact Or.inl ⟨hs, q2.1 hs⟩
    · exact Or.inr ⟨hs, q2.2 hs⟩
  · refine ⟨(zb_1 ⟨fun q => absurd (hU_q.mpr q) e1, fun _ => ?_⟩).symm, rfl⟩
    rw [bb, bf] at e3
    exact ⟨fun hs => by rcases e3 with q | q; exact q.2; exact absurd hs q.1, fun hs => by rcases e3 with q | q; exact absurd q.1 hs; exact q.2⟩
  · refine ⟨(zb_1 ⟨fun _ => ?_, fun q => absurd (hU_q.mpr q) e2⟩).symm, rfl⟩
    rw [bb, bf] at e0
    exact ⟨fun hs => by rcases e0 with q | q; exact q.2; exact absurd hs q.1, fun hs => by rcases e0 with q | q; exact absurd q.1 hs; exact q.2⟩
  · refine ⟨(zb_f (fun q => e3 ?_)).symm, rfl⟩
    have q2 := q.2 (hU_q.mp e2)
    rw [bb, bf]
    by_cases hs : qsl (hS M h) t = 1
    · exact Or.inl ⟨hs, q2.1 hs⟩
    · exact Or.inr ⟨hs, q2.2 hs⟩
  · refine ⟨(zb_1 ⟨fun _ => ?_, fun _ => ?_⟩).symm, rfl⟩
    · rw [bb, bf] at e0
      exact ⟨fun hs => by rcases e0 with q | q; exact q.2; exact absurd hs q.1, fun hs => by rcases e0 with q | q; exact absurd q.1 hs; exact q.2⟩
    · rw [bb, bf] at e3
      exact ⟨fun hs => by rcases e3 with q | q; exact q.2; exact absurd hs q.1, fun hs => by rcases e3 with q | q; exact absurd q.1 hs; exact q.2⟩
  · refine ⟨(zb_f (fun q => e0 ?_)).symm, rfl⟩
    have q2 := q.1 (hU_q.mp e1)
    rw [bb, bf]
    by_cases hs : qsl (hS M h) t = 1
    · exact Or.inl ⟨hs, q2.1 hs⟩
    · exact Or.inr ⟨hs, q2.2 hs⟩
theorem vX1_enter {l : Launch} {P : Int → zM → Prop} {h : Nat} {v1 : Int} {v2 : Int} {M : zM}
    (H0 : (zI (M 1 h 6) ∧ ((M 1 h 6) < 0 → P (-1) M) ∧ (0 ≤ (M 1 h 6) → (((M 1 h 6) < 20 → ((0 ≤ (M 1 h 6) ∧ (M 1 h 6) < 20) ∧ (v1 = 0 ∨ v1 = 1) ∧ ∀ M13 : zM, M13 = zu M 12 h (M 1 h 6) v1 → (∀ M15 : zM, M15 = zu M13 13 h (M 1 h 6) v2 → (∀ M17 : zM, M17 = zu M15 14 h (M 1 h 6) 0 → (∀ M19 : zM, M19 = zu M17 16 h (M 1 h 6) 0 → (∀ M21 : zM, M21 = zu M19 17 h (M 1 h 6) 0 → (∀ M23 : zM, M23 = zu M21 1 h 6 ((M21 1 h 6) + 1) → P (M 1 h 6) M23))))))) ∧ (20 ≤ (M 1 h 6) → P (-1) M))))) :
    CI l m_X1_enter [zr 1 h, zi v1, zi v2] M P :=
(aw_aload_n d_X1_enter_0 rfl rfl 0 rfl (by decide)
(aw_getI (kc := 6) d_X1_enter_1 rfl fl1_31 rfl rfl
(have z1 := H0.1; have e2 := H0.2; aw_if_lt d_X1_enter_4 rfl rfl z1 (fun c3 => have e5 := e2.1 c3; (aw_iconst d_X1_enter_16 rfl
(aw_ri d_X1_enter_17 rfl e5))) (fun c4 => have e6 := e2.2 c4; (aw_aload_n d_X1_enter_7 rfl rfl 0 rfl (by decide)
(aw_getI (kc := 6) d_X1_enter_8 rfl fl1_31 rfl rfl
(aw_bipush d_X1_enter_11 rfl (by decide)
(aw_icmp_lt d_X1_enter_13 rfl rfl z1 (by decide) (fun c7 => have e9 := e6.1 c7; (aw_aload_n d_X1_enter_18 rfl rfl 0 rfl (by decide)
(aw_getI (kc := 6) d_X1_enter_19 rfl fl1_31 rfl rfl
(aw_istore_n (lv' := [(3, zi (M 1 h 6)), (0, zr 1 h), (1, zi v1), (2, zi v2)]) d_X1_enter_22 rfl rfl (by decide) rfl
(aw_aload_n d_X1_enter_23 rfl rfl 1 rfl (by decide)
(aw_getR (k' := 12) (a := 1) (b := 0) (j := h) d_X1_enter_24 rfl fl1_9 rfl zj1 ⟨by decide, fun h => h⟩
(aw_iload_n d_X1_enter_27 rfl rfl 0 rfl
(aw_iload_n d_X1_enter_28 rfl rfl 2 rfl
(have z11 := e9.1; have z12 := e9.2.1; have e14 := e9.2.2 _ rfl; aw_zast d_X1_enter_29 rfl za12 z11 z12
(aw_aload_n d_X1_enter_30 rfl rfl 1 rfl (by decide)
(aw_getR (k' := 13) (a := 1) (b := 0) (j := h) d_X1_enter_31 rfl fl1_15 rfl zj1 ⟨by decide, fun h => h⟩
(aw_iload_n d_X1_enter_34 rfl rfl 0 rfl
(aw_iload_n d_X1_enter_35 rfl rfl 3 rfl
(have e16 := e14 _ rfl; aw_iast d_X1_enter_36 rfl za13 z11
(aw_aload_n d_X1_enter_37 rfl rfl 1 rfl (by decide)
(aw_getR (k' := 14) (a := 1) (b := 0) (j := h) d_X1_enter_38 rfl fl1_19 rfl zj1 ⟨by decide, fun h => h⟩
(aw_iload_n d_X1_enter_41 rfl rfl 0 rfl
(aw_iconst d_X1_enter_42 rfl
(have e18 := e16 _ rfl; aw_iast d_X1_enter_43 rfl za14 z11
(aw_aload_n d_X1_enter_44 rfl rfl 1 rfl (by decide)
(aw_getR (k' := 16) (a := 1) (b := 0) (j := h) d_X1_enter_45 rfl fl1_25 rfl zj1 ⟨by decide, fun h => h⟩
(aw_iload_n d_X1_enter_48 rfl rfl 0 rfl
(aw_iconst d_X1_enter_49 rfl
(have e20 := e18 _ rfl; aw_iast d_X1_enter_50 rfl za16 z11
(aw_aload_n d_X1_enter_51 rfl rfl 1 rfl (by decide)
(aw_getR (k' := 17) (a := 1) (b := 0) (j := h) d_X1_enter_52 rfl fl1_28 rfl zj1 ⟨by decide, fun h => h⟩
(aw_iload_n d_X1_enter_55 rfl rfl 0 rfl
(aw_iconst d_X1_enter_56 rfl
(have e22 := e20 _ rfl; aw_iast d_X1_enter_57 rfl za17 z11
(aw_aload_n d_X1_enter_58 rfl rfl 1 rfl (by decide)
(aw_dup d_X1_enter_59 rfl rfl
(aw_getI (kc := 6) d_X1_enter_60 rfl fl1_31 rfl rfl
(aw_iconst d_X1_enter_63 rfl
(aw_iadd d_X1_enter_64 rfl
(have e24 := e22 _ rfl; aw_put (kc := 6) d_X1_enter_65 rfl fp1_31 rfl rfl rfl rfl
(aw_iload_n d_X1_enter_68 rfl rfl 0 rfl
(aw_ri d_X1_enter_69 rfl e24))))))))))))))))))))))))))))))))))))) (fun c8 => have e10 := e6.2 c8; (aw_iconst d_X1_enter_16 rfl
(aw_ri d_X1_enter_17 rfl e10)))))))))))
theorem c_X1_enter {h : Nat} {s g : Int} (w : hW M h) (hn : M 1 h 6 < 20) (hs : s = 0 ∨ s = 1) : CI l m_X1_enter [zr 1 h, zi s, zi g] M (fun x M' => x = M 1 h 6 ∧ Fx (kH h) M M' ∧ hW M' h ∧ hS M' h = sCome (hS M h) s g) := by
  have h1 := w.1
  refine vX1_enter ⟨by omega, fun e => by omega, fun _ => ⟨fun _ => ⟨by omega, hs, ?_⟩, fun e => by omega⟩⟩
  intro M1 e1 M2 e2 M3 e3 M4 e4 M5 e5 M6 e6
  have k1 : kH h 1 h := ⟨by omega, rfl⟩
  have k12 : kH h 12 h := ⟨by omega, rfl⟩
  have k13 : kH h 13 h := ⟨by omega, rfl⟩
  have k14 : kH h 14 h := ⟨by omega, rfl⟩
  have k16 : kH h 16 h := ⟨by omega, rfl⟩
  have k17 : kH h 17 h := ⟨by omega, rfl⟩
  have f : Fx (kH h) M M6 := by
    rw [e6, e5, e4, e3, e2, e1]
    exact Fx.zu (Fx.zu (Fx.zu (Fx.zu (Fx.zu (Fx.zu Fx.rf k12) k13) k14) k16) k17) k1
  have r1 : ∀ j, M6 1 h j = if j = 6 then M 1 h 6 + 1 else M 1 h j := by
    intro j
    rw [e6, zu_at, e5, zu_k (by decide), e4, zu_k (by decide), e3, zu_k (by decide), e2, zu_k (by decide), e1, zu_k (by decide)]
  have r12 : ∀ j, M6 12 h j = if j = M 1 h 6 then s else M 12 h j := by
    intro j
    rw [e6, zu_k (by decide), e5, zu_k (by decide), e4, zu_k (by decide), e3, zu_k (by decide), e2, zu_k (by decide), e1, zu_at]
  have r13 : ∀ j, M6 13 h j = if j = M 1 h 6 then g else M 13 h j := by
    intro j
    rw [e6, zu_k (by decide), e5, zu_k (by decide), e4, zu_k (by decide), e3, zu_k (by decide), e2, zu_at, e1, zu_k (by decide)]
  have r14 : ∀ j, M6 14 h j = if j = M 1 h 6 then 0 else M 14 h j := by
    intro j
    rw [e6, zu_k (by decide), e5, zu_k (by decide), e4, zu_k (by decide), e3, zu_at, e2, zu_k (by decide), e1, zu_k (by decide)]
  have r15 : ∀ j, M6 15 h j = M 15 h j := by
    intro j
    rw [e6, zu_k (by decide), e5, zu_k (by decide), e4, zu_k (by decide), e3, zu_k (by decide), e2, zu_k (by decide), e1, zu_k (by decide)]
  have r16 : ∀ j, M6 16 h j = if j = M 1 h 6 then 0 else M 16 h j := by
    intro j
    rw [e6, zu_k (by decide), e5, zu_k (by decide), e4, zu_at, e3, zu_k (by decide), e2, zu_k (by decide), e1, zu_k (by decide)]
  have r17 : ∀ j, M6 17 h j = if j = M 1 h 6 then 0 else M 17 h j := by
    intro j
    rw [e6, zu_k (by decide), e5, zu_at, e4, zu_k (by decide), e3, zu_k (by decide), e2, zu_k (by decide), e1, zu_k (by decide)]
  have r6 : M6 1 h 6 = M 1 h 6 + 1 := by rw [r1, if_pos rfl]
  refine ⟨rfl, f, ⟨by omega, fun t ht => ?_, fun t ht => ?_⟩, hS_is (fun k hk => ?_) (fun k hk => ?_) (fun t ht => ?_) (fun t ht => ?_) (fun t u hu => ?_) (fun t u hu => ?_)⟩
  · rw [r12]
    split
    · exact hs
    · exact w.2.1 t ht
  · rw [r14]
    split
    · omega
    · exact w.2.2 t (by omega)
  · rw [r1]
    show _ = upf _ _ _ _
    unfold upf
    by_cases hk0 : k = 0
    · rw [if_pos (by omega), if_pos hk0, hS_n]
    · rw [if_neg (by omega), if_neg hk0, hS_sc, if_pos hk]
  · show upf _ _ _ _ = _
    unfold upf
    rw [if_neg (by omega), hS_sc, if_neg hk]
  · rw [r6] at ht
    rw [r12, r13, r14, r16, r17]
    show _ = upf _ _ _ _ ∧ _ = upf _ _ _ _ ∧ _ = qun (hS M h) t ∧ _ = qpu (hS M h) t ∧ _ = qtr (hS M h) t
    unfold upf
    rw [hS_n, hS_sl, hS_gr, hS_un, hS_pu, hS_tr]
    by_cases hk : t = M 1 h 6
    · simp [hk]
    · have ht' : 0 ≤ t ∧ t < M 1 h 6 := by omega
      simp [hk, ht']
  · rw [r6] at ht
    show upf _ _ _ _ = _ ∧ upf _ _ _ _ = _ ∧ qun (hS M h) t = _ ∧ qpu (hS M h) t = _ ∧ qtr (hS M h) t = _
    unfold upf
    rw [hS_n, hS_sl, hS_gr, hS_un, hS_pu, hS_tr, if_neg (by omega), if_neg (by omega), if_neg (by omega)]
    simp
    omega
  · rw [r15]
    show _ = qsy (hS M h) t u
    obtain ⟨u1, u2, u3, u4⟩ := hu
    rw [r6] at u2
    rw [r14] at u4
    rw [hS_sy, if_pos]
    by_cases hk : t = M 1 h 6
    · rw [if_pos hk] at u4; omega
    · rw [if_neg hk] at u4
      exact ⟨u1, by omega, u3, u4⟩
  · show qsy (hS M h) t u = 0
    rw [hS_sy, if_neg]
    rintro ⟨u1, u2, u3, u4⟩
    exact hu ⟨u1, by omega, u3, by rw [r14, if_neg (by omega)]; exact u4⟩
end

