/-! ===== close: the reference, a trader's units go ===== -/
theorem m_trade {M1 M2 : zM} {S : zS} {t c m : Int} (w : mW M1 27 0) (e : mV M1 27 0 = S) (ht : 0 ≤ t ∧ t < qn S) (hc : 0 ≤ c ∧ c ≤ qun S t)
    (r : ∀ j, M2 27 0 j = if j = 9 * t + 8 then qtr S t + c else if j = 9 * t + 7 then qpu S t + (if qsl S t = 1 then m else -m) else if j = 9 * t + 2 then qun S t - c else if 9 * t + 3 ≤ j ∧ j < 9 * t + 7 then (if j - (9 * t + 3) + c < qun S t then M1 27 0 (j + c) else 0) else M1 27 0 j) : mW M2 27 0 ∧ mV M2 27 0 = sTrade S t c m := by
  obtain ⟨z, n0, h0, h1, h3⟩ := mv_at w e
  have n : qn (sTrade S t c m) = qn S := rfl
  have su : ∀ t', qun (sTrade S t c m) t' = if t' = t then qun S t - c else qun S t' := fun _ => rfl
  have ut := (h1 t ht).2.1
  refine mv_eq (zo_trade z ht) n0 (fun j hj => ?_) (fun t' ht' => ?_) fun t' u q => ?_
  · rw [r, if_neg (by omega), if_neg (by omega), if_neg (by omega), if_neg (by omega)]
    exact h0 j hj
  · rw [n] at ht'
    have k := h1 t' ht'
    rw [r, r, r, r, r, su]
    show (qsl S t' = 0 ∨ qsl S t' = 1) ∧ _ ∧ _ = qsl S t' ∧ _ = qgr S t' ∧ _ ∧ _ = upf (qpu S) t (qpu S t + (if qsl S t = 1 then m else -m)) t' ∧ _ = upf (qtr S) t (qtr S t + c) t'
    unfold upf
    by_cases d : t' = t
    · subst d
      rw [if_pos rfl, if_pos rfl, if_pos rfl]
      refine ⟨k.1, by omega, ?_, ?_, ?_, ?_, ?_⟩
      · rw [if_neg (by omega), if_neg (by omega), if_neg (by omega), if_neg (by omega)]; exact k.2.2.1
      · rw [if_neg (by omega), if_neg (by omega), if_neg (by omega), if_neg (by omega)]; exact k.2.2.2.1
      · rw [if_neg (by omega), if_neg (by omega)]
      · rw [if_neg (by omega), if_pos rfl]
      · rw [if_pos rfl, if_pos rfl]
    · rw [if_neg d, if_neg d, if_neg d]
      refine ⟨k.1, k.2.1, ?_, ?_, ?_, ?_, ?_⟩
      · rw [if_neg (by omega), if_neg (by omega), if_neg (by omega), if_neg (by omega)]; exact k.2.2.1
      · rw [if_neg (by omega), if_neg (by omega), if_neg (by omega), if_neg (by omega)]; exact k.2.2.2.1
      · rw [if_neg (by omega), if_neg (by omega), if_neg (by omega), if_neg (by omega)]; exact k.2.2.2.2.1
      · rw [if_neg (by omega), if_neg (by omega), if_neg (by omega), if_neg (by omega)]; exact k.2.2.2.2.2.1
      · rw [if_neg (by omega), if_neg (by omega), if_neg (by omega), if_neg (by omega)]; exact k.2.2.2.2.2.2
  · obtain ⟨q1, q2, q3, q4⟩ := q
    rw [n] at q2
    rw [su] at q4
    have k := (h1 t' ⟨q1, q2⟩).2.1
    rw [r]
    show _ = if t' = t then (if 0 ≤ u ∧ u + c < qun S t then qsy S t (u + c) else 0) else qsy S t' u
    by_cases d : t' = t
    · subst d
      rw [if_pos rfl] at q4
      rw [if_pos rfl, if_neg (by omega), if_neg (by omega), if_neg (by omega), if_pos (by omega), if_pos (by omega), if_pos (by omega)]
      rw [show 9 * t' + (3 + u) + c = 9 * t' + (3 + (u + c)) by omega]
      exact h3 t' (u + c) ⟨q1, q2, by omega, by omega⟩
    · rw [if_neg d] at q4
      rw [if_neg d, if_neg (by omega), if_neg (by omega), if_neg (by omega), if_neg (by omega)]
      exact h3 t' u ⟨q1, q2, q3, q4⟩
section
variable {l : Launch} {M : zM} {A : zY} {kk : Int}
def LX9_goes_8 (l : Launch) (P : zM → Prop) (v1 : Int) (v2 : Int) (v3 : Int) (v4 : Int) (M : zM) : Prop := AW l m_X9_goes (zTv m_X9_goes P) 8 [(0, zr 9 0), (1, zi v1), (2, zi v2), (3, zi v3), (4, zi v4)] [] M
theorem vX9_goes_8 {l : Launch} {P : zM → Prop} {v1 : Int} {v2 : Int} {v3 : Int} {v4 : Int} {M : zM}
    (H0 : (zI v4 ∧ (4 ≤ v4 → ((0 ≤ (v3 + 2) ∧ (v3 + 2) < 187) ∧ (∀ M9 : zM, M9 = zu M 27 0 (v3 + 2) ((M 27 0 (v3 + 2)) - v2) → ((0 ≤ (v3 + 8) ∧ (v3 + 8) < 187) ∧ (∀ M13 : zM, M13 = zu M9 27 0 (v3 + 8) ((M9 27 0 (v3 + 8)) + v2) → P M13))))) ∧ (v4 < 4 → ((0 ≤ 9 * v1 + 2 ∧ 9 * v1 + 2 < 187) ∧ (zI (v4 + v2) ∧ zI (M 27 0 (9 * v1 + 2)) ∧ ((M 27 0 (9 * v1 + 2)) ≤ (v4 + v2) → ((0 ≤ ((v3 + 3) + v4) ∧ ((v3 + 3) + v4) < 187) ∧ ∀ M25 : zM, M25 = zu M 27 0 ((v3 + 3) + v4) 0 → LX9_goes_8 l P v1 v2 v3 (v4 + 1) M25)) ∧ ((v4 + v2) < (M 27 0 (9 * v1 + 2)) → ((0 ≤ 9 * v1 + ((3 + v4) + v2) ∧ 9 * v1 + ((3 + v4) + v2) < 187) ∧ ((0 ≤ ((v3 + 3) + v4) ∧ ((v3 + 3) + v4) < 187) ∧ ∀ M30 : zM, M30 = zu M 27 0 ((v3 + 3) + v4) (M 27 0 (9 * v1 + ((3 + v4) + v2))) → LX9_goes_8 l P v1 v2 v3 (v4 + 1) M30)))))))) :
    LX9_goes_8 l P v1 v2 v3 v4 M :=
(aw_iload d_X9_goes_8 rfl 4 rfl
(aw_iconst d_X9_goes_10 rfl
(have z1 := H0.1; have e2 := H0.2; aw_icmp_ge d_X9_goes_11 rfl rfl z1 (by decide) (fun c3 => have e5 := e2.1 c3; (aw_aload_n d_X9_goes_59 rfl rfl 0 rfl (by decide)
(aw_getR (k' := 27) (a := 0) (b := 0) (j := 0) d_X9_goes_60 rfl fl9_7 rfl zj0 ⟨by decide, fun _ => by decide⟩
(aw_iload_n d_X9_goes_63 rfl rfl 3 rfl
(aw_iconst d_X9_goes_64 rfl
(aw_iadd d_X9_goes_65 rfl
(aw_dup2 d_X9_goes_66 rfl rfl rfl
(have z7 := e5.1; have e8 := e5.2; (aw_iald d_X9_goes_67 rfl za27 z7
(aw_iload_n d_X9_goes_68 rfl rfl 2 rfl
(aw_isub d_X9_goes_69 rfl
(have e10 := e8 _ rfl; aw_iast d_X9_goes_70 rfl za27 z7
(aw_aload_n d_X9_goes_71 rfl rfl 0 rfl (by decide)
(aw_getR (k' := 27) (a := 0) (b := 0) (j := 0) d_X9_goes_72 rfl fl9_7 rfl zj0 ⟨by decide, fun _ => by decide⟩
(aw_iload_n d_X9_goes_75 rfl rfl 3 rfl
(aw_bipush d_X9_goes_76 rfl (by decide)
(aw_iadd d_X9_goes_78 rfl
(aw_dup2 d_X9_goes_79 rfl rfl rfl
(have z11 := e10.1; have e12 := e10.2; (aw_iald d_X9_goes_80 rfl za27 z11
(aw_iload_n d_X9_goes_81 rfl rfl 2 rfl
(aw_iadd d_X9_goes_82 rfl
(have e14 := e12 _ rfl; aw_iast d_X9_goes_83 rfl za27 z11
(aw_rv d_X9_goes_84 rfl e14)))))))))))))))))))))))) (fun c4 => have e6 := e2.2 c4; (aw_aload_n d_X9_goes_14 rfl rfl 0 rfl (by decide)
(aw_getR (k' := 27) (a := 0) (b := 0) (j := 0) d_X9_goes_15 rfl fl9_7 rfl zj0 ⟨by decide, fun _ => by decide⟩
(aw_iload_n d_X9_goes_18 rfl rfl 3 rfl
(aw_iconst d_X9_goes_19 rfl
(aw_iadd d_X9_goes_20 rfl
(aw_iload d_X9_goes_21 rfl 4 rfl
(aw_iadd d_X9_goes_23 rfl
(aw_iload d_X9_goes_24 rfl 4 rfl
(aw_iload_n d_X9_goes_26 rfl rfl 2 rfl
(aw_iadd d_X9_goes_27 rfl
(aw_aload_n d_X9_goes_28 rfl rfl 0 rfl (by decide)
(aw_iload_n d_X9_goes_29 rfl rfl 1 rfl
(aw_iconst d_X9_goes_30 rfl
(have z15 := e6.1; have e16 := e6.2; (aw_VI (As := [zi v1, zi 2]) (st := [zi (v4 + v2), zi ((v3 + 3) + v4), zr 27 0]) d_X9_goes_31 rfl cv9_88 ⟨Nat.le_of_ble_eq_true rfl, Nat.le_of_ble_eq_true rfl⟩ rfl rfl (Nat.le_of_ble_eq_true rfl) (Nat.le_of_ble_eq_true rfl) (s_X9_of z15) (fun _ _ hq => aw_eqs hq
(have z17 := e16.1; have z18 := e16.2.1; have e19 := e16.2.2; aw_icmp_ge d_X9_goes_34 rfl rfl z17 z18 (fun c20 => have e22 := e19.1 c20; (aw_iconst d_X9_goes_51 rfl
(have z24 := e22.1; have e26 := e22.2 _ rfl; aw_iast d_X9_goes_52 rfl za27 z24
(aw_iinc (lv' := [(4, zi (v4 + 1)), (0, zr 9 0), (1, zi v1), (2, zi v2), (3, zi v3)]) (y := (v4 + 1)) d_X9_goes_53 rfl 4 rfl (by decide) rfl rfl
(aw_goto d_X9_goes_56 rfl
(aw_sub [1, 2, 3, 4, 0] rfl e26)))))) (fun c21 => have e23 := e19.2 c21; (aw_aload_n d_X9_goes_37 rfl rfl 0 rfl (by decide)
(aw_iload_n d_X9_goes_38 rfl rfl 1 rfl
(aw_iconst d_X9_goes_39 rfl
(aw_iload d_X9_goes_40 rfl 4 rfl
(aw_iadd d_X9_goes_42 rfl
(aw_iload_n d_X9_goes_43 rfl rfl 2 rfl
(aw_iadd d_X9_goes_44 rfl
(have z27 := e23.1; have e28 := e23.2; (aw_VI (As := [zi v1, zi ((3 + v4) + v2)]) (st := [zi ((v3 + 3) + v4), zr 27 0]) d_X9_goes_45 rfl cv9_88 ⟨Nat.le_of_ble_eq_true rfl, Nat.le_of_ble_eq_true rfl⟩ rfl rfl (Nat.le_of_ble_eq_true rfl) (Nat.le_of_ble_eq_true rfl) (s_X9_of z27) (fun _ _ hq => aw_eqs hq
(aw_goto d_X9_goes_48 rfl
(have z29 := e28.1; have e31 := e28.2 _ rfl; aw_iast d_X9_goes_52 rfl za27 z29
(aw_iinc (lv' := [(4, zi (v4 + 1)), (0, zr 9 0), (1, zi v1), (2, zi v2), (3, zi v3)]) (y := (v4 + 1)) d_X9_goes_53 rfl 4 rfl (by decide) rfl rfl
(aw_goto d_X9_goes_56 rfl
(aw_sub [1, 2, 3, 4, 0] rfl e31)))))))))))))))))))))))))))))))))))))
theorem vX9_goes {l : Launch} {P : zM → Prop} {v1 : Int} {v2 : Int} {M : zM}
    (H0 : LX9_goes_8 l P v1 v2 (9 * v1) 0 M) :
    CV l m_X9_goes [zr 9 0, zi v1, zi v2] M P :=
(aw_bipush d_X9_goes_0 rfl (by decide)
(aw_iload_n d_X9_goes_2 rfl rfl 1 rfl
(aw_imul d_X9_goes_3 rfl
(aw_istore_n (lv' := [(3, zi (9 * v1)), (0, zr 9 0), (1, zi v1), (2, zi v2)]) d_X9_goes_4 rfl rfl (by decide) rfl
(aw_iconst d_X9_goes_5 rfl
(aw_istore (lv' := [(4, zi 0), (3, zi (9 * v1)), (0, zr 9 0), (1, zi v1), (2, zi v2)]) d_X9_goes_6 rfl (by decide) rfl
(aw_sub [2, 3, 4, 1, 0] rfl H0)))))))
theorem c_X9_goes {t c un : Int} (ht : 0 ≤ t ∧ t < 20) (hc : 0 ≤ c ∧ c ≤ un) (hu : un ≤ 4) (eu : M 27 0 (9 * t + 2) = un) : CV l m_X9_goes [zr 9 0, zi t, zi c] M (fun M' => (∀ k i, ¬ (k = 27 ∧ i = 0) → M' k i = M k i) ∧
    ∀ j, M' 27 0 j = if j = 9 * t + 8 then M 27 0 (9 * t + 8) + c else if j = 9 * t + 2 then un - c else if 9 * t + 3 ≤ j ∧ j < 9 * t + 7 then (if j - (9 * t + 3) + c < un then M 27 0 (j + c) else 0) else M 27 0 j) := by
  have loop : ∀ (n : Nat) (v : Int) (M' : zM), (4 - v).toNat = n → 0 ≤ v ∧ v ≤ 4 → (∀ k i, ¬ (k = 27 ∧ i = 0) → M' k i = M k i) → (∀ j, M' 27 0 j = if 9 * t + 3 ≤ j ∧ j < 9 * t + 3 + v then (if j - (9 * t + 3) + c < un then M 27 0 (j + c) else 0) else M 27 0 j) → LX9_goes_8 l (fun M' => (∀ k i, ¬ (k = 27 ∧ i = 0) → M' k i = M k i) ∧
    ∀ j, M' 27 0 j = if j = 9 * t + 8 then M 27 0 (9 * t + 8) + c else if j = 9 * t + 2 then un - c else if 9 * t + 3 ≤ j ∧ j < 9 * t + 7 then (if j - (9 * t + 3) + c < un then M 27 0 (j + c) else 0) else M 27 0 j) t c (9 * t) v M' := by
    intro n
    induction n with
    | zero =>
      intro v M' hn hv f e
      have ev : v = 4 := by omega
      subst ev
      refine vX9_goes_8 ⟨by omega, fun _ => ⟨by omega, ?_⟩, fun q => by omega⟩
      intro M2 q2
      refine ⟨by omega, ?_⟩
      intro M3 q3
      refine ⟨fun k i hk => by rw [q3, zu_o k i hk, q2, zu_o k i hk]; exact f k i hk, fun j => ?_⟩
      have e2 : M' 27 0 (9 * t + 2) = un := by rw [e, if_neg (by omega)]; exact eu
      have e8 : M2 27 0 (9 * t + 8) = M 27 0 (9 * t + 8) := by rw [q2, zu_at, if_neg (by omega), e, if_neg (by omega)]
      rw [q3, zu_at, e8, q2, zu_at, e2, e, show 9 * t + 3 + 4 = 9 * t + 7 by omega]
    | succ n ih =>
      intro v M' hn hv f e
      have e2 : M' 27 0 (9 * t + 2) = un := by rw [e, if_neg (by omega)]; exact eu
      have nx : ∀ x, x = (if v + c < un then M 27 0 (9 * t + 3 + v + c) else 0) → ∀ M2, M2 = zu M' 27 0 (9 * t + 3 + v) x → LX9_goes_8 l (fun M' => (∀ k i, ¬ (k = 27 ∧ i = 0) → M' k i = M k i) ∧
    ∀ j, M' 27 0 j = if j = 9 * t + 8 then M 27 0 (9 * t + 8) + c else if j = 9 * t + 2 then un - c else if 9 * t + 3 ≤ j ∧ j < 9 * t + 7 then (if j - (9 * t + 3) + c < un then M 27 0 (j + c) else 0) else M 27 0 j) t c (9 * t) (v + 1) M2 := by
        intro x hx M2 q2
        refine ih (v + 1) M2 (by omega) (by omega) (fun k i hk => by rw [q2, zu_o k i hk]; exact f k i hk) fun j => ?_
        rw [q2, zu_at, e]
        by_cases z : j = 9 * t + 3 + v
        · rw [if_pos z, if_pos (by omega), hx, z, show 9 * t + 3 + v - (9 * t + 3) + c = v + c by omega]
        · rw [if_neg z]
          by_cases y : 9 * t + 3 ≤ j ∧ j < 9 * t + 3 + v
          · rw [if_pos y, if_pos (show 9 * t + 3 ≤ j ∧ j < 9 * t + 3 + (v + 1) by omega)]
          · rw [if_neg y, if_neg (by omega)]
      refine vX9_goes_8 ?_
      rw [e2]
      refine ⟨by omega, fun q => by omega, fun _ => ⟨by omega, by omega, by omega, fun q => ⟨by omega, nx 0 (by rw [if_neg (by omega)])⟩, fun q => ⟨by omega, by omega, nx _ ?_⟩⟩⟩
      rw [if_pos q, e]
      by_cases z : c = 0
      · subst z
        rw [if_neg (by omega)]
        congr 1
        omega
      · rw [if_neg (by omega)]
        congr 1
        omega
  exact vX9_goes (loop _ 0 M rfl (by omega) (fun _ _ _ => rfl) fun j => by rw [if_neg (by omega)])
end
