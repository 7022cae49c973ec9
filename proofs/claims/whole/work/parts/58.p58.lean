/-! ===== acts: the reference ===== -/
def rR (p : Int × zY) (M : zM) (x : Int) (M' : zM) : Prop := x = p.1 ∧ mSy M' p.2 ∧ ∀ k i, ¬ isMd k → M' k i = M k i
theorem rR.st {A : zY} {M : zM} {a : Int} (h : mSy M A) : rR (a, A) M a M := ⟨rfl, h, fun _ _ _ => rfl⟩
theorem ka_md {M M' : zM} (f : kAct M M') : ∀ k i, ¬ isMd k → M' k i = M k i := fun k i hk => f.1 k i (fun q => hk (by unfold isMd; omega)) (fun q => hk (by unfold isMd; omega))
theorem fin_h {M M1 M2 : zM} {A : zY} {S : zS} {a : Int} (h1 : mSy M1 (yPut A (yS A))) (f1 : kAct M M1) (o : ∀ k i, ¬ (k = 27 ∧ i = 0) → M2 k i = M1 k i) (e : mW M2 27 0 ∧ mV M2 27 0 = S) : rR (a, yPut A S) M a M2 := by
  refine ⟨rfl, ⟨h1.1.hall o e.1 e.2, ?_⟩, fun k i hk => ?_⟩
  · rw [o 9 0 (by omega)]
    exact h1.2
  · rw [o k i (fun q => hk (by unfold isMd; omega))]
    exact ka_md f1 k i hk
theorem m_come {M1 M2 : zM} {S : zS} {s g : Int} (w : mW M1 27 0) (e : mV M1 27 0 = S) (hn : qn S < 20) (hs : s = 0 ∨ s = 1)
    (r : ∀ j, M2 27 0 j = if j = 180 then qn S + 1 else if j = 9 * qn S + 1 then g else if j = 9 * qn S then s else if 9 * qn S ≤ j ∧ j < 9 * qn S + 9 then 0 else M1 27 0 j) : mW M2 27 0 ∧ mV M2 27 0 = sCome S s g := by
  obtain ⟨z, n0, h0, h1, h3⟩ := mv_at w e
  have n : qn (sCome S s g) = qn S + 1 := rfl
  have su : ∀ t, qun (sCome S s g) t = qun S t := fun _ => rfl
  have zn := z.2.1 (qn S) (by omega)
  refine mv_eq (zo_come z n0.1) (by rw [n]; omega) (fun j hj => ?_) (fun t ht => ?_) fun t u q => ?_
  · rw [r]
    show _ = upf (qsc S) 0 (qn S + 1) j
    unfold upf
    by_cases c : j = 0
    · rw [if_pos (by omega), if_pos c]
    · rw [if_neg (by omega), if_neg (by omega), if_neg (by omega), if_neg (by omega), if_neg c]
      exact h0 j hj
  · rw [n] at ht
    rw [r, r, r, r, r]
    show (upf (qsl S) (qn S) s t = 0 ∨ upf (qsl S) (qn S) s t = 1) ∧ (0 ≤ qun S t ∧ qun S t ≤ 4) ∧ _ = upf (qsl S) (qn S) s t ∧ _ = upf (qgr S) (qn S) g t ∧ _ = qun S t ∧ _ = qpu S t ∧ _ = qtr S t
    unfold upf
    by_cases c : t = qn S
    · subst c
      rw [if_pos rfl, if_pos rfl, zn.2.2.1, zn.2.2.2.1, zn.2.2.2.2]
      refine ⟨hs, by omega, ?_, ?_, ?_, ?_, ?_⟩
      · rw [if_neg (by omega), if_neg (by omega)]
      · rw [if_neg (by omega), if_pos (by omega), if_pos rfl]
      · rw [if_neg (by omega), if_neg (by omega), if_neg (by omega), if_pos (by omega)]
      · rw [if_neg (by omega), if_neg (by omega), if_neg (by omega), if_pos (by omega)]
      · rw [if_neg (by omega), if_neg (by omega), if_neg (by omega), if_pos (by omega)]
    · have k := h1 t (by omega)
      rw [if_neg c, if_neg c]
      refine ⟨k.1, k.2.1, ?_, ?_, ?_, ?_, ?_⟩
      · rw [if_neg (by omega), if_neg (by omega), if_neg (by omega), if_neg (by omega)]; exact k.2.2.1
      · rw [if_neg (by omega), if_neg (by omega), if_neg (by omega), if_neg (by omega)]; exact k.2.2.2.1
      · rw [if_neg (by omega), if_neg (by omega), if_neg (by omega), if_neg (by omega)]; exact k.2.2.2.2.1
      · rw [if_neg (by omega), if_neg (by omega), if_neg (by omega), if_neg (by omega)]; exact k.2.2.2.2.2.1
      · rw [if_neg (by omega), if_neg (by omega), if_neg (by omega), if_neg (by omega)]; exact k.2.2.2.2.2.2
  · obtain ⟨q1, q2, q3, q4⟩ := q
    rw [n] at q2
    rw [su] at q4
    have c : t ≠ qn S := fun c => by rw [c, zn.2.2.1] at q4; omega
    have k := (h1 t (by omega)).2.1
    rw [r, if_neg (by omega), if_neg (by omega), if_neg (by omega), if_neg (by omega)]
    exact h3 t u ⟨q1, by omega, q3, q4⟩
theorem m_add {M1 M2 : zM} {S : zS} {t v : Int} (w : mW M1 27 0) (e : mV M1 27 0 = S) (ht : 0 ≤ t ∧ t < qn S) (hu : qun S t < 4)
    (r : ∀ j, M2 27 0 j = if j = 9 * t + 2 then qun S t + 1 else if j = 9 * t + 3 + qun S t then v else M1 27 0 j) : mW M2 27 0 ∧ mV M2 27 0 = sAdd S t v := by
  obtain ⟨z, n0, h0, h1, h3⟩ := mv_at w e
  have n : qn (sAdd S t v) = qn S := rfl
  have su : ∀ t', qun (sAdd S t v) t' = if t' = t then qun S t + 1 else qun S t' := fun _ => rfl
  have ut := (h1 t ht).2.1
  refine mv_eq (zo_add z ht ut.1) n0 (fun j hj => ?_) (fun t' ht' => ?_) fun t' u q => ?_
  · rw [r, if_neg (by omega), if_neg (by omega)]
    exact h0 j hj
  · rw [n] at ht'
    have k := h1 t' ht'
    rw [r, r, r, r, r, su]
    by_cases c : t' = t
    · subst c
      rw [if_pos rfl]
      refine ⟨k.1, by omega, ?_, ?_, ?_, ?_, ?_⟩
      · rw [if_neg (by omega), if_neg (by omega)]; exact k.2.2.1
      · rw [if_neg (by omega), if_neg (by omega)]; exact k.2.2.2.1
      · rw [if_pos rfl]
      · rw [if_neg (by omega), if_neg (by omega)]; exact k.2.2.2.2.2.1
      · rw [if_neg (by omega), if_neg (by omega)]; exact k.2.2.2.2.2.2
    · rw [if_neg c]
      refine ⟨k.1, k.2.1, ?_, ?_, ?_, ?_, ?_⟩
      · rw [if_neg (by omega), if_neg (by omega)]; exact k.2.2.1
      · rw [if_neg (by omega), if_neg (by omega)]; exact k.2.2.2.1
      · rw [if_neg (by omega), if_neg (by omega)]; exact k.2.2.2.2.1
      · rw [if_neg (by omega), if_neg (by omega)]; exact k.2.2.2.2.2.1
      · rw [if_neg (by omega), if_neg (by omega)]; exact k.2.2.2.2.2.2
  · obtain ⟨q1, q2, q3, q4⟩ := q
    rw [n] at q2
    rw [su] at q4
    have k := (h1 t' ⟨q1, q2⟩).2.1
    rw [r]
    show _ = if t' = t ∧ u = qun S t then v else qsy S t' u
    by_cases c : t' = t
    · rw [if_pos c] at q4
      by_cases d : u = qun S t
      · rw [if_neg (by omega), if_pos (by omega), if_pos ⟨c, d⟩]
      · rw [if_neg (by omega), if_neg (by omega), if_neg (fun q => d q.2)]
        subst c
        exact h3 t' u ⟨q1, q2, q3, by omega⟩
    · rw [if_neg c] at q4
      rw [if_neg (by omega), if_neg (by omega), if_neg (fun q => c q.1)]
      exact h3 t' u ⟨q1, q2, q3, q4⟩
theorem m_say {M1 M2 : zM} {S : zS} {t u v : Int} (w : mW M1 27 0) (e : mV M1 27 0 = S) (q : qU S t u)
    (r : ∀ j, M2 27 0 j = if j = 9 * t + 3 + u then v else M1 27 0 j) : mW M2 27 0 ∧ mV M2 27 0 = sSay S t u v := by
  obtain ⟨z, n0, h0, h1, h3⟩ := mv_at w e
  have ut := (h1 t ⟨q.1, q.2.1⟩).2.1
  have q' := q
  obtain ⟨q1, q2, q3, q4⟩ := q'
  refine mv_eq (zo_say z q) n0 (fun j hj => ?_) (fun t' ht' => ?_) fun t' u' p => ?_
  · rw [r, if_neg (by omega)]
    exact h0 j hj
  · have k := h1 t' ht'
    rw [r, r, r, r, r, if_neg (by omega), if_neg (by omega), if_neg (by omega), if_neg (by omega), if_neg (by omega)]
    exact k
  · have p' : qU S t' u' := p
    have k := (h1 t' ⟨p'.1, p'.2.1⟩).2.1
    have p4 := p'.2.2
    rw [r]
    show _ = if t' = t ∧ u' = u then v else qsy S t' u'
    by_cases c : t' = t ∧ u' = u
    · rw [if_pos (by omega), if_pos c]
    · rw [if_neg (by omega), if_neg c]
      exact h3 t' u' p'
theorem m_drop {M1 M2 : zM} {S : zS} {t : Int} (w : mW M1 27 0) (e : mV M1 27 0 = S) (ht : 0 ≤ t ∧ t < qn S)
    (r : ∀ j, M2 27 0 j = if 9 * t + 2 ≤ j ∧ j < 9 * t + 7 then 0 else M1 27 0 j) : mW M2 27 0 ∧ mV M2 27 0 = sDrop S t (qun S t) := by
  obtain ⟨z, n0, h0, h1, h3⟩ := mv_at w e
  have n : qn (sDrop S t (qun S t)) = qn S := rfl
  have su : ∀ t', qun (sDrop S t (qun S t)) t' = if t' = t then qun S t - qun S t else qun S t' := fun _ => rfl
  refine mv_eq (zo_drop z ht) n0 (fun j hj => ?_) (fun t' ht' => ?_) fun t' u q => ?_
  · rw [r, if_neg (by omega)]
    exact h0 j hj
  · rw [n] at ht'
    have k := h1 t' ht'
    rw [r, r, r, r, r, su]
    by_cases c : t' = t
    · subst c
      rw [if_pos rfl]
      refine ⟨k.1, by omega, ?_, ?_, ?_, ?_, ?_⟩
      · rw [if_neg (by omega)]; exact k.2.2.1
      · rw [if_neg (by omega)]; exact k.2.2.2.1
      · rw [if_pos (by omega)]; omega
      · rw [if_neg (by omega)]; exact k.2.2.2.2.2.1
      · rw [if_neg (by omega)]; exact k.2.2.2.2.2.2
    · rw [if_neg c]
      refine ⟨k.1, k.2.1, ?_, ?_, ?_, ?_, ?_⟩
      · rw [if_neg (by omega)]; exact k.2.2.1
      · rw [if_neg (by omega)]; exact k.2.2.2.1
      · rw [if_neg (by omega)]; exact k.2.2.2.2.1
      · rw [if_neg (by omega)]; exact k.2.2.2.2.2.1
      · rw [if_neg (by omega)]; exact k.2.2.2.2.2.2
  · obtain ⟨q1, q2, q3, q4⟩ := q
    rw [n] at q2
    rw [su] at q4
    have k := (h1 t' ⟨q1, q2⟩).2.1
    by_cases c : t' = t
    · rw [if_pos c] at q4
      omega
    · rw [if_neg c] at q4
      rw [r, if_neg (by omega)]
      show _ = if t' = t then _ else qsy S t' u
      rw [if_neg c]
      exact h3 t' u ⟨q1, q2, q3, q4⟩
section
variable {l : Launch} {M : zM} {A : zY} {kk : Int}
def LX9_come_33 (l : Launch) (P : Int → zM → Prop) (v1 : Int) (v2 : Int) (v3 : Int) (v4 : Int) (M : zM) : Prop := AW l m_X9_come (zTi m_X9_come P) 33 [(0, zr 9 0), (1, zi v1), (2, zi v2), (3, zi v3), (4, zi v4)] [] M
theorem vX9_come_33 {l : Launch} {P : Int → zM → Prop} {v1 : Int} {v2 : Int} {v3 : Int} {v4 : Int} {M : zM}
    (H0 : (zI v4 ∧ (9 ≤ v4 → (zI v1 ∧ (v1 = 0 → ((0 ≤ ((9 * v3) + 0) ∧ ((9 * v3) + 0) < 187) ∧ ∀ M29 : zM, M29 = zu M 27 0 ((9 * v3) + 0) 0 → ((0 ≤ ((9 * v3) + 1) ∧ ((9 * v3) + 1) < 187) ∧ ∀ M32 : zM, M32 = zu M29 27 0 ((9 * v3) + 1) v2 → (∀ M34 : zM, M34 = zu M32 27 0 180 ((M32 27 0 180) + 1) → P v3 M34)))) ∧ (v1 ≠ 0 → ((0 ≤ ((9 * v3) + 0) ∧ ((9 * v3) + 0) < 187) ∧ ∀ M37 : zM, M37 = zu M 27 0 ((9 * v3) + 0) 1 → ((0 ≤ ((9 * v3) + 1) ∧ ((9 * v3) + 1) < 187) ∧ ∀ M40 : zM, M40 = zu M37 27 0 ((9 * v3) + 1) v2 → (∀ M42 : zM, M42 = zu M40 27 0 180 ((M40 27 0 180) + 1) → P v3 M42)))))) ∧ (v4 < 9 → ((0 ≤ ((9 * v3) + v4) ∧ ((9 * v3) + v4) < 187) ∧ ∀ M45 : zM, M45 = zu M 27 0 ((9 * v3) + v4) 0 → LX9_come_33 l P v1 v2 v3 (v4 + 1) M45)))) :
    LX9_come_33 l P v1 v2 v3 v4 M :=
(aw_iload d_X9_come_33 rfl 4 rfl
(aw_bipush d_X9_come_35 rfl (by decide)
(have z16 := H0.1; have e17 := H0.2; aw_icmp_ge d_X9_come_37 rfl rfl z16 (by decide) (fun c18 => have e20 := e17.1 c18; (aw_aload_n d_X9_come_59 rfl rfl 0 rfl (by decide)
(aw_getR (k' := 27) (a := 0) (b := 0) (j := 0) d_X9_come_60 rfl fl9_7 rfl zj0 ⟨by decide, fun _ => by decide⟩
(aw_bipush d_X9_come_63 rfl (by decide)
(aw_iload_n d_X9_come_65 rfl rfl 3 rfl
(aw_imul d_X9_come_66 rfl
(aw_iconst d_X9_come_67 rfl
(aw_iadd d_X9_come_68 rfl
(aw_iload_n d_X9_come_69 rfl rfl 1 rfl
(have z22 := e20.1; have e23 := e20.2; aw_if_eq d_X9_come_70 rfl rfl z22 (fun c24 => have e26 := e23.1 c24; (aw_iconst d_X9_come_77 rfl
(have z28 := e26.1; have e30 := e26.2 _ rfl; aw_iast d_X9_come_78 rfl za27 z28
(aw_aload_n d_X9_come_79 rfl rfl 0 rfl (by decide)
(aw_getR (k' := 27) (a := 0) (b := 0) (j := 0) d_X9_come_80 rfl fl9_7 rfl zj0 ⟨by decide, fun _ => by decide⟩
(aw_bipush d_X9_come_83 rfl (by decide)
(aw_iload_n d_X9_come_85 rfl rfl 3 rfl
(aw_imul d_X9_come_86 rfl
(aw_iconst d_X9_come_87 rfl
(aw_iadd d_X9_come_88 rfl
(aw_iload_n d_X9_come_89 rfl rfl 2 rfl
(have z31 := e30.1; have e33 := e30.2 _ rfl; aw_iast d_X9_come_90 rfl za27 z31
(aw_aload_n d_X9_come_91 rfl rfl 0 rfl (by decide)
(aw_getR (k' := 27) (a := 0) (b := 0) (j := 0) d_X9_come_92 rfl fl9_7 rfl zj0 ⟨by decide, fun _ => by decide⟩
(aw_sipush d_X9_come_95 rfl (by decide)
(aw_dup2 d_X9_come_98 rfl rfl rfl
(aw_iald d_X9_come_99 rfl za27 (by decide)
(aw_iconst d_X9_come_100 rfl
(aw_iadd d_X9_come_101 rfl
(have e35 := e33 _ rfl; aw_iast d_X9_come_102 rfl za27 (by decide)
(aw_iload_n d_X9_come_103 rfl rfl 3 rfl
(aw_ri d_X9_come_104 rfl e35)))))))))))))))))))))) (fun c25 => have e27 := e23.2 c25; (aw_iconst d_X9_come_73 rfl
(aw_goto d_X9_come_74 rfl
(have z36 := e27.1; have e38 := e27.2 _ rfl; aw_iast d_X9_come_78 rfl za27 z36
(aw_aload_n d_X9_come_79 rfl rfl 0 rfl (by decide)
(aw_getR (k' := 27) (a := 0) (b := 0) (j := 0) d_X9_come_80 rfl fl9_7 rfl zj0 ⟨by decide, fun _ => by decide⟩
(aw_bipush d_X9_come_83 rfl (by decide)
(aw_iload_n d_X9_come_85 rfl rfl 3 rfl
(aw_imul d_X9_come_86 rfl
(aw_iconst d_X9_come_87 rfl
(aw_iadd d_X9_come_88 rfl
(aw_iload_n d_X9_come_89 rfl rfl 2 rfl
(have z39 := e38.1; have e41 := e38.2 _ rfl; aw_iast d_X9_come_90 rfl za27 z39
(aw_aload_n d_X9_come_91 rfl rfl 0 rfl (by decide)
(aw_getR (k' := 27) (a := 0) (b := 0) (j := 0) d_X9_come_92 rfl fl9_7 rfl zj0 ⟨by decide, fun _ => by decide⟩
(aw_sipush d_X9_come_95 rfl (by decide)
(aw_dup2 d_X9_come_98 rfl rfl rfl
(aw_iald d_X9_come_99 rfl za27 (by decide)
(aw_iconst d_X9_come_100 rfl
(aw_iadd d_X9_come_101 rfl
(have e43 := e41 _ rfl; aw_iast d_X9_come_102 rfl za27 (by decide)
(aw_iload_n d_X9_come_103 rfl rfl 3 rfl
(aw_ri d_X9_come_104 rfl e43))))))))))))))))))))))))))))))))) (fun c19 => have e21 := e17.2 c19; (aw_aload_n d_X9_come_40 rfl rfl 0 rfl (by decide)
(aw_getR (k' := 27) (a := 0) (b := 0) (j := 0) d_X9_come_41 rfl fl9_7 rfl zj0 ⟨by decide, fun _ => by decide⟩
(aw_bipush d_X9_come_44 rfl (by decide)
(aw_iload_n d_X9_come_46 rfl rfl 3 rfl
(aw_imul d_X9_come_47 rfl
(aw_iload d_X9_come_48 rfl 4 rfl
(aw_iadd d_X9_come_50 rfl
(aw_iconst d_X9_come_51 rfl
(have z44 := e21.1; have e46 := e21.2 _ rfl; aw_iast d_X9_come_52 rfl za27 z44
(aw_iinc (lv' := [(4, zi (v4 + 1)), (0, zr 9 0), (1, zi v1), (2, zi v2), (3, zi v3)]) (y := (v4 + 1)) d_X9_come_53 rfl 4 rfl (by decide) rfl rfl
(aw_goto d_X9_come_56 rfl
(aw_sub [1, 2, 3, 4, 0] rfl e46))))))))))))))))
theorem vX9_come {l : Launch} {P : Int → zM → Prop} {v1 : Int} {v2 : Int} {M : zM}
    (H0 : (zI v2 ∧ ((0 ≤ v2 ∧ v2 < 4 → (zI (M 27 0 180) ∧ ((M 27 0 180) ≠ 20 → (CV l m_X9_keepsAct [zr 9 0] M (fun M13 => LX9_come_33 l P v1 v2 (M13 27 0 180) 0 M13))) ∧ ((M 27 0 180) = 20 → P (-2) M))) ∧ (¬ (0 ≤ v2 ∧ v2 < 4) → P (-1) M)))) :
    CI l m_X9_come [zr 9 0, zi v1, zi v2] M P :=
(aw_iload_n d_X9_come_0 rfl rfl 2 rfl
(have z1 := H0.1; have e2 := H0.2; (aw_SI (As := [zi v2]) (st := []) d_X9_come_1 rfl cs9_195 ⟨Nat.le_of_ble_eq_true rfl, Nat.le_of_ble_eq_true rfl⟩ rfl rfl (Nat.le_of_ble_eq_true rfl) (Nat.le_of_ble_eq_true rfl) (s_X9_isGrade z1) (fun _ _ hq => aw_eqs hq
(aw_if_ne d_X9_come_4 rfl rfl zb_I (fun c3 => have e5 := e2.1 (zb_n0 c3); (aw_aload_n d_X9_come_9 rfl rfl 0 rfl (by decide)
(aw_VI (As := []) (st := []) d_X9_come_10 rfl cv9_78 ⟨Nat.le_of_ble_eq_true rfl, Nat.le_of_ble_eq_true rfl⟩ rfl rfl (Nat.le_of_ble_eq_true rfl) (Nat.le_of_ble_eq_true rfl) (s_X9_traders) (fun _ _ hq => aw_eqs hq
(aw_bipush d_X9_come_13 rfl (by decide)
(have z7 := e5.1; have e8 := e5.2; aw_icmp_ne d_X9_come_15 rfl rfl z7 (by decide) (fun c9 => have e11 := e8.1 c9; (aw_aload_n d_X9_come_21 rfl rfl 0 rfl (by decide)
(aw_VV (As := []) (st := []) d_X9_come_22 rfl cv9_363 ⟨Nat.le_of_ble_eq_true rfl, Nat.le_of_ble_eq_true rfl⟩ rfl rfl (Nat.le_of_ble_eq_true rfl) (Nat.le_of_ble_eq_true rfl) e11 (fun M13 e14 => (aw_aload_n d_X9_come_25 rfl rfl 0 rfl (by decide)
(aw_VI (As := []) (st := []) d_X9_come_26 rfl cv9_78 ⟨Nat.le_of_ble_eq_true rfl, Nat.le_of_ble_eq_true rfl⟩ rfl rfl (Nat.le_of_ble_eq_true rfl) (Nat.le_of_ble_eq_true rfl) (s_X9_traders) (fun _ _ hq => aw_eqs hq
(aw_istore_n (lv' := [(3, zi (M13 27 0 180)), (0, zr 9 0), (1, zi v1), (2, zi v2)]) d_X9_come_29 rfl rfl (by decide) rfl
(aw_iconst d_X9_come_30 rfl
(aw_istore (lv' := [(4, zi 0), (3, zi (M13 27 0 180)), (0, zr 9 0), (1, zi v1), (2, zi v2)]) d_X9_come_31 rfl (by decide) rfl
(aw_sub [2, 3, 4, 1, 0] rfl e14))))))))))) (fun c10 => have e12 := e8.2 c10; (aw_bipush d_X9_come_18 rfl (by decide)
(aw_ri d_X9_come_20 rfl e12))))))))) (fun c4 => have e6 := e2.2 (zb_0 c4); (aw_iconst d_X9_come_7 rfl
(aw_ri d_X9_come_8 rfl e6))))))))
def LX9_leave_32 (l : Launch) (P : Int → zM → Prop) (v1 : Int) (v2 : Int) (v3 : Int) (M : zM) : Prop := AW l m_X9_leave (zTi m_X9_leave P) 32 [(0, zr 9 0), (1, zi v1), (2, zi v2), (3, zi v3)] [] M
theorem vX9_leave_32 {l : Launch} {P : Int → zM → Prop} {v1 : Int} {v2 : Int} {v3 : Int} {M : zM}
    (H0 : (zI v3 ∧ (4 ≤ v3 → ((0 ≤ ((9 * v1) + 2) ∧ ((9 * v1) + 2) < 187) ∧ ∀ M27 : zM, M27 = zu M 27 0 ((9 * v1) + 2) 0 → P v2 M27)) ∧ (v3 < 4 → ((0 ≤ (((9 * v1) + 3) + v3) ∧ (((9 * v1) + 3) + v3) < 187) ∧ ∀ M30 : zM, M30 = zu M 27 0 (((9 * v1) + 3) + v3) 0 → LX9_leave_32 l P v1 v2 (v3 + 1) M30)))) :
    LX9_leave_32 l P v1 v2 v3 M :=
(aw_iload_n d_X9_leave_32 rfl rfl 3 rfl
(aw_iconst d_X9_leave_33 rfl
(have z20 := H0.1; have e21 := H0.2; aw_icmp_ge d_X9_leave_34 rfl rfl z20 (by decide) (fun c22 => have e24 := e21.1 c22; (aw_aload_n d_X9_leave_57 rfl rfl 0 rfl (by decide)
(aw_getR (k' := 27) (a := 0) (b := 0) (j := 0) d_X9_leave_58 rfl fl9_7 rfl zj0 ⟨by decide, fun _ => by decide⟩
(aw_bipush d_X9_leave_61 rfl (by decide)
(aw_iload_n d_X9_leave_63 rfl rfl 1 rfl
(aw_imul d_X9_leave_64 rfl
(aw_iconst d_X9_leave_65 rfl
(aw_iadd d_X9_leave_66 rfl
(aw_iconst d_X9_leave_67 rfl
(have z26 := e24.1; have e28 := e24.2 _ rfl; aw_iast d_X9_leave_68 rfl za27 z26
(aw_iload_n d_X9_leave_69 rfl rfl 2 rfl
(aw_ri d_X9_leave_70 rfl e28)))))))))))) (fun c23 => have e25 := e21.2 c23; (aw_aload_n d_X9_leave_37 rfl rfl 0 rfl (by decide)
(aw_getR (k' := 27) (a := 0) (b := 0) (j := 0) d_X9_leave_38 rfl fl9_7 rfl zj0 ⟨by decide, fun _ => by decide⟩
(aw_bipush d_X9_leave_41 rfl (by decide)
(aw_iload_n d_X9_leave_43 rfl rfl 1 rfl
(aw_imul d_X9_leave_44 rfl
(aw_iconst d_X9_leave_45 rfl
(aw_iadd d_X9_leave_46 rfl
(aw_iload_n d_X9_leave_47 rfl rfl 3 rfl
(aw_iadd d_X9_leave_48 rfl
(aw_iconst d_X9_leave_49 rfl
(have z29 := e25.1; have e31 := e25.2 _ rfl; aw_iast d_X9_leave_50 rfl za27 z29
(aw_iinc (lv' := [(3, zi (v3 + 1)), (0, zr 9 0), (1, zi v1), (2, zi v2)]) (y := (v3 + 1)) d_X9_leave_51 rfl 3 rfl (by decide) rfl rfl
(aw_goto d_X9_leave_54 rfl
(aw_sub [1, 2, 3, 0] rfl e31))))))))))))))))))
theorem vX9_leave {l : Launch} {P : Int → zM → Prop} {v1 : Int} {M : zM}
    (H0 : ((zI v1 ∧ (0 ≤ M 27 0 180 ∧ M 27 0 180 ≤ 20)) ∧ ((¬ (0 ≤ v1 ∧ v1 < M 27 0 180) → P (-1) M) ∧ (0 ≤ v1 ∧ v1 < M 27 0 180 → ((0 ≤ 9 * v1 + 2 ∧ 9 * v1 + 2 < 187) ∧ (zI (M 27 0 (9 * v1 + 2)) ∧ ((M 27 0 (9 * v1 + 2)) ≠ 0 → (CV l m_X9_keepsAct [zr 9 0] M (fun M15 => ((0 ≤ 9 * v1 + 2 ∧ 9 * v1 + 2 < 187) ∧ LX9_leave_32 l P v1 (M15 27 0 (9 * v1 + 2)) 0 M15)))) ∧ ((M 27 0 (9 * v1 + 2)) = 0 → P (-1) M))))))) :
    CI l m_X9_leave [zr 9 0, zi v1] M P :=
(aw_aload_n d_X9_leave_0 rfl rfl 0 rfl (by decide)
(aw_iload_n d_X9_leave_1 rfl rfl 1 rfl
(have z1 := H0.1; have e2 := H0.2; (aw_VI (As := [zi v1]) (st := []) d_X9_leave_2 rfl cv9_189 ⟨Nat.le_of_ble_eq_true rfl, Nat.le_of_ble_eq_true rfl⟩ rfl rfl (Nat.le_of_ble_eq_true rfl) (Nat.le_of_ble_eq_true rfl) (s_X9_isTrader z1) (fun _ _ hq => aw_eqs hq
(aw_if_eq d_X9_leave_5 rfl rfl zb_I (fun c3 => have e5 := e2.1 (zb_0 c3); (aw_iconst d_X9_leave_17 rfl
(aw_ri d_X9_leave_18 rfl e5))) (fun c4 => have e6 := e2.2 (zb_n0 c4); (aw_aload_n d_X9_leave_8 rfl rfl 0 rfl (by decide)
(aw_iload_n d_X9_leave_9 rfl rfl 1 rfl
(aw_iconst d_X9_leave_10 rfl
(have z7 := e6.1; have e8 := e6.2; (aw_VI (As := [zi v1, zi 2]) (st := []) d_X9_leave_11 rfl cv9_88 ⟨Nat.le_of_ble_eq_true rfl, Nat.le_of_ble_eq_true rfl⟩ rfl rfl (Nat.le_of_ble_eq_true rfl) (Nat.le_of_ble_eq_true rfl) (s_X9_of z7) (fun _ _ hq => aw_eqs hq
(have z9 := e8.1; have e10 := e8.2; aw_if_ne d_X9_leave_14 rfl rfl z9 (fun c11 => have e13 := e10.1 c11; (aw_aload_n d_X9_leave_19 rfl rfl 0 rfl (by decide)
(aw_VV (As := []) (st := []) d_X9_leave_20 rfl cv9_363 ⟨Nat.le_of_ble_eq_true rfl, Nat.le_of_ble_eq_true rfl⟩ rfl rfl (Nat.le_of_ble_eq_true rfl) (Nat.le_of_ble_eq_true rfl) e13 (fun M15 e16 => (aw_aload_n d_X9_leave_23 rfl rfl 0 rfl (by decide)
(aw_iload_n d_X9_leave_24 rfl rfl 1 rfl
(aw_iconst d_X9_leave_25 rfl
(have z18 := e16.1; have e19 := e16.2; (aw_VI (As := [zi v1, zi 2]) (st := []) d_X9_leave_26 rfl cv9_88 ⟨Nat.le_of_ble_eq_true rfl, Nat.le_of_ble_eq_true rfl⟩ rfl rfl (Nat.le_of_ble_eq_true rfl) (Nat.le_of_ble_eq_true rfl) (s_X9_of z18) (fun _ _ hq => aw_eqs hq
(aw_istore_n (lv' := [(2, zi (M15 27 0 (9 * v1 + 2))), (0, zr 9 0), (1, zi v1)]) d_X9_leave_29 rfl rfl (by decide) rfl
(aw_iconst d_X9_leave_30 rfl
(aw_istore_n (lv' := [(3, zi 0), (2, zi (M15 27 0 (9 * v1 + 2))), (0, zr 9 0), (1, zi v1)]) d_X9_leave_31 rfl rfl (by decide) rfl
(aw_sub [2, 3, 1, 0] rfl e19)))))))))))))) (fun c12 => have e14 := e10.2 c12; (aw_iconst d_X9_leave_17 rfl
(aw_ri d_X9_leave_18 rfl e14)))))))))))))))))
theorem vX9_becomes {l : Launch} {P : Int → zM → Prop} {v1 : Int} {v2 : Int} {M : zM}
    (H0 : ((0 ≤ v1 ∧ v1 < 187) ∧ (zI (M 27 0 v1) ∧ zI v2 ∧ ((M 27 0 v1) ≠ v2 → (CV l m_X9_keepsAct [zr 9 0] M (fun M10 => (∀ M13 : zM, M13 = zu M10 27 0 v1 v2 → P (M 27 0 v1) M13)))) ∧ ((M 27 0 v1) = v2 → P (-2) M)))) :
    CI l m_X9_becomes [zr 9 0, zi v1, zi v2] M P :=
(aw_aload_n d_X9_becomes_0 rfl rfl 0 rfl (by decide)
(aw_getR (k' := 27) (a := 0) (b := 0) (j := 0) d_X9_becomes_1 rfl fl9_7 rfl zj0 ⟨by decide, fun _ => by decide⟩
(aw_iload_n d_X9_becomes_4 rfl rfl 1 rfl
(have z1 := H0.1; have e2 := H0.2; (aw_iald d_X9_becomes_5 rfl za27 z1
(aw_istore_n (lv' := [(3, zi (M 27 0 v1)), (0, zr 9 0), (1, zi v1), (2, zi v2)]) d_X9_becomes_6 rfl rfl (by decide) rfl
(aw_iload_n d_X9_becomes_7 rfl rfl 0 rfl
(aw_iload_n d_X9_becomes_8 rfl rfl 3 rfl
(have z3 := e2.1; have z4 := e2.2.1; have e5 := e2.2.2; aw_icmp_ne d_X9_becomes_9 rfl rfl z3 z4 (fun c6 => have e8 := e5.1 c6; (aw_aload_n d_X9_becomes_15 rfl rfl 1 rfl (by decide)
(aw_VV (As := []) (st := []) d_X9_becomes_16 rfl cv9_363 ⟨Nat.le_of_ble_eq_true rfl, Nat.le_of_ble_eq_true rfl⟩ rfl rfl (Nat.le_of_ble_eq_true rfl) (Nat.le_of_ble_eq_true rfl) e8 (fun M10 e11 => (aw_aload_n d_X9_becomes_19 rfl rfl 1 rfl (by decide)
(aw_getR (k' := 27) (a := 0) (b := 0) (j := 0) d_X9_becomes_20 rfl fl9_7 rfl zj0 ⟨by decide, fun _ => by decide⟩
(aw_iload_n d_X9_becomes_23 rfl rfl 2 rfl
(aw_iload_n d_X9_becomes_24 rfl rfl 3 rfl
(have e14 := e11 _ rfl; aw_iast d_X9_becomes_25 rfl za27 z1
(aw_iload_n d_X9_becomes_26 rfl rfl 0 rfl
(aw_ri d_X9_becomes_27 rfl e14))))))))))) (fun c7 => have e9 := e5.2 c7; (aw_bipush d_X9_becomes_12 rfl (by decide)
(aw_ri d_X9_becomes_14 rfl e9))))))))))))
theorem vX9_fee {l : Launch} {P : Int → zM → Prop} {v1 : Int} {M : zM}
    (H0 : (zI v1 ∧ ((zJ v1 ∧ zJ 0 ∧ zJ 500) ∧ ((¬ (0 ≤ v1 ∧ v1 ≤ 500) → P (-1) M) ∧ (0 ≤ v1 ∧ v1 ≤ 500 → (CI l m_X9_becomes [zr 9 0, zi 181, zi v1] M (fun x12 M9 => P x12 M9))))))) :
    CI l m_X9_fee [zr 9 0, zi v1] M P :=
(aw_iload_n d_X9_fee_0 rfl rfl 1 rfl
(have z1 := H0.1; have e2 := H0.2; (aw_i2l d_X9_fee_1 rfl z1
(aw_lconst (x := 0) d_X9_fee_2 rfl (by decide)
(aw_ldc2 d_X9_fee_3 rfl cl9_209
(have z3 := e2.1; have e4 := e2.2; (aw_SI (As := [zl v1, zl 0, zl 500]) (st := []) d_X9_fee_6 rfl cs9_82 ⟨Nat.le_of_ble_eq_true rfl, Nat.le_of_ble_eq_true rfl⟩ rfl rfl (Nat.le_of_ble_eq_true rfl) (Nat.le_of_ble_eq_true rfl) (s_X9_in z3) (fun _ _ hq => aw_eqs hq
(aw_if_eq d_X9_fee_9 rfl rfl zb_I (fun c5 => have e7 := e4.1 (zb_0 c5); (aw_iconst d_X9_fee_23 rfl
(aw_ri d_X9_fee_24 rfl e7))) (fun c6 => have e8 := e4.2 (zb_n0 c6); (aw_aload_n d_X9_fee_12 rfl rfl 0 rfl (by decide)
(aw_sipush d_X9_fee_13 rfl (by decide)
(aw_iload_n d_X9_fee_16 rfl rfl 1 rfl
(aw_VI (As := [zi 181, zi v1]) (st := []) d_X9_fee_17 rfl cv9_372 ⟨Nat.le_of_ble_eq_true rfl, Nat.le_of_ble_eq_true rfl⟩ rfl rfl (Nat.le_of_ble_eq_true rfl) (Nat.le_of_ble_eq_true rfl) e8 (fun x12 M9 e10 => (aw_goto d_X9_fee_20 rfl
(aw_ri d_X9_fee_24 rfl e10)))))))))))))))))
theorem vX9_law {l : Launch} {P : Int → zM → Prop} {v1 : Int} {M : zM}
    (H0 : (zI v1 ∧ ((zJ v1 ∧ zJ 0 ∧ zJ 3) ∧ ((¬ (0 ≤ v1 ∧ v1 ≤ 3) → P (-1) M) ∧ (0 ≤ v1 ∧ v1 ≤ 3 → (CI l m_X9_becomes [zr 9 0, zi 182, zi v1] M (fun x12 M9 => P x12 M9))))))) :
    CI l m_X9_law [zr 9 0, zi v1] M P :=
(aw_iload_n d_X9_law_0 rfl rfl 1 rfl
(have z1 := H0.1; have e2 := H0.2; (aw_i2l d_X9_law_1 rfl z1
(aw_lconst (x := 0) d_X9_law_2 rfl (by decide)
(aw_ldc2 d_X9_law_3 rfl cl9_86
(have z3 := e2.1; have e4 := e2.2; (aw_SI (As := [zl v1, zl 0, zl 3]) (st := []) d_X9_law_6 rfl cs9_82 ⟨Nat.le_of_ble_eq_true rfl, Nat.le_of_ble_eq_true rfl⟩ rfl rfl (Nat.le_of_ble_eq_true rfl) (Nat.le_of_ble_eq_true rfl) (s_X9_in z3) (fun _ _ hq => aw_eqs hq
(aw_if_eq d_X9_law_9 rfl rfl zb_I (fun c5 => have e7 := e4.1 (zb_0 c5); (aw_iconst d_X9_law_23 rfl
(aw_ri d_X9_law_24 rfl e7))) (fun c6 => have e8 := e4.2 (zb_n0 c6); (aw_aload_n d_X9_law_12 rfl rfl 0 rfl (by decide)
(aw_sipush d_X9_law_13 rfl (by decide)
(aw_iload_n d_X9_law_16 rfl rfl 1 rfl
(aw_VI (As := [zi 182, zi v1]) (st := []) d_X9_law_17 rfl cv9_372 ⟨Nat.le_of_ble_eq_true rfl, Nat.le_of_ble_eq_true rfl⟩ rfl rfl (Nat.le_of_ble_eq_true rfl) (Nat.le_of_ble_eq_true rfl) e8 (fun x12 M9 e10 => (aw_goto d_X9_law_20 rfl
(aw_ri d_X9_law_24 rfl e10)))))))))))))))))
theorem a9_come {s g : Int} (h : mSy M A) (w : wfY kk A) (hs : s = 0 ∨ s = 1) (zg : zI g) : CI l m_X9_come [zr 9 0, zi s, zi g] M (rR (aCome A s g) M) := by
  have n0 := w.1.1
  have e180 : ∀ {M A}, mSy M A → M 27 0 180 = qn (yS A) := fun h => (mv_at h.1.1.1 h.1.1.2).2.2.1 0 (by omega)
  refine vX9_come ?_
  rw [e180 h]
  refine ⟨zg, fun a => ⟨by omega, fun b => ?_, fun b => ?_⟩, fun a => ?_⟩
  · refine (c_X9_keepsAct h w.2.1).mono ?_
    rintro M1 ⟨h1, f1⟩
    have en : M1 27 0 180 = qn (yS A) := (e180 h1 : M1 27 0 180 = qn (yS (yPut A (yS A))))
    rw [en]
    unfold aCome
    rw [if_neg (by omega), if_neg (by omega)]
    have loop : ∀ (n : Nat) (v : Int) (M' : zM), (9 - v).toNat = n → 0 ≤ v ∧ v ≤ 9 → (∀ k i, ¬ (k = 27 ∧ i = 0) → M' k i = M1 k i) → (∀ j, M' 27 0 j = if 9 * qn (yS A) ≤ j ∧ j < 9 * qn (yS A) + v then 0 else M1 27 0 j) → LX9_come_33 l (rR (qn (yS A), yPut A (sCome (yS A) s g)) M) s g (qn (yS A)) v M' := by
      intro n
      induction n with
      | zero =>
        intro v M' hn hv f e
        have ev : v = 9 := by omega
        subst ev
        have fin : ∀ M2, M2 = zu M' 27 0 (9 * qn (yS A) + 0) s → ∀ M3, M3 = zu M2 27 0 (9 * qn (yS A) + 1) g → ∀ M4, M4 = zu M3 27 0 180 (M3 27 0 180 + 1) → rR (qn (yS A), yPut A (sCome (yS A) s g)) M (qn (yS A)) M4 := by
          intro M2 q2 M3 q3 M4 q4
          have e3 : M3 27 0 180 = qn (yS A) := by rw [q3, zu_at, if_neg (by omega), q2, zu_at, if_neg (by omega), e, if_neg (by omega)]; exact en
          refine fin_h h1 f1 (fun k i hk => ?_) (m_come (M1 := M1) h1.1.1.1 h1.1.1.2 (by show qn (yS A) < 20; omega) hs fun j => ?_)
          · rw [q4, zu_o k i hk, q3, zu_o k i hk, q2, zu_o k i hk]
            exact f k i hk
          · rw [q4, zu_at, e3, q3, zu_at, q2, zu_at, e, Int.add_zero]
        refine vX9_come_33 ⟨by omega, fun _ => ⟨by omega, fun q => ?_, fun q => ?_⟩, fun q => by omega⟩
        · subst q
          exact ⟨by omega, fun M2 q2 => ⟨by omega, fun M3 q3 M4 q4 => fin M2 q2 M3 q3 M4 q4⟩⟩
        · have s1 : s = 1 := by omega
          subst s1
          exact ⟨by omega, fun M2 q2 => ⟨by omega, fun M3 q3 M4 q4 => fin M2 q2 M3 q3 M4 q4⟩⟩
      | succ n ih =>
        intro v M' hn hv f e
        refine vX9_come_33 ⟨by omega, fun q => by omega, fun _ => ⟨by omega, ?_⟩⟩
        rintro M2 rfl
        refine ih (v + 1) _ (by omega) (by omega) (fun k i hk => by rw [zu_o k i hk]; exact f k i hk) fun j => ?_
        rw [zu_at, e]
        by_cases z : j = 9 * qn (yS A) + v
        · rw [if_pos z, if_pos (by omega)]
        · rw [if_neg z]
          by_cases y : 9 * qn (yS A) ≤ j ∧ j < 9 * qn (yS A) + v
          · rw [if_pos y, if_pos (by omega)]
          · rw [if_neg y, if_neg (by omega)]
    exact loop _ 0 M1 rfl (by omega) (fun _ _ _ => rfl) fun j => by rw [if_neg (by omega)]
  · unfold aCome
    rw [if_neg (by omega), if_pos (by omega)]
    exact rR.st h
  · unfold aCome
    rw [if_pos a]
    exact rR.st h
theorem a9_leave {t : Int} (h : mSy M A) (w : wfY kk A) (zt : zI t) : CI l m_X9_leave [zr 9 0, zi t] M (rR (aLeave A t) M) := by
  have n0 := w.1.1
  obtain ⟨z, -, h0, h1, h3⟩ := mv_at h.1.1.1 h.1.1.2
  have e180 : M 27 0 180 = qn (yS A) := h0 0 (by omega)
  refine vX9_leave ?_
  rw [e180]
  refine ⟨⟨zt, n0⟩, fun a => ?_, fun a => ?_⟩
  · unfold aLeave
    rw [if_pos (z.2.1 t a).2.2.1]
    exact rR.st h
  · have k := h1 t a
    rw [k.2.2.2.2.1]
    refine ⟨by omega, by omega, fun b => ?_, fun b => ?_⟩
    · refine (c_X9_keepsAct h w.2.1).mono ?_
      rintro M1 ⟨h1', f1⟩
      have k1 := (mv_at h1'.1.1.1 h1'.1.1.2).2.2.2.1 t a
      have e2 : M1 27 0 (9 * t + 2) = qun (yS A) t := k1.2.2.2.2.1
      rw [e2]
      unfold aLeave
      rw [if_neg b]
      refine ⟨by omega, ?_⟩
      have loop : ∀ (n : Nat) (v : Int) (M' : zM), (4 - v).toNat = n → 0 ≤ v ∧ v ≤ 4 → (∀ k i, ¬ (k = 27 ∧ i = 0) → M' k i = M1 k i) → (∀ j, M' 27 0 j = if 9 * t + 3 ≤ j ∧ j < 9 * t + 3 + v then 0 else M1 27 0 j) → LX9_leave_32 l (rR (qun (yS A) t, yPut A (sDrop (yS A) t (qun (yS A) t))) M) t (qun (yS A) t) v M' := by
        intro n
        induction n with
        | zero =>
          intro v M' hn hv f e
          have ev : v = 4 := by omega
          subst ev
          refine vX9_leave_32 ⟨by omega, fun _ => ⟨by omega, ?_⟩, fun q => by omega⟩
          intro M2 q2
          refine fin_h h1' f1 (fun k i hk => by rw [q2, zu_o k i hk]; exact f k i hk) (m_drop (M1 := M1) (S := yS A) h1'.1.1.1 h1'.1.1.2 a fun j => ?_)
          rw [q2, zu_at, e]
          by_cases z : j = 9 * t + 2
          · rw [if_pos z, if_pos (by omega)]
          · rw [if_neg z]
            by_cases y : 9 * t + 3 ≤ j ∧ j < 9 * t + 3 + 4
            · rw [if_pos y, if_pos (by omega)]
            · rw [if_neg y, if_neg (by omega)]
        | succ n ih =>
          intro v M' hn hv f e
          refine vX9_leave_32 ⟨by omega, fun q => by omega, fun _ => ⟨by omega, ?_⟩⟩
          rintro M2 rfl
          refine ih (v + 1) _ (by omega) (by omega) (fun k i hk => by rw [zu_o k i hk]; exact f k i hk) fun j => ?_
          rw [zu_at, e]
          by_cases z : j = 9 * t + 3 + v
          · rw [if_pos z, if_pos (by omega)]
          · rw [if_neg z]
            by_cases y : 9 * t + 3 ≤ j ∧ j < 9 * t + 3 + v
            · rw [if_pos y, if_pos (by omega)]
            · rw [if_neg y, if_neg (by omega)]
      exact loop _ 0 M1 rfl (by omega) (fun _ _ _ => rfl) fun j => by rw [if_neg (by omega)]
    · unfold aLeave
      rw [if_pos b]
      exact rR.st h
theorem c_X9_becomes {j p : Int} (hj : 1 ≤ j ∧ j < 3) (h : mSy M A) (w : wfY kk A) (zo' : zI (qsc (yS A) j)) (zp : zI p) : CI l m_X9_becomes [zr 9 0, zi (180 + j), zi p] M (rR (if qsc (yS A) j = p then (-2, A) else (qsc (yS A) j, yPut A (sSc (yS A) j p))) M) := by
  have h0 := (mv_at h.1.1.1 h.1.1.2).2.2.1 j (by omega)
  refine vX9_becomes ?_
  rw [h0]
  refine ⟨by omega, zo', zp, fun b => ?_, fun b => ?_⟩
  · refine (c_X9_keepsAct h w.2.1).mono ?_
    rintro M1 ⟨h1, f1⟩ M2 q2
    rw [if_neg b]
    have z := sc_put (M2 := M2) (j := j) (x := p) h1.1.1.1 (by omega) (by rw [q2])
    have e1 : rS M1 = yS A := h1.1.1.2
    rw [e1] at z
    exact fin_h h1 f1 (fun k i hk => by rw [q2, zu_o k i hk]) ⟨z.2, z.1⟩
  · rw [if_pos b]
    exact rR.st h
theorem a9_fee {p : Int} (h : mSy M A) (w : wfY kk A) (zp : zI p) : CI l m_X9_fee [zr 9 0, zi p] M (rR (aFeeA A p) M) := by
  have hf := w.1.2.1
  refine vX9_fee ⟨zp, ⟨by omega, by omega, by omega⟩, fun a => ?_, fun a => ?_⟩
  · unfold aFeeA
    rw [if_pos a]
    exact rR.st h
  · unfold aFeeA
    rw [if_neg (by omega)]
    exact c_X9_becomes (j := 1) (by omega) h w (show zI (qfee (yS A)) by omega) zp
theorem a9_law {p : Int} (h : mSy M A) (w : wfY kk A) (zp : zI p) : CI l m_X9_law [zr 9 0, zi p] M (rR (aLawA A p) M) := by
  have hf := w.1.2.2.1
  refine vX9_law ⟨zp, ⟨by omega, by omega, by omega⟩, fun a => ?_, fun a => ?_⟩
  · unfold aLawA
    rw [if_pos a]
    exact rR.st h
  · unfold aLawA
    rw [if_neg (by omega)]
    exact c_X9_becomes (j := 2) (by omega) h w (show zI (qlaw (yS A)) by omega) zp
end
