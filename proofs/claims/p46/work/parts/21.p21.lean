/-! ===== the class: a book taken, copied ===== -/
theorem bkR_0 {M M' : zM} {b : Nat} (e2 : M' 0 b 2 = 0) (e3 : M' 0 b 3 = 0) : bkR M' b [] [] := ⟨e2, e3, rwI_nil, rwI_nil⟩
theorem mB_none {S : zS} {E : Int → Prop} {v : Int → Int → Int} (h : ∀ t, 0 ≤ t ∧ t < qn S → ¬ E t) : mB S E v = [] ∧ mA S E v = [] := by
  constructor
  · refine rowOf_is ⟨List.Pairwise.nil, fun x => ⟨fun q => absurd q List.not_mem_nil, ?_⟩⟩
    rintro ⟨t, u, c, -⟩
    exact absurd c.2.1 (h t ⟨c.1.1, c.1.2.1⟩)
  · refine rowOf_is ⟨List.Pairwise.nil, fun x => ⟨fun q => absurd q List.not_mem_nil, ?_⟩⟩
    rintro ⟨t, u, c, -⟩
    exact absurd c.2.1 (h t ⟨c.1.1, c.1.2.1⟩)
theorem m_congrE {S : zS} {E E' : Int → Prop} {v v' : Int → Int → Int} (h : ∀ t, 0 ≤ t ∧ t < qn S → (E t ↔ E' t)) (hv : ∀ t u, qU S t u → E t → v t u = v' t u) : mB S E v = mB S E' v' ∧ mA S E v = mA S E' v' := by
  constructor
  · refine mB_congr (fun t u => ⟨fun c => ⟨c.1, (h t ⟨c.1.1, c.1.2.1⟩).mp c.2.1, c.2.2⟩, fun c => ⟨c.1, (h t ⟨c.1.1, c.1.2.1⟩).mpr c.2.1, c.2.2⟩⟩) (fun t u c => hv t u c.1 c.2.1)
  · refine mA_congr (fun t u => ⟨fun c => ⟨c.1, (h t ⟨c.1.1, c.1.2.1⟩).mp c.2.1, c.2.2⟩, fun c => ⟨c.1, (h t ⟨c.1.1, c.1.2.1⟩).mpr c.2.1, c.2.2⟩⟩) (fun t u c => hv t u c.1 c.2.1)
theorem hold_in {x : Int} (h : 0 ≤ x ∧ x ≤ 9999) : x = max 0 (min (x + 0) 9999) := by omega
theorem kBk_hall {b h : Nat} {M M' : zM} (f : Fx (kBk b) M M') : hS M' h = hS M h ∧ (hW M h → hW M' h) := by
  have k1 : ∀ k, (k = 1 ∨ (12 ≤ k ∧ k ≤ 17)) → M' k h = M k h := fun k hk => f k h (fun q => by have := q.1; omega)
  exact ⟨hS_congr (k1 _ (by omega)) (k1 _ (by omega)) (k1 _ (by omega)) (k1 _ (by omega)) (k1 _ (by omega)) (k1 _ (by omega)) (k1 _ (by omega)), hW_congr (k1 _ (by omega)) (k1 _ (by omega)) (k1 _ (by omega))⟩
section
variable {l : Launch} {M : zM}
def LX0_take_13 (l : Launch) (P : zM → Prop) (b : Nat) (h1 : Nat) (v2 : Int) (v3 : Int) (v4 : Int) (M : zM) : Prop := AW l m_X0_take (zTv m_X0_take P) 13 [(0, zr 0 b), (1, zr 1 h1), (2, zi v2), (3, zi v3), (4, zi v4)] [] M
theorem vX0_take_13 {l : Launch} {P : zM → Prop} {b : Nat} {h1 : Nat} {v2 : Int} {v3 : Int} {v4 : Int} {M : zM}
    (H0 : (zI v4 ∧ zI (M 1 h1 6) ∧ ((M 1 h1 6) ≤ v4 → P M) ∧ (v4 < (M 1 h1 6) → ((hW M h1 ∧ 0 ≤ v4 ∧ v4 < M 1 h1 6) ∧ (zI (zand v2 (zshl 1 (qgr (hS M h1) v4))) ∧ ((zand v2 (zshl 1 (qgr (hS M h1) v4))) = 0 → LX0_take_13 l P b h1 v2 v3 (v4 + 1) M) ∧ ((zand v2 (zshl 1 (qgr (hS M h1) v4))) ≠ 0 → (zI (zand v3 (zshl 1 v4)) ∧ ((zand v3 (zshl 1 v4)) ≠ 0 → LX0_take_13 l P b h1 v2 v3 (v4 + 1) M) ∧ ((zand v3 (zshl 1 v4)) = 0 → (CV l m_X0_takeTrader [zr 0 b, zr 1 h1, zi v4, zi 0] M (fun M28 => LX0_take_13 l P b h1 v2 v3 (v4 + 1) M28)))))))))) :
    LX0_take_13 l P b h1 v2 v3 v4 M :=
(aw_iload d_X0_take_13 rfl 4 rfl
(aw_aload_n d_X0_take_15 rfl rfl 1 rfl (by decide)
(aw_getI (kc := 6) d_X0_take_16 rfl fl0_25 rfl rfl
(have z5 := H0.1; have z6 := H0.2.1; have e7 := H0.2.2; aw_icmp_ge d_X0_take_19 rfl rfl z5 z6 (fun c8 => have e10 := e7.1 c8; (aw_rv d_X0_take_72 rfl e10)) (fun c9 => have e11 := e7.2 c9; (aw_iload_n d_X0_take_22 rfl rfl 2 rfl
(aw_aload_n d_X0_take_23 rfl rfl 1 rfl (by decide)
(aw_iload d_X0_take_24 rfl 4 rfl
(have z12 := e11.1; have e13 := e11.2; (aw_VI (As := [zi v4]) (st := [zi v2]) d_X0_take_26 rfl cv0_30 ⟨Nat.le_of_ble_eq_true rfl, Nat.le_of_ble_eq_true rfl⟩ rfl rfl (Nat.le_of_ble_eq_true rfl) (Nat.le_of_ble_eq_true rfl) (s_X1_gradeOf z12) (fun _ _ hq => aw_eqs hq
(aw_SI (As := [zi (qgr (hS M h1) v4)]) (st := [zi v2]) d_X0_take_29 rfl cs0_34 ⟨Nat.le_of_ble_eq_true rfl, Nat.le_of_ble_eq_true rfl⟩ rfl rfl (Nat.le_of_ble_eq_true rfl) (Nat.le_of_ble_eq_true rfl) (s_X8_bit) (fun _ _ hq => aw_eqs hq
(aw_iand d_X0_take_32 rfl zand_h
(have z14 := e13.1; have e15 := e13.2; aw_if_eq d_X0_take_33 rfl rfl z14 (fun c16 => have e18 := e15.1 c16; (aw_iconst d_X0_take_40 rfl
(aw_istore (lv' := [(5, zi 0), (0, zr 0 b), (1, zr 1 h1), (2, zi v2), (3, zi v3), (4, zi v4)]) d_X0_take_41 rfl (by decide) rfl
(aw_iload d_X0_take_43 rfl 0 rfl
(aw_if_eq d_X0_take_45 rfl rfl (by decide) (fun _ => (aw_iinc (lv' := [(4, zi (v4 + 1)), (5, zi 0), (0, zr 0 b), (1, zr 1 h1), (2, zi v2), (3, zi v3)]) (y := (v4 + 1)) d_X0_take_66 rfl 5 rfl (by decide) rfl rfl
(aw_goto d_X0_take_69 rfl
(aw_sub [2, 3, 4, 5, 0] rfl e18)))) (fun c20 => absurd c20 (by decide))))))) (fun c17 => have e19 := e15.2 c17; (aw_iconst d_X0_take_36 rfl
(aw_goto d_X0_take_37 rfl
(aw_istore (lv' := [(5, zi 1), (0, zr 0 b), (1, zr 1 h1), (2, zi v2), (3, zi v3), (4, zi v4)]) d_X0_take_41 rfl (by decide) rfl
(aw_iload d_X0_take_43 rfl 0 rfl
(aw_if_eq d_X0_take_45 rfl rfl (by decide) (fun c21 => absurd c21 (by decide)) (fun _ => (aw_iload_n d_X0_take_48 rfl rfl 4 rfl
(aw_iload d_X0_take_49 rfl 5 rfl
(aw_SI (As := [zi v4]) (st := [zi v3]) d_X0_take_51 rfl cs0_34 ⟨Nat.le_of_ble_eq_true rfl, Nat.le_of_ble_eq_true rfl⟩ rfl rfl (Nat.le_of_ble_eq_true rfl) (Nat.le_of_ble_eq_true rfl) (s_X8_bit) (fun _ _ hq => aw_eqs hq
(aw_iand d_X0_take_54 rfl zand_h
(have z22 := e19.1; have e23 := e19.2; aw_if_ne d_X0_take_55 rfl rfl z22 (fun c24 => have e26 := e23.1 c24; (aw_iinc (lv' := [(4, zi (v4 + 1)), (5, zi 1), (0, zr 0 b), (1, zr 1 h1), (2, zi v2), (3, zi v3)]) (y := (v4 + 1)) d_X0_take_66 rfl 5 rfl (by decide) rfl rfl
(aw_goto d_X0_take_69 rfl
(aw_sub [2, 3, 4, 5, 0] rfl e26)))) (fun c25 => have e27 := e23.2 c25; (aw_aload_n d_X0_take_58 rfl rfl 1 rfl (by decide)
(aw_aload_n d_X0_take_59 rfl rfl 2 rfl (by decide)
(aw_iload d_X0_take_60 rfl 5 rfl
(aw_iconst d_X0_take_62 rfl
(aw_VV (As := [zr 1 h1, zi v4, zi 0]) (st := []) d_X0_take_63 rfl cv0_37 ⟨Nat.le_of_ble_eq_true rfl, Nat.le_of_ble_eq_true rfl⟩ rfl rfl (Nat.le_of_ble_eq_true rfl) (Nat.le_of_ble_eq_true rfl) e27 (fun M28 e29 => (aw_iinc (lv' := [(4, zi (v4 + 1)), (5, zi 1), (0, zr 0 b), (1, zr 1 h1), (2, zi v2), (3, zi v3)]) (y := (v4 + 1)) d_X0_take_66 rfl 5 rfl (by decide) rfl rfl
(aw_goto d_X0_take_69 rfl
(aw_sub [2, 3, 4, 5, 0] rfl e29))))))))))))))))))))))))))))))))))))))
theorem vX0_take {l : Launch} {P : zM → Prop} {b : Nat} {h1 : Nat} {v2 : Int} {v3 : Int} {M : zM}
    (H0 : (∀ M1 : zM, M1 = zu M 0 b 2 0 → (∀ M3 : zM, M3 = zu M1 0 b 3 0 → LX0_take_13 l P b h1 v2 v3 0 M3))) :
    CV l m_X0_take [zr 0 b, zr 1 h1, zi v2, zi v3] M P :=
(aw_aload_n d_X0_take_0 rfl rfl 0 rfl (by decide)
(aw_iconst d_X0_take_1 rfl
(have e2 := H0 _ rfl; aw_put (kc := 2) d_X0_take_2 rfl fp0_18 rfl rfl rfl rfl
(aw_aload_n d_X0_take_5 rfl rfl 0 rfl (by decide)
(aw_iconst d_X0_take_6 rfl
(have e4 := e2 _ rfl; aw_put (kc := 3) d_X0_take_7 rfl fp0_22 rfl rfl rfl rfl
(aw_iconst d_X0_take_10 rfl
(aw_istore (lv' := [(4, zi 0), (0, zr 0 b), (1, zr 1 h1), (2, zi v2), (3, zi v3)]) d_X0_take_11 rfl (by decide) rfl
(aw_sub [1, 2, 3, 4, 0] rfl e4)))))))))
theorem c_X0_take {b h : Nat} {g a : Int} {S : zS} {E : Int → Prop} (w : hW M h) (eS : hS M h = S) (ok : okM S (qsy S)) (hE : ∀ t, 0 ≤ t ∧ t < qn S → (E t ↔ zand g (zshl 1 (qgr S t)) ≠ 0 ∧ zand a (zshl 1 t) = 0)) :
    CV l m_X0_take [zr 0 b, zr 1 h, zi g, zi a] M (fun M' => Fx (kBk b) M M' ∧ bkR M' b (mB S E (qsy S)) (mA S E (qsy S))) := by
  have hn := ok.1
  have eSn : qn S = M 1 h 6 := by rw [← eS]; exact hS_n M h
  have loop : ∀ (n : Nat) (t : Int) (M' : zM), (qn S - t).toNat = n → 0 ≤ t ∧ t ≤ qn S → Fx (kBk b) M M' → bkR M' b (mB S (fun t' => t' < t ∧ E t') (qsy S)) (mA S (fun t' => t' < t ∧ E t') (qsy S)) →
      LX0_take_13 l (fun M' => Fx (kBk b) M M' ∧ bkR M' b (mB S E (qsy S)) (mA S E (qsy S))) b h g a t M' := by
    intro n
    induction n with
    | zero =>
      intro t M' hn' ht f hr
      have w' := (kBk_hall f (h := h)).2 w
      have eS' := (kBk_hall f (h := h)).1.trans eS
      have e6 : M' 1 h 6 = qn S := by rw [← eS']; exact (hS_n M' h).symm
      refine vX0_take_13 ⟨by omega, by omega, fun _ => ⟨f, ?_⟩, fun e => by omega⟩
      have := m_congrE (S := S) (E := fun t' => t' < t ∧ E t') (E' := E) (v := qsy S) (v' := qsy S) (fun t1 h1 => ⟨fun q => q.2, fun q => ⟨by omega, q⟩⟩) (fun _ _ _ _ => rfl)
      rw [← this.1, ← this.2]
      exact hr
    | succ n ih =>
      intro t M' hn' ht f hr
      have w' := (kBk_hall f (h := h)).2 w
      have eS' := (kBk_hall f (h := h)).1.trans eS
      have e6 : M' 1 h 6 = qn S := by rw [← eS']; exact (hS_n M' h).symm
      have hEt := hE t (by omega)
      refine vX0_take_13 ⟨by omega, by omega, fun e => by omega, fun _ => ⟨⟨w', by omega, by omega⟩, zI_and, ?_⟩⟩
      rw [eS']
      have skip : ¬ E t → LX0_take_13 l (fun M' => Fx (kBk b) M M' ∧ bkR M' b (mB S E (qsy S)) (mA S E (qsy S))) b h g a (t + 1) M' := by
        intro q
        refine ih (t + 1) M' (by omega) (by omega) f ?_
        have := m_congrE (S := S) (E := fun t' => t' < t ∧ E t') (E' := fun t' => t' < t + 1 ∧ E t') (v := qsy S) (v' := qsy S) (fun t1 h1 => ⟨fun q => ⟨by omega, q.2⟩, fun q1 => ⟨by
          by_cases c : t1 = t
          · subst c; exact absurd q1.2 q
          · omega, q1.2⟩⟩) (fun _ _ _ _ => rfl)
        rw [← this.1, ← this.2]
        exact hr
      refine ⟨fun c => skip fun q => (hEt.mp q).1 c, fun c => ⟨zI_and, fun c2 => skip fun q => c2 (hEt.mp q).2, fun c2 => ?_⟩⟩
      have q := hEt.mpr ⟨c, c2⟩
      have hy : ∀ u, 0 ≤ u ∧ u < qun S t → 0 ≤ qsy S t u ∧ qsy S t u ≤ 9999 := fun u hu => ok.2.2.1 t u ⟨by omega, by omega, hu.1, hu.2⟩
      refine (c_X0_takeTrader w' eS' (by omega) (E := fun t' => t' < t ∧ E t') (fun q => by have := q.1; omega) ok (by omega) hy (fun u hu => hold_in (hy u hu)) hr).mono ?_
      rintro M2 ⟨f2, r2⟩
      refine ih (t + 1) M2 (by omega) (by omega) (f.tr f2) ?_
      have := m_congrE (S := S) (E := fun t' => (t' < t ∧ E t') ∨ t' = t) (E' := fun t' => t' < t + 1 ∧ E t') (v := qsy S) (v' := qsy S) (fun t1 h1 => ⟨?_, ?_⟩) (fun _ _ _ _ => rfl)
      rw [← this.1, ← this.2]
      exact r2
      · rintro (q1 | q1)
        · exact ⟨by omega, q1.2⟩
        · subst q1; exact ⟨by omega, q⟩
      · rintro ⟨q1, q2⟩
        by_cases c : t1 = t
        · exact .inr c
        · exact .inl ⟨by omega, q2⟩
  refine vX0_take ?_
  intro M1 e1 M2 e2
  refine loop _ 0 M2 rfl (by omega) ?_ ?_
  · rw [e2, e1]; exact Fx.zu (Fx.zu Fx.rf ⟨.inl rfl, rfl⟩) ⟨.inl rfl, rfl⟩
  · have := mB_none (S := S) (E := fun t' => t' < 0 ∧ E t') (v := qsy S) (fun t ht q => by have := q.1; omega)
    rw [this.1, this.2]
    exact bkR_0 (M := M) (by rw [e2, zu_at, if_neg (by decide), e1, zu_at, if_pos rfl]) (by rw [e2, zu_at, if_pos rfl])
end

