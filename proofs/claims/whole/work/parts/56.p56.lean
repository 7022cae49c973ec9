/-! ===== acts: the reference's halls and past ===== -/
theorem mV_copy {M M' : zM} {k k' : Nat} {o o' : Int} (e : ∀ j, 0 ≤ j ∧ j < 187 → M' k' 0 (o' + j) = M k 0 (o + j)) (w : mW M k o) : mW M' k' o' ∧ mV M' k' o' = mV M k o := by
  have e0 : M' k' 0 (o' + 180) = M k 0 (o + 180) := e _ (by omega)
  have hn := w.1
  have key : ∀ (t c : Int), 0 ≤ t ∧ t < M k 0 (o + 180) → 0 ≤ c ∧ c < 9 → M' k' 0 (o' + 9 * t + c) = M k 0 (o + 9 * t + c) := fun t c h1 h2 => by
    rw [Int.add_assoc, Int.add_assoc]
    exact e _ (by omega)
  have key0 : ∀ t : Int, 0 ≤ t ∧ t < M k 0 (o + 180) → M' k' 0 (o' + 9 * t) = M k 0 (o + 9 * t) := fun t h1 => e _ (by omega)
  refine ⟨⟨by rw [e0]; exact w.1, fun t ht => ?_⟩, ?_⟩
  · rw [e0] at ht
    rw [key0 t ht, key t 2 ht (by omega)]
    exact w.2 t ht
  · unfold mV
    rw [e0]
    refine Prod.ext ?_ (Prod.ext ?_ (Prod.ext ?_ (Prod.ext ?_ (Prod.ext ?_ (Prod.ext ?_ ?_)))))
    · funext j
      dsimp only
      split
      · rw [Int.add_assoc, Int.add_assoc]
        exact e _ (by omega)
      · rfl
    · funext t
      dsimp only
      split
      · next h => exact key0 t h
      · rfl
    · funext t
      dsimp only
      split
      · next h => exact key t 1 h (by omega)
      · rfl
    · funext t
      dsimp only
      split
      · next h => exact key t 2 h (by omega)
      · rfl
    · funext t u
      dsimp only
      by_cases ht : 0 ≤ t ∧ t < M k 0 (o + 180)
      · rw [key t 2 ht (by omega)]
        split
        · next h =>
          have hu := (w.2 t ht).2
          have := key t (3 + u) ht (by omega)
          rw [← Int.add_assoc, ← Int.add_assoc] at this
          exact this
        · rfl
      · rw [if_neg (by rintro ⟨a, b, -⟩; exact ht ⟨a, b⟩), if_neg (by rintro ⟨a, b, -⟩; exact ht ⟨a, b⟩)]
    · funext t
      dsimp only
      split
      · next h => exact key t 7 h (by omega)
      · rfl
    · funext t
      dsimp only
      split
      · next h => exact key t 8 h (by omega)
      · rfl
def mSy (M : zM) (A : zY) : Prop := mSt M A ∧ (-1000 ≤ M 9 0 7 ∧ M 9 0 7 ≤ 1000)
/-- the reference's kinds beside what acts look at -/
theorem mSt.hall {M M' : zM} {A : zY} {S : zS} (h : mSt M A) (f : ∀ k i, ¬ (k = 27 ∧ i = 0) → M' k i = M k i) (w : mW M' 27 0) (e : mV M' 27 0 = S) : mSt M' (ySet A S) := by
  obtain ⟨-, ⟨b1, b2⟩, ⟨⟨c1, c1'⟩, c2, c3⟩, ⟨d1, d2⟩, e1, e2⟩ := h
  have g : ∀ k, k ≠ 27 → M' k 0 = M k 0 := fun k hk => f k 0 (fun q => hk q.1)
  have cp : ∀ k o, k ≠ 27 → mW M k o → mW M' k o ∧ mV M' k o = mV M k o := fun k o hk w => mV_copy (fun j _ => by rw [g k hk]) w
  refine ⟨⟨w, e⟩, ⟨by rw [g 9 (by decide)]; exact b1, fun i hi => ?_⟩, ⟨⟨by rw [g 30 (by decide)]; exact c1, by rw [g 30 (by decide)]; exact c1'⟩, fun q => ?_, fun q => ?_⟩, ⟨by rw [g 9 (by decide)]; exact d1, fun i hi => by rw [g 47 (by decide)]; exact d2 i hi⟩, by rw [g 9 (by decide)]; exact e1, by rw [g 9 (by decide)]; exact e2⟩
  · have b := b2 i hi
    have c := cp 28 _ (by decide) b.1
    exact ⟨c.1, c.2.trans b.2⟩
  · have b := c2 q
    have c := cp 29 _ (by decide) b.1
    exact ⟨c.1, c.2.trans b.2⟩
  · have b := c3 q
    have c := cp 29 _ (by decide) b.1
    exact ⟨c.1, c.2.trans b.2⟩
def kAct (M M' : zM) : Prop := (∀ k i, k ≠ 28 → k ≠ 9 → M' k i = M k i) ∧ (∀ i j, ¬ (i = 0 ∧ j = 2) → M' 9 i j = M 9 i j)
section
variable {l : Launch} {M : zM} {A : zY} {kk : Int}
def LX9_keepsAct_54 (l : Launch) (P : zM → Prop) (v1 : Int) (M : zM) : Prop := AW l m_X9_keepsAct (zTv m_X9_keepsAct P) 54 [(0, zr 9 0), (1, zi v1)] [] M
def LX9_keepsAct_13 (l : Launch) (P : zM → Prop) (v1 : Int) (M : zM) : Prop := AW l m_X9_keepsAct (zTv m_X9_keepsAct P) 13 [(0, zr 9 0), (1, zi v1)] [] M
theorem vX9_keepsAct_54 {l : Launch} {P : zM → Prop} {v1 : Int} {M : zM}
    (H0 : (zI v1 ∧ (187 ≤ v1 → (∀ M13 : zM, M13 = zu M 9 0 2 ((M 9 0 2) + 1) → P M13)) ∧ (v1 < 187 → ((0 ≤ v1 ∧ v1 < 187) ∧ ((0 ≤ ((187 * (M 9 0 2)) + v1) ∧ ((187 * (M 9 0 2)) + v1) < 1870) ∧ ∀ M18 : zM, M18 = zu M 28 0 ((187 * (M 9 0 2)) + v1) (M 27 0 v1) → LX9_keepsAct_54 l P (v1 + 1) M18))))) :
    LX9_keepsAct_54 l P v1 M :=
(aw_iload_n d_X9_keepsAct_54 rfl rfl 1 rfl
(aw_sipush d_X9_keepsAct_55 rfl (by decide)
(have z7 := H0.1; have e8 := H0.2; aw_icmp_ge d_X9_keepsAct_58 rfl rfl z7 (by decide) (fun c9 => have e11 := e8.1 c9; (aw_aload_n d_X9_keepsAct_88 rfl rfl 0 rfl (by decide)
(aw_dup d_X9_keepsAct_89 rfl rfl
(aw_getI (kc := 2) d_X9_keepsAct_90 rfl fl9_294 rfl rfl
(aw_iconst d_X9_keepsAct_93 rfl
(aw_iadd d_X9_keepsAct_94 rfl
(have e14 := e11 _ rfl; aw_put (kc := 2) d_X9_keepsAct_95 rfl fp9_294 rfl rfl rfl rfl
(aw_rv d_X9_keepsAct_98 rfl e14)))))))) (fun c10 => have e12 := e8.2 c10; (aw_aload_n d_X9_keepsAct_61 rfl rfl 0 rfl (by decide)
(aw_getR (k' := 28) (a := 0) (b := 0) (j := 0) d_X9_keepsAct_62 rfl fl9_13 rfl zj0 ⟨by decide, fun _ => by decide⟩
(aw_sipush d_X9_keepsAct_65 rfl (by decide)
(aw_aload_n d_X9_keepsAct_68 rfl rfl 0 rfl (by decide)
(aw_getI (kc := 2) d_X9_keepsAct_69 rfl fl9_294 rfl rfl
(aw_imul d_X9_keepsAct_72 rfl
(aw_iload_n d_X9_keepsAct_73 rfl rfl 1 rfl
(aw_iadd d_X9_keepsAct_74 rfl
(aw_aload_n d_X9_keepsAct_75 rfl rfl 0 rfl (by decide)
(aw_getR (k' := 27) (a := 0) (b := 0) (j := 0) d_X9_keepsAct_76 rfl fl9_7 rfl zj0 ⟨by decide, fun _ => by decide⟩
(aw_iload_n d_X9_keepsAct_79 rfl rfl 1 rfl
(have z15 := e12.1; have e16 := e12.2; (aw_iald d_X9_keepsAct_80 rfl za27 z15
(have z17 := e16.1; have e19 := e16.2 _ rfl; aw_iast d_X9_keepsAct_81 rfl za28 z17
(aw_iinc (lv' := [(1, zi (v1 + 1)), (0, zr 9 0)]) (y := (v1 + 1)) d_X9_keepsAct_82 rfl 1 rfl (by decide) rfl rfl
(aw_goto d_X9_keepsAct_85 rfl
(aw_sub [1, 0] rfl e19)))))))))))))))))))))
theorem vX9_keepsAct_13 {l : Launch} {P : zM → Prop} {v1 : Int} {M : zM}
    (H0 : (zI v1 ∧ (1870 ≤ v1 → (∀ M26 : zM, M26 = zu M 9 0 2 ((M 9 0 2) - 1) → LX9_keepsAct_54 l P 0 M26)) ∧ (v1 < 1870 → ((0 ≤ v1 ∧ v1 < 1870) ∧ ((0 ≤ (v1 - 187) ∧ (v1 - 187) < 1870) ∧ ∀ M31 : zM, M31 = zu M 28 0 (v1 - 187) (M 28 0 v1) → LX9_keepsAct_13 l P (v1 + 1) M31))))) :
    LX9_keepsAct_13 l P v1 M :=
(aw_iload_n d_X9_keepsAct_13 rfl rfl 1 rfl
(aw_sipush d_X9_keepsAct_14 rfl (by decide)
(have z20 := H0.1; have e21 := H0.2; aw_icmp_ge d_X9_keepsAct_17 rfl rfl z20 (by decide) (fun c22 => have e24 := e21.1 c22; (aw_aload_n d_X9_keepsAct_42 rfl rfl 0 rfl (by decide)
(aw_dup d_X9_keepsAct_43 rfl rfl
(aw_getI (kc := 2) d_X9_keepsAct_44 rfl fl9_294 rfl rfl
(aw_iconst d_X9_keepsAct_47 rfl
(aw_isub d_X9_keepsAct_48 rfl
(have e27 := e24 _ rfl; aw_put (kc := 2) d_X9_keepsAct_49 rfl fp9_294 rfl rfl rfl rfl
(aw_iconst d_X9_keepsAct_52 rfl
(aw_istore_n (lv' := [(1, zi 0), (0, zr 9 0)]) d_X9_keepsAct_53 rfl rfl (by decide) rfl
(aw_sub [1, 0] rfl e27)))))))))) (fun c23 => have e25 := e21.2 c23; (aw_aload_n d_X9_keepsAct_20 rfl rfl 0 rfl (by decide)
(aw_getR (k' := 28) (a := 0) (b := 0) (j := 0) d_X9_keepsAct_21 rfl fl9_13 rfl zj0 ⟨by decide, fun _ => by decide⟩
(aw_iload_n d_X9_keepsAct_24 rfl rfl 1 rfl
(aw_sipush d_X9_keepsAct_25 rfl (by decide)
(aw_isub d_X9_keepsAct_28 rfl
(aw_aload_n d_X9_keepsAct_29 rfl rfl 0 rfl (by decide)
(aw_getR (k' := 28) (a := 0) (b := 0) (j := 0) d_X9_keepsAct_30 rfl fl9_13 rfl zj0 ⟨by decide, fun _ => by decide⟩
(aw_iload_n d_X9_keepsAct_33 rfl rfl 1 rfl
(have z28 := e25.1; have e29 := e25.2; (aw_iald d_X9_keepsAct_34 rfl za28 z28
(have z30 := e29.1; have e32 := e29.2 _ rfl; aw_iast d_X9_keepsAct_35 rfl za28 z30
(aw_iinc (lv' := [(1, zi (v1 + 1)), (0, zr 9 0)]) (y := (v1 + 1)) d_X9_keepsAct_36 rfl 1 rfl (by decide) rfl rfl
(aw_goto d_X9_keepsAct_39 rfl
(aw_sub [1, 0] rfl e32))))))))))))))))))
theorem vX9_keepsAct {l : Launch} {P : zM → Prop}  {M : zM}
    (H0 : (zI (M 9 0 2) ∧ ((M 9 0 2) ≠ 10 → LX9_keepsAct_54 l P 0 M) ∧ ((M 9 0 2) = 10 → LX9_keepsAct_13 l P 187 M))) :
    CV l m_X9_keepsAct [zr 9 0] M P :=
(aw_aload_n d_X9_keepsAct_0 rfl rfl 0 rfl (by decide)
(aw_getI (kc := 2) d_X9_keepsAct_1 rfl fl9_294 rfl rfl
(aw_bipush d_X9_keepsAct_4 rfl (by decide)
(have z1 := H0.1; have e2 := H0.2; aw_icmp_ne d_X9_keepsAct_6 rfl rfl z1 (by decide) (fun c3 => have e5 := e2.1 c3; (aw_iconst d_X9_keepsAct_52 rfl
(aw_istore_n (lv' := [(1, zi 0), (0, zr 9 0)]) d_X9_keepsAct_53 rfl rfl (by decide) rfl
(aw_sub [1, 0] rfl e5)))) (fun c4 => have e6 := e2.2 c4; (aw_sipush d_X9_keepsAct_9 rfl (by decide)
(aw_istore_n (lv' := [(1, zi 187), (0, zr 9 0)]) d_X9_keepsAct_12 rfl rfl (by decide) rfl
(aw_sub [1, 0] rfl e6))))))))
def LX9_undo_21 (l : Launch) (P : Int → zM → Prop) (v1 : Int) (M : zM) : Prop := AW l m_X9_undo (zTi m_X9_undo P) 21 [(0, zr 9 0), (1, zi v1)] [] M
theorem vX9_undo_21 {l : Launch} {P : Int → zM → Prop} {v1 : Int} {M : zM}
    (H0 : (zI v1 ∧ (187 ≤ v1 → P (M 9 0 2) M) ∧ (v1 < 187 → ((0 ≤ ((187 * (M 9 0 2)) + v1) ∧ ((187 * (M 9 0 2)) + v1) < 1870) ∧ ((0 ≤ v1 ∧ v1 < 187) ∧ ∀ M18 : zM, M18 = zu M 27 0 v1 (M 28 0 ((187 * (M 9 0 2)) + v1)) → LX9_undo_21 l P (v1 + 1) M18))))) :
    LX9_undo_21 l P v1 M :=
(aw_iload_n d_X9_undo_21 rfl rfl 1 rfl
(aw_sipush d_X9_undo_22 rfl (by decide)
(have z9 := H0.1; have e10 := H0.2; aw_icmp_ge d_X9_undo_25 rfl rfl z9 (by decide) (fun c11 => have e13 := e10.1 c11; (aw_aload_n d_X9_undo_55 rfl rfl 0 rfl (by decide)
(aw_getI (kc := 2) d_X9_undo_56 rfl fl9_294 rfl rfl
(aw_ri d_X9_undo_59 rfl e13)))) (fun c12 => have e14 := e10.2 c12; (aw_aload_n d_X9_undo_28 rfl rfl 0 rfl (by decide)
(aw_getR (k' := 27) (a := 0) (b := 0) (j := 0) d_X9_undo_29 rfl fl9_7 rfl zj0 ⟨by decide, fun _ => by decide⟩
(aw_iload_n d_X9_undo_32 rfl rfl 1 rfl
(aw_aload_n d_X9_undo_33 rfl rfl 0 rfl (by decide)
(aw_getR (k' := 28) (a := 0) (b := 0) (j := 0) d_X9_undo_34 rfl fl9_13 rfl zj0 ⟨by decide, fun _ => by decide⟩
(aw_sipush d_X9_undo_37 rfl (by decide)
(aw_aload_n d_X9_undo_40 rfl rfl 0 rfl (by decide)
(aw_getI (kc := 2) d_X9_undo_41 rfl fl9_294 rfl rfl
(aw_imul d_X9_undo_44 rfl
(aw_iload_n d_X9_undo_45 rfl rfl 1 rfl
(aw_iadd d_X9_undo_46 rfl
(have z15 := e14.1; have e16 := e14.2; (aw_iald d_X9_undo_47 rfl za28 z15
(have z17 := e16.1; have e19 := e16.2 _ rfl; aw_iast d_X9_undo_48 rfl za27 z17
(aw_iinc (lv' := [(1, zi (v1 + 1)), (0, zr 9 0)]) (y := (v1 + 1)) d_X9_undo_49 rfl 1 rfl (by decide) rfl rfl
(aw_goto d_X9_undo_52 rfl
(aw_sub [1, 0] rfl e19)))))))))))))))))))))
theorem vX9_undo {l : Launch} {P : Int → zM → Prop}  {M : zM}
    (H0 : (zI (M 9 0 2) ∧ ((M 9 0 2) ≠ 0 → (∀ M7 : zM, M7 = zu M 9 0 2 ((M 9 0 2) - 1) → LX9_undo_21 l P 0 M7)) ∧ ((M 9 0 2) = 0 → P (-1) M))) :
    CI l m_X9_undo [zr 9 0] M P :=
(aw_aload_n d_X9_undo_0 rfl rfl 0 rfl (by decide)
(aw_getI (kc := 2) d_X9_undo_1 rfl fl9_294 rfl rfl
(have z1 := H0.1; have e2 := H0.2; aw_if_ne d_X9_undo_4 rfl rfl z1 (fun c3 => have e5 := e2.1 c3; (aw_aload_n d_X9_undo_9 rfl rfl 0 rfl (by decide)
(aw_dup d_X9_undo_10 rfl rfl
(aw_getI (kc := 2) d_X9_undo_11 rfl fl9_294 rfl rfl
(aw_iconst d_X9_undo_14 rfl
(aw_isub d_X9_undo_15 rfl
(have e8 := e5 _ rfl; aw_put (kc := 2) d_X9_undo_16 rfl fp9_294 rfl rfl rfl rfl
(aw_iconst d_X9_undo_19 rfl
(aw_istore_n (lv' := [(1, zi 0), (0, zr 9 0)]) d_X9_undo_20 rfl rfl (by decide) rfl
(aw_sub [1, 0] rfl e8)))))))))) (fun c4 => have e6 := e2.2 c4; (aw_iconst d_X9_undo_7 rfl
(aw_ri d_X9_undo_8 rfl e6))))))
def LX9_keep_14 (l : Launch) (P : Int → zM → Prop) (v1 : Int) (v2 : Int) (M : zM) : Prop := AW l m_X9_keep (zTi m_X9_keep P) 14 [(0, zr 9 0), (1, zi v1), (2, zi v2)] [] M
theorem vX9_keep_14 {l : Launch} {P : Int → zM → Prop} {v1 : Int} {v2 : Int} {M : zM}
    (H0 : (zI v2 ∧ (187 ≤ v2 → ((0 ≤ v1 ∧ v1 < 2) ∧ ∀ M16 : zM, M16 = zu M 30 0 v1 1 → P (M16 27 0 180) M16)) ∧ (v2 < 187 → ((0 ≤ v2 ∧ v2 < 187) ∧ ((0 ≤ ((187 * v1) + v2) ∧ ((187 * v1) + v2) < 374) ∧ ∀ M21 : zM, M21 = zu M 29 0 ((187 * v1) + v2) (M 27 0 v2) → LX9_keep_14 l P v1 (v2 + 1) M21))))) :
    LX9_keep_14 l P v1 v2 M :=
(aw_iload_n d_X9_keep_14 rfl rfl 2 rfl
(aw_sipush d_X9_keep_15 rfl (by decide)
(have z9 := H0.1; have e10 := H0.2; aw_icmp_ge d_X9_keep_18 rfl rfl z9 (by decide) (fun c11 => have e13 := e10.1 c11; (aw_aload_n d_X9_keep_45 rfl rfl 0 rfl (by decide)
(aw_getR (k' := 30) (a := 0) (b := 0) (j := 0) d_X9_keep_46 rfl fl9_19 rfl zj0 ⟨by decide, fun _ => by decide⟩
(aw_iload_n d_X9_keep_49 rfl rfl 1 rfl
(aw_iconst d_X9_keep_50 rfl
(have z15 := e13.1; have e17 := e13.2 _ rfl; aw_zast d_X9_keep_51 rfl za30 z15 (by decide)
(aw_aload_n d_X9_keep_52 rfl rfl 0 rfl (by decide)
(aw_VI (As := []) (st := []) d_X9_keep_53 rfl cv9_78 ⟨Nat.le_of_ble_eq_true rfl, Nat.le_of_ble_eq_true rfl⟩ rfl rfl (Nat.le_of_ble_eq_true rfl) (Nat.le_of_ble_eq_true rfl) (s_X9_traders) (fun _ _ hq => aw_eqs hq
(aw_ri d_X9_keep_56 rfl e17)))))))))) (fun c12 => have e14 := e10.2 c12; (aw_aload_n d_X9_keep_21 rfl rfl 0 rfl (by decide)
(aw_getR (k' := 29) (a := 0) (b := 0) (j := 0) d_X9_keep_22 rfl fl9_16 rfl zj0 ⟨by decide, fun _ => by decide⟩
(aw_sipush d_X9_keep_25 rfl (by decide)
(aw_iload_n d_X9_keep_28 rfl rfl 1 rfl
(aw_imul d_X9_keep_29 rfl
(aw_iload_n d_X9_keep_30 rfl rfl 2 rfl
(aw_iadd d_X9_keep_31 rfl
(aw_aload_n d_X9_keep_32 rfl rfl 0 rfl (by decide)
(aw_getR (k' := 27) (a := 0) (b := 0) (j := 0) d_X9_keep_33 rfl fl9_7 rfl zj0 ⟨by decide, fun _ => by decide⟩
(aw_iload_n d_X9_keep_36 rfl rfl 2 rfl
(have z18 := e14.1; have e19 := e14.2; (aw_iald d_X9_keep_37 rfl za27 z18
(have z20 := e19.1; have e22 := e19.2 _ rfl; aw_iast d_X9_keep_38 rfl za29 z20
(aw_iinc (lv' := [(2, zi (v2 + 1)), (0, zr 9 0), (1, zi v1)]) (y := (v2 + 1)) d_X9_keep_39 rfl 2 rfl (by decide) rfl rfl
(aw_goto d_X9_keep_42 rfl
(aw_sub [1, 2, 0] rfl e22))))))))))))))))))))
theorem vX9_keep {l : Launch} {P : Int → zM → Prop} {v1 : Int} {M : zM}
    (H0 : (zI v1 ∧ ((zJ v1 ∧ zJ 0 ∧ zJ 1) ∧ ((0 ≤ v1 ∧ v1 ≤ 1 → LX9_keep_14 l P v1 0 M) ∧ (¬ (0 ≤ v1 ∧ v1 ≤ 1) → P (-1) M))))) :
    CI l m_X9_keep [zr 9 0, zi v1] M P :=
(aw_iload_n d_X9_keep_0 rfl rfl 1 rfl
(have z1 := H0.1; have e2 := H0.2; (aw_i2l d_X9_keep_1 rfl z1
(aw_lconst (x := 0) d_X9_keep_2 rfl (by decide)
(aw_lconst (x := 1) d_X9_keep_3 rfl (by decide)
(have z3 := e2.1; have e4 := e2.2; (aw_SI (As := [zl v1, zl 0, zl 1]) (st := []) d_X9_keep_4 rfl cs9_82 ⟨Nat.le_of_ble_eq_true rfl, Nat.le_of_ble_eq_true rfl⟩ rfl rfl (Nat.le_of_ble_eq_true rfl) (Nat.le_of_ble_eq_true rfl) (s_X9_in z3) (fun _ _ hq => aw_eqs hq
(aw_if_ne d_X9_keep_7 rfl rfl zb_I (fun c5 => have e7 := e4.1 (zb_n0 c5); (aw_iconst d_X9_keep_12 rfl
(aw_istore_n (lv' := [(2, zi 0), (0, zr 9 0), (1, zi v1)]) d_X9_keep_13 rfl rfl (by decide) rfl
(aw_sub [1, 2, 0] rfl e7)))) (fun c6 => have e8 := e4.2 (zb_0 c6); (aw_iconst d_X9_keep_10 rfl
(aw_ri d_X9_keep_11 rfl e8))))))))))))
def LX9_back_26 (l : Launch) (P : Int → zM → Prop) (v1 : Int) (v2 : Int) (M : zM) : Prop := AW l m_X9_back (zTi m_X9_back P) 26 [(0, zr 9 0), (1, zi v1), (2, zi v2)] [] M
theorem vX9_back_26 {l : Launch} {P : Int → zM → Prop} {v1 : Int} {v2 : Int} {M : zM}
    (H0 : (zI v2 ∧ (187 ≤ v2 → (∀ M23 : zM, M23 = zu M 9 0 2 0 → P (M23 27 0 180) M23)) ∧ (v2 < 187 → ((0 ≤ ((187 * v1) + v2) ∧ ((187 * v1) + v2) < 374) ∧ ((0 ≤ v2 ∧ v2 < 187) ∧ ∀ M28 : zM, M28 = zu M 27 0 v2 (M 29 0 ((187 * v1) + v2)) → LX9_back_26 l P v1 (v2 + 1) M28))))) :
    LX9_back_26 l P v1 v2 M :=
(aw_iload_n d_X9_back_26 rfl rfl 2 rfl
(aw_sipush d_X9_back_27 rfl (by decide)
(have z17 := H0.1; have e18 := H0.2; aw_icmp_ge d_X9_back_30 rfl rfl z17 (by decide) (fun c19 => have e21 := e18.1 c19; (aw_aload_n d_X9_back_57 rfl rfl 0 rfl (by decide)
(aw_iconst d_X9_back_58 rfl
(have e24 := e21 _ rfl; aw_put (kc := 2) d_X9_back_59 rfl fp9_294 rfl rfl rfl rfl
(aw_aload_n d_X9_back_62 rfl rfl 0 rfl (by decide)
(aw_VI (As := []) (st := []) d_X9_back_63 rfl cv9_78 ⟨Nat.le_of_ble_eq_true rfl, Nat.le_of_ble_eq_true rfl⟩ rfl rfl (Nat.le_of_ble_eq_true rfl) (Nat.le_of_ble_eq_true rfl) (s_X9_traders) (fun _ _ hq => aw_eqs hq
(aw_ri d_X9_back_66 rfl e24)))))))) (fun c20 => have e22 := e18.2 c20; (aw_aload_n d_X9_back_33 rfl rfl 0 rfl (by decide)
(aw_getR (k' := 27) (a := 0) (b := 0) (j := 0) d_X9_back_34 rfl fl9_7 rfl zj0 ⟨by decide, fun _ => by decide⟩
(aw_iload_n d_X9_back_37 rfl rfl 2 rfl
(aw_aload_n d_X9_back_38 rfl rfl 0 rfl (by decide)
(aw_getR (k' := 29) (a := 0) (b := 0) (j := 0) d_X9_back_39 rfl fl9_16 rfl zj0 ⟨by decide, fun _ => by decide⟩
(aw_sipush d_X9_back_42 rfl (by decide)
(aw_iload_n d_X9_back_45 rfl rfl 1 rfl
(aw_imul d_X9_back_46 rfl
(aw_iload_n d_X9_back_47 rfl rfl 2 rfl
(aw_iadd d_X9_back_48 rfl
(have z25 := e22.1; have e26 := e22.2; (aw_iald d_X9_back_49 rfl za29 z25
(have z27 := e26.1; have e29 := e26.2 _ rfl; aw_iast d_X9_back_50 rfl za27 z27
(aw_iinc (lv' := [(2, zi (v2 + 1)), (0, zr 9 0), (1, zi v1)]) (y := (v2 + 1)) d_X9_back_51 rfl 2 rfl (by decide) rfl rfl
(aw_goto d_X9_back_54 rfl
(aw_sub [1, 2, 0] rfl e29))))))))))))))))))))
theorem vX9_back {l : Launch} {P : Int → zM → Prop} {v1 : Int} {M : zM}
    (H0 : (zI v1 ∧ ((zJ v1 ∧ zJ 0 ∧ zJ 1) ∧ ((0 ≤ v1 ∧ v1 ≤ 1 → ((0 ≤ v1 ∧ v1 < 2) ∧ (zI (M 30 0 v1) ∧ ((M 30 0 v1) ≠ 0 → LX9_back_26 l P v1 0 M) ∧ ((M 30 0 v1) = 0 → P (-2) M)))) ∧ (¬ (0 ≤ v1 ∧ v1 ≤ 1) → P (-1) M))))) :
    CI l m_X9_back [zr 9 0, zi v1] M P :=
(aw_iload_n d_X9_back_0 rfl rfl 1 rfl
(have z1 := H0.1; have e2 := H0.2; (aw_i2l d_X9_back_1 rfl z1
(aw_lconst (x := 0) d_X9_back_2 rfl (by decide)
(aw_lconst (x := 1) d_X9_back_3 rfl (by decide)
(have z3 := e2.1; have e4 := e2.2; (aw_SI (As := [zl v1, zl 0, zl 1]) (st := []) d_X9_back_4 rfl cs9_82 ⟨Nat.le_of_ble_eq_true rfl, Nat.le_of_ble_eq_true rfl⟩ rfl rfl (Nat.le_of_ble_eq_true rfl) (Nat.le_of_ble_eq_true rfl) (s_X9_in z3) (fun _ _ hq => aw_eqs hq
(aw_if_ne d_X9_back_7 rfl rfl zb_I (fun c5 => have e7 := e4.1 (zb_n0 c5); (aw_aload_n d_X9_back_12 rfl rfl 0 rfl (by decide)
(aw_getR (k' := 30) (a := 0) (b := 0) (j := 0) d_X9_back_13 rfl fl9_19 rfl zj0 ⟨by decide, fun _ => by decide⟩
(aw_iload_n d_X9_back_16 rfl rfl 1 rfl
(have z9 := e7.1; have e10 := e7.2; (aw_zald d_X9_back_17 rfl za30 z9
(have z11 := e10.1; have e12 := e10.2; aw_if_ne d_X9_back_18 rfl rfl z11 (fun c13 => have e15 := e12.1 c13; (aw_iconst d_X9_back_24 rfl
(aw_istore_n (lv' := [(2, zi 0), (0, zr 9 0), (1, zi v1)]) d_X9_back_25 rfl rfl (by decide) rfl
(aw_sub [1, 2, 0] rfl e15)))) (fun c14 => have e16 := e12.2 c14; (aw_bipush d_X9_back_21 rfl (by decide)
(aw_ri d_X9_back_23 rfl e16)))))))))) (fun c6 => have e8 := e4.2 (zb_0 c6); (aw_iconst d_X9_back_10 rfl
(aw_ri d_X9_back_11 rfl e8))))))))))))
theorem vX9_end {l : Launch} {P : Int → zM → Prop} {v1 : Int} {M : zM}
    (H0 : (zI v1 ∧ (zI (M 9 0 36) ∧ ((zJ v1 ∧ zJ 0 ∧ zJ (M 9 0 36)) ∧ ((0 ≤ v1 ∧ v1 ≤ (M 9 0 36) → (∀ M11 : zM, M11 = zu M 9 0 36 v1 → P v1 M11)) ∧ (¬ (0 ≤ v1 ∧ v1 ≤ (M 9 0 36)) → P (-1) M)))))) :
    CI l m_X9_end [zr 9 0, zi v1] M P :=
(aw_iload_n d_X9_end_0 rfl rfl 1 rfl
(have z1 := H0.1; have e2 := H0.2; (aw_i2l d_X9_end_1 rfl z1
(aw_lconst (x := 0) d_X9_end_2 rfl (by decide)
(aw_aload_n d_X9_end_3 rfl rfl 0 rfl (by decide)
(aw_getI (kc := 36) d_X9_end_4 rfl fl9_297 rfl rfl
(have z3 := e2.1; have e4 := e2.2; (aw_i2l d_X9_end_7 rfl z3
(have z5 := e4.1; have e6 := e4.2; (aw_SI (As := [zl v1, zl 0, zl (M 9 0 36)]) (st := []) d_X9_end_8 rfl cs9_82 ⟨Nat.le_of_ble_eq_true rfl, Nat.le_of_ble_eq_true rfl⟩ rfl rfl (Nat.le_of_ble_eq_true rfl) (Nat.le_of_ble_eq_true rfl) (s_X9_in z5) (fun _ _ hq => aw_eqs hq
(aw_if_ne d_X9_end_11 rfl rfl zb_I (fun c7 => have e9 := e6.1 (zb_n0 c7); (aw_aload_n d_X9_end_16 rfl rfl 0 rfl (by decide)
(aw_iload_n d_X9_end_17 rfl rfl 1 rfl
(have e12 := e9 _ rfl; aw_put (kc := 36) d_X9_end_18 rfl fp9_297 rfl rfl rfl rfl
(aw_iload_n d_X9_end_21 rfl rfl 1 rfl
(aw_ri d_X9_end_22 rfl e12)))))) (fun c8 => have e10 := e6.2 (zb_0 c8); (aw_iconst d_X9_end_14 rfl
(aw_ri d_X9_end_15 rfl e10)))))))))))))))
theorem ka_54 {c : Int} {P : zM → Prop} (hc : 0 ≤ c ∧ c < 10) (e2 : M 9 0 2 = c) (K : ∀ M', kAct M M' → M' 9 0 2 = c + 1 → (∀ j, M' 28 0 j = if 187 * c ≤ j ∧ j < 187 * c + 187 then M 27 0 (j - 187 * c) else M 28 0 j) → P M') : LX9_keepsAct_54 l P 0 M := by
  have loop : ∀ (n : Nat) (v : Int) (M' : zM), (187 - v).toNat = n → 0 ≤ v ∧ v ≤ 187 → (∀ k i, k ≠ 28 → M' k i = M k i) → (∀ j, M' 28 0 j = if 187 * c ≤ j ∧ j < 187 * c + v then M 27 0 (j - 187 * c) else M 28 0 j) → LX9_keepsAct_54 l P v M' := by
    intro n
    induction n with
    | zero =>
      intro v M' hn hv f e
      have ev : v = 187 := by omega
      subst ev
      refine vX9_keepsAct_54 ⟨by omega, fun _ => ?_, fun q => by omega⟩
      intro M2 q2
      refine K M2 ⟨fun k i h1 h2 => by rw [q2, zu_k h2]; exact f k i h1, fun i j h => ?_⟩ ?_ fun j => ?_
      · rw [q2]
        unfold zu
        rw [if_neg (by rintro ⟨-, a, b⟩; exact h ⟨a, b⟩), f 9 i (by decide)]
      · rw [q2, zu_at, if_pos rfl, f 9 0 (by decide), e2]
      · rw [q2, zu_k (by decide)]
        exact e j
    | succ n ih =>
      intro v M' hn hv f e
      refine vX9_keepsAct_54 ?_
      rw [f 9 0 (by decide), e2, f 27 0 (by decide)]
      refine ⟨by omega, fun q => by omega, fun _ => ⟨by omega, by omega, ?_⟩⟩
      rintro M2 rfl
      refine ih (v + 1) _ (by omega) (by omega) (fun k i h => by rw [zu_k h]; exact f k i h) fun j => ?_
      rw [zu_at, e]
      by_cases z : j = 187 * c + v
      · rw [if_pos z, if_pos (by omega), show j - 187 * c = v by omega]
      · rw [if_neg z]
        by_cases y : 187 * c ≤ j ∧ j < 187 * c + v
        · rw [if_pos y, if_pos (by omega)]
        · rw [if_neg y, if_neg (by omega)]
  exact loop _ 0 M rfl (by omega) (fun _ _ _ => rfl) fun j => by rw [if_neg (by omega)]
theorem c_X9_keepsAct (h : mSy M A) (w : 0 ≤ yhc A ∧ yhc A ≤ 10) : CV l m_X9_keepsAct [zr 9 0] M (fun M' => mSy M' (yPut A (yS A)) ∧ kAct M M') := by
  obtain ⟨⟨⟨a1, a2⟩, ⟨b1, b2⟩, ⟨⟨c1, c1'⟩, c2, c3⟩, ⟨d1, d2⟩, e1, e2⟩, zz⟩ := h
  have fin : ∀ (c : Int) (M' : zM), (c = min (yhc A) 9) → kAct M M' → M' 9 0 2 = c + 1 → (∀ j, 0 ≤ j ∧ j < 187 → M' 28 0 (187 * c + j) = M 27 0 (0 + j)) → (∀ i, 0 ≤ i ∧ i < c → ∀ j, 0 ≤ j ∧ j < 187 → M' 28 0 (187 * (c - 1 - i) + j) = M 28 0 (187 * (yhc A - 1 - i) + j)) → mSy M' (yPut A (yS A)) ∧ kAct M M' := by
    intro c M' hc f g2 k1 k2
    have g : ∀ k, k ≠ 28 → k ≠ 9 → M' k 0 = M k 0 := fun k h1 h2 => f.1 k 0 h1 h2
    have cp : ∀ k o, k ≠ 28 → k ≠ 9 → mW M k o → mW M' k o ∧ mV M' k o = mV M k o := fun k o h1 h2 w => mV_copy (fun j _ => by rw [g k h1 h2]) w
    have q0 := cp 27 0 (by decide) (by decide) a1
    refine ⟨⟨⟨⟨q0.1, q0.2.trans a2⟩, ⟨?_, fun i hi => ?_⟩, ⟨⟨by rw [g 30 (by decide) (by decide)]; exact c1, by rw [g 30 (by decide) (by decide)]; exact c1'⟩, fun q => ?_, fun q => ?_⟩, ⟨by rw [f.2 0 36 (by omega)]; exact d1, fun i hi => by rw [g 47 (by decide) (by decide)]; exact d2 i hi⟩, by rw [f.2 0 5 (by omega)]; exact e1, by rw [f.2 0 6 (by omega)]; exact e2⟩, by rw [f.2 0 7 (by omega)]; exact zz⟩, f⟩
    · rw [g2]
      show c + 1 = min (yhc A + 1) 10
      omega
    · have hi' : 0 ≤ i ∧ i < min (yhc A + 1) 10 := hi
      show mW M' 28 (187 * (min (yhc A + 1) 10 - 1 - i)) ∧ mV M' 28 (187 * (min (yhc A + 1) 10 - 1 - i)) = if i = 0 then yS A else yhf A (i - 1)
      by_cases z : i = 0
      · rw [if_pos z, show 187 * (min (yhc A + 1) 10 - 1 - i) = 187 * c by omega]
        have q := mV_copy (M := M) (M' := M') (k := 27) (k' := 28) (o := 0) (o' := 187 * c) k1 a1
        exact ⟨q.1, q.2.trans a2⟩
      · rw [if_neg z, show 187 * (min (yhc A + 1) 10 - 1 - i) = 187 * (c - 1 - (i - 1)) by omega]
        have b := b2 (i - 1) (by omega)
        have q := mV_copy (M := M) (M' := M') (k := 28) (k' := 28) (k2 (i - 1) (by omega)) b.1
        exact ⟨q.1, q.2.trans b.2⟩
    · have b := c2 q
      have c := cp 29 _ (by decide) (by decide) b.1
      exact ⟨c.1, c.2.trans b.2⟩
    · have b := c3 q
      have c := cp 29 _ (by decide) (by decide) b.1
      exact ⟨c.1, c.2.trans b.2⟩
  refine vX9_keepsAct ?_
  rw [b1]
  refine ⟨by omega, fun q => ?_, fun q => ?_⟩
  · refine ka_54 (c := yhc A) (by omega) b1 fun M' f g2 k => fin (yhc A) M' (by omega) f g2 (fun j hj => ?_) fun i hi j hj => ?_
    · rw [k, if_pos (by omega)]
      congr 1
      omega
    · rw [k, if_neg (by omega)]
  · have loop : ∀ (n : Nat) (v : Int) (M' : zM), (1870 - v).toNat = n → 187 ≤ v ∧ v ≤ 1870 → (∀ k i, k ≠ 28 → M' k i = M k i) → (∀ j, M' 28 0 j = if 0 ≤ j ∧ j < v - 187 then M 28 0 (j + 187) else M 28 0 j) → LX9_keepsAct_13 l (fun M' => mSy M' (yPut A (yS A)) ∧ kAct M M') v M' := by
      intro n
      induction n with
      | zero =>
        intro v M' hn hv f e
        have ev : v = 1870 := by omega
        subst ev
        refine vX9_keepsAct_13 ⟨by omega, fun _ => ?_, fun q => by omega⟩
        intro M2 q2
        have o2 : ∀ k i, k ≠ 28 → k ≠ 9 → M2 k i = M k i := fun k i h1 h2 => by rw [q2, zu_k h2]; exact f k i h1
        refine ka_54 (c := 9) (by omega) (by rw [q2, zu_at, if_pos rfl, f 9 0 (by decide), b1]; omega) fun M' f' g2 k => ?_
        have k28 : ∀ j, M2 28 0 j = if 0 ≤ j ∧ j < 1870 - 187 then M 28 0 (j + 187) else M 28 0 j := fun j => by rw [q2, zu_k (by decide)]; exact e j
        refine fin 9 M' (by omega) ⟨fun k i h1 h2 => (f'.1 k i h1 h2).trans (o2 k i h1 h2), fun i j h => ?_⟩ g2 (fun j hj => ?_) fun i hi j hj => ?_
        · rw [f'.2 i j h, q2]
          unfold zu
          rw [if_neg (by rintro ⟨-, a, b⟩; exact h ⟨a, b⟩), f 9 i (by decide)]
        · rw [k, if_pos (by omega), o2 27 0 (by decide) (by decide)]
          congr 1
          omega
        · rw [k, if_neg (by omega), k28, if_pos (by omega)]
          congr 1
          omega
      | succ n ih =>
        intro v M' hn hv f e
        refine vX9_keepsAct_13 ⟨by omega, fun q => by omega, fun _ => ⟨by omega, by omega, ?_⟩⟩
        rintro M2 rfl
        refine ih (v + 1) _ (by omega) (by omega) (fun k i h => by rw [zu_k h]; exact f k i h) fun j => ?_
        rw [zu_at, e, e]
        by_cases z : j = v - 187
        · rw [if_pos z, if_neg (by omega), if_pos (by omega), show j + 187 = v by omega]
        · rw [if_neg z]
          by_cases y : 0 ≤ j ∧ j < v - 187
          · rw [if_pos y, if_pos (by omega)]
          · rw [if_neg y, if_neg (by omega)]
    exact loop _ 187 M rfl (by omega) (fun _ _ _ => rfl) fun j => by rw [if_neg (by omega)]
end
