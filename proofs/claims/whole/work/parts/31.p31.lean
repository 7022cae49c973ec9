/-! ===== the class: what its questions share ===== -/
def okS (S : zS) : Prop := okM S (qsy S) ∧ (∀ t, 0 ≤ t ∧ t < qn S → 0 ≤ qgr S t ∧ qgr S t < 4) ∧ (0 ≤ qfee S ∧ qfee S ≤ 500) ∧ (0 ≤ qlaw S ∧ qlaw S ≤ 3)
theorem wfS.ok {k : Int} {S : zS} (h : wfS k S) : okS S := by
  obtain ⟨h1, h2, h3, -, -, h6, h7, h8⟩ := h
  refine ⟨⟨h1, fun t ht => (h6 t ht).2.2.1, fun t u q => h7 t u ⟨q.1, q.2.1⟩ q.2.2, fun t u q q2 => ?_⟩, fun t ht => (h6 t ht).2.1, h2, h3⟩
  have h9 := h8 t u ⟨q.1, q.2.1⟩ ⟨q.2.2.1, q2.2.2.2⟩
  have h10 := (h6 t ⟨q.1, q.2.1⟩).1
  exact ⟨h9.2, fun c => h9.1 (by omega)⟩
def CX (M : zM) (S : zS) : Prop := (hW M 0 ∧ hS M 0 = S) ∧ okS S
theorem CX.scr {M M' : zM} {S : zS} (h : CX M S) (f : Fr kScr M M') : CX M' S := by
  have g : ∀ k i, (k = 1 ∨ (12 ≤ k ∧ k ≤ 17)) → M' k i = M k i := fun k i hk => f k i (by unfold kScr; omega)
  refine ⟨⟨hW_congr (g 1 0 (by omega)) (g 12 0 (by omega)) (g 14 0 (by omega)) h.1.1, ?_⟩, h.2⟩
  rw [hS_congr (g 1 0 (by omega)) (g 12 0 (by omega)) (g 13 0 (by omega)) (g 14 0 (by omega)) (g 15 0 (by omega)) (g 16 0 (by omega)) (g 17 0 (by omega))]
  exact h.1.2
theorem Fx.scr {b : Nat} {M M' : zM} (f : Fx (kBk b) M M') : Fr kScr M M' := fun k i hk => f k i (fun q => hk (by unfold kScr; have := q.1; omega))
theorem Fx.scr0 {b : Nat} {M M' : zM} (f : Fx (fun k i => k = 0 ∧ i = b) M M') : Fr kScr M M' := fun k i hk => f k i (fun q => hk (by unfold kScr; omega))
theorem Fx.bk {b : Nat} {M M' : zM} (f : Fx (fun k i => k = 0 ∧ i = b) M M') : Fx (kBk b) M M' := Fx.mono f fun k i q => ⟨by omega, q.2⟩
theorem CX.bk {b : Nat} {M M' : zM} {S : zS} (h : CX M S) (f : Fx (kBk b) M M') : CX M' S := h.scr f.scr
theorem CX.n {M : zM} {S : zS} (h : CX M S) : M 1 0 6 = qn S := by rw [← h.1.2]; exact (hS_n M 0).symm
theorem CX.fee {M : zM} {S : zS} (h : CX M S) : M 1 0 7 = qfee S := by rw [← h.1.2]; exact (hS_fee M 0).symm
theorem CX.law {M : zM} {S : zS} (h : CX M S) : M 1 0 8 = qlaw S := by rw [← h.1.2]; exact (hS_law M 0).symm
noncomputable abbrev qB (S : zS) (g : Int) : List Int := mB S (fun t => qgr S t = g) (qsy S)
noncomputable abbrev qA (S : zS) (g : Int) : List Int := mA S (fun t => qgr S t = g) (qsy S)
theorem grE {S : zS} (h : okS S) {g a : Int} (hg : 0 ≤ g ∧ g < 4) : ∀ t, 0 ≤ t ∧ t < qn S → ((qgr S t = g ∧ hb a t = false) ↔ zand (zshl 1 g) (zshl 1 (qgr S t)) ≠ 0 ∧ zand a (zshl 1 t) = 0) := by
  intro t ht
  have h1 := h.2.1 t ht
  have h2 := h.1.1
  have e1 := hb_and (s := zshl 1 g) (k := qgr S t) (by omega)
  rw [hb_bit (by omega) (by omega)] at e1
  rw [hb_and (by omega)]
  have e2 : zand (zshl 1 g) (zshl 1 (qgr S t)) ≠ 0 ↔ qgr S t = g := by
    rw [Ne, e1]
    simp
  rw [e2]
theorem grE0 {S : zS} (h : okS S) {g : Int} (hg : 0 ≤ g ∧ g < 4) : ∀ t, 0 ≤ t ∧ t < qn S → (qgr S t = g ↔ zand (zshl 1 g) (zshl 1 (qgr S t)) ≠ 0 ∧ zand 0 (zshl 1 t) = 0) := by
  intro t ht
  rw [← grE h hg t ht, hb_0]
  simp
/-- lies: of the traders L, by d -/
def vL (S : zS) (L : Int → Bool) (d t u : Int) : Int := if L t = true then zhold (qsy S t u + d) else qsy S t u
theorem vL_ok {S : zS} (h : okM S (qsy S)) (L : Int → Bool) (d : Int) : okM S (vL S L d) := okM_hold h L d (fun _ _ _ => rfl)
section
variable {l : Launch} {M : zM} {S : zS}
theorem vX8_areTwoOfOneGrade {l : Launch} {P : Int → zM → Prop} {v1 : Int} {v2 : Int} {M : zM}
    (H0 : ((hW M 0 ∧ zI v1) ∧ ((¬ (0 ≤ v1 ∧ v1 < M 1 0 6) → P 0 M) ∧ (0 ≤ v1 ∧ v1 < M 1 0 6 → ((hW M 0 ∧ zI v2) ∧ ((¬ (0 ≤ v2 ∧ v2 < M 1 0 6) → P 0 M) ∧ (0 ≤ v2 ∧ v2 < M 1 0 6 → (zI v1 ∧ zI v2 ∧ (v1 = v2 → P 0 M) ∧ (v1 ≠ v2 → ((hW M 0 ∧ 0 ≤ v1 ∧ v1 < M 1 0 6) ∧ ((hW M 0 ∧ 0 ≤ v2 ∧ v2 < M 1 0 6) ∧ (zI (qgr (hS M 0) v1) ∧ zI (qgr (hS M 0) v2) ∧ ((qgr (hS M 0) v1) ≠ (qgr (hS M 0) v2) → P 0 M) ∧ ((qgr (hS M 0) v1) = (qgr (hS M 0) v2) → P 1 M))))))))))))) :
    CI l m_X8_areTwoOfOneGrade [zr 8 0, zi v1, zi v2] M P :=
(aw_aload_n d_X8_areTwoOfOneGrade_0 rfl rfl 0 rfl (by decide)
(aw_getR (k' := 1) (a := 0) (b := 0) (j := 0) d_X8_areTwoOfOneGrade_1 rfl fl8_12 rfl zj0 ⟨by decide, fun _ => by decide⟩
(aw_iload_n d_X8_areTwoOfOneGrade_4 rfl rfl 1 rfl
(have z1 := H0.1; have e2 := H0.2; (aw_VI (As := [zi v1]) (st := []) d_X8_areTwoOfOneGrade_5 rfl cv8_110 ⟨Nat.le_of_ble_eq_true rfl, Nat.le_of_ble_eq_true rfl⟩ rfl rfl (Nat.le_of_ble_eq_true rfl) (Nat.le_of_ble_eq_true rfl) (s_X1_has z1) (fun _ _ hq => aw_eqs hq
(aw_if_eq d_X8_areTwoOfOneGrade_8 rfl rfl zb_I (fun c3 => have e5 := e2.1 (zb_0 c3); (aw_iconst d_X8_areTwoOfOneGrade_50 rfl
(aw_rz d_X8_areTwoOfOneGrade_51 rfl (by decide) e5))) (fun c4 => have e6 := e2.2 (zb_n0 c4); (aw_aload_n d_X8_areTwoOfOneGrade_11 rfl rfl 0 rfl (by decide)
(aw_getR (k' := 1) (a := 0) (b := 0) (j := 0) d_X8_areTwoOfOneGrade_12 rfl fl8_12 rfl zj0 ⟨by decide, fun _ => by decide⟩
(aw_iload_n d_X8_areTwoOfOneGrade_15 rfl rfl 2 rfl
(have z7 := e6.1; have e8 := e6.2; (aw_VI (As := [zi v2]) (st := []) d_X8_areTwoOfOneGrade_16 rfl cv8_110 ⟨Nat.le_of_ble_eq_true rfl, Nat.le_of_ble_eq_true rfl⟩ rfl rfl (Nat.le_of_ble_eq_true rfl) (Nat.le_of_ble_eq_true rfl) (s_X1_has z7) (fun _ _ hq => aw_eqs hq
(aw_if_eq d_X8_areTwoOfOneGrade_19 rfl rfl zb_I (fun c9 => have e11 := e8.1 (zb_0 c9); (aw_iconst d_X8_areTwoOfOneGrade_50 rfl
(aw_rz d_X8_areTwoOfOneGrade_51 rfl (by decide) e11))) (fun c10 => have e12 := e8.2 (zb_n0 c10); (aw_iload_n d_X8_areTwoOfOneGrade_22 rfl rfl 1 rfl
(aw_iload_n d_X8_areTwoOfOneGrade_23 rfl rfl 2 rfl
(have z13 := e12.1; have z14 := e12.2.1; have e15 := e12.2.2; aw_icmp_eq d_X8_areTwoOfOneGrade_24 rfl rfl z13 z14 (fun c16 => have e18 := e15.1 c16; (aw_iconst d_X8_areTwoOfOneGrade_50 rfl
(aw_rz d_X8_areTwoOfOneGrade_51 rfl (by decide) e18))) (fun c17 => have e19 := e15.2 c17; (aw_aload_n d_X8_areTwoOfOneGrade_27 rfl rfl 0 rfl (by decide)
(aw_getR (k' := 1) (a := 0) (b := 0) (j := 0) d_X8_areTwoOfOneGrade_28 rfl fl8_12 rfl zj0 ⟨by decide, fun _ => by decide⟩
(aw_iload_n d_X8_areTwoOfOneGrade_31 rfl rfl 1 rfl
(have z20 := e19.1; have e21 := e19.2; (aw_VI (As := [zi v1]) (st := []) d_X8_areTwoOfOneGrade_32 rfl cv8_196 ⟨Nat.le_of_ble_eq_true rfl, Nat.le_of_ble_eq_true rfl⟩ rfl rfl (Nat.le_of_ble_eq_true rfl) (Nat.le_of_ble_eq_true rfl) (s_X1_gradeOf z20) (fun _ _ hq => aw_eqs hq
(aw_aload_n d_X8_areTwoOfOneGrade_35 rfl rfl 0 rfl (by decide)
(aw_getR (k' := 1) (a := 0) (b := 0) (j := 0) d_X8_areTwoOfOneGrade_36 rfl fl8_12 rfl zj0 ⟨by decide, fun _ => by decide⟩
(aw_iload_n d_X8_areTwoOfOneGrade_39 rfl rfl 2 rfl
(have z22 := e21.1; have e23 := e21.2; (aw_VI (As := [zi v2]) (st := [zi (qgr (hS M 0) v1)]) d_X8_areTwoOfOneGrade_40 rfl cv8_196 ⟨Nat.le_of_ble_eq_true rfl, Nat.le_of_ble_eq_true rfl⟩ rfl rfl (Nat.le_of_ble_eq_true rfl) (Nat.le_of_ble_eq_true rfl) (s_X1_gradeOf z22) (fun _ _ hq => aw_eqs hq
(have z24 := e23.1; have z25 := e23.2.1; have e26 := e23.2.2; aw_icmp_ne d_X8_areTwoOfOneGrade_43 rfl rfl z24 z25 (fun c27 => have e29 := e26.1 c27; (aw_iconst d_X8_areTwoOfOneGrade_50 rfl
(aw_rz d_X8_areTwoOfOneGrade_51 rfl (by decide) e29))) (fun c28 => have e30 := e26.2 c28; (aw_iconst d_X8_areTwoOfOneGrade_46 rfl
(aw_goto d_X8_areTwoOfOneGrade_47 rfl
(aw_rz d_X8_areTwoOfOneGrade_51 rfl (by decide) e30)))))))))))))))))))))))))))))))))))))
theorem vX8_settleGrade {l : Launch} {P : zM → Prop} {v1 : Int} {M : zM}
    (H0 : (CV l m_X0_take [zr 0 0, zr 1 0, zi (zshl 1 v1), zi 0] M (fun M1 => (CV l m_X0_settle [zr 0 0, zi (M1 1 0 7), zi (M1 1 0 8)] M1 (fun M4 => P M4))))) :
    CV l m_X8_settleGrade [zr 8 0, zi v1] M P :=
(aw_aload_n d_X8_settleGrade_0 rfl rfl 0 rfl (by decide)
(aw_getR (k' := 0) (a := 0) (b := 0) (j := 0) d_X8_settleGrade_1 rfl fl8_47 rfl zj0 ⟨by decide, fun _ => by decide⟩
(aw_aload_n d_X8_settleGrade_4 rfl rfl 0 rfl (by decide)
(aw_getR (k' := 1) (a := 0) (b := 0) (j := 0) d_X8_settleGrade_5 rfl fl8_12 rfl zj0 ⟨by decide, fun _ => by decide⟩
(aw_iload_n d_X8_settleGrade_8 rfl rfl 1 rfl
(aw_SI (As := [zi v1]) (st := [zr 1 0, zr 0 0]) d_X8_settleGrade_9 rfl cs8_255 ⟨Nat.le_of_ble_eq_true rfl, Nat.le_of_ble_eq_true rfl⟩ rfl rfl (Nat.le_of_ble_eq_true rfl) (Nat.le_of_ble_eq_true rfl) (s_X8_bit) (fun _ _ hq => aw_eqs hq
(aw_iconst d_X8_settleGrade_12 rfl
(aw_VV (As := [zr 1 0, zi (zshl 1 v1), zi 0]) (st := []) d_X8_settleGrade_13 rfl cv8_289 ⟨Nat.le_of_ble_eq_true rfl, Nat.le_of_ble_eq_true rfl⟩ rfl rfl (Nat.le_of_ble_eq_true rfl) (Nat.le_of_ble_eq_true rfl) H0 (fun M1 e2 => (aw_aload_n d_X8_settleGrade_16 rfl rfl 0 rfl (by decide)
(aw_getR (k' := 0) (a := 0) (b := 0) (j := 0) d_X8_settleGrade_17 rfl fl8_47 rfl zj0 ⟨by decide, fun _ => by decide⟩
(aw_aload_n d_X8_settleGrade_20 rfl rfl 0 rfl (by decide)
(aw_getR (k' := 1) (a := 0) (b := 0) (j := 0) d_X8_settleGrade_21 rfl fl8_12 rfl zj0 ⟨by decide, fun _ => by decide⟩
(aw_getI (kc := 7) d_X8_settleGrade_24 rfl fl8_145 rfl rfl
(aw_aload_n d_X8_settleGrade_27 rfl rfl 0 rfl (by decide)
(aw_getR (k' := 1) (a := 0) (b := 0) (j := 0) d_X8_settleGrade_28 rfl fl8_12 rfl zj0 ⟨by decide, fun _ => by decide⟩
(aw_getI (kc := 8) d_X8_settleGrade_31 rfl fl8_151 rfl rfl
(aw_VV (As := [zi (M1 1 0 7), zi (M1 1 0 8)]) (st := []) d_X8_settleGrade_34 rfl cv8_293 ⟨Nat.le_of_ble_eq_true rfl, Nat.le_of_ble_eq_true rfl⟩ rfl rfl (Nat.le_of_ble_eq_true rfl) (Nat.le_of_ble_eq_true rfl) e2 (fun M4 e5 => (aw_rv d_X8_settleGrade_37 rfl e5)))))))))))))))))))))
theorem vX8_worthOf {l : Launch} {P : Int → zM → Prop} {v1 : Int} {v2 : Int} {M : zM}
    (H0 : (CV l m_X0_take [zr 0 0, zr 1 0, zi v1, zi v2] M (fun M1 => (CV l m_X0_settle [zr 0 0, zi (M1 1 0 7), zi (M1 1 0 8)] M1 (fun M4 => P (M4 0 0 7) M4))))) :
    CI l m_X8_worthOf [zr 8 0, zi v1, zi v2] M P :=
(aw_aload_n d_X8_worthOf_0 rfl rfl 0 rfl (by decide)
(aw_getR (k' := 0) (a := 0) (b := 0) (j := 0) d_X8_worthOf_1 rfl fl8_47 rfl zj0 ⟨by decide, fun _ => by decide⟩
(aw_aload_n d_X8_worthOf_4 rfl rfl 0 rfl (by decide)
(aw_getR (k' := 1) (a := 0) (b := 0) (j := 0) d_X8_worthOf_5 rfl fl8_12 rfl zj0 ⟨by decide, fun _ => by decide⟩
(aw_iload_n d_X8_worthOf_8 rfl rfl 1 rfl
(aw_iload_n d_X8_worthOf_9 rfl rfl 2 rfl
(aw_VV (As := [zr 1 0, zi v1, zi v2]) (st := []) d_X8_worthOf_10 rfl cv8_289 ⟨Nat.le_of_ble_eq_true rfl, Nat.le_of_ble_eq_true rfl⟩ rfl rfl (Nat.le_of_ble_eq_true rfl) (Nat.le_of_ble_eq_true rfl) H0 (fun M1 e2 => (aw_aload_n d_X8_worthOf_13 rfl rfl 0 rfl (by decide)
(aw_getR (k' := 0) (a := 0) (b := 0) (j := 0) d_X8_worthOf_14 rfl fl8_47 rfl zj0 ⟨by decide, fun _ => by decide⟩
(aw_aload_n d_X8_worthOf_17 rfl rfl 0 rfl (by decide)
(aw_getR (k' := 1) (a := 0) (b := 0) (j := 0) d_X8_worthOf_18 rfl fl8_12 rfl zj0 ⟨by decide, fun _ => by decide⟩
(aw_getI (kc := 7) d_X8_worthOf_21 rfl fl8_145 rfl rfl
(aw_aload_n d_X8_worthOf_24 rfl rfl 0 rfl (by decide)
(aw_getR (k' := 1) (a := 0) (b := 0) (j := 0) d_X8_worthOf_25 rfl fl8_12 rfl zj0 ⟨by decide, fun _ => by decide⟩
(aw_getI (kc := 8) d_X8_worthOf_28 rfl fl8_151 rfl rfl
(aw_VV (As := [zi (M1 1 0 7), zi (M1 1 0 8)]) (st := []) d_X8_worthOf_31 rfl cv8_293 ⟨Nat.le_of_ble_eq_true rfl, Nat.le_of_ble_eq_true rfl⟩ rfl rfl (Nat.le_of_ble_eq_true rfl) (Nat.le_of_ble_eq_true rfl) e2 (fun M4 e5 => (aw_aload_n d_X8_worthOf_34 rfl rfl 0 rfl (by decide)
(aw_getR (k' := 0) (a := 0) (b := 0) (j := 0) d_X8_worthOf_35 rfl fl8_47 rfl zj0 ⟨by decide, fun _ => by decide⟩
(aw_getI (kc := 7) d_X8_worthOf_38 rfl fl8_226 rfl rfl
(aw_ri d_X8_worthOf_41 rfl e5))))))))))))))))))))))
def LX8_worthOfAll_4 (l : Launch) (P : Int → zM → Prop) (v1 : Int) (v2 : Int) (M : zM) : Prop := AW l m_X8_worthOfAll (zTi m_X8_worthOfAll P) 4 [(0, zr 8 0), (1, zi v1), (2, zi v2)] [] M
theorem vX8_worthOfAll_4 {l : Launch} {P : Int → zM → Prop} {v1 : Int} {v2 : Int} {M : zM}
    (H0 : (zI v2 ∧ (4 ≤ v2 → P v1 M) ∧ (v2 < 4 → (CI l m_X8_worthOf [zr 8 0, zi (zshl 1 v2), zi 0] M (fun x10 M7 => LX8_worthOfAll_4 l P (v1 + x10) (v2 + 1) M7))))) :
    LX8_worthOfAll_4 l P v1 v2 M :=
(aw_iload_n d_X8_worthOfAll_4 rfl rfl 2 rfl
(aw_iconst d_X8_worthOfAll_5 rfl
(have z1 := H0.1; have e2 := H0.2; aw_icmp_ge d_X8_worthOfAll_6 rfl rfl z1 (by decide) (fun c3 => have e5 := e2.1 c3; (aw_iload_n d_X8_worthOfAll_27 rfl rfl 1 rfl
(aw_ri d_X8_worthOfAll_28 rfl e5))) (fun c4 => have e6 := e2.2 c4; (aw_iload_n d_X8_worthOfAll_9 rfl rfl 1 rfl
(aw_aload_n d_X8_worthOfAll_10 rfl rfl 0 rfl (by decide)
(aw_iload_n d_X8_worthOfAll_11 rfl rfl 2 rfl
(aw_SI (As := [zi v2]) (st := [zr 8 0, zi v1]) d_X8_worthOfAll_12 rfl cs8_255 ⟨Nat.le_of_ble_eq_true rfl, Nat.le_of_ble_eq_true rfl⟩ rfl rfl (Nat.le_of_ble_eq_true rfl) (Nat.le_of_ble_eq_true rfl) (s_X8_bit) (fun _ _ hq => aw_eqs hq
(aw_iconst d_X8_worthOfAll_15 rfl
(aw_VI (As := [zi (zshl 1 v2), zi 0]) (st := [zi v1]) d_X8_worthOfAll_16 rfl cv8_348 ⟨Nat.le_of_ble_eq_true rfl, Nat.le_of_ble_eq_true rfl⟩ rfl rfl (Nat.le_of_ble_eq_true rfl) (Nat.le_of_ble_eq_true rfl) e6 (fun x10 M7 e8 => (aw_iadd d_X8_worthOfAll_19 rfl
(aw_istore_n (lv' := [(1, zi (v1 + x10)), (0, zr 8 0), (2, zi v2)]) d_X8_worthOfAll_20 rfl rfl (by decide) rfl
(aw_iinc (lv' := [(2, zi (v2 + 1)), (1, zi (v1 + x10)), (0, zr 8 0)]) (y := (v2 + 1)) d_X8_worthOfAll_21 rfl 2 rfl (by decide) rfl rfl
(aw_goto d_X8_worthOfAll_24 rfl
(aw_sub [2, 1, 0] rfl e8)))))))))))))))))
theorem vX8_worthOfAll {l : Launch} {P : Int → zM → Prop}  {M : zM}
    (H0 : LX8_worthOfAll_4 l P 0 0 M) :
    CI l m_X8_worthOfAll [zr 8 0] M P :=
(aw_iconst d_X8_worthOfAll_0 rfl
(aw_istore_n (lv' := [(1, zi 0), (0, zr 8 0)]) d_X8_worthOfAll_1 rfl rfl (by decide) rfl
(aw_iconst d_X8_worthOfAll_2 rfl
(aw_istore_n (lv' := [(2, zi 0), (1, zi 0), (0, zr 8 0)]) d_X8_worthOfAll_3 rfl rfl (by decide) rfl
(aw_sub [2, 1, 0] rfl H0)))))
def LX8_gradesWithTrades_4 (l : Launch) (P : Int → zM → Prop) (v1 : Int) (v2 : Int) (M : zM) : Prop := AW l m_X8_gradesWithTrades (zTi m_X8_gradesWithTrades P) 4 [(0, zr 8 0), (1, zi v1), (2, zi v2)] [] M
theorem vX8_gradesWithTrades_4 {l : Launch} {P : Int → zM → Prop} {v1 : Int} {v2 : Int} {M : zM}
    (H0 : (zI v2 ∧ (4 ≤ v2 → P v1 M) ∧ (v2 < 4 → (CV l m_X8_settleGrade [zr 8 0, zi v2] M (fun M7 => (zI (M7 0 0 6) ∧ ((M7 0 0 6) ≤ 0 → LX8_gradesWithTrades_4 l P v1 (v2 + 1) M7) ∧ (0 < (M7 0 0 6) → LX8_gradesWithTrades_4 l P (zor v1 (zshl 1 v2)) (v2 + 1) M7))))))) :
    LX8_gradesWithTrades_4 l P v1 v2 M :=
(aw_iload_n d_X8_gradesWithTrades_4 rfl rfl 2 rfl
(aw_iconst d_X8_gradesWithTrades_5 rfl
(have z1 := H0.1; have e2 := H0.2; aw_icmp_ge d_X8_gradesWithTrades_6 rfl rfl z1 (by decide) (fun c3 => have e5 := e2.1 c3; (aw_iload_n d_X8_gradesWithTrades_37 rfl rfl 1 rfl
(aw_ri d_X8_gradesWithTrades_38 rfl e5))) (fun c4 => have e6 := e2.2 c4; (aw_aload_n d_X8_gradesWithTrades_9 rfl rfl 0 rfl (by decide)
(aw_iload_n d_X8_gradesWithTrades_10 rfl rfl 2 rfl
(aw_VV (As := [zi v2]) (st := []) d_X8_gradesWithTrades_11 rfl cv8_154 ⟨Nat.le_of_ble_eq_true rfl, Nat.le_of_ble_eq_true rfl⟩ rfl rfl (Nat.le_of_ble_eq_true rfl) (Nat.le_of_ble_eq_true rfl) e6 (fun M7 e8 => (aw_aload_n d_X8_gradesWithTrades_14 rfl rfl 0 rfl (by decide)
(aw_getR (k' := 0) (a := 0) (b := 0) (j := 0) d_X8_gradesWithTrades_15 rfl fl8_47 rfl zj0 ⟨by decide, fun _ => by decide⟩
(aw_getI (kc := 6) d_X8_gradesWithTrades_18 rfl fl8_223 rfl rfl
(have z10 := e8.1; have e11 := e8.2; aw_if_le d_X8_gradesWithTrades_21 rfl rfl z10 (fun c12 => have e14 := e11.1 c12; (aw_iinc (lv' := [(2, zi (v2 + 1)), (0, zr 8 0), (1, zi v1)]) (y := (v2 + 1)) d_X8_gradesWithTrades_31 rfl 2 rfl (by decide) rfl rfl
(aw_goto d_X8_gradesWithTrades_34 rfl
(aw_sub [1, 2, 0] rfl e14)))) (fun c13 => have e15 := e11.2 c13; (aw_iload_n d_X8_gradesWithTrades_24 rfl rfl 1 rfl
(aw_iload_n d_X8_gradesWithTrades_25 rfl rfl 2 rfl
(aw_SI (As := [zi v2]) (st := [zi v1]) d_X8_gradesWithTrades_26 rfl cs8_255 ⟨Nat.le_of_ble_eq_true rfl, Nat.le_of_ble_eq_true rfl⟩ rfl rfl (Nat.le_of_ble_eq_true rfl) (Nat.le_of_ble_eq_true rfl) (s_X8_bit) (fun _ _ hq => aw_eqs hq
(aw_ior d_X8_gradesWithTrades_29 rfl zor_h
(aw_istore_n (lv' := [(1, zi (zor v1 (zshl 1 v2))), (0, zr 8 0), (2, zi v2)]) d_X8_gradesWithTrades_30 rfl rfl (by decide) rfl
(aw_iinc (lv' := [(2, zi (v2 + 1)), (1, zi (zor v1 (zshl 1 v2))), (0, zr 8 0)]) (y := (v2 + 1)) d_X8_gradesWithTrades_31 rfl 2 rfl (by decide) rfl rfl
(aw_goto d_X8_gradesWithTrades_34 rfl
(aw_sub [2, 1, 0] rfl e15))))))))))))))))))))))
theorem vX8_gradesWithTrades {l : Launch} {P : Int → zM → Prop}  {M : zM}
    (H0 : LX8_gradesWithTrades_4 l P 0 0 M) :
    CI l m_X8_gradesWithTrades [zr 8 0] M P :=
(aw_iconst d_X8_gradesWithTrades_0 rfl
(aw_istore_n (lv' := [(1, zi 0), (0, zr 8 0)]) d_X8_gradesWithTrades_1 rfl rfl (by decide) rfl
(aw_iconst d_X8_gradesWithTrades_2 rfl
(aw_istore_n (lv' := [(2, zi 0), (1, zi 0), (0, zr 8 0)]) d_X8_gradesWithTrades_3 rfl rfl (by decide) rfl
(aw_sub [2, 1, 0] rfl H0)))))
theorem vX8_setAside {l : Launch} {P : zM → Prop} {v1 : Int} {v2 : Int} {M : zM}
    (H0 : (CV l m_X0_take [zr 0 1, zr 1 0, zi (zshl 1 v1), zi v2] M (fun M1 => P M1))) :
    CV l m_X8_setAside [zr 8 0, zi v1, zi v2] M P :=
(aw_aload_n d_X8_setAside_0 rfl rfl 0 rfl (by decide)
(aw_getR (k' := 0) (a := 0) (b := 1) (j := 1) d_X8_setAside_1 rfl fl8_51 rfl zj0 ⟨by decide, fun _ => by decide⟩
(aw_aload_n d_X8_setAside_4 rfl rfl 0 rfl (by decide)
(aw_getR (k' := 1) (a := 0) (b := 0) (j := 0) d_X8_setAside_5 rfl fl8_12 rfl zj0 ⟨by decide, fun _ => by decide⟩
(aw_iload_n d_X8_setAside_8 rfl rfl 1 rfl
(aw_SI (As := [zi v1]) (st := [zr 1 0, zr 0 1]) d_X8_setAside_9 rfl cs8_255 ⟨Nat.le_of_ble_eq_true rfl, Nat.le_of_ble_eq_true rfl⟩ rfl rfl (Nat.le_of_ble_eq_true rfl) (Nat.le_of_ble_eq_true rfl) (s_X8_bit) (fun _ _ hq => aw_eqs hq
(aw_iload_n d_X8_setAside_12 rfl rfl 2 rfl
(aw_VV (As := [zr 1 0, zi (zshl 1 v1), zi v2]) (st := []) d_X8_setAside_13 rfl cv8_289 ⟨Nat.le_of_ble_eq_true rfl, Nat.le_of_ble_eq_true rfl⟩ rfl rfl (Nat.le_of_ble_eq_true rfl) (Nat.le_of_ble_eq_true rfl) H0 (fun M1 e2 => (aw_rv d_X8_setAside_16 rfl e2)))))))))))
theorem vX8_settleLie {l : Launch} {P : zM → Prop} {v1 : Int} {v2 : Int} {M : zM}
    (H0 : (CV l m_X0_copyFrom [zr 0 0, zr 0 1] M (fun M1 => (CV l m_X0_takeTrader [zr 0 0, zr 1 0, zi v1, zi v2] M1 (fun M4 => (CV l m_X0_settle [zr 0 0, zi (M4 1 0 7), zi (M4 1 0 8)] M4 (fun M7 => P M7))))))) :
    CV l m_X8_settleLie [zr 8 0, zi v1, zi v2] M P :=
(aw_aload_n d_X8_settleLie_0 rfl rfl 0 rfl (by decide)
(aw_getR (k' := 0) (a := 0) (b := 0) (j := 0) d_X8_settleLie_1 rfl fl8_47 rfl zj0 ⟨by decide, fun _ => by decide⟩
(aw_aload_n d_X8_settleLie_4 rfl rfl 0 rfl (by decide)
(aw_getR (k' := 0) (a := 0) (b := 1) (j := 1) d_X8_settleLie_5 rfl fl8_51 rfl zj0 ⟨by decide, fun _ => by decide⟩
(aw_VV (As := [zr 0 1]) (st := []) d_X8_settleLie_8 rfl cv8_411 ⟨Nat.le_of_ble_eq_true rfl, Nat.le_of_ble_eq_true rfl⟩ rfl rfl (Nat.le_of_ble_eq_true rfl) (Nat.le_of_ble_eq_true rfl) H0 (fun M1 e2 => (aw_aload_n d_X8_settleLie_11 rfl rfl 0 rfl (by decide)
(aw_getR (k' := 0) (a := 0) (b := 0) (j := 0) d_X8_settleLie_12 rfl fl8_47 rfl zj0 ⟨by decide, fun _ => by decide⟩
(aw_aload_n d_X8_settleLie_15 rfl rfl 0 rfl (by decide)
(aw_getR (k' := 1) (a := 0) (b := 0) (j := 0) d_X8_settleLie_16 rfl fl8_12 rfl zj0 ⟨by decide, fun _ => by decide⟩
(aw_iload_n d_X8_settleLie_19 rfl rfl 1 rfl
(aw_iload_n d_X8_settleLie_20 rfl rfl 2 rfl
(aw_VV (As := [zr 1 0, zi v1, zi v2]) (st := []) d_X8_settleLie_21 rfl cv8_414 ⟨Nat.le_of_ble_eq_true rfl, Nat.le_of_ble_eq_true rfl⟩ rfl rfl (Nat.le_of_ble_eq_true rfl) (Nat.le_of_ble_eq_true rfl) e2 (fun M4 e5 => (aw_aload_n d_X8_settleLie_24 rfl rfl 0 rfl (by decide)
(aw_getR (k' := 0) (a := 0) (b := 0) (j := 0) d_X8_settleLie_25 rfl fl8_47 rfl zj0 ⟨by decide, fun _ => by decide⟩
(aw_aload_n d_X8_settleLie_28 rfl rfl 0 rfl (by decide)
(aw_getR (k' := 1) (a := 0) (b := 0) (j := 0) d_X8_settleLie_29 rfl fl8_12 rfl zj0 ⟨by decide, fun _ => by decide⟩
(aw_getI (kc := 7) d_X8_settleLie_32 rfl fl8_145 rfl rfl
(aw_aload_n d_X8_settleLie_35 rfl rfl 0 rfl (by decide)
(aw_getR (k' := 1) (a := 0) (b := 0) (j := 0) d_X8_settleLie_36 rfl fl8_12 rfl zj0 ⟨by decide, fun _ => by decide⟩
(aw_getI (kc := 8) d_X8_settleLie_39 rfl fl8_151 rfl rfl
(aw_VV (As := [zi (M4 1 0 7), zi (M4 1 0 8)]) (st := []) d_X8_settleLie_42 rfl cv8_293 ⟨Nat.le_of_ble_eq_true rfl, Nat.le_of_ble_eq_true rfl⟩ rfl rfl (Nat.le_of_ble_eq_true rfl) (Nat.le_of_ble_eq_true rfl) e5 (fun M7 e8 => (aw_rv d_X8_settleLie_45 rfl e8)))))))))))))))))))))))))
theorem vX8_gainByLie {l : Launch} {P : Int → zM → Prop} {v1 : Int} {v2 : Int} {M : zM}
    (H0 : (CV l m_X8_settleLie [zr 8 0, zi v1, zi v2] M (fun M1 => (CI l m_X0_gainOf [zr 0 0, zr 1 0, zi v1] M1 (fun x7 M4 => P x7 M4))))) :
    CI l m_X8_gainByLie [zr 8 0, zi v1, zi v2] M P :=
(aw_aload_n d_X8_gainByLie_0 rfl rfl 0 rfl (by decide)
(aw_iload_n d_X8_gainByLie_1 rfl rfl 1 rfl
(aw_iload_n d_X8_gainByLie_2 rfl rfl 2 rfl
(aw_VV (As := [zi v1, zi v2]) (st := []) d_X8_gainByLie_3 rfl cv8_357 ⟨Nat.le_of_ble_eq_true rfl, Nat.le_of_ble_eq_true rfl⟩ rfl rfl (Nat.le_of_ble_eq_true rfl) (Nat.le_of_ble_eq_true rfl) H0 (fun M1 e2 => (aw_aload_n d_X8_gainByLie_6 rfl rfl 0 rfl (by decide)
(aw_getR (k' := 0) (a := 0) (b := 0) (j := 0) d_X8_gainByLie_7 rfl fl8_47 rfl zj0 ⟨by decide, fun _ => by decide⟩
(aw_aload_n d_X8_gainByLie_10 rfl rfl 0 rfl (by decide)
(aw_getR (k' := 1) (a := 0) (b := 0) (j := 0) d_X8_gainByLie_11 rfl fl8_12 rfl zj0 ⟨by decide, fun _ => by decide⟩
(aw_iload_n d_X8_gainByLie_14 rfl rfl 1 rfl
(aw_VI (As := [zr 1 0, zi v1]) (st := []) d_X8_gainByLie_15 rfl cv8_251 ⟨Nat.le_of_ble_eq_true rfl, Nat.le_of_ble_eq_true rfl⟩ rfl rfl (Nat.le_of_ble_eq_true rfl) (Nat.le_of_ble_eq_true rfl) e2 (fun x7 M4 e5 => (aw_ri d_X8_gainByLie_18 rfl e5)))))))))))))
theorem vX8_gainByPact {l : Launch} {P : Int → zM → Prop} {v1 : Int} {v2 : Int} {v3 : Int} {M : zM}
    (H0 : (CV l m_X0_copyFrom [zr 0 0, zr 0 1] M (fun M1 => (CV l m_X0_takeTrader [zr 0 0, zr 1 0, zi v1, zi v3] M1 (fun M4 => (CV l m_X0_takeTrader [zr 0 0, zr 1 0, zi v2, zi v3] M4 (fun M7 => (CV l m_X0_settle [zr 0 0, zi (M7 1 0 7), zi (M7 1 0 8)] M7 (fun M10 => (CI l m_X0_gainOf [zr 0 0, zr 1 0, zi v1] M10 (fun x16 M13 => (CI l m_X0_gainOf [zr 0 0, zr 1 0, zi v2] M13 (fun x20 M17 => P (x16 + x20) M17))))))))))))) :
    CI l m_X8_gainByPact [zr 8 0, zi v1, zi v2, zi v3] M P :=
(aw_aload_n d_X8_gainByPact_0 rfl rfl 0 rfl (by decide)
(aw_getR (k' := 0) (a := 0) (b := 0) (j := 0) d_X8_gainByPact_1 rfl fl8_47 rfl zj0 ⟨by decide, fun _ => by decide⟩
(aw_aload_n d_X8_gainByPact_4 rfl rfl 0 rfl (by decide)
(aw_getR (k' := 0) (a := 0) (b := 1) (j := 1) d_X8_gainByPact_5 rfl fl8_51 rfl zj0 ⟨by decide, fun _ => by decide⟩
(aw_VV (As := [zr 0 1]) (st := []) d_X8_gainByPact_8 rfl cv8_411 ⟨Nat.le_of_ble_eq_true rfl, Nat.le_of_ble_eq_true rfl⟩ rfl rfl (Nat.le_of_ble_eq_true rfl) (Nat.le_of_ble_eq_true rfl) H0 (fun M1 e2 => (aw_aload_n d_X8_gainByPact_11 rfl rfl 0 rfl (by decide)
(aw_getR (k' := 0) (a := 0) (b := 0) (j := 0) d_X8_gainByPact_12 rfl fl8_47 rfl zj0 ⟨by decide, fun _ => by decide⟩
(aw_aload_n d_X8_gainByPact_15 rfl rfl 0 rfl (by decide)
(aw_getR (k' := 1) (a := 0) (b := 0) (j := 0) d_X8_gainByPact_16 rfl fl8_12 rfl zj0 ⟨by decide, fun _ => by decide⟩
(aw_iload_n d_X8_gainByPact_19 rfl rfl 1 rfl
(aw_iload_n d_X8_gainByPact_20 rfl rfl 3 rfl
(aw_VV (As := [zr 1 0, zi v1, zi v3]) (st := []) d_X8_gainByPact_21 rfl cv8_414 ⟨Nat.le_of_ble_eq_true rfl, Nat.le_of_ble_eq_true rfl⟩ rfl rfl (Nat.le_of_ble_eq_true rfl) (Nat.le_of_ble_eq_true rfl) e2 (fun M4 e5 => (aw_aload_n d_X8_gainByPact_24 rfl rfl 0 rfl (by decide)
(aw_getR (k' := 0) (a := 0) (b := 0) (j := 0) d_X8_gainByPact_25 rfl fl8_47 rfl zj0 ⟨by decide, fun _ => by decide⟩
(aw_aload_n d_X8_gainByPact_28 rfl rfl 0 rfl (by decide)
(aw_getR (k' := 1) (a := 0) (b := 0) (j := 0) d_X8_gainByPact_29 rfl fl8_12 rfl zj0 ⟨by decide, fun _ => by decide⟩
(aw_iload_n d_X8_gainByPact_32 rfl rfl 2 rfl
(aw_iload_n d_X8_gainByPact_33 rfl rfl 3 rfl
(aw_VV (As := [zr 1 0, zi v2, zi v3]) (st := []) d_X8_gainByPact_34 rfl cv8_414 ⟨Nat.le_of_ble_eq_true rfl, Nat.le_of_ble_eq_true rfl⟩ rfl rfl (Nat.le_of_ble_eq_true rfl) (Nat.le_of_ble_eq_true rfl) e5 (fun M7 e8 => (aw_aload_n d_X8_gainByPact_37 rfl rfl 0 rfl (by decide)
(aw_getR (k' := 0) (a := 0) (b := 0) (j := 0) d_X8_gainByPact_38 rfl fl8_47 rfl zj0 ⟨by decide, fun _ => by decide⟩
(aw_aload_n d_X8_gainByPact_41 rfl rfl 0 rfl (by decide)
(aw_getR (k' := 1) (a := 0) (b := 0) (j := 0) d_X8_gainByPact_42 rfl fl8_12 rfl zj0 ⟨by decide, fun _ => by decide⟩
(aw_getI (kc := 7) d_X8_gainByPact_45 rfl fl8_145 rfl rfl
(aw_aload_n d_X8_gainByPact_48 rfl rfl 0 rfl (by decide)
(aw_getR (k' := 1) (a := 0) (b := 0) (j := 0) d_X8_gainByPact_49 rfl fl8_12 rfl zj0 ⟨by decide, fun _ => by decide⟩
(aw_getI (kc := 8) d_X8_gainByPact_52 rfl fl8_151 rfl rfl
(aw_VV (As := [zi (M7 1 0 7), zi (M7 1 0 8)]) (st := []) d_X8_gainByPact_55 rfl cv8_293 ⟨Nat.le_of_ble_eq_true rfl, Nat.le_of_ble_eq_true rfl⟩ rfl rfl (Nat.le_of_ble_eq_true rfl) (Nat.le_of_ble_eq_true rfl) e8 (fun M10 e11 => (aw_aload_n d_X8_gainByPact_58 rfl rfl 0 rfl (by decide)
(aw_getR (k' := 0) (a := 0) (b := 0) (j := 0) d_X8_gainByPact_59 rfl fl8_47 rfl zj0 ⟨by decide, fun _ => by decide⟩
(aw_aload_n d_X8_gainByPact_62 rfl rfl 0 rfl (by decide)
(aw_getR (k' := 1) (a := 0) (b := 0) (j := 0) d_X8_gainByPact_63 rfl fl8_12 rfl zj0 ⟨by decide, fun _ => by decide⟩
(aw_iload_n d_X8_gainByPact_66 rfl rfl 1 rfl
(aw_VI (As := [zr 1 0, zi v1]) (st := []) d_X8_gainByPact_67 rfl cv8_251 ⟨Nat.le_of_ble_eq_true rfl, Nat.le_of_ble_eq_true rfl⟩ rfl rfl (Nat.le_of_ble_eq_true rfl) (Nat.le_of_ble_eq_true rfl) e11 (fun x16 M13 e14 => (aw_aload_n d_X8_gainByPact_70 rfl rfl 0 rfl (by decide)
(aw_getR (k' := 0) (a := 0) (b := 0) (j := 0) d_X8_gainByPact_71 rfl fl8_47 rfl zj0 ⟨by decide, fun _ => by decide⟩
(aw_aload_n d_X8_gainByPact_74 rfl rfl 0 rfl (by decide)
(aw_getR (k' := 1) (a := 0) (b := 0) (j := 0) d_X8_gainByPact_75 rfl fl8_12 rfl zj0 ⟨by decide, fun _ => by decide⟩
(aw_iload_n d_X8_gainByPact_78 rfl rfl 2 rfl
(aw_VI (As := [zr 1 0, zi v2]) (st := [zi x16]) d_X8_gainByPact_79 rfl cv8_251 ⟨Nat.le_of_ble_eq_true rfl, Nat.le_of_ble_eq_true rfl⟩ rfl rfl (Nat.le_of_ble_eq_true rfl) (Nat.le_of_ble_eq_true rfl) e14 (fun x20 M17 e18 => (aw_iadd d_X8_gainByPact_82 rfl
(aw_ri d_X8_gainByPact_83 rfl e18))))))))))))))))))))))))))))))))))))))))))))))))
theorem s_two {t o : Int} (c : CX M S) (h : zI t ∧ zI o) : CI l m_X8_areTwoOfOneGrade [zr 8 0, zi t, zi o] M (fun x M' => x = zb ((0 ≤ t ∧ t < qn S) ∧ (0 ≤ o ∧ o < qn S) ∧ t ≠ o ∧ qgr S t = qgr S o) ∧ M' = M) := by
  have e := c.n
  have w := c.1.1
  have hgr := c.2.2.1
  refine vX8_areTwoOfOneGrade ?_
  rw [c.1.2, e]
  refine ⟨⟨w, h.1⟩, fun a => ⟨(zb_f (fun q => a q.1)).symm, rfl⟩, fun a => ⟨⟨w, h.2⟩, fun a2 => ⟨(zb_f (fun q => a2 q.2.1)).symm, rfl⟩, fun a2 => ⟨h.1, h.2, fun a3 => ⟨(zb_f (fun q => q.2.2.1 a3)).symm, rfl⟩, fun a3 => ⟨⟨w, a⟩, ⟨w, a2⟩, ?_, ?_, fun a4 => ⟨(zb_f (fun q => a4 q.2.2.2)).symm, rfl⟩, fun a4 => ⟨(zb_1 ⟨a, a2, a3, a4⟩).symm, rfl⟩⟩⟩⟩⟩
  · have := hgr t a; omega
  · have := hgr o a2; omega
theorem c_settleE {g a : Int} {E : Int → Prop} (c : CX M S) (hE : ∀ t, 0 ≤ t ∧ t < qn S → (E t ↔ zand g (zshl 1 (qgr S t)) ≠ 0 ∧ zand a (zshl 1 t) = 0)) {P : Int → zM → Prop} (k : ∀ M', Fx (kBk 0) M M' → bkS M' 0 (mB S E (qsy S)) (mA S E (qsy S)) (qfee S) (qlaw S) → P (tW (qfee S) (mB S E (qsy S)) (mA S E (qsy S))) M') :
    CI l m_X8_worthOf [zr 8 0, zi g, zi a] M P := by
  refine vX8_worthOf ((c_X0_take c.1.1 c.1.2 c.2.1 hE).mono ?_)
  rintro M1 ⟨f1, r1⟩
  have c1 := c.bk f1
  rw [c1.fee, c1.law]
  refine (c_X0_settle (gd_m c.2.1) c.2.2.2.1 c.2.2.2.2 r1).mono ?_
  rintro M2 ⟨f2, s2⟩
  rw [s2.2.1.2.2.2.1]
  exact k M2 (f1.tr f2.bk) s2
theorem c_settleGrade {g : Int} (c : CX M S) (hg : 0 ≤ g ∧ g < 4) : CV l m_X8_settleGrade [zr 8 0, zi g] M (fun M' => Fx (kBk 0) M M' ∧ bkS M' 0 (qB S g) (qA S g) (qfee S) (qlaw S)) := by
  refine vX8_settleGrade ((c_X0_take c.1.1 c.1.2 c.2.1 (grE0 c.2 hg)).mono ?_)
  rintro M1 ⟨f1, r1⟩
  have c1 := c.bk f1
  rw [c1.fee, c1.law]
  refine (c_X0_settle (gd_m c.2.1) c.2.2.2.1 c.2.2.2.2 r1).mono ?_
  rintro M2 ⟨f2, s2⟩
  exact ⟨f1.tr f2.bk, s2⟩
noncomputable def wAll (S : zS) : Int := zsum (fun g => tW (qfee S) (qB S g) (qA S g)) 4
theorem c_worthOfAll (c : CX M S) : CI l m_X8_worthOfAll [zr 8 0] M (fun x M' => x = wAll S ∧ Fx (kBk 0) M M') := by
  have loop : ∀ (n : Nat) (g : Int) (M' : zM), (4 - g).toNat = n → 0 ≤ g ∧ g ≤ 4 → Fx (kBk 0) M M' → LX8_worthOfAll_4 l (fun x M' => x = wAll S ∧ Fx (kBk 0) M M') (zsum (fun g => tW (qfee S) (qB S g) (qA S g)) g) g M' := by
    intro n
    induction n with
    | zero =>
      intro g M' hn hg f
      have : g = 4 := by omega
      subst this
      exact vX8_worthOfAll_4 ⟨by omega, fun _ => ⟨rfl, f⟩, fun e => by omega⟩
    | succ n ih =>
      intro g M' hn hg f
      have c1 := c.bk f
      refine vX8_worthOfAll_4 ⟨by omega, fun e => by omega, fun _ => c_settleE c1 (grE0 c.2 (by omega)) fun M2 f2 s2 => ?_⟩
      have := ih (g + 1) M2 (by omega) (by omega) (f.tr f2)
      rw [zsum_s hg.1] at this
      exact this
  exact vX8_worthOfAll (loop _ 0 M rfl (by omega) Fx.rf)
/-- bits of the grades below k with trades -/
noncomputable def gTr (S : zS) : Nat → Int
  | 0 => 0
  | k + 1 => if 0 < tT (qfee S) (qB S k) (qA S k) then zor (gTr S k) (zshl 1 k) else gTr S k
theorem c_gradesWithTrades (c : CX M S) : CI l m_X8_gradesWithTrades [zr 8 0] M (fun x M' => x = gTr S 4 ∧ Fx (kBk 0) M M') := by
  have loop : ∀ (n k : Nat) (M' : zM), 4 - k = n → k ≤ 4 → Fx (kBk 0) M M' → LX8_gradesWithTrades_4 l (fun x M' => x = gTr S 4 ∧ Fx (kBk 0) M M') (gTr S k) (k : Int) M' := by
    intro n
    induction n with
    | zero =>
      intro k M' hn hg f
      have : k = 4 := by omega
      subst this
      exact vX8_gradesWithTrades_4 ⟨by omega, fun _ => ⟨rfl, f⟩, fun e => by omega⟩
    | succ n ih =>
      intro k M' hn hg f
      have c1 := c.bk f
      refine vX8_gradesWithTrades_4 ⟨by omega, fun e => by omega, fun _ => (c_settleGrade c1 (by omega)).mono ?_⟩
      rintro M2 ⟨f2, s2⟩
      have e6 := s2.2.1.2.2.1
      have hb := tT_b (f := qfee S) (B := qB S k) (A := qA S k)
      have hl : (qB S k).length ≤ 80 ∧ (qA S k).length ≤ 80 := (gd_m c.2.1).1
      have eg : gTr S (k + 1) = if 0 < tT (qfee S) (qB S k) (qA S k) then zor (gTr S k) (zshl 1 k) else gTr S k := rfl
      have := ih (k + 1) M2 (by omega) (by omega) (f.tr f2)
      rw [eg] at this
      rw [e6]
      refine ⟨by omega, fun q => ?_, fun q => ?_⟩
      · rw [if_neg (by omega)] at this; exact this
      · rw [if_pos q] at this; exact this
  exact vX8_gradesWithTrades (loop _ 0 M rfl (by omega) Fx.rf)
theorem c_setAside {g a : Int} (c : CX M S) (hg : 0 ≤ g ∧ g < 4) : CV l m_X8_setAside [zr 8 0, zi g, zi a] M (fun M' => Fx (kBk 1) M M' ∧ bkR M' 1 (mB S (fun t => qgr S t = g ∧ hb a t = false) (qsy S)) (mA S (fun t => qgr S t = g ∧ hb a t = false) (qsy S))) :=
  vX8_setAside (c_X0_take c.1.1 c.1.2 c.2.1 (grE c.2 hg))
theorem kBk_ne {b b' : Nat} {M M' : zM} {B A : List Int} (f : Fx (kBk b) M M') (hne : b' ≠ b) (h : bkR M b' B A) : bkR M' b' B A := h.of (f _ _ (fun q => hne q.2)) (f _ _ (fun q => hne q.2)) (f _ _ (fun q => hne q.2))
theorem c_settleLie {t d : Int} {E : Int → Prop} (c : CX M S) (ht : 0 ≤ t ∧ t < qn S) (hE : ¬ E t) (hd : -500 ≤ d ∧ d ≤ 500) (r : bkR M 1 (mB S E (qsy S)) (mA S E (qsy S))) :
    CV l m_X8_settleLie [zr 8 0, zi t, zi d] M (fun M' => Fx (kBk 0) M M' ∧ bkS M' 0 (mB S (fun t' => E t' ∨ t' = t) (vL S (fun t' => decide (t' = t)) d)) (mA S (fun t' => E t' ∨ t' = t) (vL S (fun t' => decide (t' = t)) d)) (qfee S) (qlaw S)) := by
  have g := gd_m (E := E) c.2.1
  have ok := vL_ok c.2.1 (fun t' => decide (t' = t)) d
  have hy : ∀ u, 0 ≤ u ∧ u < qun S t → 0 ≤ qsy S t u ∧ qsy S t u ≤ 9999 := fun u hu => c.2.1.2.2.1 t u ⟨ht.1, ht.2, hu.1, hu.2⟩
  refine vX8_settleLie ((c_X0_copyFrom (by decide) r g.1.1 g.1.2).mono ?_)
  rintro M1 ⟨f1, r1⟩
  have c1 := c.bk f1
  have e := m_congrE (S := S) (E := E) (E' := E) (v := qsy S) (v' := vL S (fun t' => decide (t' = t)) d) (fun _ _ => Iff.rfl) (fun t' u q q2 => by
    unfold vL
    rw [if_neg]
    simp only [decide_eq_true_eq]
    intro q3
    exact hE (q3 ▸ q2))
  rw [e.1, e.2] at r1
  refine (c_X0_takeTrader c1.1.1 c1.1.2 ht hE ok (by omega) hy (fun u hu => by unfold vL; rw [if_pos (by simp)]; rfl) r1).mono ?_
  rintro M2 ⟨f2, r2⟩
  have c2 := c1.bk f2
  rw [c2.fee, c2.law]
  refine (c_X0_settle (gd_m ok) c.2.2.2.1 c.2.2.2.2 r2).mono ?_
  rintro M3 ⟨f3, s3⟩
  exact ⟨(f1.tr f2).tr f3.bk, s3⟩
noncomputable def gLie (S : zS) (E : Int → Prop) (L : Int → Bool) (d t : Int) : Int := gnr S (mB S E (vL S L d)) (mA S E (vL S L d)) (qfee S) (qlaw S) t
theorem c_gainOf {t : Int} {E : Int → Prop} {v : Int → Int → Int} (c : CX M S) (ok : okM S v) (zt : zI t) (s : bkS M 0 (mB S E v) (mA S E v) (qfee S) (qlaw S)) : CI l m_X0_gainOf [zr 0 0, zr 1 0, zi t] M (fun x M' => x = gnr S (mB S E v) (mA S E v) (qfee S) (qlaw S) t ∧ M' = M) :=
  c_X0_gainOf (gd_m ok) c.2.2.2.1 c.2.2.2.2 s c.1.1 c.1.2 zt (cnt_4 ok)
theorem c_gainByLie {t d : Int} {E : Int → Prop} (c : CX M S) (ht : 0 ≤ t ∧ t < qn S) (hE : ¬ E t) (hd : -500 ≤ d ∧ d ≤ 500) (r : bkR M 1 (mB S E (qsy S)) (mA S E (qsy S))) :
    CI l m_X8_gainByLie [zr 8 0, zi t, zi d] M (fun x M' => x = gLie S (fun t' => E t' ∨ t' = t) (fun t' => decide (t' = t)) d t ∧ Fx (kBk 0) M M') := by
  have hn := c.2.1.1
  refine vX8_gainByLie ((c_settleLie c ht hE hd r).mono ?_)
  rintro M1 ⟨f1, s1⟩
  exact (c_gainOf (c.bk f1) (vL_ok c.2.1 _ _) (by omega) s1).eq ⟨rfl, f1⟩
theorem c_gainByPact {a b d : Int} {E : Int → Prop} (c : CX M S) (ha : 0 ≤ a ∧ a < qn S) (hb : 0 ≤ b ∧ b < qn S) (hab : a ≠ b) (hEa : ¬ E a) (hEb : ¬ E b) (hd : -500 ≤ d ∧ d ≤ 500) (r : bkR M 1 (mB S E (qsy S)) (mA S E (qsy S))) :
    CI l m_X8_gainByPact [zr 8 0, zi a, zi b, zi d] M (fun x M' => x = gLie S (fun t' => (E t' ∨ t' = a) ∨ t' = b) (fun t' => decide (t' = a ∨ t' = b)) d a + gLie S (fun t' => (E t' ∨ t' = a) ∨ t' = b) (fun t' => decide (t' = a ∨ t' = b)) d b ∧ Fx (kBk 0) M M') := by
  have hn := c.2.1.1
  have g := gd_m (E := E) c.2.1
  have ok := vL_ok c.2.1 (fun t' => decide (t' = a ∨ t' = b)) d
  have hy : ∀ t, 0 ≤ t ∧ t < qn S → ∀ u, 0 ≤ u ∧ u < qun S t → 0 ≤ qsy S t u ∧ qsy S t u ≤ 9999 := fun t ht u hu => c.2.1.2.2.1 t u ⟨ht.1, ht.2, hu.1, hu.2⟩
  refine vX8_gainByPact ((c_X0_copyFrom (by decide) r g.1.1 g.1.2).mono ?_)
  rintro M1 ⟨f1, r1⟩
  have c1 := c.bk f1
  have e := m_congrE (S := S) (E := E) (E' := E) (v := qsy S) (v' := vL S (fun t' => decide (t' = a ∨ t' = b)) d) (fun _ _ => Iff.rfl) (fun t' u q q2 => by
    unfold vL
    rw [if_neg]
    simp only [decide_eq_true_eq]
    rintro (q3 | q3)
    · exact hEa (q3 ▸ q2)
    · exact hEb (q3 ▸ q2))
  rw [e.1, e.2] at r1
  refine (c_X0_takeTrader c1.1.1 c1.1.2 ha hEa ok (by omega) (hy a ha) (fun u hu => by unfold vL; rw [if_pos (by simp)]; rfl) r1).mono ?_
  rintro M2 ⟨f2, r2⟩
  have c2 := c1.bk f2
  refine (c_X0_takeTrader c2.1.1 c2.1.2 hb (by rintro (q | q); exact hEb q; exact hab q.symm) ok (by omega) (hy b hb) (fun u hu => by unfold vL; rw [if_pos (by simp)]; rfl) r2).mono ?_
  rintro M3 ⟨f3, r3⟩
  have c3 := c2.bk f3
  rw [c3.fee, c3.law]
  refine (c_X0_settle (gd_m ok) c.2.2.2.1 c.2.2.2.2 r3).mono ?_
  rintro M4 ⟨f4, s4⟩
  have f := ((f1.tr f2).tr f3).tr f4.bk
  have c4 := c.bk f
  exact (c_gainOf c4 ok (by omega) s4).eq ((c_gainOf c4 ok (by omega) s4).eq ⟨rfl, f⟩)
end
