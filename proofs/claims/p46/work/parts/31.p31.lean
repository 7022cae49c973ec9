/-! ===== the class: what its questions share ===== -/
def okS (S : zS) : Prop := okM S (qsy S) ∧ (∀ t, 0 ≤ t ∧ t < qn S → 0 ≤ qgr S t ∧ qgr S t < 4) ∧ (0 ≤ qfee S ∧ qfee S ≤ 500) ∧ (0 ≤ qlaw S ∧ qlaw S ≤ 3)
theorem wfS.ok {k : Int} {S : zS} (h : wfS k S) : okS S := by
  obtain ⟨h1, h2, h3, -, -, h6, h7, h8⟩ := h
  refine ⟨⟨h1, fun t ht => (h6 t ht).2.2.1, fun t u q => h7 t u ⟨q.1, q.2.1⟩ q.2.2, fun t u q q2 => ?_⟩, fun t ht => (h6 t ht).2.1, h2, h3⟩
  have h9 := h8 t u ⟨q.1, q.2.1⟩ ⟨q.2.2.1, q2.2.2.2⟩
  have h10 := (h6 t ⟨q.1, q.2.1⟩).1
  exact ⟨h9.2, fun c => h9.1 (by omega)⟩
def CX (M : zM) (S : zS) : Prop := (hW M 0 ∧ hS M 0 = S) ∧ okS S
theorem CX.scr {M M' : zM} {S : zS} (h : CX M S) (f : Fr kScr M M') : CX M' S := by
  have g : ∀ k i, (k = 1 ∨ (12 ≤ k ∧ k ≤ 17)) → M' k i = M k i := fun k i hk => f k i (by unfold kScr; omega)
  refine ⟨⟨hW_congr (g 1 0 (by omega)) (g 12 0 (by omega)) (g 14 0 (by omega)) h.1.1, ?_⟩, h.2⟩
  rw [hS_congr (g 1 0 (by omega)) (g 12 0 (by omega)) (g 13 0 (by omega)) (g 14 0 (by omega)) (g 15 0 (by omega)) (g 16 0 (by omega)) (g 17 0 (by omega))]
  exact h.1.2
theorem Fx.scr {b : Nat} {M M' : zM} (f : Fx (kBk b) M M') : Fr kScr M M' := fun k i hk => f k i (fun q => hk (by unfold kScr; have := q.1; omega))
theorem Fx.bk {b : Nat} {M M' : zM} (f : Fx (fun k i => k = 0 ∧ i = b) M M') : Fx (kBk b) M M' := Fx.mono f fun k i q => ⟨by omega, q.2⟩
theorem CX.bk {b : Nat} {M M' : zM} {S : zS} (h : CX M S) (f : Fx (kBk b) M M') : CX M' S := h.scr f.scr
theorem CX.n {M : zM} {S : zS} (h : CX M S) : M 1 0 6 = qn S := by rw [← h.1.2]; exact (hS_n M 0).symm
theorem CX.fee {M : zM} {S : zS} (h : CX M S) : M 1 0 7 = qfee S := by rw [← h.1.2]; exact (hS_fee M 0).symm
theorem CX.law {M : zM} {S : zS} (h : CX M S) : M 1 0 8 = qlaw S := by rw [← h.1.2]; exact (hS_law M 0).symm
noncomputable abbrev qB (S : zS) (g : Int) : List Int := mB S (fun t => qgr S t = g) (qsy S)
noncomputable abbrev qA (S : zS) (g : Int) : List Int := mA S (fun t => qgr S t = g) (qsy S)
theorem grE {S : zS} (h : okS S) {g a : Int} (hg : 0 ≤ g ∧ g < 4) : ∀ t, 0 ≤ t ∧ t < qn S → ((qgr S t = g ∧ hb a t = false) ↔ zand (zshl 1 g) (zshl 1 (qgr S t)) ≠ 0 ∧ zand a (zshl 1 t) = 0) := by
  intro t ht
  have h1 := h.2.1 t ht
  have h2 := h.1.1
  have e1 := hb_and (s := zshl 1 g) (k := qgr S t) (by omega)
  rw [hb_bit (by omega) (by omega)] at e1
  rw [hb_and (by omega)]
  have e2 : zand (zshl 1 g) (zshl 1 (qgr S t)) ≠ 0 ↔ qgr S t = g := by
    rw [Ne, e1]
    simp
  rw [e2]
theorem grE0 {S : zS} (h : okS S) {g : Int} (hg : 0 ≤ g ∧ g < 4) : ∀ t, 0 ≤ t ∧ t < qn S → (qgr S t = g ↔ zand (zshl 1 g) (zshl 1 (qgr S t)) ≠ 0 ∧ zand 0 (zshl 1 t) = 0) := by
  intro t ht
  rw [← grE h hg t ht, hb_0]
  simp
section
variable {l : Launch} {M : zM} {S : zS}
theorem vX8_settleGrade {l : Launch} {P : zM → Prop} {v1 : Int} {M : zM}
    (H0 : (CV l m_X0_take [zr 0 0, zr 1 0, zi (zshl 1 v1), zi 0] M (fun M1 => (CV l m_X0_settle [zr 0 0, zi (M1 1 0 7), zi (M1 1 0 8)] M1 (fun M4 => P M4))))) :
    CV l m_X8_settleGrade [zr 8 0, zi v1] M P :=
(aw_aload_n d_X8_settleGrade_0 rfl rfl 0 rfl (by decide)
(aw_getR (k' := 0) (a := 0) (b := 0) (j := 0) d_X8_settleGrade_1 rfl fl8_47 rfl zj0 ⟨by decide, fun _ => by decide⟩
(aw_aload_n d_X8_settleGrade_4 rfl rfl 0 rfl (by decide)
(aw_getR (k' := 1) (a := 0) (b := 0) (j := 0) d_X8_settleGrade_5 rfl fl8_12 rfl zj0 ⟨by decide, fun _ => by decide⟩
(aw_iload_n d_X8_settleGrade_8 rfl rfl 1 rfl
(aw_SI (As := [zi v1]) (st := [zr 1 0, zr 0 0]) d_X8_settleGrade_9 rfl cs8_255 ⟨Nat.le_of_ble_eq_true rfl, Nat.le_of_ble_eq_true rfl⟩ rfl rfl (Nat.le_of_ble_eq_true rfl) (Nat.le_of_ble_eq_true rfl) (s_X8_bit) (fun _ _ hq => aw_eqs hq
(aw_iconst d_X8_settleGrade_12 rfl
(aw_VV (As := [zr 1 0, zi (zshl 1 v1), zi 0]) (st := []) d_X8_settleGrade_13 rfl cv8_289 ⟨Nat.le_of_ble_eq_true rfl, Nat.le_of_ble_eq_true rfl⟩ rfl rfl (Nat.le_of_ble_eq_true rfl) (Nat.le_of_ble_eq_true rfl) H0 (fun M1 e2 => (aw_aload_n d_X8_settleGrade_16 rfl rfl 0 rfl (by decide)
(aw_getR (k' := 0) (a := 0) (b := 0) (j := 0) d_X8_settleGrade_17 rfl fl8_47 rfl zj0 ⟨by decide, fun _ => by decide⟩
(aw_aload_n d_X8_settleGrade_20 rfl rfl 0 rfl (by decide)
(aw_getR (k' := 1) (a := 0) (b := 0) (j := 0) d_X8_settleGrade_21 rfl fl8_12 rfl zj0 ⟨by decide, fun _ => by decide⟩
(aw_getI (kc := 7) d_X8_settleGrade_24 rfl fl8_145 rfl rfl
(aw_aload_n d_X8_settleGrade_27 rfl rfl 0 rfl (by decide)
(aw_getR (k' := 1) (a := 0) (b := 0) (j := 0) d_X8_settleGrade_28 rfl fl8_12 rfl zj0 ⟨by decide, fun _ => by decide⟩
(aw_getI (kc := 8) d_X8_settleGrade_31 rfl fl8_151 rfl rfl
(aw_VV (As := [zi (M1 1 0 7), zi (M1 1 0 8)]) (st := []) d_X8_settleGrade_34 rfl cv8_293 ⟨Nat.le_of_ble_eq_true rfl, Nat.le_of_ble_eq_true rfl⟩ rfl rfl (Nat.le_of_ble_eq_true rfl) (Nat.le_of_ble_eq_true rfl) e2 (fun M4 e5 => (aw_rv d_X8_settleGrade_37 rfl e5)))))))))))))))))))))
theorem vX8_worthOf {l : Launch} {P : Int → zM → Prop} {v1 : Int} {v2 : Int} {M : zM}
    (H0 : (CV l m_X0_take [zr 0 0, zr 1 0, zi v1, zi v2] M (fun M1 => (CV l m_X0_settle [zr 0 0, zi (M1 1 0 7), zi (M1 1 0 8)] M1 (fun M4 => P (M4 0 0 7) M4))))) :
    CI l m_X8_worthOf [zr 8 0, zi v1, zi v2] M P :=
(aw_aload_n d_X8_worthOf_0 rfl rfl 0 rfl (by decide)
(aw_getR (k' := 0) (a := 0) (b := 0) (j := 0) d_X8_worthOf_1 rfl fl8_47 rfl zj0 ⟨by decide, fun _ => by decide⟩
(aw_aload_n d_X8_worthOf_4 rfl rfl 0 rfl (by decide)
(aw_getR (k' := 1) (a := 0) (b := 0) (j := 0) d_X8_worthOf_5 rfl fl8_12 rfl zj0 ⟨by decide, fun _ => by decide⟩
(aw_iload_n d_X8_worthOf_8 rfl rfl 1 rfl
(aw_iload_n d_X8_worthOf_9 rfl rfl 2 rfl
(aw_VV (As := [zr 1 0, zi v1, zi v2]) (st := []) d_X8_worthOf_10 rfl cv8_289 ⟨Nat.le_of_ble_eq_true rfl, Nat.le_of_ble_eq_true rfl⟩ rfl rfl (Nat.le_of_ble_eq_true rfl) (Nat.le_of_ble_eq_true rfl) H0 (fun M1 e2 => (aw_aload_n d_X8_worthOf_13 rfl rfl 0 rfl (by decide)
(aw_getR (k' := 0) (a := 0) (b := 0) (j := 0) d_X8_worthOf_14 rfl fl8_47 rfl zj0 ⟨by decide, fun _ => by decide⟩
(aw_aload_n d_X8_worthOf_17 rfl rfl 0 rfl (by decide)
(aw_getR (k' := 1) (a := 0) (b := 0) (j := 0) d_X8_worthOf_18 rfl fl8_12 rfl zj0 ⟨by decide, fun _ => by decide⟩
(aw_getI (kc := 7) d_X8_worthOf_21 rfl fl8_145 rfl rfl
(aw_aload_n d_X8_worthOf_24 rfl rfl 0 rfl (by decide)
(aw_getR (k' := 1) (a := 0) (b := 0) (j := 0) d_X8_worthOf_25 rfl fl8_12 rfl zj0 ⟨by decide, fun _ => by decide⟩
(aw_getI (kc := 8) d_X8_worthOf_28 rfl fl8_151 rfl rfl
(aw_VV (As := [zi (M1 1 0 7), zi (M1 1 0 8)]) (st := []) d_X8_worthOf_31 rfl cv8_293 ⟨Nat.le_of_ble_eq_true rfl, Nat.le_of_ble_eq_true rfl⟩ rfl rfl (Nat.le_of_ble_eq_true rfl) (Nat.le_of_ble_eq_true rfl) e2 (fun M4 e5 => (aw_aload_n d_X8_worthOf_34 rfl rfl 0 rfl (by decide)
(aw_getR (k' := 0) (a := 0) (b := 0) (j := 0) d_X8_worthOf_35 rfl fl8_47 rfl zj0 ⟨by decide, fun _ => by decide⟩
(aw_getI (kc := 7) d_X8_worthOf_38 rfl fl8_226 rfl rfl
(aw_ri d_X8_worthOf_41 rfl e5))))))))))))))))))))))
def LX8_worthOfAll_4 (l : Launch) (P : Int → zM → Prop) (v1 : Int) (v2 : Int) (M : zM) : Prop := AW l m_X8_worthOfAll (zTi m_X8_worthOfAll P) 4 [(0, zr 8 0), (1, zi v1), (2, zi v2)] [] M
theorem vX8_worthOfAll_4 {l : Launch} {P : Int → zM → Prop} {v1 : Int} {v2 : Int} {M : zM}
    (H0 : (zI v2 ∧ (4 ≤ v2 → P v1 M) ∧ (v2 < 4 → (CI l m_X8_worthOf [zr 8 0, zi (zshl 1 v2), zi 0] M (fun x10 M7 => LX8_worthOfAll_4 l P (v1 + x10) (v2 + 1) M7))))) :
    LX8_worthOfAll_4 l P v1 v2 M :=
(aw_iload_n d_X8_worthOfAll_4 rfl rfl 2 rfl
(aw_iconst d_X8_worthOfAll_5 rfl
(have z1 := H0.1; have e2 := H0.2; aw_icmp_ge d_X8_worthOfAll_6 rfl rfl z1 (by decide) (fun c3 => have e5 := e2.1 c3; (aw_iload_n d_X8_worthOfAll_27 rfl rfl 1 rfl
(aw_ri d_X8_worthOfAll_28 rfl e5))) (fun c4 => have e6 := e2.2 c4; (aw_iload_n d_X8_worthOfAll_9 rfl rfl 1 rfl
(aw_aload_n d_X8_worthOfAll_10 rfl rfl 0 rfl (by decide)
(aw_iload_n d_X8_worthOfAll_11 rfl rfl 2 rfl
(aw_SI (As := [zi v2]) (st := [zr 8 0, zi v1]) d_X8_worthOfAll_12 rfl cs8_255 ⟨Nat.le_of_ble_eq_true rfl, Nat.le_of_ble_eq_true rfl⟩ rfl rfl (Nat.le_of_ble_eq_true rfl) (Nat.le_of_ble_eq_true rfl) (s_X8_bit) (fun _ _ hq => aw_eqs hq
(aw_iconst d_X8_worthOfAll_15 rfl
(aw_VI (As := [zi (zshl 1 v2), zi 0]) (st := [zi v1]) d_X8_worthOfAll_16 rfl cv8_348 ⟨Nat.le_of_ble_eq_true rfl, Nat.le_of_ble_eq_true rfl⟩ rfl rfl (Nat.le_of_ble_eq_true rfl) (Nat.le_of_ble_eq_true rfl) e6 (fun x10 M7 e8 => (aw_iadd d_X8_worthOfAll_19 rfl
(aw_istore_n (lv' := [(1, zi (v1 + x10)), (0, zr 8 0), (2, zi v2)]) d_X8_worthOfAll_20 rfl rfl (by decide) rfl
(aw_iinc (lv' := [(2, zi (v2 + 1)), (1, zi (v1 + x10)), (0, zr 8 0)]) (y := (v2 + 1)) d_X8_worthOfAll_21 rfl 2 rfl (by decide) rfl rfl
(aw_goto d_X8_worthOfAll_24 rfl
(aw_sub [2, 1, 0] rfl e8)))))))))))))))))
theorem vX8_worthOfAll {l : Launch} {P : Int → zM → Prop}  {M : zM}
    (H0 : LX8_worthOfAll_4 l P 0 0 M) :
    CI l m_X8_worthOfAll [zr 8 0] M P :=
(aw_iconst d_X8_worthOfAll_0 rfl
(aw_istore_n (lv' := [(1, zi 0), (0, zr 8 0)]) d_X8_worthOfAll_1 rfl rfl (by decide) rfl
(aw_iconst d_X8_worthOfAll_2 rfl
(aw_istore_n (lv' := [(2, zi 0), (1, zi 0), (0, zr 8 0)]) d_X8_worthOfAll_3 rfl rfl (by decide) rfl
(aw_sub [2, 1, 0] rfl H0)))))
def LX8_gradesWithTrades_4 (l : Launch) (P : Int → zM → Prop) (v1 : Int) (v2 : Int) (M : zM) : Prop := AW l m_X8_gradesWithTrades (zTi m_X8_gradesWithTrades P) 4 [(0, zr 8 0), (1, zi v1), (2, zi v2)] [] M
theorem vX8_gradesWithTrades_4 {l : Launch} {P : Int → zM → Prop} {v1 : Int} {v2 : Int} {M : zM}
    (H0 : (zI v2 ∧ (4 ≤ v2 → P v1 M) ∧ (v2 < 4 → (CV l m_X8_settleGrade [zr 8 0, zi v2] M (fun M7 => (zI (M7 0 0 6) ∧ ((M7 0 0 6) ≤ 0 → LX8_gradesWithTrades_4 l P v1 (v2 + 1) M7) ∧ (0 < (M7 0 0 6) → LX8_gradesWithTrades_4 l P (zor v1 (zshl 1 v2)) (v2 + 1) M7))))))) :
    LX8_gradesWithTrades_4 l P v1 v2 M :=
(aw_iload_n d_X8_gradesWithTrades_4 rfl rfl 2 rfl
(aw_iconst d_X8_gradesWithTrades_5 rfl
(have z1 := H0.1; have e2 := H0.2; aw_icmp_ge d_X8_gradesWithTrades_6 rfl rfl z1 (by decide) (fun c3 => have e5 := e2.1 c3; (aw_iload_n d_X8_gradesWithTrades_37 rfl rfl 1 rfl
(aw_ri d_X8_gradesWithTrades_38 rfl e5))) (fun c4 => have e6 := e2.2 c4; (aw_aload_n d_X8_gradesWithTrades_9 rfl rfl 0 rfl (by decide)
(aw_iload_n d_X8_gradesWithTrades_10 rfl rfl 2 rfl
(aw_VV (As := [zi v2]) (st := []) d_X8_gradesWithTrades_11 rfl cv8_154 ⟨Nat.le_of_ble_eq_true rfl, Nat.le_of_ble_eq_true rfl⟩ rfl rfl (Nat.le_of_ble_eq_true rfl) (Nat.le_of_ble_eq_true rfl) e6 (fun M7 e8 => (aw_aload_n d_X8_gradesWithTrades_14 rfl rfl 0 rfl (by decide)
(aw_getR (k' := 0) (a := 0) (b := 0) (j := 0) d_X8_gradesWithTrades_15 rfl fl8_47 rfl zj0 ⟨by decide, fun _ => by decide⟩
(aw_getI (kc := 6) d_X8_gradesWithTrades_18 rfl fl8_223 rfl rfl
(have z10 := e8.1; have e11 := e8.2; aw_if_le d_X8_gradesWithTrades_21 rfl rfl z10 (fun c12 => have e14 := e11.1 c12; (aw_iinc (lv' := [(2, zi (v2 + 1)), (0, zr 8 0), (1, zi v1)]) (y := (v2 + 1)) d_X8_gradesWithTrades_31 rfl 2 rfl (by decide) rfl rfl
(aw_goto d_X8_gradesWithTrades_34 rfl
(aw_sub [1, 2, 0] rfl e14)))) (fun c13 => have e15 := e11.2 c13; (aw_iload_n d_X8_gradesWithTrades_24 rfl rfl 1 rfl
(aw_iload_n d_X8_gradesWithTrades_25 rfl rfl 2 rfl
(aw_SI (As := [zi v2]) (st := [zi v1]) d_X8_gradesWithTrades_26 rfl cs8_255 ⟨Nat.le_of_ble_eq_true rfl, Nat.le_of_ble_eq_true rfl⟩ rfl rfl (Nat.le_of_ble_eq_true rfl) (Nat.le_of_ble_eq_true rfl) (s_X8_bit) (fun _ _ hq => aw_eqs hq
(aw_ior d_X8_gradesWithTrades_29 rfl zor_h
(aw_istore_n (lv' := [(1, zi (zor v1 (zshl 1 v2))), (0, zr 8 0), (2, zi v2)]) d_X8_gradesWithTrades_30 rfl rfl (by decide) rfl
(aw_iinc (lv' := [(2, zi (v2 + 1)), (1, zi (zor v1 (zshl 1 v2))), (0, zr 8 0)]) (y := (v2 + 1)) d_X8_gradesWithTrades_31 rfl 2 rfl (by decide) rfl rfl
(aw_goto d_X8_gradesWithTrades_34 rfl
(aw_sub [2, 1, 0] rfl e15))))))))))))))))))))))
theorem vX8_gradesWithTrades {l : Launch} {P : Int → zM → Prop}  {M : zM}
    (H0 : LX8_gradesWithTrades_4 l P 0 0 M) :
    CI l m_X8_gradesWithTrades [zr 8 0] M P :=
(aw_iconst d_X8_gradesWithTrades_0 rfl
(aw_istore_n (lv' := [(1, zi 0), (0, zr 8 0)]) d_X8_gradesWithTrades_1 rfl rfl (by decide) rfl
(aw_iconst d_X8_gradesWithTrades_2 rfl
(aw_istore_n (lv' := [(2, zi 0), (1, zi 0), (0, zr 8 0)]) d_X8_gradesWithTrades_3 rfl rfl (by decide) rfl
(aw_sub [2, 1, 0] rfl H0)))))
theorem c_settleE {g a : Int} {E : Int → Prop} (c : CX M S) (hE : ∀ t, 0 ≤ t ∧ t < qn S → (E t ↔ zand g (zshl 1 (qgr S t)) ≠ 0 ∧ zand a (zshl 1 t) = 0)) {P : Int → zM → Prop} (k : ∀ M', Fx (kBk 0) M M' → bkS M' 0 (mB S E (qsy S)) (mA S E (qsy S)) (qfee S) (qlaw S) → P (tW (qfee S) (mB S E (qsy S)) (mA S E (qsy S))) M') :
    CI l m_X8_worthOf [zr 8 0, zi g, zi a] M P := by
  refine vX8_worthOf ((c_X0_take c.1.1 c.1.2 c.2.1 hE).mono ?_)
  rintro M1 ⟨f1, r1⟩
  have c1 := c.bk f1
  rw [c1.fee, c1.law]
  refine (c_X0_settle (gd_m c.2.1) c.2.2.2.1 c.2.2.2.2 r1).mono ?_
  rintro M2 ⟨f2, s2⟩
  rw [s2.2.1.2.2.2.1]
  exact k M2 (f1.tr f2.bk) s2
theorem c_settleGrade {g : Int} (c : CX M S) (hg : 0 ≤ g ∧ g < 4) : CV l m_X8_settleGrade [zr 8 0, zi g] M (fun M' => Fx (kBk 0) M M' ∧ bkS M' 0 (qB S g) (qA S g) (qfee S) (qlaw S)) := by
  refine vX8_settleGrade ((c_X0_take c.1.1 c.1.2 c.2.1 (grE0 c.2 hg)).mono ?_)
  rintro M1 ⟨f1, r1⟩
  have c1 := c.bk f1
  rw [c1.fee, c1.law]
  refine (c_X0_settle (gd_m c.2.1) c.2.2.2.1 c.2.2.2.2 r1).mono ?_
  rintro M2 ⟨f2, s2⟩
  exact ⟨f1.tr f2.bk, s2⟩
noncomputable def wAll (S : zS) : Int := zsum (fun g => tW (qfee S) (qB S g) (qA S g)) 4
theorem c_worthOfAll (c : CX M S) : CI l m_X8_worthOfAll [zr 8 0] M (fun x M' => x = wAll S ∧ Fx (kBk 0) M M') := by
  have loop : ∀ (n : Nat) (g : Int) (M' : zM), (4 - g).toNat = n → 0 ≤ g ∧ g ≤ 4 → Fx (kBk 0) M M' → LX8_worthOfAll_4 l (fun x M' => x = wAll S ∧ Fx (kBk 0) M M') (zsum (fun g => tW (qfee S) (qB S g) (qA S g)) g) g M' := by
    intro n
    induction n with
    | zero =>
      intro g M' hn hg f
      have : g = 4 := by omega
      subst this
      exact vX8_worthOfAll_4 ⟨by omega, fun _ => ⟨rfl, f⟩, fun e => by omega⟩
    | succ n ih =>
      intro g M' hn hg f
      have c1 := c.bk f
      refine vX8_worthOfAll_4 ⟨by omega, fun e => by omega, fun _ => c_settleE c1 (grE0 c.2 (by omega)) fun M2 f2 s2 => ?_⟩
      have := ih (g + 1) M2 (by omega) (by omega) (f.tr f2)
      rw [zsum_s hg.1] at this
      exact this
  exact vX8_worthOfAll (loop _ 0 M rfl (by omega) Fx.rf)
/-- bits of the grades below k with trades -/
noncomputable def gTr (S : zS) : Nat → Int
  | 0 => 0
  | k + 1 => if 0 < tT (qfee S) (qB S k) (qA S k) then zor (gTr S k) (zshl 1 k) else gTr S k
theorem c_gradesWithTrades (c : CX M S) : CI l m_X8_gradesWithTrades [zr 8 0] M (fun x M' => x = gTr S 4 ∧ Fx (kBk 0) M M') := by
  have loop : ∀ (n k : Nat) (M' : zM), 4 - k = n → k ≤ 4 → Fx (kBk 0) M M' → LX8_gradesWithTrades_4 l (fun x M' => x = gTr S 4 ∧ Fx (kBk 0) M M') (gTr S k) (k : Int) M' := by
    intro n
    induction n with
    | zero =>
      intro k M' hn hg f
      have : k = 4 := by omega
      subst this
      exact vX8_gradesWithTrades_4 ⟨by omega, fun _ => ⟨rfl, f⟩, fun e => by omega⟩
    | succ n ih =>
      intro k M' hn hg f
      have c1 := c.bk f
      refine vX8_gradesWithTrades_4 ⟨by omega, fun e => by omega, fun _ => (c_settleGrade c1 (by omega)).mono ?_⟩
      rintro M2 ⟨f2, s2⟩
      have e6 := s2.2.1.2.2.1
      have hb := tT_b (f := qfee S) (B := qB S k) (A := qA S k)
      have hl : (qB S k).length ≤ 80 ∧ (qA S k).length ≤ 80 := (gd_m c.2.1).1
      have eg : gTr S (k + 1) = if 0 < tT (qfee S) (qB S k) (qA S k) then zor (gTr S k) (zshl 1 k) else gTr S k := rfl
      have := ih (k + 1) M2 (by omega) (by omega) (f.tr f2)
      rw [eg] at this
      rw [e6]
      refine ⟨by omega, fun q => ?_, fun q => ?_⟩
      · rw [if_neg (by omega)] at this; exact this
      · rw [if_pos q] at this; exact this
  exact vX8_gradesWithTrades (loop _ 0 M rfl (by omega) Fx.rf)
end

