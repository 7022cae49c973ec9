/-! ===== questions, both sides: the first ===== -/
def mQ (M M' : zM) : Prop := (∀ k i, k ≠ 9 → ¬ (31 ≤ k ∧ k ≤ 46) → M' k i = M k i) ∧ (∀ j, (j = 2 ∨ j = 5 ∨ j = 6 ∨ j = 36) → M' 9 0 j = M 9 0 j) ∧ (-1000 ≤ M' 9 0 7 ∧ M' 9 0 7 ≤ 1000)
def MX (M : zM) (S : zS) : Prop := (RC M ∧ rS M = S) ∧ M 9 0 5 = 0 ∧ M 9 0 6 = 0
theorem mFs.q {M M' : zM} {S : zS} (h : MX M S) (f : mFs M M') : mQ M M' :=
  ⟨fun k i h1 h2 => f.1 k i h1 (by omega), fun j hj => f.F j (by omega), by rw [f.F 7 (by omega)]; exact h.1.1.2.2.2.2.2⟩
theorem mQ.rf {M : zM} {S : zS} (h : MX M S) : mQ M M := mFs.q h mFs.rf
theorem mQ.tr {M M1 M2 : zM} (a : mQ M M1) (b : mQ M1 M2) : mQ M M2 := ⟨fun k i h1 h2 => (b.1 k i h1 h2).trans (a.1 k i h1 h2), fun j h => (b.2.1 j h).trans (a.2.1 j h), b.2.2⟩
theorem MX.q {M M' : zM} {S : zS} (h : MX M S) (f : mQ M M') : MX M' S := by
  have e27 := f.1 27 0 (by decide) (by decide)
  have eS : rS M' = rS M := rS_congr e27
  refine ⟨⟨?_, eS.trans h.1.2⟩, (f.2.1 5 (by omega)).trans h.2.1, (f.2.1 6 (by omega)).trans h.2.2⟩
  unfold RC
  rw [eS]
  exact ⟨mW_27 e27 h.1.1.1, h.1.1.2.1, h.1.1.2.2.1, h.1.1.2.2.2.1, h.1.1.2.2.2.2.1, f.2.2⟩
theorem MX.ok {M : zM} {S : zS} (h : MX M S) : okS S := by
  have := h.1.1
  rw [← h.1.2]
  exact ⟨this.2.1, this.2.2.1, this.2.2.2.1, this.2.2.2.2.1⟩
theorem MX.n {M : zM} {S : zS} (h : MX M S) : M 27 0 180 = qn S := by rw [← h.1.2]; rfl
theorem MX.fee {M : zM} {S : zS} (h : MX M S) : M 27 0 181 = qfee S := by rw [← h.1.2]; rfl
theorem MX.law {M : zM} {S : zS} (h : MX M S) : M 27 0 182 = qlaw S := by rw [← h.1.2]; rfl
def zwr (x : Int) : Int := (Int32.ofInt x).toInt
theorem zwr_I {x : Int} : zI (zwr x) := zI_of _
theorem zwr_h {x : Int} : (x - zwr x) % 4294967296 = 0 := by
  unfold zwr
  rw [Int32.toInt_ofInt]
  have := Int.bmod_emod (x := x) (m := 4294967296)
  simp only [Int32.size] at *
  omega
section
variable {l : Launch} {M : zM} {S : zS}
theorem zwr_e {x : Int} (h : zI x) : zwr x = x := Int32.toInt_ofInt_of_le (by omega) (by omega)
theorem zwr_l {x : Int} (h : -4294967296 ≤ x ∧ x < -2147483648) : zwr x = x + 4294967296 := by
  have e : Int32.ofInt x = Int32.ofInt (x + 4294967296) := by
    rw [Int32.ofInt_add, show Int32.ofInt 4294967296 = 0 by decide, Int32.add_zero]
  rw [zwr, e]
  exact zwr_e (by omega)
/-! trader -/
noncomputable def aTrader (S : zS) (t w : Int) : Int := if 0 ≤ t ∧ t < qn S then (if w = 0 then qsl S t else if w = 1 then qgr S t else if w = 2 then qun S t else if w = 3 then qpu S t else if w = 4 then cnt (if qsl S t = 1 then qA S (qgr S t) else qB S (qgr S t)) t (dN (qB S (qgr S t)) (qA S (qgr S t)) (qfee S) (qlaw S)) else if w = 5 then qtr S t else if 10 ≤ w ∧ w < 10 + qun S t then qsy S t (w - 10) else -2147483648) else -2147483648
theorem zwr_u {M : zM} {t w : Int} (hw : zI w) (w0 : hW M 0) (ht : 0 ≤ t ∧ t < M 1 0 6) : (hU M 0 t (zwr (w - 10)) ↔ 10 ≤ w ∧ w < 10 + qun (hS M 0) t) ∧ (10 ≤ w → zwr (w - 10) = w - 10) := by
  have e : 10 ≤ w → zwr (w - 10) = w - 10 := fun h => zwr_e (by omega)
  have hu := w0.2.2 t ht
  have eu : qun (hS M 0) t = M 14 0 t := by rw [hS_un, if_pos ht]
  refine ⟨?_, e⟩
  by_cases c : 10 ≤ w
  · unfold hU
    rw [e c, eu]
    omega
  · refine ⟨fun q => ?_, fun q => absurd q.1 c⟩
    exfalso
    unfold hU at q
    by_cases c2 : -2147483648 ≤ w - 10
    · rw [zwr_e (by omega)] at q; omega
    · rw [zwr_l (by omega)] at q; omega
theorem vX8_trader {l : Launch} {P : Int → zM → Prop} {v1 : Int} {v2 : Int} {M : zM}
    (H0 : ((hW M 0 ∧ zI v1) ∧ ((0 ≤ v1 ∧ v1 < M 1 0 6 → (zI v2 ∧ (v2 = 0 → ((hW M 0 ∧ zI v1) ∧ ((¬ (qsl (hS M 0) v1 = 1) → P 0 M) ∧ (qsl (hS M 0) v1 = 1 → P 1 M)))) ∧ (v2 = 1 → ((hW M 0 ∧ 0 ≤ v1 ∧ v1 < M 1 0 6) ∧ P (qgr (hS M 0) v1) M)) ∧ (v2 = 2 → ((hW M 0 ∧ zI v1) ∧ P (qun (hS M 0) v1) M)) ∧ (v2 = 3 → ((hW M 0 ∧ zI v1) ∧ P (qpu (hS M 0) v1) M)) ∧ (v2 = 4 → ((hW M 0 ∧ 0 ≤ v1 ∧ v1 < M 1 0 6) ∧ (CV l m_X8_settleGrade [zr 8 0, zi (qgr (hS M 0) v1)] M (fun M33 => ((hW M33 0 ∧ zI v1) ∧ (CI l m_X0_doneOf [zr 0 0, zi (zb (qsl (hS M33 0) v1 = 1)), zi v1] M33 (fun x41 M38 => P x41 M38))))))) ∧ (v2 = 5 → ((hW M 0 ∧ zI v1) ∧ P (qtr (hS M 0) v1) M)) ∧ ((v2 < 0 ∨ 5 < v2) → ((hW M 0 ∧ zI v1 ∧ zI (zwr (v2 - 10))) ∧ ((¬ (hU M 0 v1 (zwr (v2 - 10))) → P (-2147483648) M) ∧ (hU M 0 v1 (zwr (v2 - 10)) → ((hW M 0 ∧ zI v1 ∧ zI (zwr (v2 - 10))) ∧ P (qsy (hS M 0) v1 (zwr (v2 - 10))) M))))))) ∧ (¬ (0 ≤ v1 ∧ v1 < M 1 0 6) → P (-2147483648) M)))) :
    CI l m_X8_trader [zr 8 0, zi v1, zi v2] M P :=
(aw_aload_n d_X8_trader_0 rfl rfl 0 rfl (by decide)
(aw_getR (k' := 1) (a := 0) (b := 0) (j := 0) d_X8_trader_1 rfl fl8_12 rfl zj0 ⟨by decide, fun _ => by decide⟩
(aw_iload_n d_X8_trader_4 rfl rfl 1 rfl
(have z1 := H0.1; have e2 := H0.2; (aw_VI (As := [zi v1]) (st := []) d_X8_trader_5 rfl cv8_110 ⟨Nat.le_of_ble_eq_true rfl, Nat.le_of_ble_eq_true rfl⟩ rfl rfl (Nat.le_of_ble_eq_true rfl) (Nat.le_of_ble_eq_true rfl) (s_X1_has z1) (fun _ _ hq => aw_eqs hq
(aw_if_ne d_X8_trader_8 rfl rfl zb_I (fun c3 => have e5 := e2.1 (zb_n0 c3); (aw_iload_n d_X8_trader_14 rfl rfl 2 rfl
(have z7 := e5.1; have e8 := e5.2; aw_table (offs := [37, 54, 63, 72, 81, 110]) d_X8_trader_15 rfl z7 rfl ⟨fun c9 => ⟨52, rfl, have e10 := e8.1 c9; (aw_aload_n d_X8_trader_52 rfl rfl 0 rfl (by decide)
(aw_getR (k' := 1) (a := 0) (b := 0) (j := 0) d_X8_trader_53 rfl fl8_12 rfl zj0 ⟨by decide, fun _ => by decide⟩
(aw_iload_n d_X8_trader_56 rfl rfl 1 rfl
(have z11 := e10.1; have e12 := e10.2; (aw_VI (As := [zi v1]) (st := []) d_X8_trader_57 rfl cv8_160 ⟨Nat.le_of_ble_eq_true rfl, Nat.le_of_ble_eq_true rfl⟩ rfl rfl (Nat.le_of_ble_eq_true rfl) (Nat.le_of_ble_eq_true rfl) (s_X1_isSeller z11) (fun _ _ hq => aw_eqs hq
(aw_if_eq d_X8_trader_60 rfl rfl zb_I (fun c13 => have e15 := e12.1 (zb_0 c13); (aw_iconst d_X8_trader_67 rfl
(aw_ri d_X8_trader_68 rfl e15))) (fun c14 => have e16 := e12.2 (zb_n0 c14); (aw_iconst d_X8_trader_63 rfl
(aw_goto d_X8_trader_64 rfl
(aw_ri d_X8_trader_68 rfl e16)))))))))))⟩, ⟨fun c17 => ⟨69, rfl, have e18 := e8.2.1 c17; (aw_aload_n d_X8_trader_69 rfl rfl 0 rfl (by decide)
(aw_getR (k' := 1) (a := 0) (b := 0) (j := 0) d_X8_trader_70 rfl fl8_12 rfl zj0 ⟨by decide, fun _ => by decide⟩
(aw_iload_n d_X8_trader_73 rfl rfl 1 rfl
(have z19 := e18.1; have e20 := e18.2; (aw_VI (As := [zi v1]) (st := []) d_X8_trader_74 rfl cv8_196 ⟨Nat.le_of_ble_eq_true rfl, Nat.le_of_ble_eq_true rfl⟩ rfl rfl (Nat.le_of_ble_eq_true rfl) (Nat.le_of_ble_eq_true rfl) (s_X1_gradeOf z19) (fun _ _ hq => aw_eqs hq
(aw_ri d_X8_trader_77 rfl e20)))))))⟩, ⟨fun c21 => ⟨78, rfl, have e22 := e8.2.2.1 c21; (aw_aload_n d_X8_trader_78 rfl rfl 0 rfl (by decide)
(aw_getR (k' := 1) (a := 0) (b := 0) (j := 0) d_X8_trader_79 rfl fl8_12 rfl zj0 ⟨by decide, fun _ => by decide⟩
(aw_iload_n d_X8_trader_82 rfl rfl 1 rfl
(have z23 := e22.1; have e24 := e22.2; (aw_VI (As := [zi v1]) (st := []) d_X8_trader_83 rfl cv8_116 ⟨Nat.le_of_ble_eq_true rfl, Nat.le_of_ble_eq_true rfl⟩ rfl rfl (Nat.le_of_ble_eq_true rfl) (Nat.le_of_ble_eq_true rfl) (s_X1_unitsOf z23) (fun _ _ hq => aw_eqs hq
(aw_ri d_X8_trader_86 rfl e24)))))))⟩, ⟨fun c25 => ⟨87, rfl, have e26 := e8.2.2.2.1 c25; (aw_aload_n d_X8_trader_87 rfl rfl 0 rfl (by decide)
(aw_getR (k' := 1) (a := 0) (b := 0) (j := 0) d_X8_trader_88 rfl fl8_12 rfl zj0 ⟨by decide, fun _ => by decide⟩
(aw_iload_n d_X8_trader_91 rfl rfl 1 rfl
(have z27 := e26.1; have e28 := e26.2; (aw_VI (As := [zi v1]) (st := []) d_X8_trader_92 rfl cv8_199 ⟨Nat.le_of_ble_eq_true rfl, Nat.le_of_ble_eq_true rfl⟩ rfl rfl (Nat.le_of_ble_eq_true rfl) (Nat.le_of_ble_eq_true rfl) (s_X1_purseOf z27) (fun _ _ hq => aw_eqs hq
(aw_ri d_X8_trader_95 rfl e28)))))))⟩, ⟨fun c29 => ⟨96, rfl, have e30 := e8.2.2.2.2.1 c29; (aw_aload_n d_X8_trader_96 rfl rfl 0 rfl (by decide)
(aw_aload_n d_X8_trader_97 rfl rfl 0 rfl (by decide)
(aw_getR (k' := 1) (a := 0) (b := 0) (j := 0) d_X8_trader_98 rfl fl8_12 rfl zj0 ⟨by decide, fun _ => by decide⟩
(aw_iload_n d_X8_trader_101 rfl rfl 1 rfl
(have z31 := e30.1; have e32 := e30.2; (aw_VI (As := [zi v1]) (st := [zr 8 0]) d_X8_trader_102 rfl cv8_196 ⟨Nat.le_of_ble_eq_true rfl, Nat.le_of_ble_eq_true rfl⟩ rfl rfl (Nat.le_of_ble_eq_true rfl) (Nat.le_of_ble_eq_true rfl) (s_X1_gradeOf z31) (fun _ _ hq => aw_eqs hq
(aw_VV (As := [zi (qgr (hS M 0) v1)]) (st := []) d_X8_trader_105 rfl cv8_154 ⟨Nat.le_of_ble_eq_true rfl, Nat.le_of_ble_eq_true rfl⟩ rfl rfl (Nat.le_of_ble_eq_true rfl) (Nat.le_of_ble_eq_true rfl) e32 (fun M33 e34 => (aw_aload_n d_X8_trader_108 rfl rfl 0 rfl (by decide)
(aw_getR (k' := 0) (a := 0) (b := 0) (j := 0) d_X8_trader_109 rfl fl8_47 rfl zj0 ⟨by decide, fun _ => by decide⟩
(aw_aload_n d_X8_trader_112 rfl rfl 0 rfl (by decide)
(aw_getR (k' := 1) (a := 0) (b := 0) (j := 0) d_X8_trader_113 rfl fl8_12 rfl zj0 ⟨by decide, fun _ => by decide⟩
(aw_iload_n d_X8_trader_116 rfl rfl 1 rfl
(have z36 := e34.1; have e37 := e34.2; (aw_VI (As := [zi v1]) (st := [zr 0 0]) d_X8_trader_117 rfl cv8_160 ⟨Nat.le_of_ble_eq_true rfl, Nat.le_of_ble_eq_true rfl⟩ rfl rfl (Nat.le_of_ble_eq_true rfl) (Nat.le_of_ble_eq_true rfl) (s_X1_isSeller z36) (fun _ _ hq => aw_eqs hq
(aw_iload_n d_X8_trader_120 rfl rfl 1 rfl
(aw_VI (As := [zi (zb (qsl (hS M33 0) v1 = 1)), zi v1]) (st := []) d_X8_trader_121 rfl cv8_163 ⟨Nat.le_of_ble_eq_true rfl, Nat.le_of_ble_eq_true rfl⟩ rfl rfl (Nat.le_of_ble_eq_true rfl) (Nat.le_of_ble_eq_true rfl) e37 (fun x41 M38 e39 => (aw_ri d_X8_trader_124 rfl e39)))))))))))))))))))))⟩, ⟨fun c42 => ⟨125, rfl, have e43 := e8.2.2.2.2.2.1 c42; (aw_aload_n d_X8_trader_125 rfl rfl 0 rfl (by decide)
(aw_getR (k' := 1) (a := 0) (b := 0) (j := 0) d_X8_trader_126 rfl fl8_12 rfl zj0 ⟨by decide, fun _ => by decide⟩
(aw_iload_n d_X8_trader_129 rfl rfl 1 rfl
(have z44 := e43.1; have e45 := e43.2; (aw_VI (As := [zi v1]) (st := []) d_X8_trader_130 rfl cv8_202 ⟨Nat.le_of_ble_eq_true rfl, Nat.le_of_ble_eq_true rfl⟩ rfl rfl (Nat.le_of_ble_eq_true rfl) (Nat.le_of_ble_eq_true rfl) (s_X1_tradedOf z44) (fun _ _ hq => aw_eqs hq
(aw_ri d_X8_trader_133 rfl e45)))))))⟩, trivial⟩⟩⟩⟩⟩⟩ (fun c46 => have e47 := e8.2.2.2.2.2.2 c46; (aw_aload_n d_X8_trader_134 rfl rfl 0 rfl (by decide)
(aw_getR (k' := 1) (a := 0) (b := 0) (j := 0) d_X8_trader_135 rfl fl8_12 rfl zj0 ⟨by decide, fun _ => by decide⟩
(aw_iload_n d_X8_trader_138 rfl rfl 1 rfl
(aw_iload_n d_X8_trader_139 rfl rfl 2 rfl
(aw_bipush d_X8_trader_140 rfl (by decide)
(aw_isub d_X8_trader_142 rfl
(aw_wrap zwr_h
(have z48 := e47.1; have e49 := e47.2; (aw_VI (As := [zi v1, zi (zwr (v2 - 10))]) (st := []) d_X8_trader_143 rfl cv8_127 ⟨Nat.le_of_ble_eq_true rfl, Nat.le_of_ble_eq_true rfl⟩ rfl rfl (Nat.le_of_ble_eq_true rfl) (Nat.le_of_ble_eq_true rfl) (s_X1_hasUnit z48) (fun _ _ hq => aw_eqs hq
(aw_if_eq d_X8_trader_146 rfl rfl zb_I (fun c50 => have e52 := e49.1 (zb_0 c50); (aw_ldc d_X8_trader_164 rfl ci8_195
(aw_ri d_X8_trader_166 rfl e52))) (fun c51 => have e53 := e49.2 (zb_n0 c51); (aw_aload_n d_X8_trader_149 rfl rfl 0 rfl (by decide)
(aw_getR (k' := 1) (a := 0) (b := 0) (j := 0) d_X8_trader_150 rfl fl8_12 rfl zj0 ⟨by decide, fun _ => by decide⟩
(aw_iload_n d_X8_trader_153 rfl rfl 1 rfl
(aw_iload_n d_X8_trader_154 rfl rfl 2 rfl
(aw_bipush d_X8_trader_155 rfl (by decide)
(aw_isub d_X8_trader_157 rfl
(aw_wrap zwr_h
(have z54 := e53.1; have e55 := e53.2; (aw_VI (As := [zi v1, zi (zwr (v2 - 10))]) (st := []) d_X8_trader_158 rfl cv8_131 ⟨Nat.le_of_ble_eq_true rfl, Nat.le_of_ble_eq_true rfl⟩ rfl rfl (Nat.le_of_ble_eq_true rfl) (Nat.le_of_ble_eq_true rfl) (s_X1_said z54) (fun _ _ hq => aw_eqs hq
(aw_goto d_X8_trader_161 rfl
(aw_ri d_X8_trader_166 rfl e55)))))))))))))))))))))))))))) (fun c4 => have e6 := e2.2 (zb_0 c4); (aw_ldc d_X8_trader_11 rfl ci8_195
(aw_ri d_X8_trader_13 rfl e6))))))))))
theorem q8_trader {t w : Int} (c : CX M S) (zt : zI t) (zw : zI w) : CI l m_X8_trader [zr 8 0, zi t, zi w] M (fun x M' => x = aTrader S t w ∧ Fr kScr M M') := by
  have w0 := c.1.1
  have hu := fun ht => zwr_u (M := M) (t := t) zw w0 ht
  have en := c.n
  rw [c.1.2, en] at hu
  have sl01 : ∀ t, 0 ≤ t ∧ t < qn S → qsl S t = 0 ∨ qsl S t = 1 := fun t ht => by
    rw [← c.1.2, hS_sl, if_pos (by rw [en]; exact ht)]
    exact w0.2.1 t (by have := c.2.1.1; omega)
  refine vX8_trader ?_
  rw [en, c.1.2]
  refine ⟨⟨w0, zt⟩, fun ht => ⟨zw, fun e => ⟨⟨w0, zt⟩, fun a => ⟨?_, Fr.rf⟩, fun a => ⟨?_, Fr.rf⟩⟩, fun e => ⟨⟨w0, ht⟩, ?_, Fr.rf⟩, fun e => ⟨⟨w0, zt⟩, ?_, Fr.rf⟩, fun e => ⟨⟨w0, zt⟩, ?_, Fr.rf⟩, fun e => ⟨⟨w0, ht⟩, ?_⟩, fun e => ⟨⟨w0, zt⟩, ?_, Fr.rf⟩, fun e => ⟨⟨w0, zt, zwr_I⟩, fun a => ⟨?_, Fr.rf⟩, fun a => ⟨⟨w0, zt, zwr_I⟩, ?_, Fr.rf⟩⟩⟩, fun ht => ⟨?_, Fr.rf⟩⟩
  · have := sl01 t ht; subst e; rw [aTrader, if_pos ht, if_pos rfl]; omega
  · subst e; rw [aTrader, if_pos ht, if_pos rfl]; omega
  · subst e; rw [aTrader, if_pos ht, if_neg (by decide), if_pos rfl]
  · subst e; rw [aTrader, if_pos ht, if_neg (by decide), if_neg (by decide), if_pos rfl]
  · subst e; rw [aTrader, if_pos ht, if_neg (by decide), if_neg (by decide), if_neg (by decide), if_pos rfl]
  · refine (c_settleGrade c (c.2.2.1 t ht)).mono ?_
    rintro M1 ⟨f1, s1⟩
    have c1 := c.bk f1
    rw [c1.1.2]
    refine ⟨⟨c1.1.1, zt⟩, (c_X0_doneOf (gd_m c.2.1) c.2.2.2.1 s1 zb_01 zt).eq ⟨?_, f1.scr⟩⟩
    subst e
    rw [aTrader, if_pos ht]
    show _ = cnt (if qsl S t = 1 then qA S (qgr S t) else qB S (qgr S t)) t (dN (qB S (qgr S t)) (qA S (qgr S t)) (qfee S) (qlaw S))
    by_cases q : qsl S t = 1
    · rw [zb_1 q, if_pos q]; rfl
    · rw [zb_f q, if_neg q]; rfl
  · subst e; rw [aTrader, if_pos ht, if_neg (by decide), if_neg (by decide), if_neg (by decide), if_neg (by decide), if_neg (by decide), if_pos rfl]
  · rw [(hu ht).1] at a
    rw [aTrader, if_pos ht, if_neg (by omega), if_neg (by omega), if_neg (by omega), if_neg (by omega), if_neg (by omega), if_neg (by omega), if_neg a]
  · rw [(hu ht).1] at a
    rw [aTrader, if_pos ht, if_neg (by omega), if_neg (by omega), if_neg (by omega), if_neg (by omega), if_neg (by omega), if_neg (by omega), if_pos a, (hu ht).2 a.1]
  · rw [aTrader, if_neg ht]
end

