/-! ===== questions, both sides: audit; what count asks ===== -/
section
variable {l : Launch} {M : zM} {S : zS}
noncomputable def aAudit (S : zS) (k : Int) : Int := if k = 0 then qsc S 3 else if k = 1 then zsum (qpu S) (qn S) else if k = 2 then qsc S 4 else if k = 3 then (if 0 < qn S then zbest (qpu S) (qn S - 1).toNat else -2) else if k = 4 then qsc S 6 else if k = 5 then qsc S 5 else -2147483648
theorem vX8_audit {l : Launch} {P : Int → zM → Prop} {v1 : Int} {M : zM}
    (H0 : (zI v1 ∧ (v1 = 0 → P (M 1 0 9) M) ∧ (v1 = 1 → (hW M 0 ∧ P (zsum (qpu (hS M 0)) (qn (hS M 0))) M)) ∧ (v1 = 2 → P (M 1 0 10) M) ∧ (v1 = 3 → (zI (M 1 0 6) ∧ ((M 1 0 6) ≤ 0 → P (-2) M) ∧ (0 < (M 1 0 6) → ((hW M 0 ∧ 0 < M 1 0 6 ∧ ∀ t, zI (qpu (hS M 0) t)) ∧ P (zbest (qpu (hS M 0)) (qn (hS M 0) - 1).toNat) M)))) ∧ (v1 = 4 → P (M 1 0 12) M) ∧ (v1 = 5 → P (M 1 0 11) M) ∧ ((v1 < 0 ∨ 5 < v1) → P (-2147483648) M))) :
    CI l m_X8_audit [zr 8 0, zi v1] M P :=
(aw_iload_n d_X8_audit_0 rfl rfl 1 rfl
(have z1 := H0.1; have e2 := H0.2; aw_table (offs := [39, 47, 55, 63, 86, 94]) d_X8_audit_1 rfl z1 rfl ⟨fun c3 => ⟨40, rfl, have e4 := e2.1 c3; (aw_aload_n d_X8_audit_40 rfl rfl 0 rfl (by decide)
(aw_getR (k' := 1) (a := 0) (b := 0) (j := 0) d_X8_audit_41 rfl fl8_12 rfl zj0 ⟨by decide, fun _ => by decide⟩
(aw_getI (kc := 9) d_X8_audit_44 rfl fl8_317 rfl rfl
(aw_ri d_X8_audit_47 rfl e4))))⟩, ⟨fun c5 => ⟨48, rfl, have e6 := e2.2.1 c5; (aw_aload_n d_X8_audit_48 rfl rfl 0 rfl (by decide)
(aw_getR (k' := 1) (a := 0) (b := 0) (j := 0) d_X8_audit_49 rfl fl8_12 rfl zj0 ⟨by decide, fun _ => by decide⟩
(have z7 := e6.1; have e8 := e6.2; (aw_VI (As := []) (st := []) d_X8_audit_52 rfl cv8_320 ⟨Nat.le_of_ble_eq_true rfl, Nat.le_of_ble_eq_true rfl⟩ rfl rfl (Nat.le_of_ble_eq_true rfl) (Nat.le_of_ble_eq_true rfl) (s_X1_allPurses z7) (fun _ _ hq => aw_eqs hq
(aw_ri d_X8_audit_55 rfl e8))))))⟩, ⟨fun c9 => ⟨56, rfl, have e10 := e2.2.2.1 c9; (aw_aload_n d_X8_audit_56 rfl rfl 0 rfl (by decide)
(aw_getR (k' := 1) (a := 0) (b := 0) (j := 0) d_X8_audit_57 rfl fl8_12 rfl zj0 ⟨by decide, fun _ => by decide⟩
(aw_getI (kc := 10) d_X8_audit_60 rfl fl8_323 rfl rfl
(aw_ri d_X8_audit_63 rfl e10))))⟩, ⟨fun c11 => ⟨64, rfl, have e12 := e2.2.2.2.1 c11; (aw_aload_n d_X8_audit_64 rfl rfl 0 rfl (by decide)
(aw_getR (k' := 1) (a := 0) (b := 0) (j := 0) d_X8_audit_65 rfl fl8_12 rfl zj0 ⟨by decide, fun _ => by decide⟩
(aw_getI (kc := 6) d_X8_audit_68 rfl fl8_98 rfl rfl
(have z13 := e12.1; have e14 := e12.2; aw_if_le d_X8_audit_71 rfl rfl z13 (fun c15 => have e17 := e14.1 c15; (aw_bipush d_X8_audit_84 rfl (by decide)
(aw_ri d_X8_audit_86 rfl e17))) (fun c16 => have e18 := e14.2 c16; (aw_aload_n d_X8_audit_74 rfl rfl 0 rfl (by decide)
(aw_getR (k' := 1) (a := 0) (b := 0) (j := 0) d_X8_audit_75 rfl fl8_12 rfl zj0 ⟨by decide, fun _ => by decide⟩
(have z19 := e18.1; have e20 := e18.2; (aw_VI (As := []) (st := []) d_X8_audit_78 rfl cv8_326 ⟨Nat.le_of_ble_eq_true rfl, Nat.le_of_ble_eq_true rfl⟩ rfl rfl (Nat.le_of_ble_eq_true rfl) (Nat.le_of_ble_eq_true rfl) (s_X1_richest z19) (fun _ _ hq => aw_eqs hq
(aw_goto d_X8_audit_81 rfl
(aw_ri d_X8_audit_86 rfl e20))))))))))))⟩, ⟨fun c21 => ⟨87, rfl, have e22 := e2.2.2.2.2.1 c21; (aw_aload_n d_X8_audit_87 rfl rfl 0 rfl (by decide)
(aw_getR (k' := 1) (a := 0) (b := 0) (j := 0) d_X8_audit_88 rfl fl8_12 rfl zj0 ⟨by decide, fun _ => by decide⟩
(aw_getI (kc := 12) d_X8_audit_91 rfl fl8_329 rfl rfl
(aw_ri d_X8_audit_94 rfl e22))))⟩, ⟨fun c23 => ⟨95, rfl, have e24 := e2.2.2.2.2.2.1 c23; (aw_aload_n d_X8_audit_95 rfl rfl 0 rfl (by decide)
(aw_getR (k' := 1) (a := 0) (b := 0) (j := 0) d_X8_audit_96 rfl fl8_12 rfl zj0 ⟨by decide, fun _ => by decide⟩
(aw_getI (kc := 11) d_X8_audit_99 rfl fl8_332 rfl rfl
(aw_ri d_X8_audit_102 rfl e24))))⟩, trivial⟩⟩⟩⟩⟩⟩ (fun c25 => have e26 := e2.2.2.2.2.2.2 c25; (aw_ldc d_X8_audit_103 rfl ci8_195
(aw_ri d_X8_audit_105 rfl e26)))))
theorem q8_audit {k : Int} (c : CX M S) (hz : ∀ t, zI (qpu S t)) (zk : zI k) : CI l m_X8_audit [zr 8 0, zi k] M (fun x M' => x = aAudit S k ∧ Fr kScr M M') := by
  have w0 := c.1.1
  have hn := c.2.1.1
  have e3 : M 1 0 9 = qsc S 3 := by rw [← c.1.2, hS_k M 0 (k := 3) (j := 9) (by omega) (by omega)]
  have e4 : M 1 0 10 = qsc S 4 := by rw [← c.1.2, hS_k M 0 (k := 4) (j := 10) (by omega) (by omega)]
  have e5 : M 1 0 11 = qsc S 5 := by rw [← c.1.2, hS_k M 0 (k := 5) (j := 11) (by omega) (by omega)]
  have e6 : M 1 0 12 = qsc S 6 := by rw [← c.1.2, hS_k M 0 (k := 6) (j := 12) (by omega) (by omega)]
  refine vX8_audit ?_
  rw [c.n, c.1.2, e3, e4, e5, e6]
  refine ⟨zk, fun e => ⟨?_, Fr.rf⟩, fun e => ⟨w0, ?_, Fr.rf⟩, fun e => ⟨?_, Fr.rf⟩, fun e => ⟨by omega, fun q => ⟨?_, Fr.rf⟩, fun q => ⟨⟨w0, q, hz⟩, ?_, Fr.rf⟩⟩, fun e => ⟨?_, Fr.rf⟩, fun e => ⟨?_, Fr.rf⟩, fun e => ⟨?_, Fr.rf⟩⟩
  · subst e; rfl
  · subst e; rfl
  · subst e; rfl
  · subst e; exact (if_neg (by omega)).symm
  · subst e; exact (if_pos q).symm
  · subst e; rfl
  · subst e; rfl
  · rw [aAudit, if_neg (by omega), if_neg (by omega), if_neg (by omega), if_neg (by omega), if_neg (by omega), if_neg (by omega)]
noncomputable def aCount (S : zS) (a4 a5 a6 k : Int) : Int := if k = 0 then qn S else if k = 1 then zsum (qun S) (qn S) else if k = 2 then qfee S else if k = 3 then qlaw S else if k = 4 then a4 else if k = 5 then a5 else if k = 6 then a6 else if k = 7 then gTr S 4 else if k = 8 then wAll S else -1
theorem aCount_n {a4 a5 a6 k : Int} (h : k < 0 ∨ 8 < k) : aCount S a4 a5 a6 k = -1 := by
  rw [aCount, if_neg (by omega), if_neg (by omega), if_neg (by omega), if_neg (by omega), if_neg (by omega), if_neg (by omega), if_neg (by omega), if_neg (by omega), if_neg (by omega)]
theorem vX8_count {l : Launch} {P : Int → zM → Prop} {v1 : Int} {M : zM}
    (H0 : (zI v1 ∧ (v1 = 0 → P (M 1 0 6) M) ∧ (v1 = 1 → (hW M 0 ∧ P (zsum (qun (hS M 0)) (qn (hS M 0))) M)) ∧ (v1 = 2 → P (M 1 0 7) M) ∧ (v1 = 3 → P (M 1 0 8) M) ∧ (v1 = 4 → P (M 2 0 2) M) ∧ (v1 = 5 → P (M 7 0 2) M) ∧ (v1 = 6 → P (M 6 0 1) M) ∧ (v1 = 7 → (CI l m_X8_gradesWithTrades [zr 8 0] M (fun x24 M21 => P x24 M21))) ∧ (v1 = 8 → (CI l m_X8_worthOfAll [zr 8 0] M (fun x30 M27 => P x30 M27))) ∧ ((v1 < 0 ∨ 8 < v1) → P (-1) M))) :
    CI l m_X8_count [zr 8 0, zi v1] M P :=
(aw_iload_n d_X8_count_0 rfl rfl 1 rfl
(have z1 := H0.1; have e2 := H0.2; aw_table (offs := [51, 59, 67, 75, 83, 91, 99, 107, 112]) d_X8_count_1 rfl z1 rfl ⟨fun c3 => ⟨52, rfl, have e4 := e2.1 c3; (aw_aload_n d_X8_count_52 rfl rfl 0 rfl (by decide)
(aw_getR (k' := 1) (a := 0) (b := 0) (j := 0) d_X8_count_53 rfl fl8_12 rfl zj0 ⟨by decide, fun _ => by decide⟩
(aw_getI (kc := 6) d_X8_count_56 rfl fl8_98 rfl rfl
(aw_ri d_X8_count_59 rfl e4))))⟩, ⟨fun c5 => ⟨60, rfl, have e6 := e2.2.1 c5; (aw_aload_n d_X8_count_60 rfl rfl 0 rfl (by decide)
(aw_getR (k' := 1) (a := 0) (b := 0) (j := 0) d_X8_count_61 rfl fl8_12 rfl zj0 ⟨by decide, fun _ => by decide⟩
(have z7 := e6.1; have e8 := e6.2; (aw_VI (As := []) (st := []) d_X8_count_64 rfl cv8_393 ⟨Nat.le_of_ble_eq_true rfl, Nat.le_of_ble_eq_true rfl⟩ rfl rfl (Nat.le_of_ble_eq_true rfl) (Nat.le_of_ble_eq_true rfl) (s_X1_allUnits z7) (fun _ _ hq => aw_eqs hq
(aw_ri d_X8_count_67 rfl e8))))))⟩, ⟨fun c9 => ⟨68, rfl, have e10 := e2.2.2.1 c9; (aw_aload_n d_X8_count_68 rfl rfl 0 rfl (by decide)
(aw_getR (k' := 1) (a := 0) (b := 0) (j := 0) d_X8_count_69 rfl fl8_12 rfl zj0 ⟨by decide, fun _ => by decide⟩
(aw_getI (kc := 7) d_X8_count_72 rfl fl8_145 rfl rfl
(aw_ri d_X8_count_75 rfl e10))))⟩, ⟨fun c11 => ⟨76, rfl, have e12 := e2.2.2.2.1 c11; (aw_aload_n d_X8_count_76 rfl rfl 0 rfl (by decide)
(aw_getR (k' := 1) (a := 0) (b := 0) (j := 0) d_X8_count_77 rfl fl8_12 rfl zj0 ⟨by decide, fun _ => by decide⟩
(aw_getI (kc := 8) d_X8_count_80 rfl fl8_151 rfl rfl
(aw_ri d_X8_count_83 rfl e12))))⟩, ⟨fun c13 => ⟨84, rfl, have e14 := e2.2.2.2.2.1 c13; (aw_aload_n d_X8_count_84 rfl rfl 0 rfl (by decide)
(aw_getR (k' := 2) (a := 0) (b := 0) (j := 0) d_X8_count_85 rfl fl8_26 rfl zj0 ⟨by decide, fun _ => by decide⟩
(aw_getI (kc := 2) d_X8_count_88 rfl fl8_396 rfl rfl
(aw_ri d_X8_count_91 rfl e14))))⟩, ⟨fun c15 => ⟨92, rfl, have e16 := e2.2.2.2.2.2.1 c15; (aw_aload_n d_X8_count_92 rfl rfl 0 rfl (by decide)
(aw_getR (k' := 7) (a := 0) (b := 0) (j := 0) d_X8_count_93 rfl fl8_19 rfl zj0 ⟨by decide, fun _ => by decide⟩
(aw_getI (kc := 2) d_X8_count_96 rfl fl8_76 rfl rfl
(aw_ri d_X8_count_99 rfl e16))))⟩, ⟨fun c17 => ⟨100, rfl, have e18 := e2.2.2.2.2.2.2.1 c17; (aw_aload_n d_X8_count_100 rfl rfl 0 rfl (by decide)
(aw_getR (k' := 6) (a := 0) (b := 0) (j := 0) d_X8_count_101 rfl fl8_33 rfl zj0 ⟨by decide, fun _ => by decide⟩
(aw_getI (kc := 1) d_X8_count_104 rfl fl8_397 rfl rfl
(aw_ri d_X8_count_107 rfl e18))))⟩, ⟨fun c19 => ⟨108, rfl, have e20 := e2.2.2.2.2.2.2.2.1 c19; (aw_aload_n d_X8_count_108 rfl rfl 0 rfl (by decide)
(aw_VI (As := []) (st := []) d_X8_count_109 rfl cv8_400 ⟨Nat.le_of_ble_eq_true rfl, Nat.le_of_ble_eq_true rfl⟩ rfl rfl (Nat.le_of_ble_eq_true rfl) (Nat.le_of_ble_eq_true rfl) e20 (fun x24 M21 e22 => (aw_ri d_X8_count_112 rfl e22))))⟩, ⟨fun c25 => ⟨113, rfl, have e26 := e2.2.2.2.2.2.2.2.2.1 c25; (aw_aload_n d_X8_count_113 rfl rfl 0 rfl (by decide)
(aw_VI (As := []) (st := []) d_X8_count_114 rfl cv8_308 ⟨Nat.le_of_ble_eq_true rfl, Nat.le_of_ble_eq_true rfl⟩ rfl rfl (Nat.le_of_ble_eq_true rfl) (Nat.le_of_ble_eq_true rfl) e26 (fun x30 M27 e28 => (aw_ri d_X8_count_117 rfl e28))))⟩, trivial⟩⟩⟩⟩⟩⟩⟩⟩⟩ (fun c31 => have e32 := e2.2.2.2.2.2.2.2.2.2 c31; (aw_iconst d_X8_count_118 rfl
(aw_ri d_X8_count_119 rfl e32)))))
theorem q8_count {a4 a5 a6 k : Int} (c : CX M S) (h4 : M 2 0 2 = a4) (h5 : M 7 0 2 = a5) (h6 : M 6 0 1 = a6) (zk : zI k) : CI l m_X8_count [zr 8 0, zi k] M (fun x M' => x = aCount S a4 a5 a6 k ∧ Fr kScr M M') := by
  refine vX8_count ?_
  rw [c.n, c.1.2, c.fee, c.law, h4, h5, h6]
  refine ⟨zk, fun e => ⟨by subst e; rfl, Fr.rf⟩, fun e => ⟨c.1.1, by subst e; rfl, Fr.rf⟩, fun e => ⟨by subst e; rfl, Fr.rf⟩, fun e => ⟨by subst e; rfl, Fr.rf⟩, fun e => ⟨by subst e; rfl, Fr.rf⟩, fun e => ⟨by subst e; rfl, Fr.rf⟩, fun e => ⟨by subst e; rfl, Fr.rf⟩, fun e => ?_, fun e => ?_, fun e => ⟨(aCount_n e).symm, Fr.rf⟩⟩
  · refine (c_gradesWithTrades c).mono ?_
    rintro x M' ⟨rfl, f⟩
    exact ⟨by subst e; rfl, f.scr⟩
  · refine (c_worthOfAll c).mono ?_
    rintro x M' ⟨rfl, f⟩
    exact ⟨by subst e; rfl, f.scr⟩
end

