/-! ===== questions, both sides: audit; what count asks ===== -/
section
variable {l : Launch} {M : zM} {S : zS}
noncomputable def aAudit (S : zS) (k : Int) : Int := if k = 0 then qsc S 3 else if k = 1 then zsum (qpu S) (qn S) else if k = 2 then qsc S 4 else if k = 3 then (if 0 < qn S then zbest (qpu S) (qn S - 1).toNat else -2) else if k = 4 then qsc S 6 else if k = 5 then qsc S 5 else -2147483648
theorem vX8_audit {l : Launch} {P : Int → zM → Prop} {v1 : Int} {M : zM}
    (H0 : (zI v1 ∧ (v1 = 0 → P (M 1 0 9) M) ∧ (v1 = 1 → (hW M 0 ∧ P (zsum (qpu (hS M 0)) (qn (hS M 0))) M)) ∧ (v1 = 2 → P (M 1 0 10) M) ∧ (v1 = 3 → (zI (M 1 0 6) ∧ ((M 1 0 6) ≤ 0 → P (-2) M) ∧ (0 < (M 1 0 6) → ((hW M 0 ∧ 0 < M 1 0 6 ∧ ∀ t, zI (qpu (hS M 0) t)) ∧ P (zbest (qpu (hS M 0)) (qn (hS M 0) - 1).toNat) M)))) ∧ (v1 = 4 → P (M 1 0 12) M) ∧ (v1 = 5 → P (M 1 0 11) M) ∧ ((v1 < 0 ∨ 5 < v1) → P (-2147483648) M))) :
    CI l m_X8_audit [zr 8 0, zi v1] M P :=
(aw_iload_n d_X8_audit_0 rfl rfl 1 rfl
(have z1 := H0.1; have e2 := H0.2; aw_table (offs := [39, 47, 55, 63, 86, 94]) d_X8_audit_1 rfl z1 rfl ⟨fun c3 => ⟨40, rfl, have e4 := e2.1 c3; (aw_aload_n d_X8_audit_40 rfl rfl 0 rfl (by decide)
(aw_getR (k' := 1) (a := 0) (b := 0) (j := 0) d_X8_audit_41 rfl fl8_12 rfl zj0 ⟨by decide, fun _ => by decide⟩
(aw_getI (kc := 9) d_X8_audit_44 rfl fl8_317 rfl rfl
(aw_ri d_X8_audit_47 rfl e4))))⟩, ⟨fun c5 => ⟨48, rfl, have e6 := e2.2.1 c5; (aw_aload_n d_X8_audit_48 rfl rfl 0 rfl (by decide)
(aw_getR (k' := 1) (a := 0) (b := 0) (j := 0) d_X8_audit_49 rfl fl8_12 rfl zj0 ⟨by decide, fun _ => by decide⟩
(have z7 := e6.1; have e8 := e6.2; (aw_VI (As := []) (st := []) d_X8_audit_52 rfl cv8_320 ⟨Nat.le_of_ble_eq_true rfl, Nat.le_of_ble_eq_true rfl⟩ rfl rfl (Nat.le_of_ble_eq_true rfl) (Nat.le_of_ble_eq_true rfl) (s_X1_allPurses z7) (fun _ _ hq => aw_eqs hq
(aw_ri d_X8_audit_55 rfl e8))))))⟩, ⟨fun c9 => ⟨56, rfl, have e10 := e2.2.2.1 c9; (aw_aload_n d_X8_audit_56 rfl rfl 0 rfl (by decide)
(aw_getR (k' := 1) (a := 0) (b := 0) (j := 0) d_X8_audit_57 rfl fl8_12 rfl zj0 ⟨by decide, fun _ => by decide⟩
(aw_getI (kc := 10) d_X8_audit_60 rfl fl8_323 rfl rfl
(aw_ri d_X8_audit_63 rfl e10))))⟩, ⟨fun c11 => ⟨64, rfl, have e12 := e2.2.2.2.1 c11; (aw_aload_n d_X8_audit_64 rfl rfl 0 rfl (by decide)
(aw_getR (k' := 1) (a := 0) (b := 0) (j := 0) d_X8_audit_65 rfl fl8_12 rfl zj0 ⟨by decide, fun _ => by decide⟩
(aw_getI (kc := 6) d_X8_audit_68 rfl fl8_98 rfl rfl
(have z13 := e12.1; have e14 := e12.2; aw_if_le d_X8_audit_71 rfl rfl z13 (fun c15 => have e17 := e14.1 c15; (aw_bipush d_X8_audit_84 rfl (by decide)
(aw_ri d_X8_audit_86 rfl e17))) (fun c16 => have e18 := e14.2 c16; (aw_aload_n d_X8_audit_74 rfl rfl 0 rfl (by decide)
(aw_getR (k' := 1) (a := 0) (b := 0) (j := 0) d_X8_audit_75 rfl fl8_12 rfl zj0 ⟨by decide, fun _ => by decide⟩
(have z19 := e18.1; have e20 := e18.2; (aw_VI (As := []) (st := []) d_X8_audit_78 rfl cv8_326 ⟨Nat.le_of_ble_eq_true rfl, Nat.le_of_ble_eq_true rfl⟩ rfl rfl (Nat.le_of_ble_eq_true rfl) (Nat.le_of_ble_eq_true rfl) (s_X1_richest z19) (fun _ _ hq => aw_eqs hq
(aw_goto d_X8_audit_81 rfl
(aw_ri d_X8_audit_86 rfl e20))))))))))))⟩, ⟨fun c21 => ⟨87, rfl, have e22 := e2.2.2.2.2.1 c21; (aw_aload_n d_X8_audit_87 rfl rfl 0 rfl (by decide)
(aw_getR (k' := 1) (a := 0) (b := 0) (j := 0) d_X8_audit_88 rfl fl8_12 rfl zj0 ⟨by decide, fun _ => by decide⟩
(aw_getI (kc := 12) d_X8_audit_91 rfl fl8_329 rfl rfl
(aw_ri d_X8_audit_94 rfl e22))))⟩, ⟨fun c23 => ⟨95, rfl, have e24 := e2.2.2.2.2.2.1 c23; (aw_aload_n d_X8_audit_95 rfl rfl 0 rfl (by decide)
(aw_getR (k' := 1) (a := 0) (b := 0) (j := 0) d_X8_audit_96 rfl fl8_12 rfl zj0 ⟨by decide, fun _ => by decide⟩
(aw_getI (kc := 11) d_X8_audit_99 rfl fl8_332 rfl rfl
(aw_ri d_X8_audit_102 rfl e24))))⟩, trivial⟩⟩⟩⟩⟩⟩ (fun c25 => have e26 := e2.2.2.2.2.2.2 c25; (aw_ldc d_X8_audit_103 rfl ci8_195
(aw_ri d_X8_audit_105 rfl e26)))))
def LX9_audit_8 (l : Launch) (P : Int → zM → Prop) (v1 : Int) (v2 : Int) (v3 : Int) (v4 : Int) (M : zM) : Prop := AW l m_X9_audit (zTi m_X9_audit P) 8 [(0, zr 9 0), (1, zi v1), (2, zi v2), (3, zi v3), (4, zi v4)] [] M
theorem vX9_audit_8 {l : Launch} {P : Int → zM → Prop} {v1 : Int} {v2 : Int} {v3 : Int} {v4 : Int} {M : zM}
    (H0 : (zI v4 ∧ zI (M 27 0 180) ∧ ((M 27 0 180) ≤ v4 → (zI v1 ∧ (v1 = 0 → P (M 27 0 183) M) ∧ (v1 = 1 → P v2 M) ∧ (v1 = 2 → P (M 27 0 184) M) ∧ (v1 = 3 → P v3 M) ∧ (v1 = 4 → P (M 27 0 186) M) ∧ (v1 = 5 → P (M 27 0 185) M) ∧ ((v1 < 0 ∨ 5 < v1) → P (-2147483648) M))) ∧ (v4 < (M 27 0 180) → ((0 ≤ 9 * v4 + 7 ∧ 9 * v4 + 7 < 187) ∧ (zI v3 ∧ (v3 = (-2) → LX9_audit_8 l P v1 (v2 + (M 27 0 (9 * v4 + 7))) v4 (v4 + 1) M) ∧ (v3 ≠ (-2) → ((0 ≤ 9 * v3 + 7 ∧ 9 * v3 + 7 < 187) ∧ (zI (M 27 0 (9 * v4 + 7)) ∧ zI (M 27 0 (9 * v3 + 7)) ∧ ((M 27 0 (9 * v4 + 7)) ≤ (M 27 0 (9 * v3 + 7)) → LX9_audit_8 l P v1 (v2 + (M 27 0 (9 * v4 + 7))) v3 (v4 + 1) M) ∧ ((M 27 0 (9 * v3 + 7)) < (M 27 0 (9 * v4 + 7)) → LX9_audit_8 l P v1 (v2 + (M 27 0 (9 * v4 + 7))) v4 (v4 + 1) M))))))))) :
    LX9_audit_8 l P v1 v2 v3 v4 M :=
(aw_iload d_X9_audit_8 rfl 4 rfl
(aw_aload_n d_X9_audit_10 rfl rfl 0 rfl (by decide)
(aw_VI (As := []) (st := [zi v4]) d_X9_audit_11 rfl cv9_78 ⟨Nat.le_of_ble_eq_true rfl, Nat.le_of_ble_eq_true rfl⟩ rfl rfl (Nat.le_of_ble_eq_true rfl) (Nat.le_of_ble_eq_true rfl) (s_X9_traders) (fun _ _ hq => aw_eqs hq
(have z1 := H0.1; have z2 := H0.2.1; have e3 := H0.2.2; aw_icmp_ge d_X9_audit_14 rfl rfl z1 z2 (fun c4 => have e6 := e3.1 c4; (aw_iload_n d_X9_audit_61 rfl rfl 1 rfl
(have z8 := e6.1; have e9 := e6.2; aw_table (offs := [38, 47, 49, 58, 60, 69]) d_X9_audit_62 rfl z8 rfl ⟨fun c10 => ⟨100, rfl, have e11 := e9.1 c10; (aw_aload_n d_X9_audit_100 rfl rfl 0 rfl (by decide)
(aw_getR (k' := 27) (a := 0) (b := 0) (j := 0) d_X9_audit_101 rfl fl9_7 rfl zj0 ⟨by decide, fun _ => by decide⟩
(aw_sipush d_X9_audit_104 rfl (by decide)
(aw_iald d_X9_audit_107 rfl za27 (by decide)
(aw_ri d_X9_audit_108 rfl e11)))))⟩, ⟨fun c12 => ⟨109, rfl, have e13 := e9.2.1 c12; (aw_iload_n d_X9_audit_109 rfl rfl 2 rfl
(aw_ri d_X9_audit_110 rfl e13))⟩, ⟨fun c14 => ⟨111, rfl, have e15 := e9.2.2.1 c14; (aw_aload_n d_X9_audit_111 rfl rfl 0 rfl (by decide)
(aw_getR (k' := 27) (a := 0) (b := 0) (j := 0) d_X9_audit_112 rfl fl9_7 rfl zj0 ⟨by decide, fun _ => by decide⟩
(aw_sipush d_X9_audit_115 rfl (by decide)
(aw_iald d_X9_audit_118 rfl za27 (by decide)
(aw_ri d_X9_audit_119 rfl e15)))))⟩, ⟨fun c16 => ⟨120, rfl, have e17 := e9.2.2.2.1 c16; (aw_iload_n d_X9_audit_120 rfl rfl 3 rfl
(aw_ri d_X9_audit_121 rfl e17))⟩, ⟨fun c18 => ⟨122, rfl, have e19 := e9.2.2.2.2.1 c18; (aw_aload_n d_X9_audit_122 rfl rfl 0 rfl (by decide)
(aw_getR (k' := 27) (a := 0) (b := 0) (j := 0) d_X9_audit_123 rfl fl9_7 rfl zj0 ⟨by decide, fun _ => by decide⟩
(aw_sipush d_X9_audit_126 rfl (by decide)
(aw_iald d_X9_audit_129 rfl za27 (by decide)
(aw_ri d_X9_audit_130 rfl e19)))))⟩, ⟨fun c20 => ⟨131, rfl, have e21 := e9.2.2.2.2.2.1 c20; (aw_aload_n d_X9_audit_131 rfl rfl 0 rfl (by decide)
(aw_getR (k' := 27) (a := 0) (b := 0) (j := 0) d_X9_audit_132 rfl fl9_7 rfl zj0 ⟨by decide, fun _ => by decide⟩
(aw_sipush d_X9_audit_135 rfl (by decide)
(aw_iald d_X9_audit_138 rfl za27 (by decide)
(aw_ri d_X9_audit_139 rfl e21)))))⟩, trivial⟩⟩⟩⟩⟩⟩ (fun c22 => have e23 := e9.2.2.2.2.2.2 c22; (aw_ldc d_X9_audit_140 rfl ci9_192
(aw_ri d_X9_audit_142 rfl e23)))))) (fun c5 => have e7 := e3.2 c5; (aw_iload_n d_X9_audit_17 rfl rfl 2 rfl
(aw_aload_n d_X9_audit_18 rfl rfl 0 rfl (by decide)
(aw_iload d_X9_audit_19 rfl 4 rfl
(aw_bipush d_X9_audit_21 rfl (by decide)
(have z24 := e7.1; have e25 := e7.2; (aw_VI (As := [zi v4, zi 7]) (st := [zi v2]) d_X9_audit_23 rfl cv9_88 ⟨Nat.le_of_ble_eq_true rfl, Nat.le_of_ble_eq_true rfl⟩ rfl rfl (Nat.le_of_ble_eq_true rfl) (Nat.le_of_ble_eq_true rfl) (s_X9_of z24) (fun _ _ hq => aw_eqs hq
(aw_iadd d_X9_audit_26 rfl
(aw_istore_n (lv' := [(2, zi (v2 + (M 27 0 (9 * v4 + 7)))), (0, zr 9 0), (1, zi v1), (3, zi v3), (4, zi v4)]) d_X9_audit_27 rfl rfl (by decide) rfl
(aw_iload_n d_X9_audit_28 rfl rfl 3 rfl
(aw_bipush d_X9_audit_29 rfl (by decide)
(have z26 := e25.1; have e27 := e25.2; aw_icmp_eq d_X9_audit_31 rfl rfl z26 (by decide) (fun c28 => have e30 := e27.1 c28; (aw_iload d_X9_audit_52 rfl 4 rfl
(aw_istore_n (lv' := [(3, zi v4), (2, zi (v2 + (M 27 0 (9 * v4 + 7)))), (0, zr 9 0), (1, zi v1), (4, zi v4)]) d_X9_audit_54 rfl rfl (by decide) rfl
(aw_iinc (lv' := [(4, zi (v4 + 1)), (3, zi v4), (2, zi (v2 + (M 27 0 (9 * v4 + 7)))), (0, zr 9 0), (1, zi v1)]) (y := (v4 + 1)) d_X9_audit_55 rfl 4 rfl (by decide) rfl rfl
(aw_goto d_X9_audit_58 rfl
(aw_sub [3, 4, 2, 1, 0] rfl e30)))))) (fun c29 => have e31 := e27.2 c29; (aw_aload_n d_X9_audit_34 rfl rfl 1 rfl (by decide)
(aw_iload d_X9_audit_35 rfl 4 rfl
(aw_bipush d_X9_audit_37 rfl (by decide)
(aw_VI (As := [zi v4, zi 7]) (st := []) d_X9_audit_39 rfl cv9_88 ⟨Nat.le_of_ble_eq_true rfl, Nat.le_of_ble_eq_true rfl⟩ rfl rfl (Nat.le_of_ble_eq_true rfl) (Nat.le_of_ble_eq_true rfl) (s_X9_of z24) (fun _ _ hq => aw_eqs hq
(aw_aload_n d_X9_audit_42 rfl rfl 1 rfl (by decide)
(aw_iload_n d_X9_audit_43 rfl rfl 3 rfl
(aw_bipush d_X9_audit_44 rfl (by decide)
(have z32 := e31.1; have e33 := e31.2; (aw_VI (As := [zi v3, zi 7]) (st := [zi (M 27 0 (9 * v4 + 7))]) d_X9_audit_46 rfl cv9_88 ⟨Nat.le_of_ble_eq_true rfl, Nat.le_of_ble_eq_true rfl⟩ rfl rfl (Nat.le_of_ble_eq_true rfl) (Nat.le_of_ble_eq_true rfl) (s_X9_of z32) (fun _ _ hq => aw_eqs hq
(have z34 := e33.1; have z35 := e33.2.1; have e36 := e33.2.2; aw_icmp_le d_X9_audit_49 rfl rfl z34 z35 (fun c37 => have e39 := e36.1 c37; (aw_iinc (lv' := [(4, zi (v4 + 1)), (2, zi (v2 + (M 27 0 (9 * v4 + 7)))), (0, zr 9 0), (1, zi v1), (3, zi v3)]) (y := (v4 + 1)) d_X9_audit_55 rfl 4 rfl (by decide) rfl rfl
(aw_goto d_X9_audit_58 rfl
(aw_sub [2, 3, 1, 4, 0] rfl e39)))) (fun c38 => have e40 := e36.2 c38; (aw_iload d_X9_audit_52 rfl 4 rfl
(aw_istore_n (lv' := [(3, zi v4), (2, zi (v2 + (M 27 0 (9 * v4 + 7)))), (0, zr 9 0), (1, zi v1), (4, zi v4)]) d_X9_audit_54 rfl rfl (by decide) rfl
(aw_iinc (lv' := [(4, zi (v4 + 1)), (3, zi v4), (2, zi (v2 + (M 27 0 (9 * v4 + 7)))), (0, zr 9 0), (1, zi v1)]) (y := (v4 + 1)) d_X9_audit_55 rfl 4 rfl (by decide) rfl rfl
(aw_goto d_X9_audit_58 rfl
(aw_sub [3, 4, 2, 1, 0] rfl e40)))))))))))))))))))))))))))))))))))))
theorem vX9_audit {l : Launch} {P : Int → zM → Prop} {v1 : Int} {M : zM}
    (H0 : LX9_audit_8 l P v1 0 (-2) 0 M) :
    CI l m_X9_audit [zr 9 0, zi v1] M P :=
(aw_iconst d_X9_audit_0 rfl
(aw_istore_n (lv' := [(2, zi 0), (0, zr 9 0), (1, zi v1)]) d_X9_audit_1 rfl rfl (by decide) rfl
(aw_bipush d_X9_audit_2 rfl (by decide)
(aw_istore_n (lv' := [(3, zi (-2)), (2, zi 0), (0, zr 9 0), (1, zi v1)]) d_X9_audit_4 rfl rfl (by decide) rfl
(aw_iconst d_X9_audit_5 rfl
(aw_istore (lv' := [(4, zi 0), (3, zi (-2)), (2, zi 0), (0, zr 9 0), (1, zi v1)]) d_X9_audit_6 rfl (by decide) rfl
(aw_sub [3, 4, 2, 1, 0] rfl H0)))))))
theorem q8_audit {k : Int} (c : CX M S) (hz : ∀ t, zI (qpu S t)) (zk : zI k) : CI l m_X8_audit [zr 8 0, zi k] M (fun x M' => x = aAudit S k ∧ Fr kScr M M') := by
  have w0 := c.1.1
  have hn := c.2.1.1
  have e3 : M 1 0 9 = qsc S 3 := by rw [← c.1.2, hS_k M 0 (k := 3) (j := 9) (by omega) (by omega)]
  have e4 : M 1 0 10 = qsc S 4 := by rw [← c.1.2, hS_k M 0 (k := 4) (j := 10) (by omega) (by omega)]
  have e5 : M 1 0 11 = qsc S 5 := by rw [← c.1.2, hS_k M 0 (k := 5) (j := 11) (by omega) (by omega)]
  have e6 : M 1 0 12 = qsc S 6 := by rw [← c.1.2, hS_k M 0 (k := 6) (j := 12) (by omega) (by omega)]
  refine vX8_audit ?_
  rw [c.n, c.1.2, e3, e4, e5, e6]
  refine ⟨zk, fun e => ⟨?_, Fr.rf⟩, fun e => ⟨w0, ?_, Fr.rf⟩, fun e => ⟨?_, Fr.rf⟩, fun e => ⟨by omega, fun q => ⟨?_, Fr.rf⟩, fun q => ⟨⟨w0, q, hz⟩, ?_, Fr.rf⟩⟩, fun e => ⟨?_, Fr.rf⟩, fun e => ⟨?_, Fr.rf⟩, fun e => ⟨?_, Fr.rf⟩⟩
  · subst e; rfl
  · subst e; rfl
  · subst e; rfl
  · subst e; exact (if_neg (by omega)).symm
  · subst e; exact (if_pos q).symm
  · subst e; rfl
  · subst e; rfl
  · rw [aAudit, if_neg (by omega), if_neg (by omega), if_neg (by omega), if_neg (by omega), if_neg (by omega), if_neg (by omega)]
theorem q9_audit {k : Int} (h : MX M S) (hz : ∀ t, zI (qpu S t)) (zk : zI k) : CI l m_X9_audit [zr 9 0, zi k] M (fun x M' => x = aAudit S k ∧ mQ M M') := by
  have hn := h.ok.1.1
  have en := h.n
  have e3 : M 27 0 183 = qsc S 3 := by rw [← h.1.2]; rfl
  have e4 : M 27 0 184 = qsc S 4 := by rw [← h.1.2]; rfl
  have e5 : M 27 0 185 = qsc S 5 := by rw [← h.1.2]; rfl
  have e6 : M 27 0 186 = qsc S 6 := by rw [← h.1.2]; rfl
  have ep : ∀ t, 0 ≤ t ∧ t < qn S → M 27 0 (9 * t + 7) = qpu S t := fun t ht => by rw [← rS_pu (M := M) (t := t) (by rw [h.1.2]; exact ht), h.1.2]
  have F := mQ.rf h
  have loop : ∀ (n t : Nat) (best : Int), (qn S - t).toNat = n → (t : Int) ≤ qn S → best = (if t = 0 then -2 else zbest (qpu S) (t - 1)) → LX9_audit_8 l (fun x M' => x = aAudit S k ∧ mQ M M') k (zsum (qpu S) t) best (t : Int) M := by
    intro n
    induction n with
    | zero =>
      intro t best hn' ht hb
      have et : (t : Int) = qn S := by omega
      refine vX9_audit_8 ?_
      rw [en, e3, e4, e5, e6]
      refine ⟨by omega, by omega, fun _ => ⟨zk, fun e => ⟨?_, F⟩, fun e => ⟨?_, F⟩, fun e => ⟨?_, F⟩, fun e => ⟨?_, F⟩, fun e => ⟨?_, F⟩, fun e => ⟨?_, F⟩, fun e => ⟨?_, F⟩⟩, fun e => by omega⟩
      · subst e; rfl
      · subst e; rw [et]; rfl
      · subst e; rfl
      · subst e
        show best = (if 0 < qn S then zbest (qpu S) (qn S - 1).toNat else -2)
        rw [hb]
        by_cases c : t = 0
        · rw [if_pos c, if_neg (by omega)]
        · rw [if_neg c, if_pos (by omega), show (qn S - 1).toNat = t - 1 by omega]
      · subst e; rfl
      · subst e; rfl
      · rw [aAudit, if_neg (by omega), if_neg (by omega), if_neg (by omega), if_neg (by omega), if_neg (by omega), if_neg (by omega)]
    | succ n ih =>
      intro t best hn' ht hb
      have next := fun best hb => ih (t + 1) best (by omega) (by omega) hb
      rw [show ((t + 1 : Nat) : Int) = (t : Int) + 1 by omega, zsum_s (by omega)] at next
      refine vX9_audit_8 ?_
      rw [en, ep t (by omega)]
      by_cases c : t = 0
      · rw [if_pos c] at hb
        have := next (t : Int) (by rw [if_neg (by omega), show t + 1 - 1 = 0 by omega]; show (t : Int) = 0; omega)
        exact ⟨by omega, by omega, fun e => by omega, fun _ => ⟨by omega, by omega, fun _ => this, fun e => absurd hb e⟩⟩
      · rw [if_neg c] at hb
        have hin := zbest_in (qpu S) (t - 1)
        have ez : zbest (qpu S) (t + 1 - 1) = if qpu S (zbest (qpu S) (t - 1)) < qpu S t then (t : Int) else zbest (qpu S) (t - 1) := by
          rw [show t + 1 - 1 = (t - 1) + 1 by omega, zbest, show (((t - 1 : Nat) : Int) + 1) = (t : Int) by omega]
        have hz1 := hz t
        have hz2 := hz (zbest (qpu S) (t - 1))
        rw [hb, ep (zbest (qpu S) (t - 1)) (by omega)]
        refine ⟨by omega, by omega, fun e => by omega, fun _ => ⟨by omega, by omega, fun e => by omega, fun _ => ⟨by omega, by omega, by omega, fun d => next _ ?_, fun d => next _ ?_⟩⟩⟩
        · rw [if_neg (by omega), ez, if_neg (by omega)]
        · rw [if_neg (by omega), ez, if_pos d]
  exact vX9_audit (loop _ 0 (-2) rfl (by omega) rfl)
def LX9_units_4 (l : Launch) (P : Int → zM → Prop) (v1 : Int) (v2 : Int) (M : zM) : Prop := AW l m_X9_units (zTi m_X9_units P) 4 [(0, zr 9 0), (1, zi v1), (2, zi v2)] [] M
theorem vX9_units_4 {l : Launch} {P : Int → zM → Prop} {v1 : Int} {v2 : Int} {M : zM}
    (H0 : (zI v2 ∧ zI (M 27 0 180) ∧ ((M 27 0 180) ≤ v2 → P v1 M) ∧ (v2 < (M 27 0 180) → ((0 ≤ 9 * v2 + 2 ∧ 9 * v2 + 2 < 187) ∧ LX9_units_4 l P (v1 + (M 27 0 (9 * v2 + 2))) (v2 + 1) M)))) :
    LX9_units_4 l P v1 v2 M :=
(aw_iload_n d_X9_units_4 rfl rfl 2 rfl
(aw_aload_n d_X9_units_5 rfl rfl 0 rfl (by decide)
(aw_VI (As := []) (st := [zi v2]) d_X9_units_6 rfl cv9_78 ⟨Nat.le_of_ble_eq_true rfl, Nat.le_of_ble_eq_true rfl⟩ rfl rfl (Nat.le_of_ble_eq_true rfl) (Nat.le_of_ble_eq_true rfl) (s_X9_traders) (fun _ _ hq => aw_eqs hq
(have z1 := H0.1; have z2 := H0.2.1; have e3 := H0.2.2; aw_icmp_ge d_X9_units_9 rfl rfl z1 z2 (fun c4 => have e6 := e3.1 c4; (aw_iload_n d_X9_units_27 rfl rfl 1 rfl
(aw_ri d_X9_units_28 rfl e6))) (fun c5 => have e7 := e3.2 c5; (aw_iload_n d_X9_units_12 rfl rfl 1 rfl
(aw_aload_n d_X9_units_13 rfl rfl 0 rfl (by decide)
(aw_iload_n d_X9_units_14 rfl rfl 2 rfl
(aw_iconst d_X9_units_15 rfl
(have z8 := e7.1; have e9 := e7.2; (aw_VI (As := [zi v2, zi 2]) (st := [zi v1]) d_X9_units_16 rfl cv9_88 ⟨Nat.le_of_ble_eq_true rfl, Nat.le_of_ble_eq_true rfl⟩ rfl rfl (Nat.le_of_ble_eq_true rfl) (Nat.le_of_ble_eq_true rfl) (s_X9_of z8) (fun _ _ hq => aw_eqs hq
(aw_iadd d_X9_units_19 rfl
(aw_istore_n (lv' := [(1, zi (v1 + (M 27 0 (9 * v2 + 2)))), (0, zr 9 0), (2, zi v2)]) d_X9_units_20 rfl rfl (by decide) rfl
(aw_iinc (lv' := [(2, zi (v2 + 1)), (1, zi (v1 + (M 27 0 (9 * v2 + 2)))), (0, zr 9 0)]) (y := (v2 + 1)) d_X9_units_21 rfl 2 rfl (by decide) rfl rfl
(aw_goto d_X9_units_24 rfl
(aw_sub [2, 1, 0] rfl e9))))))))))))))))))
theorem vX9_units {l : Launch} {P : Int → zM → Prop}  {M : zM}
    (H0 : LX9_units_4 l P 0 0 M) :
    CI l m_X9_units [zr 9 0] M P :=
(aw_iconst d_X9_units_0 rfl
(aw_istore_n (lv' := [(1, zi 0), (0, zr 9 0)]) d_X9_units_1 rfl rfl (by decide) rfl
(aw_iconst d_X9_units_2 rfl
(aw_istore_n (lv' := [(2, zi 0), (1, zi 0), (0, zr 9 0)]) d_X9_units_3 rfl rfl (by decide) rfl
(aw_sub [2, 1, 0] rfl H0)))))
theorem vX9_shelves {l : Launch} {P : Int → zM → Prop}  {M : zM}
    (H0 : (zI (M 30 0 0) ∧ ((M 30 0 0) = 0 → (zI (M 30 0 1) ∧ ((M 30 0 1) = 0 → P (0 + 0) M) ∧ ((M 30 0 1) ≠ 0 → P (0 + 2) M))) ∧ ((M 30 0 0) ≠ 0 → (zI (M 30 0 1) ∧ ((M 30 0 1) = 0 → P (1 + 0) M) ∧ ((M 30 0 1) ≠ 0 → P (1 + 2) M))))) :
    CI l m_X9_shelves [zr 9 0] M P :=
(aw_aload_n d_X9_shelves_0 rfl rfl 0 rfl (by decide)
(aw_getR (k' := 30) (a := 0) (b := 0) (j := 0) d_X9_shelves_1 rfl fl9_19 rfl zj0 ⟨by decide, fun _ => by decide⟩
(aw_iconst d_X9_shelves_4 rfl
(aw_zald d_X9_shelves_5 rfl za30 (by decide)
(have z1 := H0.1; have e2 := H0.2; aw_if_eq d_X9_shelves_6 rfl rfl z1 (fun c3 => have e5 := e2.1 c3; (aw_iconst d_X9_shelves_13 rfl
(aw_aload_n d_X9_shelves_14 rfl rfl 0 rfl (by decide)
(aw_getR (k' := 30) (a := 0) (b := 0) (j := 0) d_X9_shelves_15 rfl fl9_19 rfl zj0 ⟨by decide, fun _ => by decide⟩
(aw_iconst d_X9_shelves_18 rfl
(aw_zald d_X9_shelves_19 rfl za30 (by decide)
(have z7 := e5.1; have e8 := e5.2; aw_if_eq d_X9_shelves_20 rfl rfl z7 (fun c9 => have e11 := e8.1 c9; (aw_iconst d_X9_shelves_27 rfl
(aw_iadd d_X9_shelves_28 rfl
(aw_ri d_X9_shelves_29 rfl e11)))) (fun c10 => have e12 := e8.2 c10; (aw_iconst d_X9_shelves_23 rfl
(aw_goto d_X9_shelves_24 rfl
(aw_iadd d_X9_shelves_28 rfl
(aw_ri d_X9_shelves_29 rfl e12)))))))))))) (fun c4 => have e6 := e2.2 c4; (aw_iconst d_X9_shelves_9 rfl
(aw_goto d_X9_shelves_10 rfl
(aw_aload_n d_X9_shelves_14 rfl rfl 0 rfl (by decide)
(aw_getR (k' := 30) (a := 0) (b := 0) (j := 0) d_X9_shelves_15 rfl fl9_19 rfl zj0 ⟨by decide, fun _ => by decide⟩
(aw_iconst d_X9_shelves_18 rfl
(aw_zald d_X9_shelves_19 rfl za30 (by decide)
(have z13 := e6.1; have e14 := e6.2; aw_if_eq d_X9_shelves_20 rfl rfl z13 (fun c15 => have e17 := e14.1 c15; (aw_iconst d_X9_shelves_27 rfl
(aw_iadd d_X9_shelves_28 rfl
(aw_ri d_X9_shelves_29 rfl e17)))) (fun c16 => have e18 := e14.2 c16; (aw_iconst d_X9_shelves_23 rfl
(aw_goto d_X9_shelves_24 rfl
(aw_iadd d_X9_shelves_28 rfl
(aw_ri d_X9_shelves_29 rfl e18))))))))))))))))))
def LX9_trading_4 (l : Launch) (P : Int → zM → Prop) (v1 : Int) (v2 : Int) (M : zM) : Prop := AW l m_X9_trading (zTi m_X9_trading P) 4 [(0, zr 9 0), (1, zi v1), (2, zi v2)] [] M
theorem vX9_trading_4 {l : Launch} {P : Int → zM → Prop} {v1 : Int} {v2 : Int} {M : zM}
    (H0 : (zI v2 ∧ (4 ≤ v2 → P v1 M) ∧ (v2 < 4 → (CV l m_X9_laysOf [zr 9 0, zi (zshl 1 v2)] M (fun M7 => (zI (M7 9 0 16) ∧ ((M7 9 0 16) ≤ 0 → LX9_trading_4 l P (zor v1 0) (v2 + 1) M7) ∧ (0 < (M7 9 0 16) → LX9_trading_4 l P (zor v1 (zshl 1 v2)) (v2 + 1) M7))))))) :
    LX9_trading_4 l P v1 v2 M :=
(aw_iload_n d_X9_trading_4 rfl rfl 2 rfl
(aw_iconst d_X9_trading_5 rfl
(have z1 := H0.1; have e2 := H0.2; aw_icmp_ge d_X9_trading_6 rfl rfl z1 (by decide) (fun c3 => have e5 := e2.1 c3; (aw_iload_n d_X9_trading_39 rfl rfl 1 rfl
(aw_ri d_X9_trading_40 rfl e5))) (fun c4 => have e6 := e2.2 c4; (aw_aload_n d_X9_trading_9 rfl rfl 0 rfl (by decide)
(aw_iconst d_X9_trading_10 rfl
(aw_iload_n d_X9_trading_11 rfl rfl 2 rfl
(aw_ishl d_X9_trading_12 rfl zshl_h
(aw_VV (As := [zi (zshl 1 v2)]) (st := []) d_X9_trading_13 rfl cv9_139 ⟨Nat.le_of_ble_eq_true rfl, Nat.le_of_ble_eq_true rfl⟩ rfl rfl (Nat.le_of_ble_eq_true rfl) (Nat.le_of_ble_eq_true rfl) e6 (fun M7 e8 => (aw_iload_n d_X9_trading_16 rfl rfl 1 rfl
(aw_aload_n d_X9_trading_17 rfl rfl 0 rfl (by decide)
(aw_getI (kc := 16) d_X9_trading_18 rfl fl9_133 rfl rfl
(have z10 := e8.1; have e11 := e8.2; aw_if_le d_X9_trading_21 rfl rfl z10 (fun c12 => have e14 := e11.1 c12; (aw_iconst d_X9_trading_30 rfl
(aw_ior d_X9_trading_31 rfl zor_h
(aw_istore_n (lv' := [(1, zi (zor v1 0)), (0, zr 9 0), (2, zi v2)]) d_X9_trading_32 rfl rfl (by decide) rfl
(aw_iinc (lv' := [(2, zi (v2 + 1)), (1, zi (zor v1 0)), (0, zr 9 0)]) (y := (v2 + 1)) d_X9_trading_33 rfl 2 rfl (by decide) rfl rfl
(aw_goto d_X9_trading_36 rfl
(aw_sub [2, 1, 0] rfl e14))))))) (fun c13 => have e15 := e11.2 c13; (aw_iconst d_X9_trading_24 rfl
(aw_iload_n d_X9_trading_25 rfl rfl 2 rfl
(aw_ishl d_X9_trading_26 rfl zshl_h
(aw_goto d_X9_trading_27 rfl
(aw_ior d_X9_trading_31 rfl zor_h
(aw_istore_n (lv' := [(1, zi (zor v1 (zshl 1 v2))), (0, zr 9 0), (2, zi v2)]) d_X9_trading_32 rfl rfl (by decide) rfl
(aw_iinc (lv' := [(2, zi (v2 + 1)), (1, zi (zor v1 (zshl 1 v2))), (0, zr 9 0)]) (y := (v2 + 1)) d_X9_trading_33 rfl 2 rfl (by decide) rfl rfl
(aw_goto d_X9_trading_36 rfl
(aw_sub [2, 1, 0] rfl e15))))))))))))))))))))))))
theorem vX9_trading {l : Launch} {P : Int → zM → Prop}  {M : zM}
    (H0 : LX9_trading_4 l P 0 0 M) :
    CI l m_X9_trading [zr 9 0] M P :=
(aw_iconst d_X9_trading_0 rfl
(aw_istore_n (lv' := [(1, zi 0), (0, zr 9 0)]) d_X9_trading_1 rfl rfl (by decide) rfl
(aw_iconst d_X9_trading_2 rfl
(aw_istore_n (lv' := [(2, zi 0), (1, zi 0), (0, zr 9 0)]) d_X9_trading_3 rfl rfl (by decide) rfl
(aw_sub [2, 1, 0] rfl H0)))))
def LX9_worthOfAll_4 (l : Launch) (P : Int → zM → Prop) (v1 : Int) (v2 : Int) (M : zM) : Prop := AW l m_X9_worthOfAll (zTi m_X9_worthOfAll P) 4 [(0, zr 9 0), (1, zi v1), (2, zi v2)] [] M
theorem vX9_worthOfAll_4 {l : Launch} {P : Int → zM → Prop} {v1 : Int} {v2 : Int} {M : zM}
    (H0 : (zI v2 ∧ (4 ≤ v2 → P v1 M) ∧ (v2 < 4 → (CI l m_X9_worthOf [zr 9 0, zi (zshl 1 v2)] M (fun x10 M7 => LX9_worthOfAll_4 l P (v1 + x10) (v2 + 1) M7))))) :
    LX9_worthOfAll_4 l P v1 v2 M :=
(aw_iload_n d_X9_worthOfAll_4 rfl rfl 2 rfl
(aw_iconst d_X9_worthOfAll_5 rfl
(have z1 := H0.1; have e2 := H0.2; aw_icmp_ge d_X9_worthOfAll_6 rfl rfl z1 (by decide) (fun c3 => have e5 := e2.1 c3; (aw_iload_n d_X9_worthOfAll_25 rfl rfl 1 rfl
(aw_ri d_X9_worthOfAll_26 rfl e5))) (fun c4 => have e6 := e2.2 c4; (aw_iload_n d_X9_worthOfAll_9 rfl rfl 1 rfl
(aw_aload_n d_X9_worthOfAll_10 rfl rfl 0 rfl (by decide)
(aw_iconst d_X9_worthOfAll_11 rfl
(aw_iload_n d_X9_worthOfAll_12 rfl rfl 2 rfl
(aw_ishl d_X9_worthOfAll_13 rfl zshl_h
(aw_VI (As := [zi (zshl 1 v2)]) (st := [zi v1]) d_X9_worthOfAll_14 rfl cv9_143 ⟨Nat.le_of_ble_eq_true rfl, Nat.le_of_ble_eq_true rfl⟩ rfl rfl (Nat.le_of_ble_eq_true rfl) (Nat.le_of_ble_eq_true rfl) e6 (fun x10 M7 e8 => (aw_iadd d_X9_worthOfAll_17 rfl
(aw_istore_n (lv' := [(1, zi (v1 + x10)), (0, zr 9 0), (2, zi v2)]) d_X9_worthOfAll_18 rfl rfl (by decide) rfl
(aw_iinc (lv' := [(2, zi (v2 + 1)), (1, zi (v1 + x10)), (0, zr 9 0)]) (y := (v2 + 1)) d_X9_worthOfAll_19 rfl 2 rfl (by decide) rfl rfl
(aw_goto d_X9_worthOfAll_22 rfl
(aw_sub [2, 1, 0] rfl e8))))))))))))))))
theorem vX9_worthOfAll {l : Launch} {P : Int → zM → Prop}  {M : zM}
    (H0 : LX9_worthOfAll_4 l P 0 0 M) :
    CI l m_X9_worthOfAll [zr 9 0] M P :=
(aw_iconst d_X9_worthOfAll_0 rfl
(aw_istore_n (lv' := [(1, zi 0), (0, zr 9 0)]) d_X9_worthOfAll_1 rfl rfl (by decide) rfl
(aw_iconst d_X9_worthOfAll_2 rfl
(aw_istore_n (lv' := [(2, zi 0), (1, zi 0), (0, zr 9 0)]) d_X9_worthOfAll_3 rfl rfl (by decide) rfl
(aw_sub [2, 1, 0] rfl H0)))))
theorem c_X9_units (h : MX M S) : CI l m_X9_units [zr 9 0] M (fun x M' => x = zsum (qun S) (qn S) ∧ M' = M) := by
  have hn := h.ok.1.1
  have en := h.n
  have eu : ∀ t, 0 ≤ t ∧ t < qn S → M 27 0 (9 * t + 2) = qun S t := fun t ht => by rw [← rS_un (M := M) (t := t) (by rw [h.1.2]; exact ht), h.1.2]
  have loop : ∀ (n : Nat) (t : Int), (qn S - t).toNat = n → 0 ≤ t ∧ t ≤ qn S → LX9_units_4 l (fun x M' => x = zsum (qun S) (qn S) ∧ M' = M) (zsum (qun S) t) t M := by
    intro n
    induction n with
    | zero =>
      intro t hn' ht
      have : t = qn S := by omega
      subst this
      exact vX9_units_4 ⟨by omega, by omega, fun _ => ⟨rfl, rfl⟩, fun e => by omega⟩
    | succ n ih =>
      intro t hn' ht
      have := ih (t + 1) (by omega) (by omega)
      rw [zsum_s ht.1] at this
      refine vX9_units_4 ?_
      rw [en, eu t (by omega)]
      exact ⟨by omega, by omega, fun e => by omega, fun _ => ⟨by omega, this⟩⟩
  exact vX9_units (loop _ 0 rfl (by omega))
theorem c_X9_shelves {a b : Int} (e0 : M 30 0 0 = a) (e1 : M 30 0 1 = b) (ha : a = 0 ∨ a = 1) (hb : b = 0 ∨ b = 1) : CI l m_X9_shelves [zr 9 0] M (fun x M' => x = a + 2 * b ∧ M' = M) := by
  refine vX9_shelves ?_
  rw [e0, e1]
  exact ⟨by omega, fun _ => ⟨by omega, fun _ => ⟨by omega, rfl⟩, fun _ => ⟨by omega, rfl⟩⟩, fun _ => ⟨by omega, fun _ => ⟨by omega, rfl⟩, fun _ => ⟨by omega, rfl⟩⟩⟩
theorem gTr_I : ∀ k, zI (gTr S k)
  | 0 => by show zI 0; omega
  | k + 1 => by
    rw [gTr]
    split
    · exact zI_or
    · exact gTr_I k
theorem zor_0 {x : Int} (h : zI x) : zor x 0 = x := by
  unfold zor
  rw [show Int32.ofInt 0 = 0 from rfl, Int32.or_zero]
  exact Int32.toInt_ofInt_of_le (by omega) (by omega)
theorem c_X9_trading (h : MX M S) : CI l m_X9_trading [zr 9 0] M (fun x M' => x = gTr S 4 ∧ mQ M M') := by
  have ok := h.ok
  have loop : ∀ (n k : Nat) (M' : zM), 4 - k = n → k ≤ 4 → mQ M M' → LX9_trading_4 l (fun x M' => x = gTr S 4 ∧ mQ M M') (gTr S k) (k : Int) M' := by
    intro n
    induction n with
    | zero =>
      intro k M' hn hg f
      have : k = 4 := by omega
      subst this
      exact vX9_trading_4 ⟨by omega, fun _ => ⟨rfl, f⟩, fun e => by omega⟩
    | succ n ih =>
      intro k M' hn hg f
      have hx := h.q f
      refine vX9_trading_4 ⟨by omega, fun e => by omega, fun _ => (m_laysOf hx (by omega)).mono ?_⟩
      rintro M2 ⟨f2, h2⟩
      have hb := tT_b (f := qfee S) (B := qB S k) (A := qA S k)
      have hl := (gdS ok (k : Int)).1
      have eg : gTr S (k + 1) = if 0 < tT (qfee S) (qB S k) (qA S k) then zor (gTr S k) (zshl 1 k) else gTr S k := rfl
      have := ih (k + 1) M2 (by omega) (by omega) (f.tr f2)
      rw [eg] at this
      rw [h2.2.2.1, zor_0 (gTr_I k)]
      refine ⟨by omega, fun q => ?_, fun q => ?_⟩
      · rw [if_neg (by omega)] at this; exact this
      · rw [if_pos q] at this; exact this
  exact vX9_trading (loop _ 0 M rfl (by omega) (mQ.rf h))
theorem c_X9_worthOfAll (h : MX M S) : CI l m_X9_worthOfAll [zr 9 0] M (fun x M' => x = wAll S ∧ mQ M M') := by
  have loop : ∀ (n : Nat) (g : Int) (M' : zM), (4 - g).toNat = n → 0 ≤ g ∧ g ≤ 4 → mQ M M' → LX9_worthOfAll_4 l (fun x M' => x = wAll S ∧ mQ M M') (zsum (fun g => tW (qfee S) (qB S g) (qA S g)) g) g M' := by
    intro n
    induction n with
    | zero =>
      intro g M' hn hg f
      have : g = 4 := by omega
      subst this
      exact vX9_worthOfAll_4 ⟨by omega, fun _ => ⟨rfl, f⟩, fun e => by omega⟩
    | succ n ih =>
      intro g M' hn hg f
      have hx := h.q f
      refine vX9_worthOfAll_4 ⟨by omega, fun e => by omega, fun _ => (c_X9_worthOf hx.1.1 (by omega)).mono ?_⟩
      rintro x M2 ⟨rfl, f2, -⟩
      have := ih (g + 1) M2 (by omega) (by omega) (f.tr (mFs.q hx f2.s))
      rw [zsum_s hg.1] at this
      rw [hx.B, hx.A, hx.1.2]
      exact this
  exact vX9_worthOfAll (loop _ 0 M rfl (by omega) (mQ.rf h))
noncomputable def aCount (S : zS) (a4 a5 a6 k : Int) : Int := if k = 0 then qn S else if k = 1 then zsum (qun S) (qn S) else if k = 2 then qfee S else if k = 3 then qlaw S else if k = 4 then a4 else if k = 5 then a5 else if k = 6 then a6 else if k = 7 then gTr S 4 else if k = 8 then wAll S else -1
theorem aCount_n {a4 a5 a6 k : Int} (h : k < 0 ∨ 8 < k) : aCount S a4 a5 a6 k = -1 := by
  rw [aCount, if_neg (by omega), if_neg (by omega), if_neg (by omega), if_neg (by omega), if_neg (by omega), if_neg (by omega), if_neg (by omega), if_neg (by omega), if_neg (by omega)]
theorem vX8_count {l : Launch} {P : Int → zM → Prop} {v1 : Int} {M : zM}
    (H0 : (zI v1 ∧ (v1 = 0 → P (M 1 0 6) M) ∧ (v1 = 1 → (hW M 0 ∧ P (zsum (qun (hS M 0)) (qn (hS M 0))) M)) ∧ (v1 = 2 → P (M 1 0 7) M) ∧ (v1 = 3 → P (M 1 0 8) M) ∧ (v1 = 4 → P (M 2 0 2) M) ∧ (v1 = 5 → P (M 7 0 2) M) ∧ (v1 = 6 → P (M 6 0 1) M) ∧ (v1 = 7 → (CI l m_X8_gradesWithTrades [zr 8 0] M (fun x24 M21 => P x24 M21))) ∧ (v1 = 8 → (CI l m_X8_worthOfAll [zr 8 0] M (fun x30 M27 => P x30 M27))) ∧ ((v1 < 0 ∨ 8 < v1) → P (-1) M))) :
    CI l m_X8_count [zr 8 0, zi v1] M P :=
(aw_iload_n d_X8_count_0 rfl rfl 1 rfl
(have z1 := H0.1; have e2 := H0.2; aw_table (offs := [51, 59, 67, 75, 83, 91, 99, 107, 112]) d_X8_count_1 rfl z1 rfl ⟨fun c3 => ⟨52, rfl, have e4 := e2.1 c3; (aw_aload_n d_X8_count_52 rfl rfl 0 rfl (by decide)
(aw_getR (k' := 1) (a := 0) (b := 0) (j := 0) d_X8_count_53 rfl fl8_12 rfl zj0 ⟨by decide, fun _ => by decide⟩
(aw_getI (kc := 6) d_X8_count_56 rfl fl8_98 rfl rfl
(aw_ri d_X8_count_59 rfl e4))))⟩, ⟨fun c5 => ⟨60, rfl, have e6 := e2.2.1 c5; (aw_aload_n d_X8_count_60 rfl rfl 0 rfl (by decide)
(aw_getR (k' := 1) (a := 0) (b := 0) (j := 0) d_X8_count_61 rfl fl8_12 rfl zj0 ⟨by decide, fun _ => by decide⟩
(have z7 := e6.1; have e8 := e6.2; (aw_VI (As := []) (st := []) d_X8_count_64 rfl cv8_393 ⟨Nat.le_of_ble_eq_true rfl, Nat.le_of_ble_eq_true rfl⟩ rfl rfl (Nat.le_of_ble_eq_true rfl) (Nat.le_of_ble_eq_true rfl) (s_X1_allUnits z7) (fun _ _ hq => aw_eqs hq
(aw_ri d_X8_count_67 rfl e8))))))⟩, ⟨fun c9 => ⟨68, rfl, have e10 := e2.2.2.1 c9; (aw_aload_n d_X8_count_68 rfl rfl 0 rfl (by decide)
(aw_getR (k' := 1) (a := 0) (b := 0) (j := 0) d_X8_count_69 rfl fl8_12 rfl zj0 ⟨by decide, fun _ => by decide⟩
(aw_getI (kc := 7) d_X8_count_72 rfl fl8_145 rfl rfl
(aw_ri d_X8_count_75 rfl e10))))⟩, ⟨fun c11 => ⟨76, rfl, have e12 := e2.2.2.2.1 c11; (aw_aload_n d_X8_count_76 rfl rfl 0 rfl (by decide)
(aw_getR (k' := 1) (a := 0) (b := 0) (j := 0) d_X8_count_77 rfl fl8_12 rfl zj0 ⟨by decide, fun _ => by decide⟩
(aw_getI (kc := 8) d_X8_count_80 rfl fl8_151 rfl rfl
(aw_ri d_X8_count_83 rfl e12))))⟩, ⟨fun c13 => ⟨84, rfl, have e14 := e2.2.2.2.2.1 c13; (aw_aload_n d_X8_count_84 rfl rfl 0 rfl (by decide)
(aw_getR (k' := 2) (a := 0) (b := 0) (j := 0) d_X8_count_85 rfl fl8_26 rfl zj0 ⟨by decide, fun _ => by decide⟩
(aw_getI (kc := 2) d_X8_count_88 rfl fl8_396 rfl rfl
(aw_ri d_X8_count_91 rfl e14))))⟩, ⟨fun c15 => ⟨92, rfl, have e16 := e2.2.2.2.2.2.1 c15; (aw_aload_n d_X8_count_92 rfl rfl 0 rfl (by decide)
(aw_getR (k' := 7) (a := 0) (b := 0) (j := 0) d_X8_count_93 rfl fl8_19 rfl zj0 ⟨by decide, fun _ => by decide⟩
(aw_getI (kc := 2) d_X8_count_96 rfl fl8_76 rfl rfl
(aw_ri d_X8_count_99 rfl e16))))⟩, ⟨fun c17 => ⟨100, rfl, have e18 := e2.2.2.2.2.2.2.1 c17; (aw_aload_n d_X8_count_100 rfl rfl 0 rfl (by decide)
(aw_getR (k' := 6) (a := 0) (b := 0) (j := 0) d_X8_count_101 rfl fl8_33 rfl zj0 ⟨by decide, fun _ => by decide⟩
(aw_getI (kc := 1) d_X8_count_104 rfl fl8_397 rfl rfl
(aw_ri d_X8_count_107 rfl e18))))⟩, ⟨fun c19 => ⟨108, rfl, have e20 := e2.2.2.2.2.2.2.2.1 c19; (aw_aload_n d_X8_count_108 rfl rfl 0 rfl (by decide)
(aw_VI (As := []) (st := []) d_X8_count_109 rfl cv8_400 ⟨Nat.le_of_ble_eq_true rfl, Nat.le_of_ble_eq_true rfl⟩ rfl rfl (Nat.le_of_ble_eq_true rfl) (Nat.le_of_ble_eq_true rfl) e20 (fun x24 M21 e22 => (aw_ri d_X8_count_112 rfl e22))))⟩, ⟨fun c25 => ⟨113, rfl, have e26 := e2.2.2.2.2.2.2.2.2.1 c25; (aw_aload_n d_X8_count_113 rfl rfl 0 rfl (by decide)
(aw_VI (As := []) (st := []) d_X8_count_114 rfl cv8_308 ⟨Nat.le_of_ble_eq_true rfl, Nat.le_of_ble_eq_true rfl⟩ rfl rfl (Nat.le_of_ble_eq_true rfl) (Nat.le_of_ble_eq_true rfl) e26 (fun x30 M27 e28 => (aw_ri d_X8_count_117 rfl e28))))⟩, trivial⟩⟩⟩⟩⟩⟩⟩⟩⟩ (fun c31 => have e32 := e2.2.2.2.2.2.2.2.2.2 c31; (aw_iconst d_X8_count_118 rfl
(aw_ri d_X8_count_119 rfl e32)))))
theorem vX9_count {l : Launch} {P : Int → zM → Prop} {v1 : Int} {M : zM}
    (H0 : (zI v1 ∧ (v1 = 0 → P (M 27 0 180) M) ∧ (v1 = 1 → (CI l m_X9_units [zr 9 0] M (fun x10 M7 => P x10 M7))) ∧ (v1 = 2 → P (M 27 0 181) M) ∧ (v1 = 3 → P (M 27 0 182) M) ∧ (v1 = 4 → P (M 9 0 2) M) ∧ (v1 = 5 → P (M 9 0 36) M) ∧ (v1 = 6 → (CI l m_X9_shelves [zr 9 0] M (fun x24 M21 => P x24 M21))) ∧ (v1 = 7 → (CI l m_X9_trading [zr 9 0] M (fun x30 M27 => P x30 M27))) ∧ (v1 = 8 → (CI l m_X9_worthOfAll [zr 9 0] M (fun x36 M33 => P x36 M33))) ∧ ((v1 < 0 ∨ 8 < v1) → P (-1) M))) :
    CI l m_X9_count [zr 9 0, zi v1] M P :=
(aw_iload_n d_X9_count_0 rfl rfl 1 rfl
(have z1 := H0.1; have e2 := H0.2; aw_table (offs := [51, 56, 61, 70, 79, 84, 89, 94, 99]) d_X9_count_1 rfl z1 rfl ⟨fun c3 => ⟨52, rfl, have e4 := e2.1 c3; (aw_aload_n d_X9_count_52 rfl rfl 0 rfl (by decide)
(aw_VI (As := []) (st := []) d_X9_count_53 rfl cv9_78 ⟨Nat.le_of_ble_eq_true rfl, Nat.le_of_ble_eq_true rfl⟩ rfl rfl (Nat.le_of_ble_eq_true rfl) (Nat.le_of_ble_eq_true rfl) (s_X9_traders) (fun _ _ hq => aw_eqs hq
(aw_ri d_X9_count_56 rfl e4))))⟩, ⟨fun c5 => ⟨57, rfl, have e6 := e2.2.1 c5; (aw_aload_n d_X9_count_57 rfl rfl 0 rfl (by decide)
(aw_VI (As := []) (st := []) d_X9_count_58 rfl cv9_291 ⟨Nat.le_of_ble_eq_true rfl, Nat.le_of_ble_eq_true rfl⟩ rfl rfl (Nat.le_of_ble_eq_true rfl) (Nat.le_of_ble_eq_true rfl) e6 (fun x10 M7 e8 => (aw_ri d_X9_count_61 rfl e8))))⟩, ⟨fun c11 => ⟨62, rfl, have e12 := e2.2.2.1 c11; (aw_aload_n d_X9_count_62 rfl rfl 0 rfl (by decide)
(aw_getR (k' := 27) (a := 0) (b := 0) (j := 0) d_X9_count_63 rfl fl9_7 rfl zj0 ⟨by decide, fun _ => by decide⟩
(aw_sipush d_X9_count_66 rfl (by decide)
(aw_iald d_X9_count_69 rfl za27 (by decide)
(aw_ri d_X9_count_70 rfl e12)))))⟩, ⟨fun c13 => ⟨71, rfl, have e14 := e2.2.2.2.1 c13; (aw_aload_n d_X9_count_71 rfl rfl 0 rfl (by decide)
(aw_getR (k' := 27) (a := 0) (b := 0) (j := 0) d_X9_count_72 rfl fl9_7 rfl zj0 ⟨by decide, fun _ => by decide⟩
(aw_sipush d_X9_count_75 rfl (by decide)
(aw_iald d_X9_count_78 rfl za27 (by decide)
(aw_ri d_X9_count_79 rfl e14)))))⟩, ⟨fun c15 => ⟨80, rfl, have e16 := e2.2.2.2.2.1 c15; (aw_aload_n d_X9_count_80 rfl rfl 0 rfl (by decide)
(aw_getI (kc := 2) d_X9_count_81 rfl fl9_294 rfl rfl
(aw_ri d_X9_count_84 rfl e16)))⟩, ⟨fun c17 => ⟨85, rfl, have e18 := e2.2.2.2.2.2.1 c17; (aw_aload_n d_X9_count_85 rfl rfl 0 rfl (by decide)
(aw_getI (kc := 36) d_X9_count_86 rfl fl9_297 rfl rfl
(aw_ri d_X9_count_89 rfl e18)))⟩, ⟨fun c19 => ⟨90, rfl, have e20 := e2.2.2.2.2.2.2.1 c19; (aw_aload_n d_X9_count_90 rfl rfl 0 rfl (by decide)
(aw_VI (As := []) (st := []) d_X9_count_91 rfl cv9_300 ⟨Nat.le_of_ble_eq_true rfl, Nat.le_of_ble_eq_true rfl⟩ rfl rfl (Nat.le_of_ble_eq_true rfl) (Nat.le_of_ble_eq_true rfl) e20 (fun x24 M21 e22 => (aw_ri d_X9_count_94 rfl e22))))⟩, ⟨fun c25 => ⟨95, rfl, have e26 := e2.2.2.2.2.2.2.2.1 c25; (aw_aload_n d_X9_count_95 rfl rfl 0 rfl (by decide)
(aw_VI (As := []) (st := []) d_X9_count_96 rfl cv9_303 ⟨Nat.le_of_ble_eq_true rfl, Nat.le_of_ble_eq_true rfl⟩ rfl rfl (Nat.le_of_ble_eq_true rfl) (Nat.le_of_ble_eq_true rfl) e26 (fun x30 M27 e28 => (aw_ri d_X9_count_99 rfl e28))))⟩, ⟨fun c31 => ⟨100, rfl, have e32 := e2.2.2.2.2.2.2.2.2.1 c31; (aw_aload_n d_X9_count_100 rfl rfl 0 rfl (by decide)
(aw_VI (As := []) (st := []) d_X9_count_101 rfl cv9_279 ⟨Nat.le_of_ble_eq_true rfl, Nat.le_of_ble_eq_true rfl⟩ rfl rfl (Nat.le_of_ble_eq_true rfl) (Nat.le_of_ble_eq_true rfl) e32 (fun x36 M33 e34 => (aw_ri d_X9_count_104 rfl e34))))⟩, trivial⟩⟩⟩⟩⟩⟩⟩⟩⟩ (fun c37 => have e38 := e2.2.2.2.2.2.2.2.2.2 c37; (aw_iconst d_X9_count_105 rfl
(aw_ri d_X9_count_106 rfl e38)))))
theorem q8_count {a4 a5 a6 k : Int} (c : CX M S) (h4 : M 2 0 2 = a4) (h5 : M 7 0 2 = a5) (h6 : M 6 0 1 = a6) (zk : zI k) : CI l m_X8_count [zr 8 0, zi k] M (fun x M' => x = aCount S a4 a5 a6 k ∧ Fr kScr M M') := by
  refine vX8_count ?_
  rw [c.n, c.1.2, c.fee, c.law, h4, h5, h6]
  refine ⟨zk, fun e => ⟨by subst e; rfl, Fr.rf⟩, fun e => ⟨c.1.1, by subst e; rfl, Fr.rf⟩, fun e => ⟨by subst e; rfl, Fr.rf⟩, fun e => ⟨by subst e; rfl, Fr.rf⟩, fun e => ⟨by subst e; rfl, Fr.rf⟩, fun e => ⟨by subst e; rfl, Fr.rf⟩, fun e => ⟨by subst e; rfl, Fr.rf⟩, fun e => ?_, fun e => ?_, fun e => ⟨(aCount_n e).symm, Fr.rf⟩⟩
  · refine (c_gradesWithTrades c).mono ?_
    rintro x M' ⟨rfl, f⟩
    exact ⟨by subst e; rfl, f.scr⟩
  · refine (c_worthOfAll c).mono ?_
    rintro x M' ⟨rfl, f⟩
    exact ⟨by subst e; rfl, f.scr⟩
theorem q9_count {a4 a5 a b k : Int} (h : MX M S) (h4 : M 9 0 2 = a4) (h5 : M 9 0 36 = a5) (e0 : M 30 0 0 = a) (e1 : M 30 0 1 = b) (ha : a = 0 ∨ a = 1) (hb : b = 0 ∨ b = 1) (zk : zI k) : CI l m_X9_count [zr 9 0, zi k] M (fun x M' => x = aCount S a4 a5 (a + 2 * b) k ∧ mQ M M') := by
  have F := mQ.rf h
  refine vX9_count ?_
  rw [h.n, h.fee, h.law, h4, h5]
  refine ⟨zk, fun e => ⟨by subst e; rfl, F⟩, fun e => ?_, fun e => ⟨by subst e; rfl, F⟩, fun e => ⟨by subst e; rfl, F⟩, fun e => ⟨by subst e; rfl, F⟩, fun e => ⟨by subst e; rfl, F⟩, fun e => ?_, fun e => ?_, fun e => ?_, fun e => ⟨(aCount_n e).symm, F⟩⟩
  · exact (c_X9_units h).eq ⟨by subst e; rfl, F⟩
  · exact (c_X9_shelves e0 e1 ha hb).eq ⟨by subst e; rfl, F⟩
  · refine (c_X9_trading h).mono ?_
    rintro x M' ⟨rfl, f⟩
    exact ⟨by subst e; rfl, f⟩
  · refine (c_X9_worthOfAll h).mono ?_
    rintro x M' ⟨rfl, f⟩
    exact ⟨by subst e; rfl, f⟩
end
