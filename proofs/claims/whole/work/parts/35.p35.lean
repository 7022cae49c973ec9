/-! ===== questions, both sides: row, market, deal, missed ===== -/
section
variable {l : Launch} {M : zM} {S : zS}
noncomputable def aRow (S : zS) (g z k w : Int) : Int := if ¬ (0 ≤ g ∧ g < 4) ∨ w < 0 ∨ 2 < w then -1 else if k = -1 ∧ w = 0 then (if z = 0 then ((qB S g).length : Int) else (qA S g).length) else if ¬ (0 ≤ k ∧ k < (if z = 0 then ((qB S g).length : Int) else (qA S g).length)) then -1 else
  if w = 0 then ktr ((if z = 0 then qB S g else qA S g).getD k.toNat 0) else if w = 1 then kun ((if z = 0 then qB S g else qA S g).getD k.toNat 0) else if z = 0 then gB (qB S g) k else gA (qfee S) (qA S g) k
theorem aRow_n {g z k w : Int} (h : ¬ (0 ≤ g ∧ g < 4) ∨ w < 0 ∨ 2 < w) : aRow S g z k w = -1 := by rw [aRow, if_pos h]
theorem aRow_m {g z k w : Int} (h : 0 ≤ g ∧ g < 4) (e1 : k = -1) (e2 : w = 0) : aRow S g z k w = if z = 0 then ((qB S g).length : Int) else (qA S g).length := by rw [aRow, if_neg (by omega), if_pos ⟨e1, e2⟩]
theorem aRow_o {g z k w : Int} (h2 : ¬ (k = -1 ∧ w = 0)) (h3 : ¬ (0 ≤ k ∧ k < (if z = 0 then ((qB S g).length : Int) else (qA S g).length))) : aRow S g z k w = -1 := by
  unfold aRow
  by_cases c : ¬ (0 ≤ g ∧ g < 4) ∨ w < 0 ∨ 2 < w
  · rw [if_pos c]
  · rw [if_neg c, if_neg h2, if_pos h3]
theorem aRow_i {g z k w : Int} (h : 0 ≤ g ∧ g < 4) (hw : 0 ≤ w ∧ w ≤ 2) (h3 : 0 ≤ k ∧ k < (if z = 0 then ((qB S g).length : Int) else (qA S g).length)) : aRow S g z k w = if w = 0 then ktr ((if z = 0 then qB S g else qA S g).getD k.toNat 0) else if w = 1 then kun ((if z = 0 then qB S g else qA S g).getD k.toNat 0) else if z = 0 then gB (qB S g) k else gA (qfee S) (qA S g) k := by
  rw [aRow, if_neg (by omega), if_neg (by omega), if_neg (fun q => q h3)]
theorem vX8_row {l : Launch} {P : Int → zM → Prop} {v1 : Int} {v2 : Int} {v3 : Int} {v4 : Int} {M : zM}
    (H0 : (zI v1 ∧ ((¬ (0 ≤ v1 ∧ v1 < 4) → P (-1) M) ∧ (0 ≤ v1 ∧ v1 < 4 → (zI v4 ∧ (v4 < 0 → P (-1) M) ∧ (0 ≤ v4 → ((v4 ≤ 2 → (CV l m_X8_settleGrade [zr 8 0, zi v1] M (fun M17 => (zI v2 ∧ (v2 = 0 → (zI v3 ∧ (v3 ≠ (-1) → ((v3 < 0 → P (-1) M17) ∧ (0 ≤ v3 → (zI (M17 0 0 2) ∧ (v3 < (M17 0 0 2) → ((v4 = 0 → ((bkW M17 0 ∧ zI v2 ∧ zI v3) ∧ P (rslt M17 0 v2 v3 / 4) M17)) ∧ (v4 = 1 → ((bkW M17 0 ∧ zI v2 ∧ zI v3) ∧ P (rslt M17 0 v2 v3 % 4) M17)) ∧ ((v4 ≠ 0 ∧ v4 ≠ 1) → ((bkW M17 0 ∧ zI v3) ∧ P (rbid M17 0 v3) M17)))) ∧ ((M17 0 0 2) ≤ v3 → P (-1) M17))))) ∧ (v3 = (-1) → ((v4 ≠ 0 → ((v3 < 0 → P (-1) M17) ∧ (0 ≤ v3 → (zI (M17 0 0 2) ∧ (v3 < (M17 0 0 2) → ((v4 = 0 → ((bkW M17 0 ∧ zI v2 ∧ zI v3) ∧ P (rslt M17 0 v2 v3 / 4) M17)) ∧ (v4 = 1 → ((bkW M17 0 ∧ zI v2 ∧ zI v3) ∧ P (rslt M17 0 v2 v3 % 4) M17)) ∧ ((v4 ≠ 0 ∧ v4 ≠ 1) → ((bkW M17 0 ∧ zI v3) ∧ P (rbid M17 0 v3) M17)))) ∧ ((M17 0 0 2) ≤ v3 → P (-1) M17))))) ∧ (v4 = 0 → P (M17 0 0 2) M17))))) ∧ (v2 ≠ 0 → (zI v3 ∧ (v3 ≠ (-1) → ((v3 < 0 → P (-1) M17) ∧ (0 ≤ v3 → (zI (M17 0 0 3) ∧ (v3 < (M17 0 0 3) → ((v4 = 0 → ((bkW M17 0 ∧ zI v2 ∧ zI v3) ∧ P (rslt M17 0 v2 v3 / 4) M17)) ∧ (v4 = 1 → ((bkW M17 0 ∧ zI v2 ∧ zI v3) ∧ P (rslt M17 0 v2 v3 % 4) M17)) ∧ ((v4 ≠ 0 ∧ v4 ≠ 1) → ((bkW M17 0 ∧ zI v3) ∧ P (rask M17 0 v3) M17)))) ∧ ((M17 0 0 3) ≤ v3 → P (-1) M17))))) ∧ (v3 = (-1) → ((v4 ≠ 0 → ((v3 < 0 → P (-1) M17) ∧ (0 ≤ v3 → (zI (M17 0 0 3) ∧ (v3 < (M17 0 0 3) → ((v4 = 0 → ((bkW M17 0 ∧ zI v2 ∧ zI v3) ∧ P (rslt M17 0 v2 v3 / 4) M17)) ∧ (v4 = 1 → ((bkW M17 0 ∧ zI v2 ∧ zI v3) ∧ P (rslt M17 0 v2 v3 % 4) M17)) ∧ ((v4 ≠ 0 ∧ v4 ≠ 1) → ((bkW M17 0 ∧ zI v3) ∧ P (rask M17 0 v3) M17)))) ∧ ((M17 0 0 3) ≤ v3 → P (-1) M17))))) ∧ (v4 = 0 → P (M17 0 0 3) M17))))))))) ∧ (2 < v4 → P (-1) M)))))))) :
    CI l m_X8_row [zr 8 0, zi v1, zi v2, zi v3, zi v4] M P :=
(aw_iload_n d_X8_row_0 rfl rfl 1 rfl
(have z1 := H0.1; have e2 := H0.2; (aw_SI (As := [zi v1]) (st := []) d_X8_row_1 rfl cs8_99 ⟨Nat.le_of_ble_eq_true rfl, Nat.le_of_ble_eq_true rfl⟩ rfl rfl (Nat.le_of_ble_eq_true rfl) (Nat.le_of_ble_eq_true rfl) (s_X8_isGrade z1) (fun _ _ hq => aw_eqs hq
(aw_if_eq d_X8_row_4 rfl rfl zb_I (fun c3 => have e5 := e2.1 (zb_0 c3); (aw_iconst d_X8_row_18 rfl
(aw_ri d_X8_row_19 rfl e5))) (fun c4 => have e6 := e2.2 (zb_n0 c4); (aw_iload d_X8_row_7 rfl 4 rfl
(have z7 := e6.1; have e8 := e6.2; aw_if_lt d_X8_row_9 rfl rfl z7 (fun c9 => have e11 := e8.1 c9; (aw_iconst d_X8_row_18 rfl
(aw_ri d_X8_row_19 rfl e11))) (fun c10 => have e12 := e8.2 c10; (aw_iload d_X8_row_12 rfl 4 rfl
(aw_iconst d_X8_row_14 rfl
(aw_icmp_le d_X8_row_15 rfl rfl z7 (by decide) (fun c13 => have e15 := e12.1 c13; (aw_aload_n d_X8_row_20 rfl rfl 0 rfl (by decide)
(aw_iload_n d_X8_row_21 rfl rfl 1 rfl
(aw_VV (As := [zi v1]) (st := []) d_X8_row_22 rfl cv8_154 ⟨Nat.le_of_ble_eq_true rfl, Nat.le_of_ble_eq_true rfl⟩ rfl rfl (Nat.le_of_ble_eq_true rfl) (Nat.le_of_ble_eq_true rfl) e15 (fun M17 e18 => (aw_iload_n d_X8_row_25 rfl rfl 2 rfl
(have z20 := e18.1; have e21 := e18.2; aw_if_eq d_X8_row_26 rfl rfl z20 (fun c22 => have e24 := e21.1 c22; (aw_aload_n d_X8_row_39 rfl rfl 0 rfl (by decide)
(aw_getR (k' := 0) (a := 0) (b := 0) (j := 0) d_X8_row_40 rfl fl8_47 rfl zj0 ⟨by decide, fun _ => by decide⟩
(aw_getI (kc := 2) d_X8_row_43 rfl fl8_208 rfl rfl
(aw_istore (lv' := [(5, zi (M17 0 0 2)), (0, zr 8 0), (1, zi v1), (2, zi v2), (3, zi v3), (4, zi v4)]) d_X8_row_46 rfl (by decide) rfl
(aw_iload_n d_X8_row_48 rfl rfl 4 rfl
(aw_iconst d_X8_row_49 rfl
(have z26 := e24.1; have e27 := e24.2; aw_icmp_ne d_X8_row_50 rfl rfl z26 (by decide) (fun c28 => have e30 := e27.1 c28; (aw_iload_n d_X8_row_61 rfl rfl 4 rfl
(aw_if_lt d_X8_row_62 rfl rfl z26 (fun c32 => have e34 := e30.1 c32; (aw_iconst d_X8_row_71 rfl
(aw_ri d_X8_row_72 rfl e34))) (fun c33 => have e35 := e30.2 c33; (aw_iload_n d_X8_row_65 rfl rfl 4 rfl
(aw_iload d_X8_row_66 rfl 0 rfl
(have z36 := e35.1; have e37 := e35.2; aw_icmp_lt d_X8_row_68 rfl rfl z26 z36 (fun c38 => have e40 := e37.1 c38; (aw_iload d_X8_row_73 rfl 5 rfl
(aw_lookup2 d_X8_row_75 z7 rfl rfl rfl (fun c42 => have e43 := e40.1 c42; (aw_aload_n d_X8_row_100 rfl rfl 1 rfl (by decide)
(aw_getR (k' := 0) (a := 0) (b := 0) (j := 0) d_X8_row_101 rfl fl8_47 rfl zj0 ⟨by decide, fun _ => by decide⟩
(aw_iload_n d_X8_row_104 rfl rfl 3 rfl
(aw_iload_n d_X8_row_105 rfl rfl 4 rfl
(have z44 := e43.1; have e45 := e43.2; (aw_VI (As := [zi v2, zi v3]) (st := []) d_X8_row_106 rfl cv8_211 ⟨Nat.le_of_ble_eq_true rfl, Nat.le_of_ble_eq_true rfl⟩ rfl rfl (Nat.le_of_ble_eq_true rfl) (Nat.le_of_ble_eq_true rfl) (s_X0_traderAt z44) (fun _ _ hq => aw_eqs hq
(aw_ri d_X8_row_109 rfl e45))))))))) (fun c46 => have e47 := e40.2.1 c46; (aw_aload_n d_X8_row_110 rfl rfl 1 rfl (by decide)
(aw_getR (k' := 0) (a := 0) (b := 0) (j := 0) d_X8_row_111 rfl fl8_47 rfl zj0 ⟨by decide, fun _ => by decide⟩
(aw_iload_n d_X8_row_114 rfl rfl 3 rfl
(aw_iload_n d_X8_row_115 rfl rfl 4 rfl
(have z48 := e47.1; have e49 := e47.2; (aw_VI (As := [zi v2, zi v3]) (st := []) d_X8_row_116 rfl cv8_214 ⟨Nat.le_of_ble_eq_true rfl, Nat.le_of_ble_eq_true rfl⟩ rfl rfl (Nat.le_of_ble_eq_true rfl) (Nat.le_of_ble_eq_true rfl) (s_X0_unitAt z48) (fun _ _ hq => aw_eqs hq
(aw_ri d_X8_row_119 rfl e49))))))))) (fun c50 => have e51 := e40.2.2 c50; (aw_iload_n d_X8_row_120 rfl rfl 3 rfl
(aw_if_eq d_X8_row_121 rfl rfl z20 (fun _ => (aw_aload_n d_X8_row_135 rfl rfl 1 rfl (by decide)
(aw_getR (k' := 0) (a := 0) (b := 0) (j := 0) d_X8_row_136 rfl fl8_47 rfl zj0 ⟨by decide, fun _ => by decide⟩
(aw_iload_n d_X8_row_139 rfl rfl 4 rfl
(have z53 := e51.1; have e54 := e51.2; (aw_VI (As := [zi v3]) (st := []) d_X8_row_140 rfl cv8_220 ⟨Nat.le_of_ble_eq_true rfl, Nat.le_of_ble_eq_true rfl⟩ rfl rfl (Nat.le_of_ble_eq_true rfl) (Nat.le_of_ble_eq_true rfl) (s_X0_bid z53) (fun _ _ hq => aw_eqs hq
(aw_ri d_X8_row_143 rfl e54)))))))) (fun c52 => absurd c22 (by omega)))))))) (fun c39 => have e41 := e37.2 c39; (aw_iconst d_X8_row_71 rfl
(aw_ri d_X8_row_72 rfl e41)))))))))) (fun c29 => have e31 := e27.2 c29; (aw_iload d_X8_row_53 rfl 5 rfl
(aw_if_ne d_X8_row_55 rfl rfl z7 (fun c55 => have e57 := e31.1 c55; (aw_iload_n d_X8_row_61 rfl rfl 4 rfl
(aw_if_lt d_X8_row_62 rfl rfl z26 (fun c59 => have e61 := e57.1 c59; (aw_iconst d_X8_row_71 rfl
(aw_ri d_X8_row_72 rfl e61))) (fun c60 => have e62 := e57.2 c60; (aw_iload_n d_X8_row_65 rfl rfl 4 rfl
(aw_iload d_X8_row_66 rfl 0 rfl
(have z63 := e62.1; have e64 := e62.2; aw_icmp_lt d_X8_row_68 rfl rfl z26 z63 (fun c65 => have e67 := e64.1 c65; (aw_iload d_X8_row_73 rfl 5 rfl
(aw_lookup2 d_X8_row_75 z7 rfl rfl rfl (fun c69 => have e70 := e67.1 c69; (aw_aload_n d_X8_row_100 rfl rfl 1 rfl (by decide)
(aw_getR (k' := 0) (a := 0) (b := 0) (j := 0) d_X8_row_101 rfl fl8_47 rfl zj0 ⟨by decide, fun _ => by decide⟩
(aw_iload_n d_X8_row_104 rfl rfl 3 rfl
(aw_iload_n d_X8_row_105 rfl rfl 4 rfl
(have z71 := e70.1; have e72 := e70.2; (aw_VI (As := [zi v2, zi v3]) (st := []) d_X8_row_106 rfl cv8_211 ⟨Nat.le_of_ble_eq_true rfl, Nat.le_of_ble_eq_true rfl⟩ rfl rfl (Nat.le_of_ble_eq_true rfl) (Nat.le_of_ble_eq_true rfl) (s_X0_traderAt z71) (fun _ _ hq => aw_eqs hq
(aw_ri d_X8_row_109 rfl e72))))))))) (fun c73 => have e74 := e67.2.1 c73; (aw_aload_n d_X8_row_110 rfl rfl 1 rfl (by decide)
(aw_getR (k' := 0) (a := 0) (b := 0) (j := 0) d_X8_row_111 rfl fl8_47 rfl zj0 ⟨by decide, fun _ => by decide⟩
(aw_iload_n d_X8_row_114 rfl rfl 3 rfl
(aw_iload_n d_X8_row_115 rfl rfl 4 rfl
(have z75 := e74.1; have e76 := e74.2; (aw_VI (As := [zi v2, zi v3]) (st := []) d_X8_row_116 rfl cv8_214 ⟨Nat.le_of_ble_eq_true rfl, Nat.le_of_ble_eq_true rfl⟩ rfl rfl (Nat.le_of_ble_eq_true rfl) (Nat.le_of_ble_eq_true rfl) (s_X0_unitAt z75) (fun _ _ hq => aw_eqs hq
(aw_ri d_X8_row_119 rfl e76))))))))) (fun c77 => have e78 := e67.2.2 c77; (aw_iload_n d_X8_row_120 rfl rfl 3 rfl
(aw_if_eq d_X8_row_121 rfl rfl z20 (fun _ => (aw_aload_n d_X8_row_135 rfl rfl 1 rfl (by decide)
(aw_getR (k' := 0) (a := 0) (b := 0) (j := 0) d_X8_row_136 rfl fl8_47 rfl zj0 ⟨by decide, fun _ => by decide⟩
(aw_iload_n d_X8_row_139 rfl rfl 4 rfl
(have z80 := e78.1; have e81 := e78.2; (aw_VI (As := [zi v3]) (st := []) d_X8_row_140 rfl cv8_220 ⟨Nat.le_of_ble_eq_true rfl, Nat.le_of_ble_eq_true rfl⟩ rfl rfl (Nat.le_of_ble_eq_true rfl) (Nat.le_of_ble_eq_true rfl) (s_X0_bid z80) (fun _ _ hq => aw_eqs hq
(aw_ri d_X8_row_143 rfl e81)))))))) (fun c79 => absurd c22 (by omega)))))))) (fun c66 => have e68 := e64.2 c66; (aw_iconst d_X8_row_71 rfl
(aw_ri d_X8_row_72 rfl e68)))))))))) (fun c56 => have e58 := e31.2 c56; (aw_iload d_X8_row_58 rfl 0 rfl
(aw_ri d_X8_row_60 rfl e58)))))))))))))) (fun c23 => have e25 := e21.2 c23; (aw_aload_n d_X8_row_29 rfl rfl 0 rfl (by decide)
(aw_getR (k' := 0) (a := 0) (b := 0) (j := 0) d_X8_row_30 rfl fl8_47 rfl zj0 ⟨by decide, fun _ => by decide⟩
(aw_getI (kc := 3) d_X8_row_33 rfl fl8_205 rfl rfl
(aw_goto d_X8_row_36 rfl
(aw_istore (lv' := [(5, zi (M17 0 0 3)), (0, zr 8 0), (1, zi v1), (2, zi v2), (3, zi v3), (4, zi v4)]) d_X8_row_46 rfl (by decide) rfl
(aw_iload_n d_X8_row_48 rfl rfl 4 rfl
(aw_iconst d_X8_row_49 rfl
(have z82 := e25.1; have e83 := e25.2; aw_icmp_ne d_X8_row_50 rfl rfl z82 (by decide) (fun c84 => have e86 := e83.1 c84; (aw_iload_n d_X8_row_61 rfl rfl 4 rfl
(aw_if_lt d_X8_row_62 rfl rfl z82 (fun c88 => have e90 := e86.1 c88; (aw_iconst d_X8_row_71 rfl
(aw_ri d_X8_row_72 rfl e90))) (fun c89 => have e91 := e86.2 c89; (aw_iload_n d_X8_row_65 rfl rfl 4 rfl
(aw_iload d_X8_row_66 rfl 0 rfl
(have z92 := e91.1; have e93 := e91.2; aw_icmp_lt d_X8_row_68 rfl rfl z82 z92 (fun c94 => have e96 := e93.1 c94; (aw_iload d_X8_row_73 rfl 5 rfl
(aw_lookup2 d_X8_row_75 z7 rfl rfl rfl (fun c98 => have e99 := e96.1 c98; (aw_aload_n d_X8_row_100 rfl rfl 1 rfl (by decide)
(aw_getR (k' := 0) (a := 0) (b := 0) (j := 0) d_X8_row_101 rfl fl8_47 rfl zj0 ⟨by decide, fun _ => by decide⟩
(aw_iload_n d_X8_row_104 rfl rfl 3 rfl
(aw_iload_n d_X8_row_105 rfl rfl 4 rfl
(have z100 := e99.1; have e101 := e99.2; (aw_VI (As := [zi v2, zi v3]) (st := []) d_X8_row_106 rfl cv8_211 ⟨Nat.le_of_ble_eq_true rfl, Nat.le_of_ble_eq_true rfl⟩ rfl rfl (Nat.le_of_ble_eq_true rfl) (Nat.le_of_ble_eq_true rfl) (s_X0_traderAt z100) (fun _ _ hq => aw_eqs hq
(aw_ri d_X8_row_109 rfl e101))))))))) (fun c102 => have e103 := e96.2.1 c102; (aw_aload_n d_X8_row_110 rfl rfl 1 rfl (by decide)
(aw_getR (k' := 0) (a := 0) (b := 0) (j := 0) d_X8_row_111 rfl fl8_47 rfl zj0 ⟨by decide, fun _ => by decide⟩
(aw_iload_n d_X8_row_114 rfl rfl 3 rfl
(aw_iload_n d_X8_row_115 rfl rfl 4 rfl
(have z104 := e103.1; have e105 := e103.2; (aw_VI (As := [zi v2, zi v3]) (st := []) d_X8_row_116 rfl cv8_214 ⟨Nat.le_of_ble_eq_true rfl, Nat.le_of_ble_eq_true rfl⟩ rfl rfl (Nat.le_of_ble_eq_true rfl) (Nat.le_of_ble_eq_true rfl) (s_X0_unitAt z104) (fun _ _ hq => aw_eqs hq
(aw_ri d_X8_row_119 rfl e105))))))))) (fun c106 => have e107 := e96.2.2 c106; (aw_iload_n d_X8_row_120 rfl rfl 3 rfl
(aw_if_eq d_X8_row_121 rfl rfl z20 (fun c108 => absurd c23 (by omega)) (fun _ => (aw_aload_n d_X8_row_124 rfl rfl 1 rfl (by decide)
(aw_getR (k' := 0) (a := 0) (b := 0) (j := 0) d_X8_row_125 rfl fl8_47 rfl zj0 ⟨by decide, fun _ => by decide⟩
(aw_iload_n d_X8_row_128 rfl rfl 4 rfl
(have z109 := e107.1; have e110 := e107.2; (aw_VI (As := [zi v3]) (st := []) d_X8_row_129 rfl cv8_217 ⟨Nat.le_of_ble_eq_true rfl, Nat.le_of_ble_eq_true rfl⟩ rfl rfl (Nat.le_of_ble_eq_true rfl) (Nat.le_of_ble_eq_true rfl) (s_X0_ask z109) (fun _ _ hq => aw_eqs hq
(aw_goto d_X8_row_132 rfl
(aw_ri d_X8_row_143 rfl e110))))))))))))))) (fun c95 => have e97 := e93.2 c95; (aw_iconst d_X8_row_71 rfl
(aw_ri d_X8_row_72 rfl e97)))))))))) (fun c85 => have e87 := e83.2 c85; (aw_iload d_X8_row_53 rfl 5 rfl
(aw_if_ne d_X8_row_55 rfl rfl z7 (fun c111 => have e113 := e87.1 c111; (aw_iload_n d_X8_row_61 rfl rfl 4 rfl
(aw_if_lt d_X8_row_62 rfl rfl z82 (fun c115 => have e117 := e113.1 c115; (aw_iconst d_X8_row_71 rfl
(aw_ri d_X8_row_72 rfl e117))) (fun c116 => have e118 := e113.2 c116; (aw_iload_n d_X8_row_65 rfl rfl 4 rfl
(aw_iload d_X8_row_66 rfl 0 rfl
(have z119 := e118.1; have e120 := e118.2; aw_icmp_lt d_X8_row_68 rfl rfl z82 z119 (fun c121 => have e123 := e120.1 c121; (aw_iload d_X8_row_73 rfl 5 rfl
(aw_lookup2 d_X8_row_75 z7 rfl rfl rfl (fun c125 => have e126 := e123.1 c125; (aw_aload_n d_X8_row_100 rfl rfl 1 rfl (by decide)
(aw_getR (k' := 0) (a := 0) (b := 0) (j := 0) d_X8_row_101 rfl fl8_47 rfl zj0 ⟨by decide, fun _ => by decide⟩
(aw_iload_n d_X8_row_104 rfl rfl 3 rfl
(aw_iload_n d_X8_row_105 rfl rfl 4 rfl
(have z127 := e126.1; have e128 := e126.2; (aw_VI (As := [zi v2, zi v3]) (st := []) d_X8_row_106 rfl cv8_211 ⟨Nat.le_of_ble_eq_true rfl, Nat.le_of_ble_eq_true rfl⟩ rfl rfl (Nat.le_of_ble_eq_true rfl) (Nat.le_of_ble_eq_true rfl) (s_X0_traderAt z127) (fun _ _ hq => aw_eqs hq
(aw_ri d_X8_row_109 rfl e128))))))))) (fun c129 => have e130 := e123.2.1 c129; (aw_aload_n d_X8_row_110 rfl rfl 1 rfl (by decide)
(aw_getR (k' := 0) (a := 0) (b := 0) (j := 0) d_X8_row_111 rfl fl8_47 rfl zj0 ⟨by decide, fun _ => by decide⟩
(aw_iload_n d_X8_row_114 rfl rfl 3 rfl
(aw_iload_n d_X8_row_115 rfl rfl 4 rfl
(have z131 := e130.1; have e132 := e130.2; (aw_VI (As := [zi v2, zi v3]) (st := []) d_X8_row_116 rfl cv8_214 ⟨Nat.le_of_ble_eq_true rfl, Nat.le_of_ble_eq_true rfl⟩ rfl rfl (Nat.le_of_ble_eq_true rfl) (Nat.le_of_ble_eq_true rfl) (s_X0_unitAt z131) (fun _ _ hq => aw_eqs hq
(aw_ri d_X8_row_119 rfl e132))))))))) (fun c133 => have e134 := e123.2.2 c133; (aw_iload_n d_X8_row_120 rfl rfl 3 rfl
(aw_if_eq d_X8_row_121 rfl rfl z20 (fun c135 => absurd c23 (by omega)) (fun _ => (aw_aload_n d_X8_row_124 rfl rfl 1 rfl (by decide)
(aw_getR (k' := 0) (a := 0) (b := 0) (j := 0) d_X8_row_125 rfl fl8_47 rfl zj0 ⟨by decide, fun _ => by decide⟩
(aw_iload_n d_X8_row_128 rfl rfl 4 rfl
(have z136 := e134.1; have e137 := e134.2; (aw_VI (As := [zi v3]) (st := []) d_X8_row_129 rfl cv8_217 ⟨Nat.le_of_ble_eq_true rfl, Nat.le_of_ble_eq_true rfl⟩ rfl rfl (Nat.le_of_ble_eq_true rfl) (Nat.le_of_ble_eq_true rfl) (s_X0_ask z136) (fun _ _ hq => aw_eqs hq
(aw_goto d_X8_row_132 rfl
(aw_ri d_X8_row_143 rfl e137))))))))))))))) (fun c122 => have e124 := e120.2 c122; (aw_iconst d_X8_row_71 rfl
(aw_ri d_X8_row_72 rfl e124)))))))))) (fun c112 => have e114 := e87.2 c112; (aw_iload d_X8_row_58 rfl 0 rfl
(aw_ri d_X8_row_60 rfl e114)))))))))))))))))))))) (fun c14 => have e16 := e12.2 c14; (aw_iconst d_X8_row_18 rfl
(aw_ri d_X8_row_19 rfl e16)))))))))))))))
theorem vX9_row {l : Launch} {P : Int → zM → Prop} {v1 : Int} {v2 : Int} {v3 : Int} {v4 : Int} {M : zM}
    (H0 : (zI v1 ∧ ((0 ≤ v1 ∧ v1 < 4 → (CV l m_X9_laysOf [zr 9 0, zi (zshl 1 v1)] M (fun M7 => (zI v2 ∧ (v2 = 0 → (zI v3 ∧ (v3 ≠ (-1) → (zI ((M7 9 0 11) - 1) ∧ ((zJ v3 ∧ zJ 0 ∧ zJ ((M7 9 0 11) - 1)) ∧ ((0 ≤ v3 ∧ v3 ≤ ((M7 9 0 11) - 1) → (zI v4 ∧ (v4 = 0 → ((0 ≤ v3 ∧ v3 < 80) ∧ P (M7 31 0 v3) M7)) ∧ (v4 = 1 → ((0 ≤ v3 ∧ v3 < 80) ∧ P (M7 32 0 v3) M7)) ∧ (v4 = 2 → ((0 ≤ v3 ∧ v3 < 80) ∧ P (M7 33 0 v3) M7)) ∧ ((v4 < 0 ∨ 2 < v4) → P (-1) M7))) ∧ (¬ (0 ≤ v3 ∧ v3 ≤ ((M7 9 0 11) - 1)) → P (-1) M7))))) ∧ (v3 = (-1) → (zI v4 ∧ (v4 ≠ 0 → (zI ((M7 9 0 11) - 1) ∧ ((zJ v3 ∧ zJ 0 ∧ zJ ((M7 9 0 11) - 1)) ∧ ((0 ≤ v3 ∧ v3 ≤ ((M7 9 0 11) - 1) → ((v4 = 0 → ((0 ≤ v3 ∧ v3 < 80) ∧ P (M7 31 0 v3) M7)) ∧ (v4 = 1 → ((0 ≤ v3 ∧ v3 < 80) ∧ P (M7 32 0 v3) M7)) ∧ (v4 = 2 → ((0 ≤ v3 ∧ v3 < 80) ∧ P (M7 33 0 v3) M7)) ∧ ((v4 < 0 ∨ 2 < v4) → P (-1) M7))) ∧ (¬ (0 ≤ v3 ∧ v3 ≤ ((M7 9 0 11) - 1)) → P (-1) M7))))) ∧ (v4 = 0 → P (M7 9 0 11) M7))))) ∧ (v2 ≠ 0 → (zI v3 ∧ (v3 ≠ (-1) → (zI ((M7 9 0 15) - 1) ∧ ((zJ v3 ∧ zJ 0 ∧ zJ ((M7 9 0 15) - 1)) ∧ ((0 ≤ v3 ∧ v3 ≤ ((M7 9 0 15) - 1) → (zI v4 ∧ (v4 = 0 → ((0 ≤ v3 ∧ v3 < 80) ∧ P (M7 34 0 v3) M7)) ∧ (v4 = 1 → ((0 ≤ v3 ∧ v3 < 80) ∧ P (M7 35 0 v3) M7)) ∧ (v4 = 2 → ((0 ≤ v3 ∧ v3 < 80) ∧ P (M7 36 0 v3) M7)) ∧ ((v4 < 0 ∨ 2 < v4) → P (-1) M7))) ∧ (¬ (0 ≤ v3 ∧ v3 ≤ ((M7 9 0 15) - 1)) → P (-1) M7))))) ∧ (v3 = (-1) → (zI v4 ∧ (v4 ≠ 0 → (zI ((M7 9 0 15) - 1) ∧ ((zJ v3 ∧ zJ 0 ∧ zJ ((M7 9 0 15) - 1)) ∧ ((0 ≤ v3 ∧ v3 ≤ ((M7 9 0 15) - 1) → ((v4 = 0 → ((0 ≤ v3 ∧ v3 < 80) ∧ P (M7 34 0 v3) M7)) ∧ (v4 = 1 → ((0 ≤ v3 ∧ v3 < 80) ∧ P (M7 35 0 v3) M7)) ∧ (v4 = 2 → ((0 ≤ v3 ∧ v3 < 80) ∧ P (M7 36 0 v3) M7)) ∧ ((v4 < 0 ∨ 2 < v4) → P (-1) M7))) ∧ (¬ (0 ≤ v3 ∧ v3 ≤ ((M7 9 0 15) - 1)) → P (-1) M7))))) ∧ (v4 = 0 → P (M7 9 0 15) M7))))))))) ∧ (¬ (0 ≤ v1 ∧ v1 < 4) → P (-1) M)))) :
    CI l m_X9_row [zr 9 0, zi v1, zi v2, zi v3, zi v4] M P :=
(aw_iload_n d_X9_row_0 rfl rfl 1 rfl
(have z1 := H0.1; have e2 := H0.2; (aw_SI (As := [zi v1]) (st := []) d_X9_row_1 rfl cs9_195 ⟨Nat.le_of_ble_eq_true rfl, Nat.le_of_ble_eq_true rfl⟩ rfl rfl (Nat.le_of_ble_eq_true rfl) (Nat.le_of_ble_eq_true rfl) (s_X9_isGrade z1) (fun _ _ hq => aw_eqs hq
(aw_if_ne d_X9_row_4 rfl rfl zb_I (fun c3 => have e5 := e2.1 (zb_n0 c3); (aw_aload_n d_X9_row_9 rfl rfl 0 rfl (by decide)
(aw_iconst d_X9_row_10 rfl
(aw_iload_n d_X9_row_11 rfl rfl 1 rfl
(aw_ishl d_X9_row_12 rfl zshl_h
(aw_VV (As := [zi (zshl 1 v1)]) (st := []) d_X9_row_13 rfl cv9_139 ⟨Nat.le_of_ble_eq_true rfl, Nat.le_of_ble_eq_true rfl⟩ rfl rfl (Nat.le_of_ble_eq_true rfl) (Nat.le_of_ble_eq_true rfl) e5 (fun M7 e8 => (aw_iload_n d_X9_row_16 rfl rfl 2 rfl
(have z10 := e8.1; have e11 := e8.2; aw_if_eq d_X9_row_17 rfl rfl z10 (fun c12 => have e14 := e11.1 c12; (aw_aload_n d_X9_row_27 rfl rfl 0 rfl (by decide)
(aw_getI (kc := 11) d_X9_row_28 rfl fl9_113 rfl rfl
(aw_istore (lv' := [(5, zi (M7 9 0 11)), (0, zr 9 0), (1, zi v1), (2, zi v2), (3, zi v3), (4, zi v4)]) d_X9_row_31 rfl (by decide) rfl
(aw_iload_n d_X9_row_33 rfl rfl 4 rfl
(aw_iconst d_X9_row_34 rfl
(have z16 := e14.1; have e17 := e14.2; aw_icmp_ne d_X9_row_35 rfl rfl z16 (by decide) (fun c18 => have e20 := e17.1 c18; (aw_iload_n d_X9_row_46 rfl rfl 4 rfl
(aw_i2l d_X9_row_47 rfl z16
(aw_lconst (x := 0) d_X9_row_48 rfl (by decide)
(aw_iload d_X9_row_49 rfl 0 rfl
(aw_iconst d_X9_row_51 rfl
(aw_isub d_X9_row_52 rfl
(have z22 := e20.1; have e23 := e20.2; (aw_i2l d_X9_row_53 rfl z22
(have z24 := e23.1; have e25 := e23.2; (aw_SI (As := [zl v3, zl 0, zl ((M7 9 0 11) - 1)]) (st := []) d_X9_row_54 rfl cs9_82 ⟨Nat.le_of_ble_eq_true rfl, Nat.le_of_ble_eq_true rfl⟩ rfl rfl (Nat.le_of_ble_eq_true rfl) (Nat.le_of_ble_eq_true rfl) (s_X9_in z24) (fun _ _ hq => aw_eqs hq
(aw_if_ne d_X9_row_57 rfl rfl zb_I (fun c26 => have e28 := e25.1 (zb_n0 c26); (aw_iload d_X9_row_62 rfl 5 rfl
(have z30 := e28.1; have e31 := e28.2; aw_table (offs := [28, 48, 68]) d_X9_row_64 rfl z30 rfl ⟨fun c32 => ⟨92, rfl, have e33 := e31.1 c32; (aw_iload_n d_X9_row_92 rfl rfl 3 rfl
(aw_if_eq d_X9_row_93 rfl rfl z10 (fun _ => (aw_aload_n d_X9_row_105 rfl rfl 1 rfl (by decide)
(aw_getR (k' := 31) (a := 0) (b := 0) (j := 0) d_X9_row_106 rfl fl9_23 rfl zj0 ⟨by decide, fun _ => by decide⟩
(aw_iload_n d_X9_row_109 rfl rfl 4 rfl
(have z35 := e33.1; have e36 := e33.2; (aw_iald d_X9_row_110 rfl za31 z35
(aw_ri d_X9_row_111 rfl e36))))))) (fun c34 => absurd c12 (by omega))))⟩, ⟨fun c37 => ⟨112, rfl, have e38 := e31.2.1 c37; (aw_iload_n d_X9_row_112 rfl rfl 3 rfl
(aw_if_eq d_X9_row_113 rfl rfl z10 (fun _ => (aw_aload_n d_X9_row_125 rfl rfl 1 rfl (by decide)
(aw_getR (k' := 32) (a := 0) (b := 0) (j := 0) d_X9_row_126 rfl fl9_26 rfl zj0 ⟨by decide, fun _ => by decide⟩
(aw_iload_n d_X9_row_129 rfl rfl 4 rfl
(have z40 := e38.1; have e41 := e38.2; (aw_iald d_X9_row_130 rfl za32 z40
(aw_ri d_X9_row_131 rfl e41))))))) (fun c39 => absurd c12 (by omega))))⟩, ⟨fun c42 => ⟨132, rfl, have e43 := e31.2.2.1 c42; (aw_iload_n d_X9_row_132 rfl rfl 3 rfl
(aw_if_eq d_X9_row_133 rfl rfl z10 (fun _ => (aw_aload_n d_X9_row_145 rfl rfl 1 rfl (by decide)
(aw_getR (k' := 33) (a := 0) (b := 0) (j := 0) d_X9_row_146 rfl fl9_29 rfl zj0 ⟨by decide, fun _ => by decide⟩
(aw_iload_n d_X9_row_149 rfl rfl 4 rfl
(have z45 := e43.1; have e46 := e43.2; (aw_iald d_X9_row_150 rfl za33 z45
(aw_ri d_X9_row_151 rfl e46))))))) (fun c44 => absurd c12 (by omega))))⟩, trivial⟩⟩⟩ (fun c47 => have e48 := e31.2.2.2 c47; (aw_iconst d_X9_row_152 rfl
(aw_ri d_X9_row_153 rfl e48)))))) (fun c27 => have e29 := e25.2 (zb_0 c27); (aw_iconst d_X9_row_60 rfl
(aw_ri d_X9_row_61 rfl e29)))))))))))))))) (fun c19 => have e21 := e17.2 c19; (aw_iload d_X9_row_38 rfl 5 rfl
(have z49 := e21.1; have e50 := e21.2; aw_if_ne d_X9_row_40 rfl rfl z49 (fun c51 => have e53 := e50.1 c51; (aw_iload_n d_X9_row_46 rfl rfl 4 rfl
(aw_i2l d_X9_row_47 rfl z16
(aw_lconst (x := 0) d_X9_row_48 rfl (by decide)
(aw_iload d_X9_row_49 rfl 0 rfl
(aw_iconst d_X9_row_51 rfl
(aw_isub d_X9_row_52 rfl
(have z55 := e53.1; have e56 := e53.2; (aw_i2l d_X9_row_53 rfl z55
(have z57 := e56.1; have e58 := e56.2; (aw_SI (As := [zl v3, zl 0, zl ((M7 9 0 11) - 1)]) (st := []) d_X9_row_54 rfl cs9_82 ⟨Nat.le_of_ble_eq_true rfl, Nat.le_of_ble_eq_true rfl⟩ rfl rfl (Nat.le_of_ble_eq_true rfl) (Nat.le_of_ble_eq_true rfl) (s_X9_in z57) (fun _ _ hq => aw_eqs hq
(aw_if_ne d_X9_row_57 rfl rfl zb_I (fun c59 => have e61 := e58.1 (zb_n0 c59); (aw_iload d_X9_row_62 rfl 5 rfl
(aw_table (offs := [28, 48, 68]) d_X9_row_64 rfl z49 rfl ⟨fun c63 => ⟨92, rfl, have e64 := e61.1 c63; (aw_iload_n d_X9_row_92 rfl rfl 3 rfl
(aw_if_eq d_X9_row_93 rfl rfl z10 (fun _ => (aw_aload_n d_X9_row_105 rfl rfl 1 rfl (by decide)
(aw_getR (k' := 31) (a := 0) (b := 0) (j := 0) d_X9_row_106 rfl fl9_23 rfl zj0 ⟨by decide, fun _ => by decide⟩
(aw_iload_n d_X9_row_109 rfl rfl 4 rfl
(have z66 := e64.1; have e67 := e64.2; (aw_iald d_X9_row_110 rfl za31 z66
(aw_ri d_X9_row_111 rfl e67))))))) (fun c65 => absurd c12 (by omega))))⟩, ⟨fun c68 => ⟨112, rfl, have e69 := e61.2.1 c68; (aw_iload_n d_X9_row_112 rfl rfl 3 rfl
(aw_if_eq d_X9_row_113 rfl rfl z10 (fun _ => (aw_aload_n d_X9_row_125 rfl rfl 1 rfl (by decide)
(aw_getR (k' := 32) (a := 0) (b := 0) (j := 0) d_X9_row_126 rfl fl9_26 rfl zj0 ⟨by decide, fun _ => by decide⟩
(aw_iload_n d_X9_row_129 rfl rfl 4 rfl
(have z71 := e69.1; have e72 := e69.2; (aw_iald d_X9_row_130 rfl za32 z71
(aw_ri d_X9_row_131 rfl e72))))))) (fun c70 => absurd c12 (by omega))))⟩, ⟨fun c73 => ⟨132, rfl, have e74 := e61.2.2.1 c73; (aw_iload_n d_X9_row_132 rfl rfl 3 rfl
(aw_if_eq d_X9_row_133 rfl rfl z10 (fun _ => (aw_aload_n d_X9_row_145 rfl rfl 1 rfl (by decide)
(aw_getR (k' := 33) (a := 0) (b := 0) (j := 0) d_X9_row_146 rfl fl9_29 rfl zj0 ⟨by decide, fun _ => by decide⟩
(aw_iload_n d_X9_row_149 rfl rfl 4 rfl
(have z76 := e74.1; have e77 := e74.2; (aw_iald d_X9_row_150 rfl za33 z76
(aw_ri d_X9_row_151 rfl e77))))))) (fun c75 => absurd c12 (by omega))))⟩, trivial⟩⟩⟩ (fun c78 => have e79 := e61.2.2.2 c78; (aw_iconst d_X9_row_152 rfl
(aw_ri d_X9_row_153 rfl e79)))))) (fun c60 => have e62 := e58.2 (zb_0 c60); (aw_iconst d_X9_row_60 rfl
(aw_ri d_X9_row_61 rfl e62)))))))))))))))) (fun c52 => have e54 := e50.2 c52; (aw_iload d_X9_row_43 rfl 0 rfl
(aw_ri d_X9_row_45 rfl e54))))))))))))) (fun c13 => have e15 := e11.2 c13; (aw_aload_n d_X9_row_20 rfl rfl 0 rfl (by decide)
(aw_getI (kc := 15) d_X9_row_21 rfl fl9_116 rfl rfl
(aw_goto d_X9_row_24 rfl
(aw_istore (lv' := [(5, zi (M7 9 0 15)), (0, zr 9 0), (1, zi v1), (2, zi v2), (3, zi v3), (4, zi v4)]) d_X9_row_31 rfl (by decide) rfl
(aw_iload_n d_X9_row_33 rfl rfl 4 rfl
(aw_iconst d_X9_row_34 rfl
(have z80 := e15.1; have e81 := e15.2; aw_icmp_ne d_X9_row_35 rfl rfl z80 (by decide) (fun c82 => have e84 := e81.1 c82; (aw_iload_n d_X9_row_46 rfl rfl 4 rfl
(aw_i2l d_X9_row_47 rfl z80
(aw_lconst (x := 0) d_X9_row_48 rfl (by decide)
(aw_iload d_X9_row_49 rfl 0 rfl
(aw_iconst d_X9_row_51 rfl
(aw_isub d_X9_row_52 rfl
(have z86 := e84.1; have e87 := e84.2; (aw_i2l d_X9_row_53 rfl z86
(have z88 := e87.1; have e89 := e87.2; (aw_SI (As := [zl v3, zl 0, zl ((M7 9 0 15) - 1)]) (st := []) d_X9_row_54 rfl cs9_82 ⟨Nat.le_of_ble_eq_true rfl, Nat.le_of_ble_eq_true rfl⟩ rfl rfl (Nat.le_of_ble_eq_true rfl) (Nat.le_of_ble_eq_true rfl) (s_X9_in z88) (fun _ _ hq => aw_eqs hq
(aw_if_ne d_X9_row_57 rfl rfl zb_I (fun c90 => have e92 := e89.1 (zb_n0 c90); (aw_iload d_X9_row_62 rfl 5 rfl
(have z94 := e92.1; have e95 := e92.2; aw_table (offs := [28, 48, 68]) d_X9_row_64 rfl z94 rfl ⟨fun c96 => ⟨92, rfl, have e97 := e95.1 c96; (aw_iload_n d_X9_row_92 rfl rfl 3 rfl
(aw_if_eq d_X9_row_93 rfl rfl z10 (fun c98 => absurd c13 (by omega)) (fun _ => (aw_aload_n d_X9_row_96 rfl rfl 1 rfl (by decide)
(aw_getR (k' := 34) (a := 0) (b := 0) (j := 0) d_X9_row_97 rfl fl9_32 rfl zj0 ⟨by decide, fun _ => by decide⟩
(aw_iload_n d_X9_row_100 rfl rfl 4 rfl
(have z99 := e97.1; have e100 := e97.2; (aw_iald d_X9_row_101 rfl za34 z99
(aw_goto d_X9_row_102 rfl
(aw_ri d_X9_row_111 rfl e100))))))))))⟩, ⟨fun c101 => ⟨112, rfl, have e102 := e95.2.1 c101; (aw_iload_n d_X9_row_112 rfl rfl 3 rfl
(aw_if_eq d_X9_row_113 rfl rfl z10 (fun c103 => absurd c13 (by omega)) (fun _ => (aw_aload_n d_X9_row_116 rfl rfl 1 rfl (by decide)
(aw_getR (k' := 35) (a := 0) (b := 0) (j := 0) d_X9_row_117 rfl fl9_35 rfl zj0 ⟨by decide, fun _ => by decide⟩
(aw_iload_n d_X9_row_120 rfl rfl 4 rfl
(have z104 := e102.1; have e105 := e102.2; (aw_iald d_X9_row_121 rfl za35 z104
(aw_goto d_X9_row_122 rfl
(aw_ri d_X9_row_131 rfl e105))))))))))⟩, ⟨fun c106 => ⟨132, rfl, have e107 := e95.2.2.1 c106; (aw_iload_n d_X9_row_132 rfl rfl 3 rfl
(aw_if_eq d_X9_row_133 rfl rfl z10 (fun c108 => absurd c13 (by omega)) (fun _ => (aw_aload_n d_X9_row_136 rfl rfl 1 rfl (by decide)
(aw_getR (k' := 36) (a := 0) (b := 0) (j := 0) d_X9_row_137 rfl fl9_38 rfl zj0 ⟨by decide, fun _ => by decide⟩
(aw_iload_n d_X9_row_140 rfl rfl 4 rfl
(have z109 := e107.1; have e110 := e107.2; (aw_iald d_X9_row_141 rfl za36 z109
(aw_goto d_X9_row_142 rfl
(aw_ri d_X9_row_151 rfl e110))))))))))⟩, trivial⟩⟩⟩ (fun c111 => have e112 := e95.2.2.2 c111; (aw_iconst d_X9_row_152 rfl
(aw_ri d_X9_row_153 rfl e112)))))) (fun c91 => have e93 := e89.2 (zb_0 c91); (aw_iconst d_X9_row_60 rfl
(aw_ri d_X9_row_61 rfl e93)))))))))))))))) (fun c83 => have e85 := e81.2 c83; (aw_iload d_X9_row_38 rfl 5 rfl
(have z113 := e85.1; have e114 := e85.2; aw_if_ne d_X9_row_40 rfl rfl z113 (fun c115 => have e117 := e114.1 c115; (aw_iload_n d_X9_row_46 rfl rfl 4 rfl
(aw_i2l d_X9_row_47 rfl z80
(aw_lconst (x := 0) d_X9_row_48 rfl (by decide)
(aw_iload d_X9_row_49 rfl 0 rfl
(aw_iconst d_X9_row_51 rfl
(aw_isub d_X9_row_52 rfl
(have z119 := e117.1; have e120 := e117.2; (aw_i2l d_X9_row_53 rfl z119
(have z121 := e120.1; have e122 := e120.2; (aw_SI (As := [zl v3, zl 0, zl ((M7 9 0 15) - 1)]) (st := []) d_X9_row_54 rfl cs9_82 ⟨Nat.le_of_ble_eq_true rfl, Nat.le_of_ble_eq_true rfl⟩ rfl rfl (Nat.le_of_ble_eq_true rfl) (Nat.le_of_ble_eq_true rfl) (s_X9_in z121) (fun _ _ hq => aw_eqs hq
(aw_if_ne d_X9_row_57 rfl rfl zb_I (fun c123 => have e125 := e122.1 (zb_n0 c123); (aw_iload d_X9_row_62 rfl 5 rfl
(aw_table (offs := [28, 48, 68]) d_X9_row_64 rfl z113 rfl ⟨fun c127 => ⟨92, rfl, have e128 := e125.1 c127; (aw_iload_n d_X9_row_92 rfl rfl 3 rfl
(aw_if_eq d_X9_row_93 rfl rfl z10 (fun c129 => absurd c13 (by omega)) (fun _ => (aw_aload_n d_X9_row_96 rfl rfl 1 rfl (by decide)
(aw_getR (k' := 34) (a := 0) (b := 0) (j := 0) d_X9_row_97 rfl fl9_32 rfl zj0 ⟨by decide, fun _ => by decide⟩
(aw_iload_n d_X9_row_100 rfl rfl 4 rfl
(have z130 := e128.1; have e131 := e128.2; (aw_iald d_X9_row_101 rfl za34 z130
(aw_goto d_X9_row_102 rfl
(aw_ri d_X9_row_111 rfl e131))))))))))⟩, ⟨fun c132 => ⟨112, rfl, have e133 := e125.2.1 c132; (aw_iload_n d_X9_row_112 rfl rfl 3 rfl
(aw_if_eq d_X9_row_113 rfl rfl z10 (fun c134 => absurd c13 (by omega)) (fun _ => (aw_aload_n d_X9_row_116 rfl rfl 1 rfl (by decide)
(aw_getR (k' := 35) (a := 0) (b := 0) (j := 0) d_X9_row_117 rfl fl9_35 rfl zj0 ⟨by decide, fun _ => by decide⟩
(aw_iload_n d_X9_row_120 rfl rfl 4 rfl
(have z135 := e133.1; have e136 := e133.2; (aw_iald d_X9_row_121 rfl za35 z135
(aw_goto d_X9_row_122 rfl
(aw_ri d_X9_row_131 rfl e136))))))))))⟩, ⟨fun c137 => ⟨132, rfl, have e138 := e125.2.2.1 c137; (aw_iload_n d_X9_row_132 rfl rfl 3 rfl
(aw_if_eq d_X9_row_133 rfl rfl z10 (fun c139 => absurd c13 (by omega)) (fun _ => (aw_aload_n d_X9_row_136 rfl rfl 1 rfl (by decide)
(aw_getR (k' := 36) (a := 0) (b := 0) (j := 0) d_X9_row_137 rfl fl9_38 rfl zj0 ⟨by decide, fun _ => by decide⟩
(aw_iload_n d_X9_row_140 rfl rfl 4 rfl
(have z140 := e138.1; have e141 := e138.2; (aw_iald d_X9_row_141 rfl za36 z140
(aw_goto d_X9_row_142 rfl
(aw_ri d_X9_row_151 rfl e141))))))))))⟩, trivial⟩⟩⟩ (fun c142 => have e143 := e125.2.2.2 c142; (aw_iconst d_X9_row_152 rfl
(aw_ri d_X9_row_153 rfl e143)))))) (fun c124 => have e126 := e122.2 (zb_0 c124); (aw_iconst d_X9_row_60 rfl
(aw_ri d_X9_row_61 rfl e126)))))))))))))))) (fun c116 => have e118 := e114.2 c116; (aw_iload d_X9_row_43 rfl 0 rfl
(aw_ri d_X9_row_45 rfl e118))))))))))))))))))))))) (fun c4 => have e6 := e2.2 (zb_0 c4); (aw_iconst d_X9_row_7 rfl
(aw_ri d_X9_row_8 rfl e6))))))))
theorem q8_row {g z k w : Int} (c : CX M S) (zg : zI g) (hz : z = 0 ∨ z = 1) (zk : zI k) (zw : zI w) : CI l m_X8_row [zr 8 0, zi g, zi z, zi k, zi w] M (fun x M' => x = aRow S g z k w ∧ Fr kScr M M') := by
  have gg : gd (qB S g) (qA S g) := gd_m c.2.1
  have hl := gg.1
  refine vX8_row ⟨zg, fun a => ⟨(aRow_n (.inl a)).symm, Fr.rf⟩, fun a => ⟨zw, fun a2 => ⟨(aRow_n (by omega)).symm, Fr.rf⟩, fun a2 => ⟨fun a3 => ?_, fun a3 => ⟨(aRow_n (by omega)).symm, Fr.rf⟩⟩⟩⟩
  refine (c_settleGrade c a).mono ?_
  rintro M1 ⟨f1, s1⟩
  have F := f1.scr
  have wk := s1.W gg c.2.2.2.1
  have e2 : M1 0 0 2 = (qB S g).length := s1.1.1
  have e3 : M1 0 0 3 = (qA S g).length := s1.1.2.1
  have tr := fun h => s1.trd (z := z) k h
  have un := s1.1.unt (z := z) (k := k)
  have bd := fun h => s1.bid (k := k) h
  have ak := fun h => s1.ask (k := k) h
  rw [e2, e3]
  rcases hz with rfl | rfl
  · rw [if_pos rfl] at tr
    rw [if_pos rfl] at tr
    rw [if_pos rfl] at un
    refine ⟨by omega, fun _ => ⟨zk, fun b => ⟨fun b2 => ⟨(aRow_o (by omega) (by rw [if_pos rfl]; omega)).symm, F⟩, fun b2 => ⟨by have := gg.1; omega, fun b3 => ?_, fun b3 => ⟨(aRow_o (by omega) (by rw [if_pos rfl]; omega)).symm, F⟩⟩⟩, fun b => ⟨fun b4 => ⟨fun b2 => ⟨(aRow_o (by omega) (by rw [if_pos rfl]; omega)).symm, F⟩, fun b2 => by omega⟩, fun b4 => ⟨by rw [aRow_m a b b4, if_pos rfl], F⟩⟩⟩, fun q => absurd rfl q⟩
    have hi := aRow_i (S := S) (z := 0) a ⟨a2, a3⟩ (k := k) (by rw [if_pos rfl]; exact ⟨b2, b3⟩)
    rw [hi, if_pos rfl, if_pos rfl]
    refine ⟨fun b4 => ⟨⟨wk, by omega, zk⟩, by rw [if_pos b4]; exact tr ⟨b2, b3⟩, F⟩, fun b4 => ⟨⟨wk, by omega, zk⟩, by rw [if_neg (by omega), if_pos b4, un, if_pos ⟨b2, b3⟩], F⟩, fun b4 => ⟨⟨wk, zk⟩, by rw [if_neg b4.1, if_neg b4.2]; exact bd ⟨b2, b3⟩, F⟩⟩
  · rw [if_neg (by decide)] at tr
    rw [if_neg (by decide)] at tr
    rw [if_neg (by decide)] at un
    refine ⟨by omega, fun q => by omega, fun _ => ⟨zk, fun b => ⟨fun b2 => ⟨(aRow_o (by omega) (by rw [if_neg (by decide)]; omega)).symm, F⟩, fun b2 => ⟨by have := gg.1; omega, fun b3 => ?_, fun b3 => ⟨(aRow_o (by omega) (by rw [if_neg (by decide)]; omega)).symm, F⟩⟩⟩, fun b => ⟨fun b4 => ⟨fun b2 => ⟨(aRow_o (by omega) (by rw [if_neg (by decide)]; omega)).symm, F⟩, fun b2 => by omega⟩, fun b4 => ⟨by rw [aRow_m a b b4, if_neg (by decide)], F⟩⟩⟩⟩
    have hi := aRow_i (S := S) (z := 1) a ⟨a2, a3⟩ (k := k) (by rw [if_neg (by decide)]; exact ⟨b2, b3⟩)
    rw [if_neg (show ¬ (1 : Int) = 0 by decide), if_neg (show ¬ (1 : Int) = 0 by decide)] at hi
    rw [hi]
    refine ⟨fun b4 => ⟨⟨wk, by omega, zk⟩, by rw [if_pos b4]; exact tr ⟨b2, b3⟩, F⟩, fun b4 => ⟨⟨wk, by omega, zk⟩, by rw [if_neg (by omega), if_pos b4, un, if_pos ⟨b2, b3⟩], F⟩, fun b4 => ⟨⟨wk, zk⟩, by rw [if_neg b4.1, if_neg b4.2]; exact ak ⟨b2, b3⟩, F⟩⟩
theorem q9_row {g z k w : Int} (h : MX M S) (zg : zI g) (hz : z = 0 ∨ z = 1) (zk : zI k) (zw : zI w) : CI l m_X9_row [zr 9 0, zi g, zi z, zi k, zi w] M (fun x M' => x = aRow S g z k w ∧ mQ M M') := by
  have ok := h.ok
  have gg : gd (qB S g) (qA S g) := gd_m ok.1
  have hl := gg.1
  refine vX9_row ⟨zg, fun a => ?_, fun a => ⟨(aRow_n (.inl a)).symm, mQ.rf h⟩⟩
  refine (m_laysOf h a).mono ?_
  rintro M1 ⟨F, h1⟩
  have gl := gg.1
  rw [h1.1.1, h1.2.1.1]
  have rb := h1.1.2 k
  have ra := h1.2.1.2 k
  rcases hz with rfl | rfl
  · have inn : ∀ (b : 0 ≤ k ∧ k ≤ ((qB S g).length : Int) - 1), zI w ∧ (w = 0 → ((0 ≤ k ∧ k < 80) ∧ (M1 31 0 k = aRow S g 0 k w ∧ mQ M M1))) ∧ (w = 1 → ((0 ≤ k ∧ k < 80) ∧ (M1 32 0 k = aRow S g 0 k w ∧ mQ M M1))) ∧ (w = 2 → ((0 ≤ k ∧ k < 80) ∧ (M1 33 0 k = aRow S g 0 k w ∧ mQ M M1))) ∧ ((w < 0 ∨ 2 < w) → (-1 = aRow S g 0 k w ∧ mQ M M1)) := by
      intro b
      have hi := fun hw => aRow_i (S := S) (z := 0) (w := w) a hw (k := k) (by rw [if_pos rfl]; omega)
      have r := rb (by omega)
      exact ⟨zw, fun e => ⟨by omega, by rw [hi (by omega), if_pos e, if_pos rfl]; exact r.2.1, F⟩, fun e => ⟨by omega, by rw [hi (by omega), if_neg (by omega), if_pos e, if_pos rfl]; exact r.2.2, F⟩, fun e => ⟨by omega, by rw [hi (by omega), if_neg (by omega), if_neg (by omega), if_pos rfl]; exact r.1, F⟩, fun e => ⟨(aRow_n (.inr e)).symm, F⟩⟩
    refine ⟨by omega, fun _ => ⟨zk, fun b => ⟨by omega, by omega, fun b2 => inn b2, fun b2 => ⟨(aRow_o (by omega) (by rw [if_pos rfl]; omega)).symm, F⟩⟩, fun b => ⟨zw, fun b2 => ⟨by omega, by omega, fun b3 => by omega, fun b3 => ⟨(aRow_o (by omega) (by rw [if_pos rfl]; omega)).symm, F⟩⟩, fun b2 => ⟨by rw [aRow_m a b b2, if_pos rfl], F⟩⟩⟩, fun q => absurd rfl q⟩
  · have inn : ∀ (b : 0 ≤ k ∧ k ≤ ((qA S g).length : Int) - 1), zI w ∧ (w = 0 → ((0 ≤ k ∧ k < 80) ∧ (M1 34 0 k = aRow S g 1 k w ∧ mQ M M1))) ∧ (w = 1 → ((0 ≤ k ∧ k < 80) ∧ (M1 35 0 k = aRow S g 1 k w ∧ mQ M M1))) ∧ (w = 2 → ((0 ≤ k ∧ k < 80) ∧ (M1 36 0 k = aRow S g 1 k w ∧ mQ M M1))) ∧ ((w < 0 ∨ 2 < w) → (-1 = aRow S g 1 k w ∧ mQ M M1)) := by
      intro b
      have hi := fun hw => aRow_i (S := S) (z := 1) (w := w) a hw (k := k) (by rw [if_neg (by decide)]; omega)
      rw [if_neg (show ¬ (1 : Int) = 0 by decide), if_neg (show ¬ (1 : Int) = 0 by decide)] at hi
      have r := ra (by omega)
      exact ⟨zw, fun e => ⟨by omega, by rw [hi (by omega), if_pos e]; exact r.2.1, F⟩, fun e => ⟨by omega, by rw [hi (by omega), if_neg (by omega), if_pos e]; exact r.2.2, F⟩, fun e => ⟨by omega, by rw [hi (by omega), if_neg (by omega), if_neg (by omega)]; exact r.1, F⟩, fun e => ⟨(aRow_n (.inr e)).symm, F⟩⟩
    refine ⟨by omega, fun q => by omega, fun _ => ⟨zk, fun b => ⟨by omega, by omega, fun b2 => inn b2, fun b2 => ⟨(aRow_o (by omega) (by rw [if_neg (by decide)]; omega)).symm, F⟩⟩, fun b => ⟨zw, fun b2 => ⟨by omega, by omega, fun b3 => by omega, fun b3 => ⟨(aRow_o (by omega) (by rw [if_neg (by decide)]; omega)).symm, F⟩⟩, fun b2 => ⟨by rw [aRow_m a b b2, if_neg (by decide)], F⟩⟩⟩⟩
/-! market, of a hall whose fee and law are f, w -/
noncomputable def aMkt (S : zS) (f w g k : Int) : Int :=
  if k = 0 then tT f (qB S g) (qA S g) else if k = 1 then tW f (qB S g) (qA S g) else if k = 2 then dN (qB S g) (qA S g) f w else
  if k = 3 then (if 0 < dN (qB S g) (qA S g) f w ∧ w ≠ 3 then dP (qB S g) (qA S g) f w else -2) else if k = 4 then (if 0 < dN (qB S g) (qA S g) f w ∧ w ≠ 3 then dG (qB S g) (qA S g) f w else -2) else
  if k = 5 then tkg (qB S g) (qA S g) f w else if k = 6 then tW f (qB S g) (qA S g) - dW (qB S g) (qA S g) f w else
  if k = 7 then (if 0 < tT f (qB S g) (qA S g) then gB (qB S g) (tT f (qB S g) (qA S g) - 1) else -2) else if k = 8 then (if 0 < tT f (qB S g) (qA S g) then gA f (qA S g) (tT f (qB S g) (qA S g) - 1) else -2) else -2147483648
theorem aMkt_n {f w g k : Int} (h : k < 0 ∨ 8 < k) : aMkt S f w g k = -2147483648 := by
  rw [aMkt, if_neg (by omega), if_neg (by omega), if_neg (by omega), if_neg (by omega), if_neg (by omega), if_neg (by omega), if_neg (by omega), if_neg (by omega), if_neg (by omega)]
noncomputable def aMarket (S : zS) (g k : Int) : Int := if 0 ≤ g ∧ g < 4 then aMkt S (qfee S) (qlaw S) g k else -2147483648
theorem vX8_market {l : Launch} {P : Int → zM → Prop} {v1 : Int} {v2 : Int} {M : zM}
    (H0 : (zI v1 ∧ ((0 ≤ v1 ∧ v1 < 4 → (CV l m_X8_settleGrade [zr 8 0, zi v1] M (fun M7 => (zI v2 ∧ (v2 = 0 → P (M7 0 0 6) M7) ∧ (v2 = 1 → P (M7 0 0 7) M7) ∧ (v2 = 2 → P (M7 0 0 8) M7) ∧ (v2 = 3 → ((zI (M7 0 0 8) ∧ zI (M7 0 0 5)) ∧ ((¬ (0 < M7 0 0 8 ∧ M7 0 0 5 ≠ 3) → P (-2) M7) ∧ (0 < M7 0 0 8 ∧ M7 0 0 5 ≠ 3 → P (M7 0 0 9) M7)))) ∧ (v2 = 4 → ((zI (M7 0 0 8) ∧ zI (M7 0 0 5)) ∧ ((¬ (0 < M7 0 0 8 ∧ M7 0 0 5 ≠ 3) → P (-2) M7) ∧ (0 < M7 0 0 8 ∧ M7 0 0 5 ≠ 3 → P (M7 0 0 10) M7)))) ∧ (v2 = 5 → (CI l m_X0_takings [zr 0 0] M7 (fun x39 M36 => P x39 M36))) ∧ (v2 = 6 → (CI l m_X0_lost [zr 0 0] M7 (fun x45 M42 => P x45 M42))) ∧ (v2 = 7 → (zI (M7 0 0 6) ∧ ((M7 0 0 6) ≤ 0 → P (-2) M7) ∧ (0 < (M7 0 0 6) → ((bkW M7 0 ∧ zI (M7 0 0 6 - 1)) ∧ P (rbid M7 0 (M7 0 0 6 - 1)) M7)))) ∧ (v2 = 8 → (zI (M7 0 0 6) ∧ ((M7 0 0 6) ≤ 0 → P (-2) M7) ∧ (0 < (M7 0 0 6) → ((bkW M7 0 ∧ zI (M7 0 0 6 - 1)) ∧ P (rask M7 0 (M7 0 0 6 - 1)) M7)))) ∧ ((v2 < 0 ∨ 8 < v2) → P (-2147483648) M7))))) ∧ (¬ (0 ≤ v1 ∧ v1 < 4) → P (-2147483648) M)))) :
    CI l m_X8_market [zr 8 0, zi v1, zi v2] M P :=
(aw_iload_n d_X8_market_0 rfl rfl 1 rfl
(have z1 := H0.1; have e2 := H0.2; (aw_SI (As := [zi v1]) (st := []) d_X8_market_1 rfl cs8_99 ⟨Nat.le_of_ble_eq_true rfl, Nat.le_of_ble_eq_true rfl⟩ rfl rfl (Nat.le_of_ble_eq_true rfl) (Nat.le_of_ble_eq_true rfl) (s_X8_isGrade z1) (fun _ _ hq => aw_eqs hq
(aw_if_ne d_X8_market_4 rfl rfl zb_I (fun c3 => have e5 := e2.1 (zb_n0 c3); (aw_aload_n d_X8_market_10 rfl rfl 0 rfl (by decide)
(aw_iload_n d_X8_market_11 rfl rfl 1 rfl
(aw_VV (As := [zi v1]) (st := []) d_X8_market_12 rfl cv8_154 ⟨Nat.le_of_ble_eq_true rfl, Nat.le_of_ble_eq_true rfl⟩ rfl rfl (Nat.le_of_ble_eq_true rfl) (Nat.le_of_ble_eq_true rfl) e5 (fun M7 e8 => (aw_iload_n d_X8_market_15 rfl rfl 2 rfl
(have z10 := e8.1; have e11 := e8.2; aw_table (offs := [52, 60, 68, 76, 99, 122, 130, 138, 161]) d_X8_market_16 rfl z10 rfl ⟨fun c12 => ⟨68, rfl, have e13 := e11.1 c12; (aw_aload_n d_X8_market_68 rfl rfl 0 rfl (by decide)
(aw_getR (k' := 0) (a := 0) (b := 0) (j := 0) d_X8_market_69 rfl fl8_47 rfl zj0 ⟨by decide, fun _ => by decide⟩
(aw_getI (kc := 6) d_X8_market_72 rfl fl8_223 rfl rfl
(aw_ri d_X8_market_75 rfl e13))))⟩, ⟨fun c14 => ⟨76, rfl, have e15 := e11.2.1 c14; (aw_aload_n d_X8_market_76 rfl rfl 0 rfl (by decide)
(aw_getR (k' := 0) (a := 0) (b := 0) (j := 0) d_X8_market_77 rfl fl8_47 rfl zj0 ⟨by decide, fun _ => by decide⟩
(aw_getI (kc := 7) d_X8_market_80 rfl fl8_226 rfl rfl
(aw_ri d_X8_market_83 rfl e15))))⟩, ⟨fun c16 => ⟨84, rfl, have e17 := e11.2.2.1 c16; (aw_aload_n d_X8_market_84 rfl rfl 0 rfl (by decide)
(aw_getR (k' := 0) (a := 0) (b := 0) (j := 0) d_X8_market_85 rfl fl8_47 rfl zj0 ⟨by decide, fun _ => by decide⟩
(aw_getI (kc := 8) d_X8_market_88 rfl fl8_157 rfl rfl
(aw_ri d_X8_market_91 rfl e17))))⟩, ⟨fun c18 => ⟨92, rfl, have e19 := e11.2.2.2.1 c18; (aw_aload_n d_X8_market_92 rfl rfl 0 rfl (by decide)
(aw_getR (k' := 0) (a := 0) (b := 0) (j := 0) d_X8_market_93 rfl fl8_47 rfl zj0 ⟨by decide, fun _ => by decide⟩
(have z20 := e19.1; have e21 := e19.2; (aw_VI (As := []) (st := []) d_X8_market_96 rfl cv8_229 ⟨Nat.le_of_ble_eq_true rfl, Nat.le_of_ble_eq_true rfl⟩ rfl rfl (Nat.le_of_ble_eq_true rfl) (Nat.le_of_ble_eq_true rfl) (s_X0_hasOnePrice z20) (fun _ _ hq => aw_eqs hq
(aw_if_eq d_X8_market_99 rfl rfl zb_I (fun c22 => have e24 := e21.1 (zb_0 c22); (aw_bipush d_X8_market_112 rfl (by decide)
(aw_ri d_X8_market_114 rfl e24))) (fun c23 => have e25 := e21.2 (zb_n0 c23); (aw_aload_n d_X8_market_102 rfl rfl 0 rfl (by decide)
(aw_getR (k' := 0) (a := 0) (b := 0) (j := 0) d_X8_market_103 rfl fl8_47 rfl zj0 ⟨by decide, fun _ => by decide⟩
(aw_getI (kc := 9) d_X8_market_106 rfl fl8_233 rfl rfl
(aw_goto d_X8_market_109 rfl
(aw_ri d_X8_market_114 rfl e25))))))))))))⟩, ⟨fun c26 => ⟨115, rfl, have e27 := e11.2.2.2.2.1 c26; (aw_aload_n d_X8_market_115 rfl rfl 0 rfl (by decide)
(aw_getR (k' := 0) (a := 0) (b := 0) (j := 0) d_X8_market_116 rfl fl8_47 rfl zj0 ⟨by decide, fun _ => by decide⟩
(have z28 := e27.1; have e29 := e27.2; (aw_VI (As := []) (st := []) d_X8_market_119 rfl cv8_229 ⟨Nat.le_of_ble_eq_true rfl, Nat.le_of_ble_eq_true rfl⟩ rfl rfl (Nat.le_of_ble_eq_true rfl) (Nat.le_of_ble_eq_true rfl) (s_X0_hasOnePrice z28) (fun _ _ hq => aw_eqs hq
(aw_if_eq d_X8_market_122 rfl rfl zb_I (fun c30 => have e32 := e29.1 (zb_0 c30); (aw_bipush d_X8_market_135 rfl (by decide)
(aw_ri d_X8_market_137 rfl e32))) (fun c31 => have e33 := e29.2 (zb_n0 c31); (aw_aload_n d_X8_market_125 rfl rfl 0 rfl (by decide)
(aw_getR (k' := 0) (a := 0) (b := 0) (j := 0) d_X8_market_126 rfl fl8_47 rfl zj0 ⟨by decide, fun _ => by decide⟩
(aw_getI (kc := 10) d_X8_market_129 rfl fl8_236 rfl rfl
(aw_goto d_X8_market_132 rfl
(aw_ri d_X8_market_137 rfl e33))))))))))))⟩, ⟨fun c34 => ⟨138, rfl, have e35 := e11.2.2.2.2.2.1 c34; (aw_aload_n d_X8_market_138 rfl rfl 0 rfl (by decide)
(aw_getR (k' := 0) (a := 0) (b := 0) (j := 0) d_X8_market_139 rfl fl8_47 rfl zj0 ⟨by decide, fun _ => by decide⟩
(aw_VI (As := []) (st := []) d_X8_market_142 rfl cv8_172 ⟨Nat.le_of_ble_eq_true rfl, Nat.le_of_ble_eq_true rfl⟩ rfl rfl (Nat.le_of_ble_eq_true rfl) (Nat.le_of_ble_eq_true rfl) e35 (fun x39 M36 e37 => (aw_ri d_X8_market_145 rfl e37)))))⟩, ⟨fun c40 => ⟨146, rfl, have e41 := e11.2.2.2.2.2.2.1 c40; (aw_aload_n d_X8_market_146 rfl rfl 0 rfl (by decide)
(aw_getR (k' := 0) (a := 0) (b := 0) (j := 0) d_X8_market_147 rfl fl8_47 rfl zj0 ⟨by decide, fun _ => by decide⟩
(aw_VI (As := []) (st := []) d_X8_market_150 rfl cv8_239 ⟨Nat.le_of_ble_eq_true rfl, Nat.le_of_ble_eq_true rfl⟩ rfl rfl (Nat.le_of_ble_eq_true rfl) (Nat.le_of_ble_eq_true rfl) e41 (fun x45 M42 e43 => (aw_ri d_X8_market_153 rfl e43)))))⟩, ⟨fun c46 => ⟨154, rfl, have e47 := e11.2.2.2.2.2.2.2.1 c46; (aw_aload_n d_X8_market_154 rfl rfl 0 rfl (by decide)
(aw_getR (k' := 0) (a := 0) (b := 0) (j := 0) d_X8_market_155 rfl fl8_47 rfl zj0 ⟨by decide, fun _ => by decide⟩
(aw_getI (kc := 6) d_X8_market_158 rfl fl8_223 rfl rfl
(have z48 := e47.1; have e49 := e47.2; aw_if_le d_X8_market_161 rfl rfl z48 (fun c50 => have e52 := e49.1 c50; (aw_bipush d_X8_market_174 rfl (by decide)
(aw_ri d_X8_market_176 rfl e52))) (fun c51 => have e53 := e49.2 c51; (aw_aload_n d_X8_market_164 rfl rfl 0 rfl (by decide)
(aw_getR (k' := 0) (a := 0) (b := 0) (j := 0) d_X8_market_165 rfl fl8_47 rfl zj0 ⟨by decide, fun _ => by decide⟩
(have z54 := e53.1; have e55 := e53.2; (aw_VI (As := []) (st := []) d_X8_market_168 rfl cv8_242 ⟨Nat.le_of_ble_eq_true rfl, Nat.le_of_ble_eq_true rfl⟩ rfl rfl (Nat.le_of_ble_eq_true rfl) (Nat.le_of_ble_eq_true rfl) (s_X0_lastBid z54) (fun _ _ hq => aw_eqs hq
(aw_goto d_X8_market_171 rfl
(aw_ri d_X8_market_176 rfl e55))))))))))))⟩, ⟨fun c56 => ⟨177, rfl, have e57 := e11.2.2.2.2.2.2.2.2.1 c56; (aw_aload_n d_X8_market_177 rfl rfl 0 rfl (by decide)
(aw_getR (k' := 0) (a := 0) (b := 0) (j := 0) d_X8_market_178 rfl fl8_47 rfl zj0 ⟨by decide, fun _ => by decide⟩
(aw_getI (kc := 6) d_X8_market_181 rfl fl8_223 rfl rfl
(have z58 := e57.1; have e59 := e57.2; aw_if_le d_X8_market_184 rfl rfl z58 (fun c60 => have e62 := e59.1 c60; (aw_bipush d_X8_market_197 rfl (by decide)
(aw_ri d_X8_market_199 rfl e62))) (fun c61 => have e63 := e59.2 c61; (aw_aload_n d_X8_market_187 rfl rfl 0 rfl (by decide)
(aw_getR (k' := 0) (a := 0) (b := 0) (j := 0) d_X8_market_188 rfl fl8_47 rfl zj0 ⟨by decide, fun _ => by decide⟩
(have z64 := e63.1; have e65 := e63.2; (aw_VI (As := []) (st := []) d_X8_market_191 rfl cv8_245 ⟨Nat.le_of_ble_eq_true rfl, Nat.le_of_ble_eq_true rfl⟩ rfl rfl (Nat.le_of_ble_eq_true rfl) (Nat.le_of_ble_eq_true rfl) (s_X0_lastAsk z64) (fun _ _ hq => aw_eqs hq
(aw_goto d_X8_market_194 rfl
(aw_ri d_X8_market_199 rfl e65))))))))))))⟩, trivial⟩⟩⟩⟩⟩⟩⟩⟩⟩ (fun c66 => have e67 := e11.2.2.2.2.2.2.2.2.2 c66; (aw_ldc d_X8_market_200 rfl ci8_195
(aw_ri d_X8_market_202 rfl e67)))))))))) (fun c4 => have e6 := e2.2 (zb_0 c4); (aw_ldc d_X8_market_7 rfl ci8_195
(aw_ri d_X8_market_9 rfl e6))))))))
theorem vX9_priceOr {l : Launch} {P : Int → zM → Prop} {v1 : Int} {M : zM}
    (H0 : (zI (M 9 0 18) ∧ ((M 9 0 18) = 0 → P (-2) M) ∧ ((M 9 0 18) ≠ 0 → (zI (M 27 0 182) ∧ ((M 27 0 182) ≠ 3 → P v1 M) ∧ ((M 27 0 182) = 3 → P (-2) M))))) :
    CI l m_X9_priceOr [zr 9 0, zi v1] M P :=
(aw_aload_n d_X9_priceOr_0 rfl rfl 0 rfl (by decide)
(aw_getI (kc := 18) d_X9_priceOr_1 rfl fl9_146 rfl rfl
(have z1 := H0.1; have e2 := H0.2; aw_if_eq d_X9_priceOr_4 rfl rfl z1 (fun c3 => have e5 := e2.1 c3; (aw_bipush d_X9_priceOr_19 rfl (by decide)
(aw_goto d_X9_priceOr_21 rfl
(aw_ri d_X9_priceOr_25 rfl e5)))) (fun c4 => have e6 := e2.2 c4; (aw_aload_n d_X9_priceOr_7 rfl rfl 0 rfl (by decide)
(aw_getR (k' := 27) (a := 0) (b := 0) (j := 0) d_X9_priceOr_8 rfl fl9_7 rfl zj0 ⟨by decide, fun _ => by decide⟩
(aw_sipush d_X9_priceOr_11 rfl (by decide)
(aw_iald d_X9_priceOr_14 rfl za27 (by decide)
(aw_iconst d_X9_priceOr_15 rfl
(have z7 := e6.1; have e8 := e6.2; aw_icmp_ne d_X9_priceOr_16 rfl rfl z7 (by decide) (fun c9 => have e11 := e8.1 c9; (aw_iload_n d_X9_priceOr_24 rfl rfl 1 rfl
(aw_ri d_X9_priceOr_25 rfl e11))) (fun c10 => have e12 := e8.2 c10; (aw_bipush d_X9_priceOr_19 rfl (by decide)
(aw_goto d_X9_priceOr_21 rfl
(aw_ri d_X9_priceOr_25 rfl e12))))))))))))))
theorem vX9_market {l : Launch} {P : Int → zM → Prop} {v1 : Int} {v2 : Int} {M : zM}
    (H0 : (zI v1 ∧ ((0 ≤ v1 ∧ v1 < 4 → (CV l m_X9_lays [zr 9 0, zi v1] M (fun M7 => (zI v2 ∧ (v2 = 0 → P (M7 9 0 16) M7) ∧ (v2 = 1 → P (M7 9 0 17) M7) ∧ (v2 = 2 → P (M7 9 0 18) M7) ∧ (v2 = 3 → (CI l m_X9_priceOr [zr 9 0, zi (M7 9 0 19)] M7 (fun x23 M20 => P x23 M20))) ∧ (v2 = 4 → (CI l m_X9_priceOr [zr 9 0, zi (M7 9 0 20)] M7 (fun x29 M26 => P x29 M26))) ∧ (v2 = 5 → (CI l m_X9_takingsBy [zr 9 0, zi v1, zi (M7 27 0 182)] M7 (fun x35 M32 => P x35 M32))) ∧ (v2 = 6 → (CI l m_X9_doneWorth [zr 9 0] M7 (fun x41 M38 => P ((M7 9 0 17) - x41) M38))) ∧ (v2 = 7 → (zI (M7 9 0 16) ∧ ((M7 9 0 16) ≠ 0 → ((0 ≤ ((M7 9 0 16) - 1) ∧ ((M7 9 0 16) - 1) < 80) ∧ P (M7 33 0 ((M7 9 0 16) - 1)) M7)) ∧ ((M7 9 0 16) = 0 → P (-2) M7))) ∧ (v2 = 8 → (zI (M7 9 0 16) ∧ ((M7 9 0 16) ≠ 0 → ((0 ≤ ((M7 9 0 16) - 1) ∧ ((M7 9 0 16) - 1) < 80) ∧ P (M7 36 0 ((M7 9 0 16) - 1)) M7)) ∧ ((M7 9 0 16) = 0 → P (-2) M7))) ∧ ((v2 < 0 ∨ 8 < v2) → P (-2147483648) M7))))) ∧ (¬ (0 ≤ v1 ∧ v1 < 4) → P (-2147483648) M)))) :
    CI l m_X9_market [zr 9 0, zi v1, zi v2] M P :=
(aw_iload_n d_X9_market_0 rfl rfl 1 rfl
(have z1 := H0.1; have e2 := H0.2; (aw_SI (As := [zi v1]) (st := []) d_X9_market_1 rfl cs9_195 ⟨Nat.le_of_ble_eq_true rfl, Nat.le_of_ble_eq_true rfl⟩ rfl rfl (Nat.le_of_ble_eq_true rfl) (Nat.le_of_ble_eq_true rfl) (s_X9_isGrade z1) (fun _ _ hq => aw_eqs hq
(aw_if_ne d_X9_market_4 rfl rfl zb_I (fun c3 => have e5 := e2.1 (zb_n0 c3); (aw_aload_n d_X9_market_10 rfl rfl 0 rfl (by decide)
(aw_iload_n d_X9_market_11 rfl rfl 1 rfl
(aw_VV (As := [zi v1]) (st := []) d_X9_market_12 rfl cv9_180 ⟨Nat.le_of_ble_eq_true rfl, Nat.le_of_ble_eq_true rfl⟩ rfl rfl (Nat.le_of_ble_eq_true rfl) (Nat.le_of_ble_eq_true rfl) e5 (fun M7 e8 => (aw_iload_n d_X9_market_15 rfl rfl 2 rfl
(have z10 := e8.1; have e11 := e8.2; aw_table (offs := [52, 57, 62, 67, 76, 85, 99, 109, 133]) d_X9_market_16 rfl z10 rfl ⟨fun c12 => ⟨68, rfl, have e13 := e11.1 c12; (aw_aload_n d_X9_market_68 rfl rfl 0 rfl (by decide)
(aw_getI (kc := 16) d_X9_market_69 rfl fl9_133 rfl rfl
(aw_ri d_X9_market_72 rfl e13)))⟩, ⟨fun c14 => ⟨73, rfl, have e15 := e11.2.1 c14; (aw_aload_n d_X9_market_73 rfl rfl 0 rfl (by decide)
(aw_getI (kc := 17) d_X9_market_74 rfl fl9_136 rfl rfl
(aw_ri d_X9_market_77 rfl e15)))⟩, ⟨fun c16 => ⟨78, rfl, have e17 := e11.2.2.1 c16; (aw_aload_n d_X9_market_78 rfl rfl 0 rfl (by decide)
(aw_getI (kc := 18) d_X9_market_79 rfl fl9_146 rfl rfl
(aw_ri d_X9_market_82 rfl e17)))⟩, ⟨fun c18 => ⟨83, rfl, have e19 := e11.2.2.2.1 c18; (aw_aload_n d_X9_market_83 rfl rfl 0 rfl (by decide)
(aw_aload_n d_X9_market_84 rfl rfl 0 rfl (by decide)
(aw_getI (kc := 19) d_X9_market_85 rfl fl9_149 rfl rfl
(aw_VI (As := [zi (M7 9 0 19)]) (st := []) d_X9_market_88 rfl cv9_198 ⟨Nat.le_of_ble_eq_true rfl, Nat.le_of_ble_eq_true rfl⟩ rfl rfl (Nat.le_of_ble_eq_true rfl) (Nat.le_of_ble_eq_true rfl) e19 (fun x23 M20 e21 => (aw_ri d_X9_market_91 rfl e21))))))⟩, ⟨fun c24 => ⟨92, rfl, have e25 := e11.2.2.2.2.1 c24; (aw_aload_n d_X9_market_92 rfl rfl 0 rfl (by decide)
(aw_aload_n d_X9_market_93 rfl rfl 0 rfl (by decide)
(aw_getI (kc := 20) d_X9_market_94 rfl fl9_152 rfl rfl
(aw_VI (As := [zi (M7 9 0 20)]) (st := []) d_X9_market_97 rfl cv9_198 ⟨Nat.le_of_ble_eq_true rfl, Nat.le_of_ble_eq_true rfl⟩ rfl rfl (Nat.le_of_ble_eq_true rfl) (Nat.le_of_ble_eq_true rfl) e25 (fun x29 M26 e27 => (aw_ri d_X9_market_100 rfl e27))))))⟩, ⟨fun c30 => ⟨101, rfl, have e31 := e11.2.2.2.2.2.1 c30; (aw_aload_n d_X9_market_101 rfl rfl 0 rfl (by decide)
(aw_iload_n d_X9_market_102 rfl rfl 1 rfl
(aw_aload_n d_X9_market_103 rfl rfl 0 rfl (by decide)
(aw_getR (k' := 27) (a := 0) (b := 0) (j := 0) d_X9_market_104 rfl fl9_7 rfl zj0 ⟨by decide, fun _ => by decide⟩
(aw_sipush d_X9_market_107 rfl (by decide)
(aw_iald d_X9_market_110 rfl za27 (by decide)
(aw_VI (As := [zi v1, zi (M7 27 0 182)]) (st := []) d_X9_market_111 rfl cv9_186 ⟨Nat.le_of_ble_eq_true rfl, Nat.le_of_ble_eq_true rfl⟩ rfl rfl (Nat.le_of_ble_eq_true rfl) (Nat.le_of_ble_eq_true rfl) e31 (fun x35 M32 e33 => (aw_ri d_X9_market_114 rfl e33)))))))))⟩, ⟨fun c36 => ⟨115, rfl, have e37 := e11.2.2.2.2.2.2.1 c36; (aw_aload_n d_X9_market_115 rfl rfl 0 rfl (by decide)
(aw_getI (kc := 17) d_X9_market_116 rfl fl9_136 rfl rfl
(aw_aload_n d_X9_market_119 rfl rfl 0 rfl (by decide)
(aw_VI (As := []) (st := [zi (M7 9 0 17)]) d_X9_market_120 rfl cv9_201 ⟨Nat.le_of_ble_eq_true rfl, Nat.le_of_ble_eq_true rfl⟩ rfl rfl (Nat.le_of_ble_eq_true rfl) (Nat.le_of_ble_eq_true rfl) e37 (fun x41 M38 e39 => (aw_isub d_X9_market_123 rfl
(aw_ri d_X9_market_124 rfl e39)))))))⟩, ⟨fun c42 => ⟨125, rfl, have e43 := e11.2.2.2.2.2.2.2.1 c42; (aw_aload_n d_X9_market_125 rfl rfl 0 rfl (by decide)
(aw_getI (kc := 16) d_X9_market_126 rfl fl9_133 rfl rfl
(have z44 := e43.1; have e45 := e43.2; aw_if_ne d_X9_market_129 rfl rfl z44 (fun c46 => have e48 := e45.1 c46; (aw_aload_n d_X9_market_137 rfl rfl 0 rfl (by decide)
(aw_getR (k' := 33) (a := 0) (b := 0) (j := 0) d_X9_market_138 rfl fl9_29 rfl zj0 ⟨by decide, fun _ => by decide⟩
(aw_aload_n d_X9_market_141 rfl rfl 0 rfl (by decide)
(aw_getI (kc := 16) d_X9_market_142 rfl fl9_133 rfl rfl
(aw_iconst d_X9_market_145 rfl
(aw_isub d_X9_market_146 rfl
(have z50 := e48.1; have e51 := e48.2; (aw_iald d_X9_market_147 rfl za33 z50
(aw_ri d_X9_market_148 rfl e51)))))))))) (fun c47 => have e49 := e45.2 c47; (aw_bipush d_X9_market_132 rfl (by decide)
(aw_goto d_X9_market_134 rfl
(aw_ri d_X9_market_148 rfl e49)))))))⟩, ⟨fun c52 => ⟨149, rfl, have e53 := e11.2.2.2.2.2.2.2.2.1 c52; (aw_aload_n d_X9_market_149 rfl rfl 0 rfl (by decide)
(aw_getI (kc := 16) d_X9_market_150 rfl fl9_133 rfl rfl
(have z54 := e53.1; have e55 := e53.2; aw_if_ne d_X9_market_153 rfl rfl z54 (fun c56 => have e58 := e55.1 c56; (aw_aload_n d_X9_market_161 rfl rfl 0 rfl (by decide)
(aw_getR (k' := 36) (a := 0) (b := 0) (j := 0) d_X9_market_162 rfl fl9_38 rfl zj0 ⟨by decide, fun _ => by decide⟩
(aw_aload_n d_X9_market_165 rfl rfl 0 rfl (by decide)
(aw_getI (kc := 16) d_X9_market_166 rfl fl9_133 rfl rfl
(aw_iconst d_X9_market_169 rfl
(aw_isub d_X9_market_170 rfl
(have z60 := e58.1; have e61 := e58.2; (aw_iald d_X9_market_171 rfl za36 z60
(aw_ri d_X9_market_172 rfl e61)))))))))) (fun c57 => have e59 := e55.2 c57; (aw_bipush d_X9_market_156 rfl (by decide)
(aw_goto d_X9_market_158 rfl
(aw_ri d_X9_market_172 rfl e59)))))))⟩, trivial⟩⟩⟩⟩⟩⟩⟩⟩⟩ (fun c62 => have e63 := e11.2.2.2.2.2.2.2.2.2 c62; (aw_ldc d_X9_market_173 rfl ci9_192
(aw_ri d_X9_market_175 rfl e63)))))))))) (fun c4 => have e6 := e2.2 (zb_0 c4); (aw_ldc d_X9_market_7 rfl ci9_192
(aw_ri d_X9_market_9 rfl e6))))))))
theorem q8_market {g k : Int} (c : CX M S) (zg : zI g) (zk : zI k) : CI l m_X8_market [zr 8 0, zi g, zi k] M (fun x M' => x = aMarket S g k ∧ Fr kScr M M') := by
  have gg : gd (qB S g) (qA S g) := gd_m c.2.1
  have hl := gg.1
  have hf := c.2.2.2.1
  refine vX8_market ⟨zg, fun a => ?_, fun a => ⟨by rw [aMarket, if_neg a], Fr.rf⟩⟩
  rw [aMarket, if_pos a]
  refine (c_settleGrade c a).mono ?_
  rintro M1 ⟨f1, s1⟩
  have F := f1.scr
  have wk := s1.W gg hf
  have hb := tT_b (f := qfee S) (B := qB S g) (A := qA S g)
  have hd := dN_b (B := qB S g) (A := qA S g) (f := qfee S) (w := qlaw S)
  have hl : (qB S g).length ≤ 80 ∧ (qA S g).length ≤ 80 := gg.1
  obtain ⟨e4, e5, e6, e7, e8⟩ := s1.2.1
  have hw := c.2.2.2.2
  have hp := s1.2.2
  rw [e5, e6, e7, e8]
  refine ⟨zk, fun e => ⟨?_, F⟩, fun e => ⟨?_, F⟩, fun e => ⟨?_, F⟩, fun e => ⟨⟨by omega, by omega⟩, fun q => ⟨?_, F⟩, fun q => ⟨?_, F⟩⟩, fun e => ⟨⟨by omega, by omega⟩, fun q => ⟨?_, F⟩, fun q => ⟨?_, F⟩⟩, fun e => ?_, fun e => ?_, fun e => ⟨by omega, fun q => ⟨?_, F⟩, fun q => ⟨⟨wk, by omega⟩, ?_, F⟩⟩, fun e => ⟨by omega, fun q => ⟨?_, F⟩, fun q => ⟨⟨wk, by omega⟩, ?_, F⟩⟩, fun e => ⟨?_, F⟩⟩
  · subst e; rfl
  · subst e; rfl
  · subst e; rfl
  · subst e; exact (if_neg q).symm
  · subst e; rw [(hp (by omega) q.2).1]; exact (if_pos q).symm
  · subst e; exact (if_neg q).symm
  · subst e; rw [(hp (by omega) q.2).2]; exact (if_pos q).symm
  · subst e; exact (c_X0_takings c.2.1 hf hw s1).eq ⟨rfl, F⟩
  · subst e; exact (c_X0_lost gg hf s1).eq ⟨rfl, F⟩
  · subst e; exact (if_neg (by omega)).symm
  · subst e; rw [s1.bid (by omega)]; exact (if_pos q).symm
  · subst e; exact (if_neg (by omega)).symm
  · subst e; rw [s1.ask (by omega)]; exact (if_pos q).symm
  · exact (aMkt_n e).symm
theorem c_X9_priceOr {p d w : Int} (e18 : M 9 0 18 = d) (e : M 27 0 182 = w) (hd : 0 ≤ d ∧ d ≤ 80) (hw : 0 ≤ w ∧ w ≤ 3) : CI l m_X9_priceOr [zr 9 0, zi p] M (fun x M' => x = (if 0 < d ∧ w ≠ 3 then p else -2) ∧ M' = M) := by
  refine vX9_priceOr ?_
  rw [e18, e]
  exact ⟨by omega, fun q => ⟨by rw [if_neg (by omega)], rfl⟩, fun q => ⟨by omega, fun q2 => ⟨by rw [if_pos ⟨by omega, q2⟩], rfl⟩, fun q2 => ⟨by rw [if_neg (fun a => a.2 q2)], rfl⟩⟩⟩
theorem m_market {g k : Int} (h : MX M S) (zg : zI g) (zk : zI k) : CI l m_X9_market [zr 9 0, zi g, zi k] M (fun x M' => x = aMarket S g k ∧ mQ M M') := by
  have ok := h.ok
  have gg : gd (qB S g) (qA S g) := gd_m ok.1
  have hl := gg.1
  have hf := ok.2.2.1
  have hw := ok.2.2.2
  refine vX9_market ⟨zg, fun a => ?_, fun a => ⟨by rw [aMarket, if_neg a], mQ.rf h⟩⟩
  rw [aMarket, if_pos a]
  refine (m_lays h a).mono ?_
  rintro M1 ⟨F, h1, d1⟩
  have hx := h.q F
  have hb := tT_b (f := qfee S) (B := qB S g) (A := qA S g)
  have hd := dN_b (B := qB S g) (A := qA S g) (f := qfee S) (w := qlaw S)
  have hl : (qB S g).length ≤ 80 ∧ (qA S g).length ≤ 80 := gg.1
  have e16 := h1.2.2.1
  have e17 := h1.2.2.2
  have e18 := d1.1
  have por : ∀ p : Int, (0 < dN (qB S g) (qA S g) (qfee S) (qlaw S) ∧ qlaw S ≠ 3 → p = 0 ∨ True) → True := fun _ _ => trivial
  rw [e16, e17, e18, hx.law]
  refine ⟨zk, fun e => ⟨?_, F⟩, fun e => ⟨?_, F⟩, fun e => ⟨?_, F⟩, fun e => ?_, fun e => ?_, fun e => ?_, fun e => ?_, fun e => ⟨by omega, fun q => ⟨by omega, ?_, F⟩, fun q => ⟨?_, F⟩⟩, fun e => ⟨by omega, fun q => ⟨by omega, ?_, F⟩, fun q => ⟨?_, F⟩⟩, fun e => ⟨?_, F⟩⟩
  · subst e; rfl
  · subst e; rfl
  · subst e; rfl
  · subst e
    refine (c_X9_priceOr e18 hx.law (by omega) hw).eq ⟨?_, F⟩
    show _ = (if 0 < dN (qB S g) (qA S g) (qfee S) (qlaw S) ∧ qlaw S ≠ 3 then dP (qB S g) (qA S g) (qfee S) (qlaw S) else -2)
    by_cases q : 0 < dN (qB S g) (qA S g) (qfee S) (qlaw S) ∧ qlaw S ≠ 3
    · rw [if_pos q, if_pos q, (d1.2.1 (by omega)).1]
    · rw [if_neg q, if_neg q]
  · subst e
    refine (c_X9_priceOr e18 hx.law (by omega) hw).eq ⟨?_, F⟩
    show _ = (if 0 < dN (qB S g) (qA S g) (qfee S) (qlaw S) ∧ qlaw S ≠ 3 then dG (qB S g) (qA S g) (qfee S) (qlaw S) else -2)
    by_cases q : 0 < dN (qB S g) (qA S g) (qfee S) (qlaw S) ∧ qlaw S ≠ 3
    · rw [if_pos q, if_pos q, (d1.2.1 (by omega)).2]
    · rw [if_neg q, if_neg q]
  · subst e
    rw [← hx.B, ← hx.A, ← hx.1.2] at h1 d1
    refine (c_X9_takingsBy hx.1.1 a hw h1 (by rw [hx.1.2] at d1 ⊢; exact d1)).mono ?_
    rintro x M2 ⟨rfl, f2, -, -⟩
    rw [hx.B, hx.A, hx.1.2]
    exact ⟨rfl, F.tr (mFs.q hx f2.s)⟩
  · subst e; exact (c_X9_doneWorth h1 gg d1).eq ⟨rfl, F⟩
  · subst e; rw [(h1.1.2 _ (by omega)).1]; exact (if_pos (by omega)).symm
  · subst e; exact (if_neg (by omega)).symm
  · subst e; rw [(h1.2.1.2 _ (by omega)).1]; exact (if_pos (by omega)).symm
  · subst e; exact (if_neg (by omega)).symm
  · exact (aMkt_n e).symm
/-! deal, missed -/
noncomputable def aDeal (S : zS) (t k : Int) : Int := if (0 ≤ t ∧ t < qn S) ∧ (k = 0 ∨ k = 1) then (if k = 0 then mny (qB S (qgr S t)) (qA S (qgr S t)) (qfee S) (qlaw S) (zb (qsl S t = 1)) t else sGn S (qgr S t) t) else -2147483648
noncomputable def aMissed (S : zS) (t : Int) : Int := if 0 ≤ t ∧ t < qn S then tW (qfee S) (qB S (qgr S t)) (qA S (qgr S t)) - mWo (qB S (qgr S t)) (qA S (qgr S t)) (qfee S) t else -1
theorem vX8_deal {l : Launch} {P : Int → zM → Prop} {v1 : Int} {v2 : Int} {M : zM}
    (H0 : ((hW M 0 ∧ zI v1) ∧ ((¬ (0 ≤ v1 ∧ v1 < M 1 0 6) → P (-2147483648) M) ∧ (0 ≤ v1 ∧ v1 < M 1 0 6 → (zI v2 ∧ ((v2 = 0 ∨ v2 = 1 → ((hW M 0 ∧ 0 ≤ v1 ∧ v1 < M 1 0 6) ∧ (CV l m_X8_settleGrade [zr 8 0, zi (qgr (hS M 0) v1)] M (fun M15 => ((hW M15 0 ∧ zI v1) ∧ (zI v2 ∧ (v2 ≠ 0 → (CI l m_X0_gainOf [zr 0 0, zr 1 0, zi v1] M15 (fun x29 M26 => P x29 M26))) ∧ (v2 = 0 → (CI l m_X0_moneyOf [zr 0 0, zi (zb (qsl (hS M15 0) v1 = 1)), zi v1] M15 (fun x33 M30 => P x33 M30))))))))) ∧ (¬ (v2 = 0 ∨ v2 = 1) → P (-2147483648) M))))))) :
    CI l m_X8_deal [zr 8 0, zi v1, zi v2] M P :=
(aw_aload_n d_X8_deal_0 rfl rfl 0 rfl (by decide)
(aw_getR (k' := 1) (a := 0) (b := 0) (j := 0) d_X8_deal_1 rfl fl8_12 rfl zj0 ⟨by decide, fun _ => by decide⟩
(aw_iload_n d_X8_deal_4 rfl rfl 1 rfl
(have z1 := H0.1; have e2 := H0.2; (aw_VI (As := [zi v1]) (st := []) d_X8_deal_5 rfl cv8_110 ⟨Nat.le_of_ble_eq_true rfl, Nat.le_of_ble_eq_true rfl⟩ rfl rfl (Nat.le_of_ble_eq_true rfl) (Nat.le_of_ble_eq_true rfl) (s_X1_has z1) (fun _ _ hq => aw_eqs hq
(aw_if_eq d_X8_deal_8 rfl rfl zb_I (fun c3 => have e5 := e2.1 (zb_0 c3); (aw_ldc d_X8_deal_18 rfl ci8_195
(aw_ri d_X8_deal_20 rfl e5))) (fun c4 => have e6 := e2.2 (zb_n0 c4); (aw_iload_n d_X8_deal_11 rfl rfl 2 rfl
(have z7 := e6.1; have e8 := e6.2; (aw_SI (As := [zi v2]) (st := []) d_X8_deal_12 rfl cs8_248 ⟨Nat.le_of_ble_eq_true rfl, Nat.le_of_ble_eq_true rfl⟩ rfl rfl (Nat.le_of_ble_eq_true rfl) (Nat.le_of_ble_eq_true rfl) (s_X8_isZeroOrOne z7) (fun _ _ hq => aw_eqs hq
(aw_if_ne d_X8_deal_15 rfl rfl zb_I (fun c9 => have e11 := e8.1 (zb_n0 c9); (aw_aload_n d_X8_deal_21 rfl rfl 0 rfl (by decide)
(aw_aload_n d_X8_deal_22 rfl rfl 0 rfl (by decide)
(aw_getR (k' := 1) (a := 0) (b := 0) (j := 0) d_X8_deal_23 rfl fl8_12 rfl zj0 ⟨by decide, fun _ => by decide⟩
(aw_iload_n d_X8_deal_26 rfl rfl 1 rfl
(have z13 := e11.1; have e14 := e11.2; (aw_VI (As := [zi v1]) (st := [zr 8 0]) d_X8_deal_27 rfl cv8_196 ⟨Nat.le_of_ble_eq_true rfl, Nat.le_of_ble_eq_true rfl⟩ rfl rfl (Nat.le_of_ble_eq_true rfl) (Nat.le_of_ble_eq_true rfl) (s_X1_gradeOf z13) (fun _ _ hq => aw_eqs hq
(aw_VV (As := [zi (qgr (hS M 0) v1)]) (st := []) d_X8_deal_30 rfl cv8_154 ⟨Nat.le_of_ble_eq_true rfl, Nat.le_of_ble_eq_true rfl⟩ rfl rfl (Nat.le_of_ble_eq_true rfl) (Nat.le_of_ble_eq_true rfl) e14 (fun M15 e16 => (aw_aload_n d_X8_deal_33 rfl rfl 0 rfl (by decide)
(aw_getR (k' := 1) (a := 0) (b := 0) (j := 0) d_X8_deal_34 rfl fl8_12 rfl zj0 ⟨by decide, fun _ => by decide⟩
(aw_iload_n d_X8_deal_37 rfl rfl 1 rfl
(have z18 := e16.1; have e19 := e16.2; (aw_VI (As := [zi v1]) (st := []) d_X8_deal_38 rfl cv8_160 ⟨Nat.le_of_ble_eq_true rfl, Nat.le_of_ble_eq_true rfl⟩ rfl rfl (Nat.le_of_ble_eq_true rfl) (Nat.le_of_ble_eq_true rfl) (s_X1_isSeller z18) (fun _ _ hq => aw_eqs hq
(aw_istore_n (lv' := [(3, zi (zb (qsl (hS M15 0) v1 = 1))), (0, zr 8 0), (1, zi v1), (2, zi v2)]) d_X8_deal_41 rfl rfl (by decide) rfl
(aw_iload_n d_X8_deal_42 rfl rfl 3 rfl
(have z20 := e19.1; have e21 := e19.2; aw_if_ne d_X8_deal_43 rfl rfl z20 (fun c22 => have e24 := e21.1 c22; (aw_aload_n d_X8_deal_58 rfl rfl 1 rfl (by decide)
(aw_getR (k' := 0) (a := 0) (b := 0) (j := 0) d_X8_deal_59 rfl fl8_47 rfl zj0 ⟨by decide, fun _ => by decide⟩
(aw_aload_n d_X8_deal_62 rfl rfl 1 rfl (by decide)
(aw_getR (k' := 1) (a := 0) (b := 0) (j := 0) d_X8_deal_63 rfl fl8_12 rfl zj0 ⟨by decide, fun _ => by decide⟩
(aw_iload_n d_X8_deal_66 rfl rfl 2 rfl
(aw_VI (As := [zr 1 0, zi v1]) (st := []) d_X8_deal_67 rfl cv8_251 ⟨Nat.le_of_ble_eq_true rfl, Nat.le_of_ble_eq_true rfl⟩ rfl rfl (Nat.le_of_ble_eq_true rfl) (Nat.le_of_ble_eq_true rfl) e24 (fun x29 M26 e27 => (aw_ri d_X8_deal_70 rfl e27))))))))) (fun c23 => have e25 := e21.2 c23; (aw_aload_n d_X8_deal_46 rfl rfl 1 rfl (by decide)
(aw_getR (k' := 0) (a := 0) (b := 0) (j := 0) d_X8_deal_47 rfl fl8_47 rfl zj0 ⟨by decide, fun _ => by decide⟩
(aw_iload_n d_X8_deal_50 rfl rfl 0 rfl
(aw_iload_n d_X8_deal_51 rfl rfl 2 rfl
(aw_VI (As := [zi (zb (qsl (hS M15 0) v1 = 1)), zi v1]) (st := []) d_X8_deal_52 rfl cv8_166 ⟨Nat.le_of_ble_eq_true rfl, Nat.le_of_ble_eq_true rfl⟩ rfl rfl (Nat.le_of_ble_eq_true rfl) (Nat.le_of_ble_eq_true rfl) e25 (fun x33 M30 e31 => (aw_goto d_X8_deal_55 rfl
(aw_ri d_X8_deal_70 rfl e31)))))))))))))))))))))))))))) (fun c10 => have e12 := e8.2 (zb_0 c10); (aw_ldc d_X8_deal_18 rfl ci8_195
(aw_ri d_X8_deal_20 rfl e12))))))))))))))))
theorem vX9_deal {l : Launch} {P : Int → zM → Prop} {v1 : Int} {v2 : Int} {M : zM}
    (H0 : ((zI v1 ∧ (0 ≤ M 27 0 180 ∧ M 27 0 180 ≤ 20)) ∧ ((¬ (0 ≤ v1 ∧ v1 < M 27 0 180) → P (-2147483648) M) ∧ (0 ≤ v1 ∧ v1 < M 27 0 180 → (zI v2 ∧ ((zJ v2 ∧ zJ 0 ∧ zJ 1) ∧ ((0 ≤ v2 ∧ v2 ≤ 1 → ((v2 ≠ 1 → ((0 ≤ 9 * v1 + 1 ∧ 9 * v1 + 1 < 187) ∧ (CV l m_X9_lays [zr 9 0, zi (M 27 0 (9 * v1 + 1))] M (fun M21 => (CI l m_X9_dealOf [zr 9 0, zi v1, zi (M21 27 0 182)] M21 (fun x27 M24 => P x27 M24)))))) ∧ (v2 = 1 → (CI l m_X9_gainOf [zr 9 0, zi v1] M (fun x31 M28 => P x31 M28))))) ∧ (¬ (0 ≤ v2 ∧ v2 ≤ 1) → P (-2147483648) M)))))))) :
    CI l m_X9_deal [zr 9 0, zi v1, zi v2] M P :=
(aw_aload_n d_X9_deal_0 rfl rfl 0 rfl (by decide)
(aw_iload_n d_X9_deal_1 rfl rfl 1 rfl
(have z1 := H0.1; have e2 := H0.2; (aw_VI (As := [zi v1]) (st := []) d_X9_deal_2 rfl cv9_189 ⟨Nat.le_of_ble_eq_true rfl, Nat.le_of_ble_eq_true rfl⟩ rfl rfl (Nat.le_of_ble_eq_true rfl) (Nat.le_of_ble_eq_true rfl) (s_X9_isTrader z1) (fun _ _ hq => aw_eqs hq
(aw_if_eq d_X9_deal_5 rfl rfl zb_I (fun c3 => have e5 := e2.1 (zb_0 c3); (aw_ldc d_X9_deal_18 rfl ci9_192
(aw_ri d_X9_deal_20 rfl e5))) (fun c4 => have e6 := e2.2 (zb_n0 c4); (aw_iload_n d_X9_deal_8 rfl rfl 2 rfl
(have z7 := e6.1; have e8 := e6.2; (aw_i2l d_X9_deal_9 rfl z7
(aw_lconst (x := 0) d_X9_deal_10 rfl (by decide)
(aw_lconst (x := 1) d_X9_deal_11 rfl (by decide)
(have z9 := e8.1; have e10 := e8.2; (aw_SI (As := [zl v2, zl 0, zl 1]) (st := []) d_X9_deal_12 rfl cs9_82 ⟨Nat.le_of_ble_eq_true rfl, Nat.le_of_ble_eq_true rfl⟩ rfl rfl (Nat.le_of_ble_eq_true rfl) (Nat.le_of_ble_eq_true rfl) (s_X9_in z9) (fun _ _ hq => aw_eqs hq
(aw_if_ne d_X9_deal_15 rfl rfl zb_I (fun c11 => have e13 := e10.1 (zb_n0 c11); (aw_iload_n d_X9_deal_21 rfl rfl 2 rfl
(aw_iconst d_X9_deal_22 rfl
(aw_icmp_ne d_X9_deal_23 rfl rfl z7 (by decide) (fun c15 => have e17 := e13.1 c15; (aw_aload_n d_X9_deal_32 rfl rfl 0 rfl (by decide)
(aw_aload_n d_X9_deal_33 rfl rfl 0 rfl (by decide)
(aw_iload_n d_X9_deal_34 rfl rfl 1 rfl
(aw_iconst d_X9_deal_35 rfl
(have z19 := e17.1; have e20 := e17.2; (aw_VI (As := [zi v1, zi 1]) (st := [zr 9 0]) d_X9_deal_36 rfl cv9_88 ⟨Nat.le_of_ble_eq_true rfl, Nat.le_of_ble_eq_true rfl⟩ rfl rfl (Nat.le_of_ble_eq_true rfl) (Nat.le_of_ble_eq_true rfl) (s_X9_of z19) (fun _ _ hq => aw_eqs hq
(aw_VV (As := [zi (M 27 0 (9 * v1 + 1))]) (st := []) d_X9_deal_39 rfl cv9_180 ⟨Nat.le_of_ble_eq_true rfl, Nat.le_of_ble_eq_true rfl⟩ rfl rfl (Nat.le_of_ble_eq_true rfl) (Nat.le_of_ble_eq_true rfl) e20 (fun M21 e22 => (aw_aload_n d_X9_deal_42 rfl rfl 0 rfl (by decide)
(aw_iload_n d_X9_deal_43 rfl rfl 1 rfl
(aw_aload_n d_X9_deal_44 rfl rfl 0 rfl (by decide)
(aw_getR (k' := 27) (a := 0) (b := 0) (j := 0) d_X9_deal_45 rfl fl9_7 rfl zj0 ⟨by decide, fun _ => by decide⟩
(aw_sipush d_X9_deal_48 rfl (by decide)
(aw_iald d_X9_deal_51 rfl za27 (by decide)
(aw_VI (As := [zi v1, zi (M21 27 0 182)]) (st := []) d_X9_deal_52 rfl cv9_183 ⟨Nat.le_of_ble_eq_true rfl, Nat.le_of_ble_eq_true rfl⟩ rfl rfl (Nat.le_of_ble_eq_true rfl) (Nat.le_of_ble_eq_true rfl) e22 (fun x27 M24 e25 => (aw_ri d_X9_deal_55 rfl e25))))))))))))))))))) (fun c16 => have e18 := e13.2 c16; (aw_aload_n d_X9_deal_26 rfl rfl 0 rfl (by decide)
(aw_iload_n d_X9_deal_27 rfl rfl 1 rfl
(aw_VI (As := [zi v1]) (st := []) d_X9_deal_28 rfl cv9_204 ⟨Nat.le_of_ble_eq_true rfl, Nat.le_of_ble_eq_true rfl⟩ rfl rfl (Nat.le_of_ble_eq_true rfl) (Nat.le_of_ble_eq_true rfl) e18 (fun x31 M28 e29 => (aw_ri d_X9_deal_31 rfl e29)))))))))) (fun c12 => have e14 := e10.2 (zb_0 c12); (aw_ldc d_X9_deal_18 rfl ci9_192
(aw_ri d_X9_deal_20 rfl e14)))))))))))))))))))
theorem vX8_missed {l : Launch} {P : Int → zM → Prop} {v1 : Int} {M : zM}
    (H0 : ((hW M 0 ∧ zI v1) ∧ ((0 ≤ v1 ∧ v1 < M 1 0 6 → ((hW M 0 ∧ 0 ≤ v1 ∧ v1 < M 1 0 6) ∧ (CV l m_X8_settleGrade [zr 8 0, zi (qgr (hS M 0) v1)] M (fun M9 => (CI l m_X0_worthWithout [zr 0 0, zi v1] M9 (fun x15 M12 => P ((M9 0 0 7) - x15) M12)))))) ∧ (¬ (0 ≤ v1 ∧ v1 < M 1 0 6) → P (-1) M)))) :
    CI l m_X8_missed [zr 8 0, zi v1] M P :=
(aw_aload_n d_X8_missed_0 rfl rfl 0 rfl (by decide)
(aw_getR (k' := 1) (a := 0) (b := 0) (j := 0) d_X8_missed_1 rfl fl8_12 rfl zj0 ⟨by decide, fun _ => by decide⟩
(aw_iload_n d_X8_missed_4 rfl rfl 1 rfl
(have z1 := H0.1; have e2 := H0.2; (aw_VI (As := [zi v1]) (st := []) d_X8_missed_5 rfl cv8_110 ⟨Nat.le_of_ble_eq_true rfl, Nat.le_of_ble_eq_true rfl⟩ rfl rfl (Nat.le_of_ble_eq_true rfl) (Nat.le_of_ble_eq_true rfl) (s_X1_has z1) (fun _ _ hq => aw_eqs hq
(aw_if_ne d_X8_missed_8 rfl rfl zb_I (fun c3 => have e5 := e2.1 (zb_n0 c3); (aw_aload_n d_X8_missed_13 rfl rfl 0 rfl (by decide)
(aw_aload_n d_X8_missed_14 rfl rfl 0 rfl (by decide)
(aw_getR (k' := 1) (a := 0) (b := 0) (j := 0) d_X8_missed_15 rfl fl8_12 rfl zj0 ⟨by decide, fun _ => by decide⟩
(aw_iload_n d_X8_missed_18 rfl rfl 1 rfl
(have z7 := e5.1; have e8 := e5.2; (aw_VI (As := [zi v1]) (st := [zr 8 0]) d_X8_missed_19 rfl cv8_196 ⟨Nat.le_of_ble_eq_true rfl, Nat.le_of_ble_eq_true rfl⟩ rfl rfl (Nat.le_of_ble_eq_true rfl) (Nat.le_of_ble_eq_true rfl) (s_X1_gradeOf z7) (fun _ _ hq => aw_eqs hq
(aw_VV (As := [zi (qgr (hS M 0) v1)]) (st := []) d_X8_missed_22 rfl cv8_154 ⟨Nat.le_of_ble_eq_true rfl, Nat.le_of_ble_eq_true rfl⟩ rfl rfl (Nat.le_of_ble_eq_true rfl) (Nat.le_of_ble_eq_true rfl) e8 (fun M9 e10 => (aw_aload_n d_X8_missed_25 rfl rfl 0 rfl (by decide)
(aw_getR (k' := 0) (a := 0) (b := 0) (j := 0) d_X8_missed_26 rfl fl8_47 rfl zj0 ⟨by decide, fun _ => by decide⟩
(aw_getI (kc := 7) d_X8_missed_29 rfl fl8_226 rfl rfl
(aw_aload_n d_X8_missed_32 rfl rfl 0 rfl (by decide)
(aw_getR (k' := 0) (a := 0) (b := 0) (j := 0) d_X8_missed_33 rfl fl8_47 rfl zj0 ⟨by decide, fun _ => by decide⟩
(aw_iload_n d_X8_missed_36 rfl rfl 1 rfl
(aw_VI (As := [zi v1]) (st := [zi (M9 0 0 7)]) d_X8_missed_37 rfl cv8_267 ⟨Nat.le_of_ble_eq_true rfl, Nat.le_of_ble_eq_true rfl⟩ rfl rfl (Nat.le_of_ble_eq_true rfl) (Nat.le_of_ble_eq_true rfl) e10 (fun x15 M12 e13 => (aw_isub d_X8_missed_40 rfl
(aw_ri d_X8_missed_41 rfl e13)))))))))))))))))))) (fun c4 => have e6 := e2.2 (zb_0 c4); (aw_iconst d_X8_missed_11 rfl
(aw_ri d_X8_missed_12 rfl e6))))))))))
theorem vX9_missed {l : Launch} {P : Int → zM → Prop} {v1 : Int} {M : zM}
    (H0 : ((zI v1 ∧ (0 ≤ M 27 0 180 ∧ M 27 0 180 ≤ 20)) ∧ ((0 ≤ v1 ∧ v1 < M 27 0 180 → ((0 ≤ 9 * v1 + 1 ∧ 9 * v1 + 1 < 187) ∧ (CI l m_X9_worthOf [zr 9 0, zi (zshl 1 (M 27 0 (9 * v1 + 1)))] M (fun x12 M9 => (CI l m_X9_worthWithout [zr 9 0, zi (M 27 0 (9 * v1 + 1)), zi v1] M9 (fun x16 M13 => P (x12 - x16) M13)))))) ∧ (¬ (0 ≤ v1 ∧ v1 < M 27 0 180) → P (-1) M)))) :
    CI l m_X9_missed [zr 9 0, zi v1] M P :=
(aw_aload_n d_X9_missed_0 rfl rfl 0 rfl (by decide)
(aw_iload_n d_X9_missed_1 rfl rfl 1 rfl
(have z1 := H0.1; have e2 := H0.2; (aw_VI (As := [zi v1]) (st := []) d_X9_missed_2 rfl cv9_189 ⟨Nat.le_of_ble_eq_true rfl, Nat.le_of_ble_eq_true rfl⟩ rfl rfl (Nat.le_of_ble_eq_true rfl) (Nat.le_of_ble_eq_true rfl) (s_X9_isTrader z1) (fun _ _ hq => aw_eqs hq
(aw_if_ne d_X9_missed_5 rfl rfl zb_I (fun c3 => have e5 := e2.1 (zb_n0 c3); (aw_aload_n d_X9_missed_10 rfl rfl 0 rfl (by decide)
(aw_iload_n d_X9_missed_11 rfl rfl 1 rfl
(aw_iconst d_X9_missed_12 rfl
(have z7 := e5.1; have e8 := e5.2; (aw_VI (As := [zi v1, zi 1]) (st := []) d_X9_missed_13 rfl cv9_88 ⟨Nat.le_of_ble_eq_true rfl, Nat.le_of_ble_eq_true rfl⟩ rfl rfl (Nat.le_of_ble_eq_true rfl) (Nat.le_of_ble_eq_true rfl) (s_X9_of z7) (fun _ _ hq => aw_eqs hq
(aw_istore_n (lv' := [(2, zi (M 27 0 (9 * v1 + 1))), (0, zr 9 0), (1, zi v1)]) d_X9_missed_16 rfl rfl (by decide) rfl
(aw_aload_n d_X9_missed_17 rfl rfl 1 rfl (by decide)
(aw_iconst d_X9_missed_18 rfl
(aw_iload_n d_X9_missed_19 rfl rfl 0 rfl
(aw_ishl d_X9_missed_20 rfl zshl_h
(aw_VI (As := [zi (zshl 1 (M 27 0 (9 * v1 + 1)))]) (st := []) d_X9_missed_21 rfl cv9_143 ⟨Nat.le_of_ble_eq_true rfl, Nat.le_of_ble_eq_true rfl⟩ rfl rfl (Nat.le_of_ble_eq_true rfl) (Nat.le_of_ble_eq_true rfl) e8 (fun x12 M9 e10 => (aw_aload_n d_X9_missed_24 rfl rfl 1 rfl (by decide)
(aw_iload_n d_X9_missed_25 rfl rfl 0 rfl
(aw_iload_n d_X9_missed_26 rfl rfl 2 rfl
(aw_VI (As := [zi (M 27 0 (9 * v1 + 1)), zi v1]) (st := [zi x12]) d_X9_missed_27 rfl cv9_173 ⟨Nat.le_of_ble_eq_true rfl, Nat.le_of_ble_eq_true rfl⟩ rfl rfl (Nat.le_of_ble_eq_true rfl) (Nat.le_of_ble_eq_true rfl) e10 (fun x16 M13 e14 => (aw_isub d_X9_missed_30 rfl
(aw_ri d_X9_missed_31 rfl e14))))))))))))))))))))) (fun c4 => have e6 := e2.2 (zb_0 c4); (aw_iconst d_X9_missed_8 rfl
(aw_ri d_X9_missed_9 rfl e6)))))))))
theorem q8_deal {t k : Int} (c : CX M S) (zt : zI t) (zk : zI k) : CI l m_X8_deal [zr 8 0, zi t, zi k] M (fun x M' => x = aDeal S t k ∧ Fr kScr M M') := by
  have w0 := c.1.1
  refine vX8_deal ?_
  rw [c.n, c.1.2]
  refine ⟨⟨w0, zt⟩, fun a => ⟨by rw [aDeal, if_neg (fun q => a q.1)], Fr.rf⟩, fun a => ⟨zk, fun b => ⟨⟨w0, a⟩, ?_⟩, fun b => ⟨by rw [aDeal, if_neg (fun q => b q.2)], Fr.rf⟩⟩⟩
  rw [aDeal, if_pos ⟨a, b⟩]
  refine (c_settleGrade c (c.2.2.1 t a)).mono ?_
  rintro M1 ⟨f1, s1⟩
  have c1 := c.bk f1
  rw [c1.1.2]
  refine ⟨⟨c1.1.1, zt⟩, zk, fun e => ?_, fun e => ?_⟩
  · rw [if_neg e]
    exact (c_gainOf c1 c.2.1 zt s1).eq ⟨rfl, f1.scr⟩
  · rw [if_pos e]
    exact (c_X0_moneyOf (gd_m c.2.1) c.2.2.2.1 c.2.2.2.2 s1 zb_01 zt).eq ⟨rfl, f1.scr⟩
theorem q9_deal {t k : Int} (h : MX M S) (zt : zI t) (zk : zI k) : CI l m_X9_deal [zr 9 0, zi t, zi k] M (fun x M' => x = aDeal S t k ∧ mQ M M') := by
  have rc := h.1.1
  have hn := rc.n
  have ok := h.ok
  refine vX9_deal ?_
  rw [h.n]
  refine ⟨⟨zt, by rw [← h.n]; exact hn⟩, fun a => ⟨by rw [aDeal, if_neg (fun q => a q.1)], mQ.rf h⟩, fun a => ⟨zk, by omega, fun b => ?_, fun b => ⟨by rw [aDeal, if_neg (by omega)], mQ.rf h⟩⟩⟩
  have b' : k = 0 ∨ k = 1 := by omega
  have ht : 0 ≤ t ∧ t < qn (rS M) := by rw [h.1.2]; exact a
  have eg : M 27 0 (9 * t + 1) = qgr S t := by rw [← rS_gr ht, h.1.2]
  have hgo : hb (M 9 0 5) t = false := by rw [h.2.1, hb_0]
  rw [aDeal, if_pos ⟨a, b'⟩, eg]
  refine ⟨fun e => ⟨by have := ok.1.1; omega, ?_⟩, fun e => ?_⟩
  · rw [if_pos (by omega)]
    refine (m_lays h (ok.2.1 t a)).mono ?_
    rintro M1 ⟨F, h1, d1⟩
    have hx := h.q F
    rw [hx.law]
    rw [← hx.B, ← hx.A, ← hx.1.2] at h1 d1
    rw [show qlaw S = qlaw (rS M1) by rw [hx.1.2]]
    refine (c_X9_dealOf hx.1.1 (by rw [hx.1.2]; exact a) (by rw [hx.2.1, hb_0]) rfl (by rw [hx.1.2]; exact ok.2.2.2) h1 d1).mono ?_
    rintro x M2 ⟨rfl, f2, -, -⟩
    rw [hx.B, hx.A, hx.1.2]
    exact ⟨rfl, F.tr (mFs.q hx f2.s)⟩
  · rw [if_neg (by omega)]
    refine (c_X9_gainOf rc ht hgo).mono ?_
    rintro x M2 ⟨rfl, f2, -, -⟩
    rw [h.Gn]
    exact ⟨rfl, mFs.q h f2⟩
theorem q8_missed {t : Int} (c : CX M S) (zt : zI t) : CI l m_X8_missed [zr 8 0, zi t] M (fun x M' => x = aMissed S t ∧ Fr kScr M M') := by
  have w0 := c.1.1
  refine vX8_missed ?_
  rw [c.n, c.1.2]
  refine ⟨⟨w0, zt⟩, fun a => ⟨⟨w0, a⟩, ?_⟩, fun a => ⟨by rw [aMissed, if_neg a], Fr.rf⟩⟩
  rw [aMissed, if_pos a]
  refine (c_settleGrade c (c.2.2.1 t a)).mono ?_
  rintro M1 ⟨f1, s1⟩
  rw [s1.2.1.2.2.2.1]
  exact (c_X0_worthWithout (gd_m c.2.1) c.2.2.2.1 s1 zt).eq ⟨rfl, f1.scr⟩
theorem q9_missed {t : Int} (h : MX M S) (zt : zI t) : CI l m_X9_missed [zr 9 0, zi t] M (fun x M' => x = aMissed S t ∧ mQ M M') := by
  have rc := h.1.1
  have hn := rc.n
  have ok := h.ok
  refine vX9_missed ?_
  rw [h.n]
  refine ⟨⟨zt, by rw [← h.n]; exact hn⟩, fun a => ?_, fun a => ⟨by rw [aMissed, if_neg a], mQ.rf h⟩⟩
  have ht : 0 ≤ t ∧ t < qn (rS M) := by rw [h.1.2]; exact a
  have eg : M 27 0 (9 * t + 1) = qgr S t := by rw [← rS_gr ht, h.1.2]
  rw [aMissed, if_pos a, eg]
  refine ⟨by have := ok.1.1; omega, (c_X9_worthOf rc (ok.2.1 t a)).mono ?_⟩
  rintro x M1 ⟨rfl, f1, -⟩
  have hx := h.q (mFs.q h f1.s)
  refine (c_X9_worthWithout hx.1.1 (ok.2.1 t a) (by rw [hx.1.2]; exact a)).mono ?_
  rintro x M2 ⟨rfl, f2⟩
  rw [h.B, h.A, h.1.2, hx.B, hx.A, hx.1.2]
  exact ⟨rfl, mFs.q h (f1.tr f2).s⟩
end
