/-! ===== questions, both sides: lively, under, feeing, bestFee ===== -/
theorem lead_sp {q : Int → Bool} : ∀ n : Nat, (∀ j, 0 ≤ j ∧ j < lead q n → q j = true) ∧ (lead q n < n → ¬ q (lead q n) = true)
  | 0 => ⟨fun j h => by rw [lead] at h; omega, fun h => by rw [lead] at h; omega⟩
  | n + 1 => by
    have ih := lead_sp (q := q) n
    have hb := lead_b (q := q) n
    rw [lead]
    by_cases c : lead q n = n ∧ q n = true
    · rw [if_pos c]
      refine ⟨fun j hj => ?_, fun h => by omega⟩
      by_cases e : j = n
      · rw [e]; exact c.2
      · exact ih.1 j (by omega)
    · rw [if_neg c]
      refine ⟨ih.1, fun h q2 => ?_⟩
      by_cases e : lead q n = n
      · exact c ⟨e, by rw [e] at q2; exact q2⟩
      · exact ih.2 (by omega) q2
/-- at which prices as many meet as there are trades -/
theorem lively_at {B A : List Int} {f p : Int} (hB : B.Pairwise (· < ·)) (hA : A.Pairwise (· < ·)) :
    (0 ≤ min (ldB B p) (ldA f A p) ∧ min (ldB B p) (ldA f A p) ≤ tT f B A) ∧ (0 < tT f B A → (min (ldB B p) (ldA f A p) = tT f B A ↔ gA f A (tT f B A - 1) ≤ p ∧ p ≤ gB B (tT f B A - 1))) := by
  have b1 := lead_b (q := fun k => decide (p ≤ gB B k)) B.length
  have b2 := lead_b (q := fun k => decide (gA f A k ≤ p)) A.length
  have s1 := lead_sp (q := fun k => decide (p ≤ gB B k)) B.length
  have s2 := lead_sp (q := fun k => decide (gA f A k ≤ p)) A.length
  have e1 : ldB B p = lead (fun k => decide (p ≤ gB B k)) B.length := rfl
  have e2 : ldA f A p = lead (fun k => decide (gA f A k ≤ p)) A.length := rfl
  rw [← e1] at b1 s1
  rw [← e2] at b2 s2
  have hb := tT_b (f := f) (B := B) (A := A)
  have k1 : ∀ j, 0 ≤ j ∧ j < ldB B p → p ≤ gB B j := fun j hj => by simpa using s1.1 j hj
  have k2 : ∀ j, 0 ≤ j ∧ j < ldA f A p → gA f A j ≤ p := fun j hj => by simpa using s2.1 j hj
  have n1 : ldB B p < B.length → gB B (ldB B p) < p := fun h => by have := s1.2 h; simp at this; exact this
  have n2 : ldA f A p < A.length → p < gA f A (ldA f A p) := fun h => by have := s2.2 h; simp at this; exact this
  have hle : min (ldB B p) (ldA f A p) ≤ tT f B A := by
    by_cases c : min (ldB B p) (ldA f A p) ≤ tT f B A
    · exact c
    · exfalso
      have h1 := k1 (tT f B A) (by omega)
      have h2 := k2 (tT f B A) (by omega)
      have := tT_l (f := f) (B := B) (A := A) (by omega) (by omega)
      omega
  refine ⟨⟨by omega, hle⟩, fun hT => ⟨fun e => ?_, fun e => ?_⟩⟩
  · exact ⟨k2 _ (by omega), k1 _ (by omega)⟩
  · have c1 : tT f B A ≤ ldB B p := by
      by_cases c : tT f B A ≤ ldB B p
      · exact c
      · exfalso
        have h1 := n1 (by omega)
        have h2 := gB_mono hB (i := ldB B p) (j := tT f B A - 1) (by omega)
        omega
    have c2 : tT f B A ≤ ldA f A p := by
      by_cases c : tT f B A ≤ ldA f A p
      · exact c
      · exfalso
        have h1 := n2 (by omega)
        have h2 := gA_mono (f := f) hA (i := ldA f A p) (j := tT f B A - 1) (by omega)
        omega
    omega
section
variable {l : Launch} {M : zM} {S : zS}
noncomputable def aLively (S : zS) (g w : Int) : Int := if ¬ (0 ≤ g ∧ g < 4) ∨ w < 0 ∨ 2 < w then -1 else if w = 0 then (if 0 < tT (qfee S) (qB S g) (qA S g) then gA (qfee S) (qA S g) (tT (qfee S) (qB S g) (qA S g) - 1) else 0) else if w = 1 then (if 0 < tT (qfee S) (qB S g) (qA S g) then gB (qB S g) (tT (qfee S) (qB S g) (qA S g) - 1) else 10499) else tT (qfee S) (qB S g) (qA S g)
theorem aLively_n {g w : Int} (h : ¬ (0 ≤ g ∧ g < 4) ∨ w < 0 ∨ 2 < w) : aLively S g w = -1 := by rw [aLively, if_pos h]
theorem aLively_i {g w : Int} (h : 0 ≤ g ∧ g < 4) (hw : 0 ≤ w ∧ w ≤ 2) : aLively S g w = if w = 0 then (if 0 < tT (qfee S) (qB S g) (qA S g) then gA (qfee S) (qA S g) (tT (qfee S) (qB S g) (qA S g) - 1) else 0) else if w = 1 then (if 0 < tT (qfee S) (qB S g) (qA S g) then gB (qB S g) (tT (qfee S) (qB S g) (qA S g) - 1) else 10499) else tT (qfee S) (qB S g) (qA S g) := by rw [aLively, if_neg (by omega)]
theorem vX8_lively {l : Launch} {P : Int → zM → Prop} {v1 : Int} {v2 : Int} {M : zM}
    (H0 : (zI v1 ∧ ((¬ (0 ≤ v1 ∧ v1 < 4) → P (-1) M) ∧ (0 ≤ v1 ∧ v1 < 4 → (zI v2 ∧ (v2 < 0 → P (-1) M) ∧ (0 ≤ v2 → ((v2 ≤ 2 → (CV l m_X8_settleGrade [zr 8 0, zi v1] M (fun M17 => (zI (M17 0 0 6) ∧ ((M17 0 0 6) ≤ 0 → ((v2 = 0 → P 0 M17) ∧ (v2 = 1 → P 10499 M17) ∧ ((v2 ≠ 0 ∧ v2 ≠ 1) → P (M17 0 0 6) M17))) ∧ (0 < (M17 0 0 6) → ((v2 = 0 → ((bkW M17 0 ∧ zI (M17 0 0 6 - 1)) ∧ P (rask M17 0 (M17 0 0 6 - 1)) M17)) ∧ (v2 = 1 → ((bkW M17 0 ∧ zI (M17 0 0 6 - 1)) ∧ P (rbid M17 0 (M17 0 0 6 - 1)) M17)) ∧ ((v2 ≠ 0 ∧ v2 ≠ 1) → P (M17 0 0 6) M17))))))) ∧ (2 < v2 → P (-1) M)))))))) :
    CI l m_X8_lively [zr 8 0, zi v1, zi v2] M P :=
(aw_iload_n d_X8_lively_0 rfl rfl 1 rfl
(have z1 := H0.1; have e2 := H0.2; (aw_SI (As := [zi v1]) (st := []) d_X8_lively_1 rfl cs8_99 ⟨Nat.le_of_ble_eq_true rfl, Nat.le_of_ble_eq_true rfl⟩ rfl rfl (Nat.le_of_ble_eq_true rfl) (Nat.le_of_ble_eq_true rfl) (s_X8_isGrade z1) (fun _ _ hq => aw_eqs hq
(aw_if_eq d_X8_lively_4 rfl rfl zb_I (fun c3 => have e5 := e2.1 (zb_0 c3); (aw_iconst d_X8_lively_16 rfl
(aw_ri d_X8_lively_17 rfl e5))) (fun c4 => have e6 := e2.2 (zb_n0 c4); (aw_iload_n d_X8_lively_7 rfl rfl 2 rfl
(have z7 := e6.1; have e8 := e6.2; aw_if_lt d_X8_lively_8 rfl rfl z7 (fun c9 => have e11 := e8.1 c9; (aw_iconst d_X8_lively_16 rfl
(aw_ri d_X8_lively_17 rfl e11))) (fun c10 => have e12 := e8.2 c10; (aw_iload_n d_X8_lively_11 rfl rfl 2 rfl
(aw_iconst d_X8_lively_12 rfl
(aw_icmp_le d_X8_lively_13 rfl rfl z7 (by decide) (fun c13 => have e15 := e12.1 c13; (aw_aload_n d_X8_lively_18 rfl rfl 0 rfl (by decide)
(aw_iload_n d_X8_lively_19 rfl rfl 1 rfl
(aw_VV (As := [zi v1]) (st := []) d_X8_lively_20 rfl cv8_154 ⟨Nat.le_of_ble_eq_true rfl, Nat.le_of_ble_eq_true rfl⟩ rfl rfl (Nat.le_of_ble_eq_true rfl) (Nat.le_of_ble_eq_true rfl) e15 (fun M17 e18 => (aw_aload_n d_X8_lively_23 rfl rfl 0 rfl (by decide)
(aw_getR (k' := 0) (a := 0) (b := 0) (j := 0) d_X8_lively_24 rfl fl8_47 rfl zj0 ⟨by decide, fun _ => by decide⟩
(aw_getI (kc := 6) d_X8_lively_27 rfl fl8_223 rfl rfl
(have z20 := e18.1; have e21 := e18.2; aw_if_le d_X8_lively_30 rfl rfl z20 (fun c22 => have e24 := e21.1 c22; (aw_iconst d_X8_lively_37 rfl
(aw_istore_n (lv' := [(3, zi 0), (0, zr 8 0), (1, zi v1), (2, zi v2)]) d_X8_lively_38 rfl rfl (by decide) rfl
(aw_iload_n d_X8_lively_39 rfl rfl 3 rfl
(aw_lookup2 d_X8_lively_40 z7 rfl rfl rfl (fun c26 => have e27 := e24.1 c26; (aw_iload_n d_X8_lively_68 rfl rfl 0 rfl
(aw_if_eq d_X8_lively_69 rfl rfl (by decide) (fun _ => (aw_iconst d_X8_lively_82 rfl
(aw_ri d_X8_lively_83 rfl e27))) (fun c28 => absurd c28 (by decide))))) (fun c29 => have e30 := e24.2.1 c29; (aw_iload_n d_X8_lively_84 rfl rfl 0 rfl
(aw_if_eq d_X8_lively_85 rfl rfl (by decide) (fun _ => (aw_sipush d_X8_lively_98 rfl (by decide)
(aw_ri d_X8_lively_101 rfl e30))) (fun c31 => absurd c31 (by decide))))) (fun c32 => have e33 := e24.2.2 c32; (aw_aload_n d_X8_lively_102 rfl rfl 1 rfl (by decide)
(aw_getR (k' := 0) (a := 0) (b := 0) (j := 0) d_X8_lively_103 rfl fl8_47 rfl zj0 ⟨by decide, fun _ => by decide⟩
(aw_getI (kc := 6) d_X8_lively_106 rfl fl8_223 rfl rfl
(aw_ri d_X8_lively_109 rfl e33)))))))))) (fun c23 => have e25 := e21.2 c23; (aw_iconst d_X8_lively_33 rfl
(aw_goto d_X8_lively_34 rfl
(aw_istore_n (lv' := [(3, zi 1), (0, zr 8 0), (1, zi v1), (2, zi v2)]) d_X8_lively_38 rfl rfl (by decide) rfl
(aw_iload_n d_X8_lively_39 rfl rfl 3 rfl
(aw_lookup2 d_X8_lively_40 z7 rfl rfl rfl (fun c34 => have e35 := e25.1 c34; (aw_iload_n d_X8_lively_68 rfl rfl 0 rfl
(aw_if_eq d_X8_lively_69 rfl rfl (by decide) (fun c36 => absurd c36 (by decide)) (fun _ => (aw_aload_n d_X8_lively_72 rfl rfl 1 rfl (by decide)
(aw_getR (k' := 0) (a := 0) (b := 0) (j := 0) d_X8_lively_73 rfl fl8_47 rfl zj0 ⟨by decide, fun _ => by decide⟩
(have z37 := e35.1; have e38 := e35.2; (aw_VI (As := []) (st := []) d_X8_lively_76 rfl cv8_245 ⟨Nat.le_of_ble_eq_true rfl, Nat.le_of_ble_eq_true rfl⟩ rfl rfl (Nat.le_of_ble_eq_true rfl) (Nat.le_of_ble_eq_true rfl) (s_X0_lastAsk z37) (fun _ _ hq => aw_eqs hq
(aw_goto d_X8_lively_79 rfl
(aw_ri d_X8_lively_83 rfl e38))))))))))) (fun c39 => have e40 := e25.2.1 c39; (aw_iload_n d_X8_lively_84 rfl rfl 0 rfl
(aw_if_eq d_X8_lively_85 rfl rfl (by decide) (fun c41 => absurd c41 (by decide)) (fun _ => (aw_aload_n d_X8_lively_88 rfl rfl 1 rfl (by decide)
(aw_getR (k' := 0) (a := 0) (b := 0) (j := 0) d_X8_lively_89 rfl fl8_47 rfl zj0 ⟨by decide, fun _ => by decide⟩
(have z42 := e40.1; have e43 := e40.2; (aw_VI (As := []) (st := []) d_X8_lively_92 rfl cv8_242 ⟨Nat.le_of_ble_eq_true rfl, Nat.le_of_ble_eq_true rfl⟩ rfl rfl (Nat.le_of_ble_eq_true rfl) (Nat.le_of_ble_eq_true rfl) (s_X0_lastBid z42) (fun _ _ hq => aw_eqs hq
(aw_goto d_X8_lively_95 rfl
(aw_ri d_X8_lively_101 rfl e43))))))))))) (fun c44 => have e45 := e25.2.2 c44; (aw_aload_n d_X8_lively_102 rfl rfl 1 rfl (by decide)
(aw_getR (k' := 0) (a := 0) (b := 0) (j := 0) d_X8_lively_103 rfl fl8_47 rfl zj0 ⟨by decide, fun _ => by decide⟩
(aw_getI (kc := 6) d_X8_lively_106 rfl fl8_223 rfl rfl
(aw_ri d_X8_lively_109 rfl e45)))))))))))))))))))) (fun c14 => have e16 := e12.2 c14; (aw_iconst d_X8_lively_16 rfl
(aw_ri d_X8_lively_17 rfl e16)))))))))))))))
def LX9_lively_39 (l : Launch) (P : Int → zM → Prop) (v2 : Int) (v3 : Int) (v4 : Int) (v5 : Int) (v6 : Int) (M : zM) : Prop := AW l m_X9_lively (zTi m_X9_lively P) 39 [(0, zr 9 0), (2, zi v2), (3, zi v3), (4, zi v4), (5, zi v5), (6, zi v6)] [] M
theorem vX9_lively_39 {l : Launch} {P : Int → zM → Prop} {v2 : Int} {v3 : Int} {v4 : Int} {v5 : Int} {v6 : Int} {M : zM}
    (H0 : (zI v6 ∧ (10499 < v6 → (zI v2 ∧ (v2 ≠ 0 → ((v2 ≠ 1 → P v3 M) ∧ (v2 = 1 → P v5 M))) ∧ (v2 = 0 → P v4 M))) ∧ (v6 ≤ 10499 → (CI l m_X9_livelyAt [zr 9 0, zi v6] M (fun x37 M34 => (zI x37 ∧ zI v3 ∧ (x37 ≤ v3 → ((x37 ≠ v3 → LX9_lively_39 l P v2 v3 v4 v5 (v6 + 1) M34) ∧ (x37 = v3 → LX9_lively_39 l P v2 v3 v4 v6 (v6 + 1) M34))) ∧ (v3 < x37 → ((x37 ≠ x37 → LX9_lively_39 l P v2 x37 v6 v5 (v6 + 1) M34) ∧ (x37 = x37 → LX9_lively_39 l P v2 x37 v6 v6 (v6 + 1) M34))))))))) :
    LX9_lively_39 l P v2 v3 v4 v5 v6 M :=
(aw_iload d_X9_lively_39 rfl 5 rfl
(aw_sipush d_X9_lively_41 rfl (by decide)
(have z18 := H0.1; have e19 := H0.2; aw_icmp_gt d_X9_lively_44 rfl rfl z18 (by decide) (fun c20 => have e22 := e19.1 c20; (aw_iload_n d_X9_lively_84 rfl rfl 1 rfl
(have z24 := e22.1; have e25 := e22.2; aw_if_ne d_X9_lively_85 rfl rfl z24 (fun c26 => have e28 := e25.1 c26; (aw_iload_n d_X9_lively_93 rfl rfl 1 rfl
(aw_iconst d_X9_lively_94 rfl
(aw_icmp_ne d_X9_lively_95 rfl rfl z24 (by decide) (fun c30 => have e32 := e28.1 c30; (aw_iload_n d_X9_lively_103 rfl rfl 2 rfl
(aw_ri d_X9_lively_104 rfl e32))) (fun c31 => have e33 := e28.2 c31; (aw_iload d_X9_lively_98 rfl 4 rfl
(aw_goto d_X9_lively_100 rfl
(aw_ri d_X9_lively_104 rfl e33)))))))) (fun c27 => have e29 := e25.2 c27; (aw_iload d_X9_lively_88 rfl 3 rfl
(aw_goto d_X9_lively_90 rfl
(aw_ri d_X9_lively_104 rfl e29))))))) (fun c21 => have e23 := e19.2 c21; (aw_aload_n d_X9_lively_47 rfl rfl 0 rfl (by decide)
(aw_iload d_X9_lively_48 rfl 5 rfl
(aw_VI (As := [zi v6]) (st := []) d_X9_lively_50 rfl cv9_239 ⟨Nat.le_of_ble_eq_true rfl, Nat.le_of_ble_eq_true rfl⟩ rfl rfl (Nat.le_of_ble_eq_true rfl) (Nat.le_of_ble_eq_true rfl) e23 (fun x37 M34 e35 => (aw_istore (lv' := [(7, zi x37), (0, zr 9 0), (2, zi v2), (3, zi v3), (4, zi v4), (5, zi v5), (6, zi v6)]) d_X9_lively_53 rfl (by decide) rfl
(aw_iload d_X9_lively_55 rfl 0 rfl
(aw_iload_n d_X9_lively_57 rfl rfl 3 rfl
(have z38 := e35.1; have z39 := e35.2.1; have e40 := e35.2.2; aw_icmp_le d_X9_lively_58 rfl rfl z38 z39 (fun c41 => have e43 := e40.1 c41; (aw_iload d_X9_lively_68 rfl 0 rfl
(aw_iload_n d_X9_lively_70 rfl rfl 3 rfl
(aw_icmp_ne d_X9_lively_71 rfl rfl z38 z39 (fun c45 => have e47 := e43.1 c45; (aw_iinc (lv' := [(6, zi (v6 + 1)), (7, zi x37), (0, zr 9 0), (2, zi v2), (3, zi v3), (4, zi v4), (5, zi v5)]) (y := (v6 + 1)) d_X9_lively_78 rfl 6 rfl (by decide) rfl rfl
(aw_goto d_X9_lively_81 rfl
(aw_sub [2, 3, 4, 5, 6, 0] rfl e47)))) (fun c46 => have e48 := e43.2 c46; (aw_iload d_X9_lively_74 rfl 6 rfl
(aw_istore (lv' := [(5, zi v6), (7, zi x37), (0, zr 9 0), (2, zi v2), (3, zi v3), (4, zi v4), (6, zi v6)]) d_X9_lively_76 rfl (by decide) rfl
(aw_iinc (lv' := [(6, zi (v6 + 1)), (5, zi v6), (7, zi x37), (0, zr 9 0), (2, zi v2), (3, zi v3), (4, zi v4)]) (y := (v6 + 1)) d_X9_lively_78 rfl 6 rfl (by decide) rfl rfl
(aw_goto d_X9_lively_81 rfl
(aw_sub [3, 4, 5, 6, 1, 0] rfl e48)))))))))) (fun c42 => have e44 := e40.2 c42; (aw_iload d_X9_lively_61 rfl 0 rfl
(aw_istore_n (lv' := [(3, zi x37), (7, zi x37), (0, zr 9 0), (2, zi v2), (4, zi v4), (5, zi v5), (6, zi v6)]) d_X9_lively_63 rfl rfl (by decide) rfl
(aw_iload d_X9_lively_64 rfl 6 rfl
(aw_istore (lv' := [(4, zi v6), (3, zi x37), (7, zi x37), (0, zr 9 0), (2, zi v2), (5, zi v5), (6, zi v6)]) d_X9_lively_66 rfl (by decide) rfl
(aw_iload d_X9_lively_68 rfl 2 rfl
(aw_iload_n d_X9_lively_70 rfl rfl 1 rfl
(aw_icmp_ne d_X9_lively_71 rfl rfl z38 z38 (fun c49 => have e51 := e44.1 c49; (aw_iinc (lv' := [(6, zi (v6 + 1)), (4, zi v6), (3, zi x37), (7, zi x37), (0, zr 9 0), (2, zi v2), (5, zi v5)]) (y := (v6 + 1)) d_X9_lively_78 rfl 6 rfl (by decide) rfl rfl
(aw_goto d_X9_lively_81 rfl
(aw_sub [4, 5, 2, 1, 6, 0] rfl e51)))) (fun c50 => have e52 := e44.2 c50; (aw_iload d_X9_lively_74 rfl 6 rfl
(aw_istore (lv' := [(5, zi v6), (4, zi v6), (3, zi x37), (7, zi x37), (0, zr 9 0), (2, zi v2), (6, zi v6)]) d_X9_lively_76 rfl (by decide) rfl
(aw_iinc (lv' := [(6, zi (v6 + 1)), (5, zi v6), (4, zi v6), (3, zi x37), (7, zi x37), (0, zr 9 0), (2, zi v2)]) (y := (v6 + 1)) d_X9_lively_78 rfl 6 rfl (by decide) rfl rfl
(aw_goto d_X9_lively_81 rfl
(aw_sub [5, 6, 3, 2, 1, 0] rfl e52))))))))))))))))))))))))))
theorem vX9_lively {l : Launch} {P : Int → zM → Prop} {v1 : Int} {v2 : Int} {M : zM}
    (H0 : (zI v1 ∧ ((¬ (0 ≤ v1 ∧ v1 < 4) → P (-1) M) ∧ (0 ≤ v1 ∧ v1 < 4 → (zI v2 ∧ ((zJ v2 ∧ zJ 0 ∧ zJ 2) ∧ ((0 ≤ v2 ∧ v2 ≤ 2 → (CV l m_X9_laysOf [zr 9 0, zi (zshl 1 v1)] M (fun M15 => LX9_lively_39 l P v2 (-1) 0 0 0 M15))) ∧ (¬ (0 ≤ v2 ∧ v2 ≤ 2) → P (-1) M)))))))) :
    CI l m_X9_lively [zr 9 0, zi v1, zi v2] M P :=
(aw_iload_n d_X9_lively_0 rfl rfl 1 rfl
(have z1 := H0.1; have e2 := H0.2; (aw_SI (As := [zi v1]) (st := []) d_X9_lively_1 rfl cs9_195 ⟨Nat.le_of_ble_eq_true rfl, Nat.le_of_ble_eq_true rfl⟩ rfl rfl (Nat.le_of_ble_eq_true rfl) (Nat.le_of_ble_eq_true rfl) (s_X9_isGrade z1) (fun _ _ hq => aw_eqs hq
(aw_if_eq d_X9_lively_4 rfl rfl zb_I (fun c3 => have e5 := e2.1 (zb_0 c3); (aw_iconst d_X9_lively_19 rfl
(aw_ri d_X9_lively_20 rfl e5))) (fun c4 => have e6 := e2.2 (zb_n0 c4); (aw_iload_n d_X9_lively_7 rfl rfl 2 rfl
(have z7 := e6.1; have e8 := e6.2; (aw_i2l d_X9_lively_8 rfl z7
(aw_lconst (x := 0) d_X9_lively_9 rfl (by decide)
(aw_ldc2 d_X9_lively_10 rfl cl9_217
(have z9 := e8.1; have e10 := e8.2; (aw_SI (As := [zl v2, zl 0, zl 2]) (st := []) d_X9_lively_13 rfl cs9_82 ⟨Nat.le_of_ble_eq_true rfl, Nat.le_of_ble_eq_true rfl⟩ rfl rfl (Nat.le_of_ble_eq_true rfl) (Nat.le_of_ble_eq_true rfl) (s_X9_in z9) (fun _ _ hq => aw_eqs hq
(aw_if_ne d_X9_lively_16 rfl rfl zb_I (fun c11 => have e13 := e10.1 (zb_n0 c11); (aw_aload_n d_X9_lively_21 rfl rfl 0 rfl (by decide)
(aw_iconst d_X9_lively_22 rfl
(aw_iload_n d_X9_lively_23 rfl rfl 1 rfl
(aw_ishl d_X9_lively_24 rfl zshl_h
(aw_VV (As := [zi (zshl 1 v1)]) (st := []) d_X9_lively_25 rfl cv9_139 ⟨Nat.le_of_ble_eq_true rfl, Nat.le_of_ble_eq_true rfl⟩ rfl rfl (Nat.le_of_ble_eq_true rfl) (Nat.le_of_ble_eq_true rfl) e13 (fun M15 e16 => (aw_iconst d_X9_lively_28 rfl
(aw_istore_n (lv' := [(3, zi (-1)), (0, zr 9 0), (1, zi v1), (2, zi v2)]) d_X9_lively_29 rfl rfl (by decide) rfl
(aw_iconst d_X9_lively_30 rfl
(aw_istore (lv' := [(4, zi 0), (3, zi (-1)), (0, zr 9 0), (1, zi v1), (2, zi v2)]) d_X9_lively_31 rfl (by decide) rfl
(aw_iconst d_X9_lively_33 rfl
(aw_istore (lv' := [(5, zi 0), (4, zi 0), (3, zi (-1)), (0, zr 9 0), (1, zi v1), (2, zi v2)]) d_X9_lively_34 rfl (by decide) rfl
(aw_iconst d_X9_lively_36 rfl
(aw_istore (lv' := [(6, zi 0), (5, zi 0), (4, zi 0), (3, zi (-1)), (0, zr 9 0), (1, zi v1), (2, zi v2)]) d_X9_lively_37 rfl (by decide) rfl
(aw_sub [4, 6, 3, 2, 1, 0] rfl e16)))))))))))))))) (fun c12 => have e14 := e10.2 (zb_0 c12); (aw_iconst d_X9_lively_19 rfl
(aw_ri d_X9_lively_20 rfl e14))))))))))))))))))
theorem q8_lively {g w : Int} (c : CX M S) (zg : zI g) (zw : zI w) : CI l m_X8_lively [zr 8 0, zi g, zi w] M (fun x M' => x = aLively S g w ∧ Fr kScr M M') := by
  have gg := gdS c.2 g
  have hl := gg.1
  have hf := c.2.2.2.1
  have hb := tT_b (f := qfee S) (B := qB S g) (A := qA S g)
  refine vX8_lively ⟨zg, fun a => ⟨(aLively_n (.inl a)).symm, Fr.rf⟩, fun a => ⟨zw, fun b => ⟨(aLively_n (by omega)).symm, Fr.rf⟩, fun b => ⟨fun b2 => ?_, fun b2 => ⟨(aLively_n (by omega)).symm, Fr.rf⟩⟩⟩⟩
  have ai := aLively_i (S := S) a ⟨b, b2⟩
  refine (c_settleGrade c a).mono ?_
  rintro M1 ⟨f1, s1⟩
  have F := f1.scr
  have wk := s1.W gg hf
  rw [s1.2.1.2.2.1]
  refine ⟨by omega, fun hT => ⟨fun e => ⟨?_, F⟩, fun e => ⟨?_, F⟩, fun e => ⟨?_, F⟩⟩, fun hT => ⟨fun e => ⟨⟨wk, by omega⟩, ?_, F⟩, fun e => ⟨⟨wk, by omega⟩, ?_, F⟩, fun e => ⟨?_, F⟩⟩⟩
  · rw [ai, if_pos e, if_neg (by omega)]
  · rw [ai, if_neg (by omega), if_pos e, if_neg (by omega)]
  · rw [ai, if_neg e.1, if_neg e.2]
  · rw [ai, if_pos e, if_pos hT, s1.ask (by omega)]
  · rw [ai, if_neg (by omega), if_pos e, if_pos hT, s1.bid (by omega)]
  · rw [ai, if_neg e.1, if_neg e.2]
theorem q9_lively {g w : Int} (h : MX M S) (zg : zI g) (zw : zI w) : CI l m_X9_lively [zr 9 0, zi g, zi w] M (fun x M' => x = aLively S g w ∧ mQ M M') := by
  have ok := h.ok
  have gg := gdS ok g
  have hl := gg.1
  have hf := ok.2.2.1
  have hb := tT_b (f := qfee S) (B := qB S g) (A := qA S g)
  refine vX9_lively ⟨zg, fun a => ⟨(aLively_n (.inl a)).symm, mQ.rf h⟩, fun a => ⟨zw, by omega, fun b => ?_, fun b => ⟨(aLively_n (by omega)).symm, mQ.rf h⟩⟩⟩
  have ai := aLively_i (S := S) a b
  refine (m_laysOf h a).mono ?_
  rintro M1 ⟨F, h1⟩
  -- the prices at which all trades meet
  obtain ⟨lo, hi, hlo, ehi, hat⟩ : ∃ lo hi : Int, (0 ≤ lo ∧ lo ≤ hi ∧ hi ≤ 10499) ∧ (lo = (if 0 < tT (qfee S) (qB S g) (qA S g) then gA (qfee S) (qA S g) (tT (qfee S) (qB S g) (qA S g) - 1) else 0) ∧ hi = (if 0 < tT (qfee S) (qB S g) (qA S g) then gB (qB S g) (tT (qfee S) (qB S g) (qA S g) - 1) else 10499)) ∧ (∀ p, 0 ≤ p ∧ p ≤ 10499 → (min (ldB (qB S g) p) (ldA (qfee S) (qA S g) p) = tT (qfee S) (qB S g) (qA S g) ↔ lo ≤ p ∧ p ≤ hi)) := by
    by_cases hT : 0 < tT (qfee S) (qB S g) (qA S g)
    · have q1 := gB_in gg (k := tT (qfee S) (qB S g) (qA S g) - 1) (by omega)
      have q2 := gA_in gg (f := qfee S) (k := tT (qfee S) (qB S g) (qA S g) - 1) (by omega)
      have q3 := tT_g (f := qfee S) (B := qB S g) (A := qA S g) (k := tT (qfee S) (qB S g) (qA S g) - 1) (by omega)
      refine ⟨_, _, by omega, ⟨(if_pos hT).symm, (if_pos hT).symm⟩, fun p _ => (lively_at (p := p) (qBp ok g) (qAp ok g)).2 hT⟩
    · refine ⟨0, 10499, by omega, ⟨(if_neg hT).symm, (if_neg hT).symm⟩, fun p hp => ⟨fun _ => hp, fun _ => ?_⟩⟩
      have := (lively_at (f := qfee S) (p := p) (qBp ok g) (qAp ok g)).1
      omega
  have hle : ∀ p, 0 ≤ min (ldB (qB S g) p) (ldA (qfee S) (qA S g) p) ∧ min (ldB (qB S g) p) (ldA (qfee S) (qA S g) p) ≤ tT (qfee S) (qB S g) (qA S g) := fun p => (lively_at (f := qfee S) (p := p) (qBp ok g) (qAp ok g)).1
  have loop : ∀ (n : Nat) (p most low high : Int), (10500 - p).toNat = n → 0 ≤ p ∧ p ≤ 10500 → ((p ≤ lo ∧ -1 ≤ most ∧ most < tT (qfee S) (qB S g) (qA S g)) ∨ (lo < p ∧ most = tT (qfee S) (qB S g) (qA S g) ∧ low = lo ∧ high = min (p - 1) hi)) →
      LX9_lively_39 l (fun x M' => x = aLively S g w ∧ mQ M M') w most low high p M1 := by
    intro n
    induction n with
    | zero =>
      intro p most low high hn hp hs
      have hs2 : most = tT (qfee S) (qB S g) (qA S g) ∧ low = lo ∧ high = hi := by omega
      refine vX9_lively_39 ⟨by omega, fun _ => ⟨zw, fun e => ⟨fun e2 => ⟨?_, F⟩, fun e2 => ⟨?_, F⟩⟩, fun e => ⟨?_, F⟩⟩, fun e => by omega⟩
      · rw [ai, if_neg e, if_neg e2, hs2.1]
      · rw [ai, if_neg e, if_pos e2, hs2.2.2, ehi.2]
      · rw [ai, if_pos e, hs2.2.1, ehi.1]
    | succ n ih =>
      intro p most low high hn hp hs
      have ha := hat p (by omega)
      have hb2 := hle p
      refine vX9_lively_39 ⟨by omega, fun e => by omega, fun _ => (c_X9_livelyAt h1 hf gg (by omega)).eq ?_⟩
      generalize min (ldB (qB S g) p) (ldA (qfee S) (qA S g) p) = x at ha hb2 ⊢
      refine ⟨by omega, by omega, fun c => ⟨fun c2 => ih (p + 1) most low high (by omega) (by omega) (by omega), fun c2 => ih (p + 1) most low p (by omega) (by omega) (by omega)⟩, fun c => ⟨fun c2 => absurd rfl c2, fun _ => ih (p + 1) x p p (by omega) (by omega) (by omega)⟩⟩
  exact loop _ 0 (-1) 0 0 rfl (by omega) (by omega)
/-! under, feeing, bestFee -/
def sSc (S : zS) (j x : Int) : zS := (upf (qsc S) j x, S.2)
theorem sc_put {M1 M2 : zM} {j x : Int} (w : mW M1 27 0) (hj : 1 ≤ j ∧ j < 7) (e27 : M2 27 0 = (zu M1 27 0 (180 + j) x) 27 0) : rS M2 = sSc (rS M1) j x ∧ mW M2 27 0 := by
  have hn := w.1
  have a1 : ∀ i, i ≠ 180 + j → M2 27 0 i = M1 27 0 i := fun i hi => by rw [e27, zu_at, if_neg hi]
  have a2 : M2 27 0 (180 + j) = x := by rw [e27, zu_at, if_pos rfl]
  have a180 : M2 27 0 (0 + 180) = M1 27 0 (0 + 180) := a1 _ (by omega)
  refine ⟨?_, ⟨by rw [a180]; exact hn, fun t' ht' => ?_⟩⟩
  · show mV M2 27 0 = _
    refine Prod.ext ?_ (Prod.ext ?_ (Prod.ext ?_ (Prod.ext ?_ (Prod.ext ?_ (Prod.ext ?_ ?_)))))
    · funext i
      show (if _ then _ else _) = upf _ _ _ _
      unfold upf
      by_cases c : i = j
      · subst c
        rw [if_pos (by omega), if_pos rfl, Int.zero_add]
        exact a2
      · rw [if_neg c]
        show _ = (if _ then _ else _)
        split
        · exact a1 _ (by omega)
        · rfl
    · funext i
      show (if _ then _ else _) = (if _ then _ else _)
      rw [a180]
      split
      · exact a1 _ (by omega)
      · rfl
    · funext i
      show (if _ then _ else _) = (if _ then _ else _)
      rw [a180]
      split
      · exact a1 _ (by omega)
      · rfl
    · funext i
      show (if _ then _ else _) = (if _ then _ else _)
      rw [a180]
      split
      · exact a1 _ (by omega)
      · rfl
    · funext i u
      show (if _ then _ else _) = (if _ then _ else _)
      rw [a180]
      by_cases c : 0 ≤ i ∧ i < M1 27 0 (0 + 180)
      · have hu := (w.2 i c).2
        rw [a1 (0 + 9 * i + 2) (by omega)]
        split
        · next q => exact a1 _ (by omega)
        · rfl
      · rw [if_neg (by omega), if_neg (by omega)]
    · funext i
      show (if _ then _ else _) = (if _ then _ else _)
      rw [a180]
      split
      · exact a1 _ (by omega)
      · rfl
    · funext i
      show (if _ then _ else _) = (if _ then _ else _)
      rw [a180]
      split
      · exact a1 _ (by omega)
      · rfl
  · rw [a180] at ht'
    rw [a1 (0 + 9 * t') (by omega), a1 (0 + 9 * t' + 2) (by omega)]
    exact w.2 t' ht'
theorem MX.sc {M1 M2 : zM} {S : zS} {j x : Int} (h : MX M1 S) (hj : 1 ≤ j ∧ j < 7) (e27 : M2 27 0 = (zu M1 27 0 (180 + j) x) 27 0) (o : okS (sSc S j x)) (e5 : M2 9 0 5 = 0) (e6 : M2 9 0 6 = 0) (e7 : -1000 ≤ M2 9 0 7 ∧ M2 9 0 7 ≤ 1000) : MX M2 (sSc S j x) := by
  obtain ⟨eS, w⟩ := sc_put h.1.1.1 hj e27
  rw [h.1.2] at eS
  refine ⟨⟨?_, eS⟩, e5, e6⟩
  unfold RC
  rw [eS]
  exact ⟨w, o.1, o.2.1, o.2.2.1, o.2.2.2, e7⟩
theorem sFee_ok {S : zS} {p : Int} (h : okS S) (hp : 0 ≤ p ∧ p ≤ 500) : okS (sSc S 1 p) := ⟨h.1, h.2.1, hp, h.2.2.2⟩
theorem sLaw_ok {S : zS} {p : Int} (h : okS S) (hp : 0 ≤ p ∧ p ≤ 3) : okS (sSc S 2 p) := ⟨h.1, h.2.1, h.2.2.1, hp⟩
theorem qB_sc1 {S : zS} {p g : Int} : qB (sSc S 1 p) g = qB S g ∧ qA (sSc S 1 p) g = qA S g := ⟨rfl, rfl⟩
theorem qB_sc2 {S : zS} {p g : Int} : qB (sSc S 2 p) g = qB S g ∧ qA (sSc S 2 p) g = qA S g := ⟨rfl, rfl⟩
/-- a field of the hall told back -/
theorem sc_back {M M1 M2 M3 : zM} {S S' : zS} {j x : Int} (h : MX M S) (q1 : M1 = zu M 27 0 j x) (f : mQ M1 M2) (q3 : M3 = zu M2 27 0 j (M 27 0 j)) : mQ M M3 := by
  refine ⟨fun k i h1 h2 => ?_, fun i hi => by rw [q3, zu_k (by decide), f.2.1 i hi, q1, zu_k (by decide)], by rw [q3, zu_k (by decide)]; exact f.2.2⟩
  by_cases c : k = 27
  · subst c
    by_cases c2 : i = 0
    · subst c2
      funext i
      rw [q3, zu_at]
      by_cases c3 : i = j
      · rw [if_pos c3, c3]
      · rw [if_neg c3, f.1 27 0 (by decide) (by decide), q1, zu_at, if_neg c3]
    · rw [q3, zu_i c2, f.1 27 i (by decide) (by decide), q1, zu_i c2]
  · rw [q3, zu_k c, f.1 k i h1 h2, q1, zu_k c]
noncomputable def aUnder (S : zS) (g w k : Int) : Int := if ¬ (0 ≤ g ∧ g < 4) ∨ ¬ (0 ≤ w ∧ w ≤ 3) ∨ k < 0 ∨ 2 < k then -2147483648 else aMkt S (qfee S) w g (if k = 0 then 2 else if k = 1 then 5 else 6)
noncomputable def aFeeing (S : zS) (g p k : Int) : Int := if ¬ (0 ≤ g ∧ g < 4) ∨ ¬ (0 ≤ p ∧ p ≤ 500) ∨ k < 0 ∨ 1 < k then -2147483648 else aMkt S p (qlaw S) g (if k = 0 then 0 else 5)
theorem aUnder_n {g w k : Int} (h : ¬ (0 ≤ g ∧ g < 4) ∨ ¬ (0 ≤ w ∧ w ≤ 3) ∨ k < 0 ∨ 2 < k) : aUnder S g w k = -2147483648 := by rw [aUnder, if_pos h]
theorem aUnder_i {g w k : Int} (h : 0 ≤ g ∧ g < 4) (hw : 0 ≤ w ∧ w ≤ 3) (hk : 0 ≤ k ∧ k ≤ 2) : aUnder S g w k = aMkt S (qfee S) w g (if k = 0 then 2 else if k = 1 then 5 else 6) := by rw [aUnder, if_neg (by omega)]
theorem aFeeing_n {g p k : Int} (h : ¬ (0 ≤ g ∧ g < 4) ∨ ¬ (0 ≤ p ∧ p ≤ 500) ∨ k < 0 ∨ 1 < k) : aFeeing S g p k = -2147483648 := by rw [aFeeing, if_pos h]
theorem aFeeing_i {g p k : Int} (h : 0 ≤ g ∧ g < 4) (hp : 0 ≤ p ∧ p ≤ 500) (hk : 0 ≤ k ∧ k ≤ 1) : aFeeing S g p k = aMkt S p (qlaw S) g (if k = 0 then 0 else 5) := by rw [aFeeing, if_neg (by omega)]
theorem vX8_under {l : Launch} {P : Int → zM → Prop} {v1 : Int} {v2 : Int} {v3 : Int} {M : zM}
    (H0 : (zI v1 ∧ ((¬ (0 ≤ v1 ∧ v1 < 4) → P (-2147483648) M) ∧ (0 ≤ v1 ∧ v1 < 4 → (zI v2 ∧ ((0 ≤ v2 ∧ v2 ≤ 3 → (CV l m_X0_take [zr 0 0, zr 1 0, zi (zshl 1 v1), zi 0] M (fun M13 => (CV l m_X0_settle [zr 0 0, zi (M13 1 0 7), zi v2] M13 (fun M16 => (zI v3 ∧ (v3 = 0 → P (M16 0 0 8) M16) ∧ (v3 = 1 → (CI l m_X0_takings [zr 0 0] M16 (fun x28 M25 => P x28 M25))) ∧ (v3 = 2 → (CI l m_X0_lost [zr 0 0] M16 (fun x34 M31 => P x34 M31))) ∧ ((v3 < 0 ∨ 2 < v3) → P (-2147483648) M16))))))) ∧ (¬ (0 ≤ v2 ∧ v2 ≤ 3) → P (-2147483648) M))))))) :
    CI l m_X8_under [zr 8 0, zi v1, zi v2, zi v3] M P :=
(aw_iload_n d_X8_under_0 rfl rfl 1 rfl
(have z1 := H0.1; have e2 := H0.2; (aw_SI (As := [zi v1]) (st := []) d_X8_under_1 rfl cs8_99 ⟨Nat.le_of_ble_eq_true rfl, Nat.le_of_ble_eq_true rfl⟩ rfl rfl (Nat.le_of_ble_eq_true rfl) (Nat.le_of_ble_eq_true rfl) (s_X8_isGrade z1) (fun _ _ hq => aw_eqs hq
(aw_if_eq d_X8_under_4 rfl rfl zb_I (fun c3 => have e5 := e2.1 (zb_0 c3); (aw_ldc d_X8_under_14 rfl ci8_195
(aw_ri d_X8_under_16 rfl e5))) (fun c4 => have e6 := e2.2 (zb_n0 c4); (aw_iload_n d_X8_under_7 rfl rfl 2 rfl
(have z7 := e6.1; have e8 := e6.2; (aw_SI (As := [zi v2]) (st := []) d_X8_under_8 rfl cs8_148 ⟨Nat.le_of_ble_eq_true rfl, Nat.le_of_ble_eq_true rfl⟩ rfl rfl (Nat.le_of_ble_eq_true rfl) (Nat.le_of_ble_eq_true rfl) (s_X8_isLaw z7) (fun _ _ hq => aw_eqs hq
(aw_if_ne d_X8_under_11 rfl rfl zb_I (fun c9 => have e11 := e8.1 (zb_n0 c9); (aw_aload_n d_X8_under_17 rfl rfl 0 rfl (by decide)
(aw_getR (k' := 0) (a := 0) (b := 0) (j := 0) d_X8_under_18 rfl fl8_47 rfl zj0 ⟨by decide, fun _ => by decide⟩
(aw_aload_n d_X8_under_21 rfl rfl 0 rfl (by decide)
(aw_getR (k' := 1) (a := 0) (b := 0) (j := 0) d_X8_under_22 rfl fl8_12 rfl zj0 ⟨by decide, fun _ => by decide⟩
(aw_iload_n d_X8_under_25 rfl rfl 1 rfl
(aw_SI (As := [zi v1]) (st := [zr 1 0, zr 0 0]) d_X8_under_26 rfl cs8_255 ⟨Nat.le_of_ble_eq_true rfl, Nat.le_of_ble_eq_true rfl⟩ rfl rfl (Nat.le_of_ble_eq_true rfl) (Nat.le_of_ble_eq_true rfl) (s_X8_bit) (fun _ _ hq => aw_eqs hq
(aw_iconst d_X8_under_29 rfl
(aw_VV (As := [zr 1 0, zi (zshl 1 v1), zi 0]) (st := []) d_X8_under_30 rfl cv8_289 ⟨Nat.le_of_ble_eq_true rfl, Nat.le_of_ble_eq_true rfl⟩ rfl rfl (Nat.le_of_ble_eq_true rfl) (Nat.le_of_ble_eq_true rfl) e11 (fun M13 e14 => (aw_aload_n d_X8_under_33 rfl rfl 0 rfl (by decide)
(aw_getR (k' := 0) (a := 0) (b := 0) (j := 0) d_X8_under_34 rfl fl8_47 rfl zj0 ⟨by decide, fun _ => by decide⟩
(aw_aload_n d_X8_under_37 rfl rfl 0 rfl (by decide)
(aw_getR (k' := 1) (a := 0) (b := 0) (j := 0) d_X8_under_38 rfl fl8_12 rfl zj0 ⟨by decide, fun _ => by decide⟩
(aw_getI (kc := 7) d_X8_under_41 rfl fl8_145 rfl rfl
(aw_iload_n d_X8_under_44 rfl rfl 2 rfl
(aw_VV (As := [zi (M13 1 0 7), zi v2]) (st := []) d_X8_under_45 rfl cv8_293 ⟨Nat.le_of_ble_eq_true rfl, Nat.le_of_ble_eq_true rfl⟩ rfl rfl (Nat.le_of_ble_eq_true rfl) (Nat.le_of_ble_eq_true rfl) e14 (fun M16 e17 => (aw_iload_n d_X8_under_48 rfl rfl 3 rfl
(have z19 := e17.1; have e20 := e17.2; aw_table (offs := [27, 35, 43]) d_X8_under_49 rfl z19 rfl ⟨fun c21 => ⟨76, rfl, have e22 := e20.1 c21; (aw_aload_n d_X8_under_76 rfl rfl 0 rfl (by decide)
(aw_getR (k' := 0) (a := 0) (b := 0) (j := 0) d_X8_under_77 rfl fl8_47 rfl zj0 ⟨by decide, fun _ => by decide⟩
(aw_getI (kc := 8) d_X8_under_80 rfl fl8_157 rfl rfl
(aw_ri d_X8_under_83 rfl e22))))⟩, ⟨fun c23 => ⟨84, rfl, have e24 := e20.2.1 c23; (aw_aload_n d_X8_under_84 rfl rfl 0 rfl (by decide)
(aw_getR (k' := 0) (a := 0) (b := 0) (j := 0) d_X8_under_85 rfl fl8_47 rfl zj0 ⟨by decide, fun _ => by decide⟩
(aw_VI (As := []) (st := []) d_X8_under_88 rfl cv8_172 ⟨Nat.le_of_ble_eq_true rfl, Nat.le_of_ble_eq_true rfl⟩ rfl rfl (Nat.le_of_ble_eq_true rfl) (Nat.le_of_ble_eq_true rfl) e24 (fun x28 M25 e26 => (aw_ri d_X8_under_91 rfl e26)))))⟩, ⟨fun c29 => ⟨92, rfl, have e30 := e20.2.2.1 c29; (aw_aload_n d_X8_under_92 rfl rfl 0 rfl (by decide)
(aw_getR (k' := 0) (a := 0) (b := 0) (j := 0) d_X8_under_93 rfl fl8_47 rfl zj0 ⟨by decide, fun _ => by decide⟩
(aw_VI (As := []) (st := []) d_X8_under_96 rfl cv8_239 ⟨Nat.le_of_ble_eq_true rfl, Nat.le_of_ble_eq_true rfl⟩ rfl rfl (Nat.le_of_ble_eq_true rfl) (Nat.le_of_ble_eq_true rfl) e30 (fun x34 M31 e32 => (aw_ri d_X8_under_99 rfl e32)))))⟩, trivial⟩⟩⟩ (fun c35 => have e36 := e20.2.2.2 c35; (aw_ldc d_X8_under_100 rfl ci8_195
(aw_ri d_X8_under_102 rfl e36)))))))))))))))))))))))) (fun c10 => have e12 := e8.2 (zb_0 c10); (aw_ldc d_X8_under_14 rfl ci8_195
(aw_ri d_X8_under_16 rfl e12))))))))))))))
theorem vX9_under {l : Launch} {P : Int → zM → Prop} {v1 : Int} {v2 : Int} {v3 : Int} {M : zM}
    (H0 : (zI v1 ∧ ((¬ (0 ≤ v1 ∧ v1 < 4) → P (-2147483648) M) ∧ (0 ≤ v1 ∧ v1 < 4 → (zI v2 ∧ ((zJ v2 ∧ zJ 0 ∧ zJ 3) ∧ ((¬ (0 ≤ v2 ∧ v2 ≤ 3) → P (-2147483648) M) ∧ (0 ≤ v2 ∧ v2 ≤ 3 → (zI v3 ∧ ((zJ v3 ∧ zJ 0 ∧ zJ 2) ∧ ((0 ≤ v3 ∧ v3 ≤ 2 → (∀ M23 : zM, M23 = zu M 27 0 182 v2 → ((v3 ≠ 0 → ((v3 ≠ 1 → (CI l m_X9_market [zr 9 0, zi v1, zi 6] M23 (fun x36 M33 => (∀ M37 : zM, M37 = zu M33 27 0 182 (M 27 0 182) → P x36 M37)))) ∧ (v3 = 1 → (CI l m_X9_market [zr 9 0, zi v1, zi 5] M23 (fun x42 M39 => (∀ M43 : zM, M43 = zu M39 27 0 182 (M 27 0 182) → P x42 M43)))))) ∧ (v3 = 0 → (CI l m_X9_market [zr 9 0, zi v1, zi 2] M23 (fun x48 M45 => (∀ M49 : zM, M49 = zu M45 27 0 182 (M 27 0 182) → P x48 M49))))))) ∧ (¬ (0 ≤ v3 ∧ v3 ≤ 2) → P (-2147483648) M)))))))))))) :
    CI l m_X9_under [zr 9 0, zi v1, zi v2, zi v3] M P :=
(aw_iload_n d_X9_under_0 rfl rfl 1 rfl
(have z1 := H0.1; have e2 := H0.2; (aw_SI (As := [zi v1]) (st := []) d_X9_under_1 rfl cs9_195 ⟨Nat.le_of_ble_eq_true rfl, Nat.le_of_ble_eq_true rfl⟩ rfl rfl (Nat.le_of_ble_eq_true rfl) (Nat.le_of_ble_eq_true rfl) (s_X9_isGrade z1) (fun _ _ hq => aw_eqs hq
(aw_if_eq d_X9_under_4 rfl rfl zb_I (fun c3 => have e5 := e2.1 (zb_0 c3); (aw_ldc d_X9_under_31 rfl ci9_192
(aw_ri d_X9_under_33 rfl e5))) (fun c4 => have e6 := e2.2 (zb_n0 c4); (aw_iload_n d_X9_under_7 rfl rfl 2 rfl
(have z7 := e6.1; have e8 := e6.2; (aw_i2l d_X9_under_8 rfl z7
(aw_lconst (x := 0) d_X9_under_9 rfl (by decide)
(aw_ldc2 d_X9_under_10 rfl cl9_86
(have z9 := e8.1; have e10 := e8.2; (aw_SI (As := [zl v2, zl 0, zl 3]) (st := []) d_X9_under_13 rfl cs9_82 ⟨Nat.le_of_ble_eq_true rfl, Nat.le_of_ble_eq_true rfl⟩ rfl rfl (Nat.le_of_ble_eq_true rfl) (Nat.le_of_ble_eq_true rfl) (s_X9_in z9) (fun _ _ hq => aw_eqs hq
(aw_if_eq d_X9_under_16 rfl rfl zb_I (fun c11 => have e13 := e10.1 (zb_0 c11); (aw_ldc d_X9_under_31 rfl ci9_192
(aw_ri d_X9_under_33 rfl e13))) (fun c12 => have e14 := e10.2 (zb_n0 c12); (aw_iload_n d_X9_under_19 rfl rfl 3 rfl
(have z15 := e14.1; have e16 := e14.2; (aw_i2l d_X9_under_20 rfl z15
(aw_lconst (x := 0) d_X9_under_21 rfl (by decide)
(aw_ldc2 d_X9_under_22 rfl cl9_217
(have z17 := e16.1; have e18 := e16.2; (aw_SI (As := [zl v3, zl 0, zl 2]) (st := []) d_X9_under_25 rfl cs9_82 ⟨Nat.le_of_ble_eq_true rfl, Nat.le_of_ble_eq_true rfl⟩ rfl rfl (Nat.le_of_ble_eq_true rfl) (Nat.le_of_ble_eq_true rfl) (s_X9_in z17) (fun _ _ hq => aw_eqs hq
(aw_if_ne d_X9_under_28 rfl rfl zb_I (fun c19 => have e21 := e18.1 (zb_n0 c19); (aw_aload_n d_X9_under_34 rfl rfl 0 rfl (by decide)
(aw_getR (k' := 27) (a := 0) (b := 0) (j := 0) d_X9_under_35 rfl fl9_7 rfl zj0 ⟨by decide, fun _ => by decide⟩
(aw_sipush d_X9_under_38 rfl (by decide)
(aw_iald d_X9_under_41 rfl za27 (by decide)
(aw_istore (lv' := [(4, zi (M 27 0 182)), (0, zr 9 0), (1, zi v1), (2, zi v2), (3, zi v3)]) d_X9_under_42 rfl (by decide) rfl
(aw_aload_n d_X9_under_44 rfl rfl 1 rfl (by decide)
(aw_getR (k' := 27) (a := 0) (b := 0) (j := 0) d_X9_under_45 rfl fl9_7 rfl zj0 ⟨by decide, fun _ => by decide⟩
(aw_sipush d_X9_under_48 rfl (by decide)
(aw_iload_n d_X9_under_51 rfl rfl 3 rfl
(have e24 := e21 _ rfl; aw_iast d_X9_under_52 rfl za27 (by decide)
(aw_aload_n d_X9_under_53 rfl rfl 1 rfl (by decide)
(aw_iload_n d_X9_under_54 rfl rfl 2 rfl
(aw_iload_n d_X9_under_55 rfl rfl 4 rfl
(aw_if_ne d_X9_under_56 rfl rfl z15 (fun c25 => have e27 := e24.1 c25; (aw_iload_n d_X9_under_63 rfl rfl 4 rfl
(aw_iconst d_X9_under_64 rfl
(aw_icmp_ne d_X9_under_65 rfl rfl z15 (by decide) (fun c29 => have e31 := e27.1 c29; (aw_bipush d_X9_under_72 rfl (by decide)
(aw_VI (As := [zi v1, zi 6]) (st := []) d_X9_under_74 rfl cv9_263 ⟨Nat.le_of_ble_eq_true rfl, Nat.le_of_ble_eq_true rfl⟩ rfl rfl (Nat.le_of_ble_eq_true rfl) (Nat.le_of_ble_eq_true rfl) e31 (fun x36 M33 e34 => (aw_istore (lv' := [(5, zi x36), (4, zi (M 27 0 182)), (0, zr 9 0), (1, zi v1), (2, zi v2), (3, zi v3)]) d_X9_under_77 rfl (by decide) rfl
(aw_aload_n d_X9_under_79 rfl rfl 2 rfl (by decide)
(aw_getR (k' := 27) (a := 0) (b := 0) (j := 0) d_X9_under_80 rfl fl9_7 rfl zj0 ⟨by decide, fun _ => by decide⟩
(aw_sipush d_X9_under_83 rfl (by decide)
(aw_iload d_X9_under_86 rfl 1 rfl
(have e38 := e34 _ rfl; aw_iast d_X9_under_88 rfl za27 (by decide)
(aw_iload d_X9_under_89 rfl 0 rfl
(aw_ri d_X9_under_91 rfl e38)))))))))))) (fun c30 => have e32 := e27.2 c30; (aw_iconst d_X9_under_68 rfl
(aw_goto d_X9_under_69 rfl
(aw_VI (As := [zi v1, zi 5]) (st := []) d_X9_under_74 rfl cv9_263 ⟨Nat.le_of_ble_eq_true rfl, Nat.le_of_ble_eq_true rfl⟩ rfl rfl (Nat.le_of_ble_eq_true rfl) (Nat.le_of_ble_eq_true rfl) e32 (fun x42 M39 e40 => (aw_istore (lv' := [(5, zi x42), (4, zi (M 27 0 182)), (0, zr 9 0), (1, zi v1), (2, zi v2), (3, zi v3)]) d_X9_under_77 rfl (by decide) rfl
(aw_aload_n d_X9_under_79 rfl rfl 2 rfl (by decide)
(aw_getR (k' := 27) (a := 0) (b := 0) (j := 0) d_X9_under_80 rfl fl9_7 rfl zj0 ⟨by decide, fun _ => by decide⟩
(aw_sipush d_X9_under_83 rfl (by decide)
(aw_iload d_X9_under_86 rfl 1 rfl
(have e44 := e40 _ rfl; aw_iast d_X9_under_88 rfl za27 (by decide)
(aw_iload d_X9_under_89 rfl 0 rfl
(aw_ri d_X9_under_91 rfl e44))))))))))))))))) (fun c26 => have e28 := e24.2 c26; (aw_iconst d_X9_under_59 rfl
(aw_goto d_X9_under_60 rfl
(aw_VI (As := [zi v1, zi 2]) (st := []) d_X9_under_74 rfl cv9_263 ⟨Nat.le_of_ble_eq_true rfl, Nat.le_of_ble_eq_true rfl⟩ rfl rfl (Nat.le_of_ble_eq_true rfl) (Nat.le_of_ble_eq_true rfl) e28 (fun x48 M45 e46 => (aw_istore (lv' := [(5, zi x48), (4, zi (M 27 0 182)), (0, zr 9 0), (1, zi v1), (2, zi v2), (3, zi v3)]) d_X9_under_77 rfl (by decide) rfl
(aw_aload_n d_X9_under_79 rfl rfl 2 rfl (by decide)
(aw_getR (k' := 27) (a := 0) (b := 0) (j := 0) d_X9_under_80 rfl fl9_7 rfl zj0 ⟨by decide, fun _ => by decide⟩
(aw_sipush d_X9_under_83 rfl (by decide)
(aw_iload d_X9_under_86 rfl 1 rfl
(have e50 := e46 _ rfl; aw_iast d_X9_under_88 rfl za27 (by decide)
(aw_iload d_X9_under_89 rfl 0 rfl
(aw_ri d_X9_under_91 rfl e50)))))))))))))))))))))))))))) (fun c20 => have e22 := e18.2 (zb_0 c20); (aw_ldc d_X9_under_31 rfl ci9_192
(aw_ri d_X9_under_33 rfl e22))))))))))))))))))))))))))))
theorem vX8_feeing {l : Launch} {P : Int → zM → Prop} {v1 : Int} {v2 : Int} {v3 : Int} {M : zM}
    (H0 : (zI v1 ∧ ((¬ (0 ≤ v1 ∧ v1 < 4) → P (-2147483648) M) ∧ (0 ≤ v1 ∧ v1 < 4 → (zI v2 ∧ ((¬ (0 ≤ v2 ∧ v2 ≤ 500) → P (-2147483648) M) ∧ (0 ≤ v2 ∧ v2 ≤ 500 → (zI v3 ∧ ((v3 = 0 ∨ v3 = 1 → (CV l m_X0_take [zr 0 0, zr 1 0, zi (zshl 1 v1), zi 0] M (fun M19 => (CV l m_X0_settle [zr 0 0, zi v2, zi (M19 1 0 8)] M19 (fun M22 => (zI v3 ∧ (v3 ≠ 0 → (CI l m_X0_takings [zr 0 0] M22 (fun x34 M31 => P x34 M31))) ∧ (v3 = 0 → P (M22 0 0 6) M22))))))) ∧ (¬ (v3 = 0 ∨ v3 = 1) → P (-2147483648) M)))))))))) :
    CI l m_X8_feeing [zr 8 0, zi v1, zi v2, zi v3] M P :=
(aw_iload_n d_X8_feeing_0 rfl rfl 1 rfl
(have z1 := H0.1; have e2 := H0.2; (aw_SI (As := [zi v1]) (st := []) d_X8_feeing_1 rfl cs8_99 ⟨Nat.le_of_ble_eq_true rfl, Nat.le_of_ble_eq_true rfl⟩ rfl rfl (Nat.le_of_ble_eq_true rfl) (Nat.le_of_ble_eq_true rfl) (s_X8_isGrade z1) (fun _ _ hq => aw_eqs hq
(aw_if_eq d_X8_feeing_4 rfl rfl zb_I (fun c3 => have e5 := e2.1 (zb_0 c3); (aw_ldc d_X8_feeing_21 rfl ci8_195
(aw_ri d_X8_feeing_23 rfl e5))) (fun c4 => have e6 := e2.2 (zb_n0 c4); (aw_iload_n d_X8_feeing_7 rfl rfl 2 rfl
(have z7 := e6.1; have e8 := e6.2; (aw_SI (As := [zi v2]) (st := []) d_X8_feeing_8 rfl cs8_142 ⟨Nat.le_of_ble_eq_true rfl, Nat.le_of_ble_eq_true rfl⟩ rfl rfl (Nat.le_of_ble_eq_true rfl) (Nat.le_of_ble_eq_true rfl) (s_X8_isFee z7) (fun _ _ hq => aw_eqs hq
(aw_if_eq d_X8_feeing_11 rfl rfl zb_I (fun c9 => have e11 := e8.1 (zb_0 c9); (aw_ldc d_X8_feeing_21 rfl ci8_195
(aw_ri d_X8_feeing_23 rfl e11))) (fun c10 => have e12 := e8.2 (zb_n0 c10); (aw_iload_n d_X8_feeing_14 rfl rfl 3 rfl
(have z13 := e12.1; have e14 := e12.2; (aw_SI (As := [zi v3]) (st := []) d_X8_feeing_15 rfl cs8_248 ⟨Nat.le_of_ble_eq_true rfl, Nat.le_of_ble_eq_true rfl⟩ rfl rfl (Nat.le_of_ble_eq_true rfl) (Nat.le_of_ble_eq_true rfl) (s_X8_isZeroOrOne z13) (fun _ _ hq => aw_eqs hq
(aw_if_ne d_X8_feeing_18 rfl rfl zb_I (fun c15 => have e17 := e14.1 (zb_n0 c15); (aw_aload_n d_X8_feeing_24 rfl rfl 0 rfl (by decide)
(aw_getR (k' := 0) (a := 0) (b := 0) (j := 0) d_X8_feeing_25 rfl fl8_47 rfl zj0 ⟨by decide, fun _ => by decide⟩
(aw_aload_n d_X8_feeing_28 rfl rfl 0 rfl (by decide)
(aw_getR (k' := 1) (a := 0) (b := 0) (j := 0) d_X8_feeing_29 rfl fl8_12 rfl zj0 ⟨by decide, fun _ => by decide⟩
(aw_iload_n d_X8_feeing_32 rfl rfl 1 rfl
(aw_SI (As := [zi v1]) (st := [zr 1 0, zr 0 0]) d_X8_feeing_33 rfl cs8_255 ⟨Nat.le_of_ble_eq_true rfl, Nat.le_of_ble_eq_true rfl⟩ rfl rfl (Nat.le_of_ble_eq_true rfl) (Nat.le_of_ble_eq_true rfl) (s_X8_bit) (fun _ _ hq => aw_eqs hq
(aw_iconst d_X8_feeing_36 rfl
(aw_VV (As := [zr 1 0, zi (zshl 1 v1), zi 0]) (st := []) d_X8_feeing_37 rfl cv8_289 ⟨Nat.le_of_ble_eq_true rfl, Nat.le_of_ble_eq_true rfl⟩ rfl rfl (Nat.le_of_ble_eq_true rfl) (Nat.le_of_ble_eq_true rfl) e17 (fun M19 e20 => (aw_aload_n d_X8_feeing_40 rfl rfl 0 rfl (by decide)
(aw_getR (k' := 0) (a := 0) (b := 0) (j := 0) d_X8_feeing_41 rfl fl8_47 rfl zj0 ⟨by decide, fun _ => by decide⟩
(aw_iload_n d_X8_feeing_44 rfl rfl 2 rfl
(aw_aload_n d_X8_feeing_45 rfl rfl 0 rfl (by decide)
(aw_getR (k' := 1) (a := 0) (b := 0) (j := 0) d_X8_feeing_46 rfl fl8_12 rfl zj0 ⟨by decide, fun _ => by decide⟩
(aw_getI (kc := 8) d_X8_feeing_49 rfl fl8_151 rfl rfl
(aw_VV (As := [zi v2, zi (M19 1 0 8)]) (st := []) d_X8_feeing_52 rfl cv8_293 ⟨Nat.le_of_ble_eq_true rfl, Nat.le_of_ble_eq_true rfl⟩ rfl rfl (Nat.le_of_ble_eq_true rfl) (Nat.le_of_ble_eq_true rfl) e20 (fun M22 e23 => (aw_iload_n d_X8_feeing_55 rfl rfl 3 rfl
(have z25 := e23.1; have e26 := e23.2; aw_if_ne d_X8_feeing_56 rfl rfl z25 (fun c27 => have e29 := e26.1 c27; (aw_aload_n d_X8_feeing_69 rfl rfl 0 rfl (by decide)
(aw_getR (k' := 0) (a := 0) (b := 0) (j := 0) d_X8_feeing_70 rfl fl8_47 rfl zj0 ⟨by decide, fun _ => by decide⟩
(aw_VI (As := []) (st := []) d_X8_feeing_73 rfl cv8_172 ⟨Nat.le_of_ble_eq_true rfl, Nat.le_of_ble_eq_true rfl⟩ rfl rfl (Nat.le_of_ble_eq_true rfl) (Nat.le_of_ble_eq_true rfl) e29 (fun x34 M31 e32 => (aw_ri d_X8_feeing_76 rfl e32)))))) (fun c28 => have e30 := e26.2 c28; (aw_aload_n d_X8_feeing_59 rfl rfl 0 rfl (by decide)
(aw_getR (k' := 0) (a := 0) (b := 0) (j := 0) d_X8_feeing_60 rfl fl8_47 rfl zj0 ⟨by decide, fun _ => by decide⟩
(aw_getI (kc := 6) d_X8_feeing_63 rfl fl8_223 rfl rfl
(aw_goto d_X8_feeing_66 rfl
(aw_ri d_X8_feeing_76 rfl e30))))))))))))))))))))))))))) (fun c16 => have e18 := e14.2 (zb_0 c16); (aw_ldc d_X8_feeing_21 rfl ci8_195
(aw_ri d_X8_feeing_23 rfl e18))))))))))))))))))))
theorem vX9_feeing {l : Launch} {P : Int → zM → Prop} {v1 : Int} {v2 : Int} {v3 : Int} {M : zM}
    (H0 : (zI v1 ∧ ((¬ (0 ≤ v1 ∧ v1 < 4) → P (-2147483648) M) ∧ (0 ≤ v1 ∧ v1 < 4 → (zI v2 ∧ ((zJ v2 ∧ zJ 0 ∧ zJ 500) ∧ ((¬ (0 ≤ v2 ∧ v2 ≤ 500) → P (-2147483648) M) ∧ (0 ≤ v2 ∧ v2 ≤ 500 → (zI v3 ∧ ((zJ v3 ∧ zJ 0 ∧ zJ 1) ∧ ((0 ≤ v3 ∧ v3 ≤ 1 → (∀ M23 : zM, M23 = zu M 27 0 181 v2 → ((v3 ≠ 0 → (CI l m_X9_market [zr 9 0, zi v1, zi 5] M23 (fun x32 M29 => (∀ M33 : zM, M33 = zu M29 27 0 181 (M 27 0 181) → P x32 M33)))) ∧ (v3 = 0 → (CI l m_X9_market [zr 9 0, zi v1, zi 0] M23 (fun x38 M35 => (∀ M39 : zM, M39 = zu M35 27 0 181 (M 27 0 181) → P x38 M39))))))) ∧ (¬ (0 ≤ v3 ∧ v3 ≤ 1) → P (-2147483648) M)))))))))))) :
    CI l m_X9_feeing [zr 9 0, zi v1, zi v2, zi v3] M P :=
(aw_iload_n d_X9_feeing_0 rfl rfl 1 rfl
(have z1 := H0.1; have e2 := H0.2; (aw_SI (As := [zi v1]) (st := []) d_X9_feeing_1 rfl cs9_195 ⟨Nat.le_of_ble_eq_true rfl, Nat.le_of_ble_eq_true rfl⟩ rfl rfl (Nat.le_of_ble_eq_true rfl) (Nat.le_of_ble_eq_true rfl) (s_X9_isGrade z1) (fun _ _ hq => aw_eqs hq
(aw_if_eq d_X9_feeing_4 rfl rfl zb_I (fun c3 => have e5 := e2.1 (zb_0 c3); (aw_ldc d_X9_feeing_29 rfl ci9_192
(aw_ri d_X9_feeing_31 rfl e5))) (fun c4 => have e6 := e2.2 (zb_n0 c4); (aw_iload_n d_X9_feeing_7 rfl rfl 2 rfl
(have z7 := e6.1; have e8 := e6.2; (aw_i2l d_X9_feeing_8 rfl z7
(aw_lconst (x := 0) d_X9_feeing_9 rfl (by decide)
(aw_ldc2 d_X9_feeing_10 rfl cl9_209
(have z9 := e8.1; have e10 := e8.2; (aw_SI (As := [zl v2, zl 0, zl 500]) (st := []) d_X9_feeing_13 rfl cs9_82 ⟨Nat.le_of_ble_eq_true rfl, Nat.le_of_ble_eq_true rfl⟩ rfl rfl (Nat.le_of_ble_eq_true rfl) (Nat.le_of_ble_eq_true rfl) (s_X9_in z9) (fun _ _ hq => aw_eqs hq
(aw_if_eq d_X9_feeing_16 rfl rfl zb_I (fun c11 => have e13 := e10.1 (zb_0 c11); (aw_ldc d_X9_feeing_29 rfl ci9_192
(aw_ri d_X9_feeing_31 rfl e13))) (fun c12 => have e14 := e10.2 (zb_n0 c12); (aw_iload_n d_X9_feeing_19 rfl rfl 3 rfl
(have z15 := e14.1; have e16 := e14.2; (aw_i2l d_X9_feeing_20 rfl z15
(aw_lconst (x := 0) d_X9_feeing_21 rfl (by decide)
(aw_lconst (x := 1) d_X9_feeing_22 rfl (by decide)
(have z17 := e16.1; have e18 := e16.2; (aw_SI (As := [zl v3, zl 0, zl 1]) (st := []) d_X9_feeing_23 rfl cs9_82 ⟨Nat.le_of_ble_eq_true rfl, Nat.le_of_ble_eq_true rfl⟩ rfl rfl (Nat.le_of_ble_eq_true rfl) (Nat.le_of_ble_eq_true rfl) (s_X9_in z17) (fun _ _ hq => aw_eqs hq
(aw_if_ne d_X9_feeing_26 rfl rfl zb_I (fun c19 => have e21 := e18.1 (zb_n0 c19); (aw_aload_n d_X9_feeing_32 rfl rfl 0 rfl (by decide)
(aw_getR (k' := 27) (a := 0) (b := 0) (j := 0) d_X9_feeing_33 rfl fl9_7 rfl zj0 ⟨by decide, fun _ => by decide⟩
(aw_sipush d_X9_feeing_36 rfl (by decide)
(aw_iald d_X9_feeing_39 rfl za27 (by decide)
(aw_istore (lv' := [(4, zi (M 27 0 181)), (0, zr 9 0), (1, zi v1), (2, zi v2), (3, zi v3)]) d_X9_feeing_40 rfl (by decide) rfl
(aw_aload_n d_X9_feeing_42 rfl rfl 1 rfl (by decide)
(aw_getR (k' := 27) (a := 0) (b := 0) (j := 0) d_X9_feeing_43 rfl fl9_7 rfl zj0 ⟨by decide, fun _ => by decide⟩
(aw_sipush d_X9_feeing_46 rfl (by decide)
(aw_iload_n d_X9_feeing_49 rfl rfl 3 rfl
(have e24 := e21 _ rfl; aw_iast d_X9_feeing_50 rfl za27 (by decide)
(aw_aload_n d_X9_feeing_51 rfl rfl 1 rfl (by decide)
(aw_iload_n d_X9_feeing_52 rfl rfl 2 rfl
(aw_iload_n d_X9_feeing_53 rfl rfl 4 rfl
(aw_if_ne d_X9_feeing_54 rfl rfl z15 (fun c25 => have e27 := e24.1 c25; (aw_iconst d_X9_feeing_61 rfl
(aw_VI (As := [zi v1, zi 5]) (st := []) d_X9_feeing_62 rfl cv9_263 ⟨Nat.le_of_ble_eq_true rfl, Nat.le_of_ble_eq_true rfl⟩ rfl rfl (Nat.le_of_ble_eq_true rfl) (Nat.le_of_ble_eq_true rfl) e27 (fun x32 M29 e30 => (aw_istore (lv' := [(5, zi x32), (4, zi (M 27 0 181)), (0, zr 9 0), (1, zi v1), (2, zi v2), (3, zi v3)]) d_X9_feeing_65 rfl (by decide) rfl
(aw_aload_n d_X9_feeing_67 rfl rfl 2 rfl (by decide)
(aw_getR (k' := 27) (a := 0) (b := 0) (j := 0) d_X9_feeing_68 rfl fl9_7 rfl zj0 ⟨by decide, fun _ => by decide⟩
(aw_sipush d_X9_feeing_71 rfl (by decide)
(aw_iload d_X9_feeing_74 rfl 1 rfl
(have e34 := e30 _ rfl; aw_iast d_X9_feeing_76 rfl za27 (by decide)
(aw_iload d_X9_feeing_77 rfl 0 rfl
(aw_ri d_X9_feeing_79 rfl e34)))))))))))) (fun c26 => have e28 := e24.2 c26; (aw_iconst d_X9_feeing_57 rfl
(aw_goto d_X9_feeing_58 rfl
(aw_VI (As := [zi v1, zi 0]) (st := []) d_X9_feeing_62 rfl cv9_263 ⟨Nat.le_of_ble_eq_true rfl, Nat.le_of_ble_eq_true rfl⟩ rfl rfl (Nat.le_of_ble_eq_true rfl) (Nat.le_of_ble_eq_true rfl) e28 (fun x38 M35 e36 => (aw_istore (lv' := [(5, zi x38), (4, zi (M 27 0 181)), (0, zr 9 0), (1, zi v1), (2, zi v2), (3, zi v3)]) d_X9_feeing_65 rfl (by decide) rfl
(aw_aload_n d_X9_feeing_67 rfl rfl 2 rfl (by decide)
(aw_getR (k' := 27) (a := 0) (b := 0) (j := 0) d_X9_feeing_68 rfl fl9_7 rfl zj0 ⟨by decide, fun _ => by decide⟩
(aw_sipush d_X9_feeing_71 rfl (by decide)
(aw_iload d_X9_feeing_74 rfl 1 rfl
(have e40 := e36 _ rfl; aw_iast d_X9_feeing_76 rfl za27 (by decide)
(aw_iload d_X9_feeing_77 rfl 0 rfl
(aw_ri d_X9_feeing_79 rfl e40)))))))))))))))))))))))))))) (fun c20 => have e22 := e18.2 (zb_0 c20); (aw_ldc d_X9_feeing_29 rfl ci9_192
(aw_ri d_X9_feeing_31 rfl e22))))))))))))))))))))))))))))
theorem q8_under {g w k : Int} (c : CX M S) (zg : zI g) (zw : zI w) (zk : zI k) : CI l m_X8_under [zr 8 0, zi g, zi w, zi k] M (fun x M' => x = aUnder S g w k ∧ Fr kScr M M') := by
  have gg := gdS c.2 g
  have hf := c.2.2.2.1
  refine vX8_under ⟨zg, fun a => ⟨(aUnder_n (.inl a)).symm, Fr.rf⟩, fun a => ⟨zw, fun b => ?_, fun b => ⟨(aUnder_n (.inr (.inl b))).symm, Fr.rf⟩⟩⟩
  refine (c_X0_take c.1.1 c.1.2 c.2.1 (grE0 c.2 a)).mono ?_
  rintro M1 ⟨f1, r1⟩
  have c1 := c.bk f1
  rw [c1.fee]
  refine (c_X0_settle gg hf b r1).mono ?_
  rintro M2 ⟨f2, s2⟩
  have F := (f1.tr f2.bk).scr
  refine ⟨zk, fun e => ⟨?_, F⟩, fun e => ?_, fun e => ?_, fun e => ⟨(aUnder_n (by omega)).symm, F⟩⟩
  · subst e; rw [aUnder_i a b (by omega), s2.2.1.2.2.2.2]; rfl
  · subst e; rw [aUnder_i a b (by omega)]; exact (c_X0_takings c.2.1 hf b s2).eq ⟨rfl, F⟩
  · subst e; rw [aUnder_i a b (by omega)]; exact (c_X0_lost gg hf s2).eq ⟨rfl, F⟩
theorem q9_under {g w k : Int} (h : MX M S) (zg : zI g) (zw : zI w) (zk : zI k) : CI l m_X9_under [zr 9 0, zi g, zi w, zi k] M (fun x M' => x = aUnder S g w k ∧ mQ M M') := by
  have ok := h.ok
  refine vX9_under ⟨zg, fun a => ⟨(aUnder_n (.inl a)).symm, mQ.rf h⟩, fun a => ⟨zw, by omega, fun b => ⟨(aUnder_n (.inr (.inl b))).symm, mQ.rf h⟩, fun b => ⟨zk, by omega, fun d => ?_, fun d => ⟨(aUnder_n (by omega)).symm, mQ.rf h⟩⟩⟩⟩
  rw [aUnder_i a b d]
  intro M1 q1
  have hx : MX M1 (sSc S 2 w) := h.sc (j := 2) (by omega) (by rw [q1]; rfl) (sLaw_ok ok b) (by rw [q1, zu_k (by decide), h.2.1]) (by rw [q1, zu_k (by decide), h.2.2]) (by rw [q1, zu_k (by decide)]; exact h.1.1.2.2.2.2.2)
  have em : ∀ k, aMarket (sSc S 2 w) g k = aMkt S (qfee S) w g k := fun k => by rw [aMarket, if_pos a]; rfl
  refine ⟨fun e => ⟨fun e2 => ?_, fun e2 => ?_⟩, fun e => ?_⟩
  · rw [if_neg e, if_neg e2]
    refine (m_market hx zg (by omega)).mono ?_
    rintro x M2 ⟨rfl, f2⟩
    intro M3 q3
    exact ⟨em _, sc_back (S' := S) h q1 f2 q3⟩
  · rw [if_neg e, if_pos e2]
    refine (m_market hx zg (by omega)).mono ?_
    rintro x M2 ⟨rfl, f2⟩
    intro M3 q3
    exact ⟨em _, sc_back (S' := S) h q1 f2 q3⟩
  · rw [if_pos e]
    refine (m_market hx zg (by omega)).mono ?_
    rintro x M2 ⟨rfl, f2⟩
    intro M3 q3
    exact ⟨em _, sc_back (S' := S) h q1 f2 q3⟩
theorem q8_feeing {g p k : Int} (c : CX M S) (zg : zI g) (zp : zI p) (zk : zI k) : CI l m_X8_feeing [zr 8 0, zi g, zi p, zi k] M (fun x M' => x = aFeeing S g p k ∧ Fr kScr M M') := by
  have gg := gdS c.2 g
  refine vX8_feeing ⟨zg, fun a => ⟨(aFeeing_n (.inl a)).symm, Fr.rf⟩, fun a => ⟨zp, fun b => ⟨(aFeeing_n (.inr (.inl b))).symm, Fr.rf⟩, fun b => ⟨zk, fun d => ?_, fun d => ⟨(aFeeing_n (by omega)).symm, Fr.rf⟩⟩⟩⟩
  refine (c_X0_take c.1.1 c.1.2 c.2.1 (grE0 c.2 a)).mono ?_
  rintro M1 ⟨f1, r1⟩
  have c1 := c.bk f1
  rw [c1.law]
  refine (c_X0_settle gg b c.2.2.2.2 r1).mono ?_
  rintro M2 ⟨f2, s2⟩
  have F := (f1.tr f2.bk).scr
  rw [aFeeing_i a b (by omega)]
  refine ⟨zk, fun e => ?_, fun e => ⟨?_, F⟩⟩
  · rw [if_neg e]; exact (c_X0_takings c.2.1 b c.2.2.2.2 s2).eq ⟨rfl, F⟩
  · rw [if_pos e, s2.2.1.2.2.1]; rfl
theorem q9_feeing {g p k : Int} (h : MX M S) (zg : zI g) (zp : zI p) (zk : zI k) : CI l m_X9_feeing [zr 9 0, zi g, zi p, zi k] M (fun x M' => x = aFeeing S g p k ∧ mQ M M') := by
  have ok := h.ok
  refine vX9_feeing ⟨zg, fun a => ⟨(aFeeing_n (.inl a)).symm, mQ.rf h⟩, fun a => ⟨zp, by omega, fun b => ⟨(aFeeing_n (.inr (.inl b))).symm, mQ.rf h⟩, fun b => ⟨zk, by omega, fun d => ?_, fun d => ⟨(aFeeing_n (by omega)).symm, mQ.rf h⟩⟩⟩⟩
  rw [aFeeing_i a b d]
  intro M1 q1
  have hx : MX M1 (sSc S 1 p) := h.sc (j := 1) (by omega) (by rw [q1]; rfl) (sFee_ok ok b) (by rw [q1, zu_k (by decide), h.2.1]) (by rw [q1, zu_k (by decide), h.2.2]) (by rw [q1, zu_k (by decide)]; exact h.1.1.2.2.2.2.2)
  have em : ∀ k, aMarket (sSc S 1 p) g k = aMkt S p (qlaw S) g k := fun k => by rw [aMarket, if_pos a]; rfl
  refine ⟨fun e => ?_, fun e => ?_⟩
  · rw [if_neg e]
    refine (m_market hx zg (by omega)).mono ?_
    rintro x M2 ⟨rfl, f2⟩
    intro M3 q3
    exact ⟨em _, sc_back (S' := S) h q1 f2 q3⟩
  · rw [if_pos e]
    refine (m_market hx zg (by omega)).mono ?_
    rintro x M2 ⟨rfl, f2⟩
    intro M3 q3
    exact ⟨em _, sc_back (S' := S) h q1 f2 q3⟩
noncomputable def tFee (S : zS) (p : Int) : Int := zsum (fun g => tkg (qB S g) (qA S g) p (qlaw S)) 4
noncomputable def aBestFee (S : zS) (k : Int) : Int := if k = 0 ∨ k = 1 then (if k = 0 then zbest (tFee S) 500 else tFee S (zbest (tFee S) 500)) else -1
theorem tFee_b {S : zS} (h : okS S) {p : Int} (hp : 0 ≤ p ∧ p ≤ 500) : -640000000 ≤ tFee S p ∧ tFee S p ≤ 640000000 := by
  have := zsum_bd (f := fun g => tkg (qB S g) (qA S g) p (qlaw S)) (n := 4) (c := -160000000) (d := 160000000) (by omega) (fun g _ => tkg_b (gdS h g) hp)
  unfold tFee
  omega
def LX8_weighFees_2 (l : Launch) (P : zM → Prop) (v1 : Int) (M : zM) : Prop := AW l m_X8_weighFees (zTv m_X8_weighFees P) 2 [(0, zr 8 0), (1, zi v1)] [] M
def LX8_weighFees_24 (l : Launch) (P : zM → Prop) (v1 : Int) (M : zM) : Prop := AW l m_X8_weighFees (zTv m_X8_weighFees P) 24 [(0, zr 8 0), (1, zi v1)] [] M
def LX8_weighFees_47 (l : Launch) (P : zM → Prop) (v1 : Int) (v2 : Int) (M : zM) : Prop := AW l m_X8_weighFees (zTv m_X8_weighFees P) 47 [(0, zr 8 0), (1, zi v1), (2, zi v2)] [] M
theorem vX8_weighFees_2 {l : Launch} {P : zM → Prop} {v1 : Int} {M : zM}
    (H0 : (zI v1 ∧ (500 < v1 → LX8_weighFees_24 l P 0 M) ∧ (v1 ≤ 500 → ((0 ≤ v1 ∧ v1 < 501) ∧ ∀ M8 : zM, M8 = zu M 25 0 v1 0 → LX8_weighFees_2 l P (v1 + 1) M8)))) :
    LX8_weighFees_2 l P v1 M :=
(aw_iload_n d_X8_weighFees_2 rfl rfl 1 rfl
(aw_sipush d_X8_weighFees_3 rfl (by decide)
(have z1 := H0.1; have e2 := H0.2; aw_icmp_gt d_X8_weighFees_6 rfl rfl z1 (by decide) (fun c3 => have e5 := e2.1 c3; (aw_iconst d_X8_weighFees_22 rfl
(aw_istore_n (lv' := [(1, zi 0), (0, zr 8 0)]) d_X8_weighFees_23 rfl rfl (by decide) rfl
(aw_sub [1, 0] rfl e5)))) (fun c4 => have e6 := e2.2 c4; (aw_aload_n d_X8_weighFees_9 rfl rfl 0 rfl (by decide)
(aw_getR (k' := 25) (a := 0) (b := 0) (j := 0) d_X8_weighFees_10 rfl fl8_68 rfl zj0 ⟨by decide, fun _ => by decide⟩
(aw_iload_n d_X8_weighFees_13 rfl rfl 1 rfl
(aw_iconst d_X8_weighFees_14 rfl
(have z7 := e6.1; have e9 := e6.2 _ rfl; aw_iast d_X8_weighFees_15 rfl za25 z7
(aw_iinc (lv' := [(1, zi (v1 + 1)), (0, zr 8 0)]) (y := (v1 + 1)) d_X8_weighFees_16 rfl 1 rfl (by decide) rfl rfl
(aw_goto d_X8_weighFees_19 rfl
(aw_sub [1, 0] rfl e9))))))))))))
theorem vX8_weighFees_24 {l : Launch} {P : zM → Prop} {v1 : Int} {M : zM}
    (H0 : (zI v1 ∧ (4 ≤ v1 → P M) ∧ (v1 < 4 → (CV l m_X0_take [zr 0 0, zr 1 0, zi (zshl 1 v1), zi 0] M (fun M16 => LX8_weighFees_47 l P v1 0 M16))))) :
    LX8_weighFees_24 l P v1 M :=
(aw_iload_n d_X8_weighFees_24 rfl rfl 1 rfl
(aw_iconst d_X8_weighFees_25 rfl
(have z10 := H0.1; have e11 := H0.2; aw_icmp_ge d_X8_weighFees_26 rfl rfl z10 (by decide) (fun c12 => have e14 := e11.1 c12; (aw_rv d_X8_weighFees_97 rfl e14)) (fun c13 => have e15 := e11.2 c13; (aw_aload_n d_X8_weighFees_29 rfl rfl 0 rfl (by decide)
(aw_getR (k' := 0) (a := 0) (b := 0) (j := 0) d_X8_weighFees_30 rfl fl8_47 rfl zj0 ⟨by decide, fun _ => by decide⟩
(aw_aload_n d_X8_weighFees_33 rfl rfl 0 rfl (by decide)
(aw_getR (k' := 1) (a := 0) (b := 0) (j := 0) d_X8_weighFees_34 rfl fl8_12 rfl zj0 ⟨by decide, fun _ => by decide⟩
(aw_iload_n d_X8_weighFees_37 rfl rfl 1 rfl
(aw_SI (As := [zi v1]) (st := [zr 1 0, zr 0 0]) d_X8_weighFees_38 rfl cs8_255 ⟨Nat.le_of_ble_eq_true rfl, Nat.le_of_ble_eq_true rfl⟩ rfl rfl (Nat.le_of_ble_eq_true rfl) (Nat.le_of_ble_eq_true rfl) (s_X8_bit) (fun _ _ hq => aw_eqs hq
(aw_iconst d_X8_weighFees_41 rfl
(aw_VV (As := [zr 1 0, zi (zshl 1 v1), zi 0]) (st := []) d_X8_weighFees_42 rfl cv8_289 ⟨Nat.le_of_ble_eq_true rfl, Nat.le_of_ble_eq_true rfl⟩ rfl rfl (Nat.le_of_ble_eq_true rfl) (Nat.le_of_ble_eq_true rfl) e15 (fun M16 e17 => (aw_iconst d_X8_weighFees_45 rfl
(aw_istore_n (lv' := [(2, zi 0), (0, zr 8 0), (1, zi v1)]) d_X8_weighFees_46 rfl rfl (by decide) rfl
(aw_sub [1, 2, 0] rfl e17)))))))))))))))))
theorem vX8_weighFees_47 {l : Launch} {P : zM → Prop} {v1 : Int} {v2 : Int} {M : zM}
    (H0 : (zI v2 ∧ (500 < v2 → LX8_weighFees_24 l P (v1 + 1) M) ∧ (v2 ≤ 500 → (CV l m_X0_settle [zr 0 0, zi v2, zi (M 1 0 8)] M (fun M25 => ((0 ≤ v2 ∧ v2 < 501) ∧ (CI l m_X0_takings [zr 0 0] M25 (fun x33 M30 => (∀ M34 : zM, M34 = zu M30 25 0 v2 ((M25 25 0 v2) + x33) → LX8_weighFees_47 l P v1 (v2 + 1) M34))))))))) :
    LX8_weighFees_47 l P v1 v2 M :=
(aw_iload_n d_X8_weighFees_47 rfl rfl 2 rfl
(aw_sipush d_X8_weighFees_48 rfl (by decide)
(have z19 := H0.1; have e20 := H0.2; aw_icmp_gt d_X8_weighFees_51 rfl rfl z19 (by decide) (fun c21 => have e23 := e20.1 c21; (aw_iinc (lv' := [(1, zi (v1 + 1)), (0, zr 8 0), (2, zi v2)]) (y := (v1 + 1)) d_X8_weighFees_91 rfl 1 rfl (by decide) rfl rfl
(aw_goto d_X8_weighFees_94 rfl
(aw_sub [1, 0] rfl e23)))) (fun c22 => have e24 := e20.2 c22; (aw_aload_n d_X8_weighFees_54 rfl rfl 0 rfl (by decide)
(aw_getR (k' := 0) (a := 0) (b := 0) (j := 0) d_X8_weighFees_55 rfl fl8_47 rfl zj0 ⟨by decide, fun _ => by decide⟩
(aw_iload_n d_X8_weighFees_58 rfl rfl 2 rfl
(aw_aload_n d_X8_weighFees_59 rfl rfl 0 rfl (by decide)
(aw_getR (k' := 1) (a := 0) (b := 0) (j := 0) d_X8_weighFees_60 rfl fl8_12 rfl zj0 ⟨by decide, fun _ => by decide⟩
(aw_getI (kc := 8) d_X8_weighFees_63 rfl fl8_151 rfl rfl
(aw_VV (As := [zi v2, zi (M 1 0 8)]) (st := []) d_X8_weighFees_66 rfl cv8_293 ⟨Nat.le_of_ble_eq_true rfl, Nat.le_of_ble_eq_true rfl⟩ rfl rfl (Nat.le_of_ble_eq_true rfl) (Nat.le_of_ble_eq_true rfl) e24 (fun M25 e26 => (aw_aload_n d_X8_weighFees_69 rfl rfl 0 rfl (by decide)
(aw_getR (k' := 25) (a := 0) (b := 0) (j := 0) d_X8_weighFees_70 rfl fl8_68 rfl zj0 ⟨by decide, fun _ => by decide⟩
(aw_iload_n d_X8_weighFees_73 rfl rfl 2 rfl
(aw_dup2 d_X8_weighFees_74 rfl rfl rfl
(have z28 := e26.1; have e29 := e26.2; (aw_iald d_X8_weighFees_75 rfl za25 z28
(aw_aload_n d_X8_weighFees_76 rfl rfl 0 rfl (by decide)
(aw_getR (k' := 0) (a := 0) (b := 0) (j := 0) d_X8_weighFees_77 rfl fl8_47 rfl zj0 ⟨by decide, fun _ => by decide⟩
(aw_VI (As := []) (st := [zi (M25 25 0 v2), zi v2, zr 25 0]) d_X8_weighFees_80 rfl cv8_172 ⟨Nat.le_of_ble_eq_true rfl, Nat.le_of_ble_eq_true rfl⟩ rfl rfl (Nat.le_of_ble_eq_true rfl) (Nat.le_of_ble_eq_true rfl) e29 (fun x33 M30 e31 => (aw_iadd d_X8_weighFees_83 rfl
(have e35 := e31 _ rfl; aw_iast d_X8_weighFees_84 rfl za25 z28
(aw_iinc (lv' := [(2, zi (v2 + 1)), (0, zr 8 0), (1, zi v1)]) (y := (v2 + 1)) d_X8_weighFees_85 rfl 2 rfl (by decide) rfl rfl
(aw_goto d_X8_weighFees_88 rfl
(aw_sub [1, 2, 0] rfl e35)))))))))))))))))))))))))))
theorem vX8_weighFees {l : Launch} {P : zM → Prop}  {M : zM}
    (H0 : LX8_weighFees_2 l P 0 M) :
    CV l m_X8_weighFees [zr 8 0] M P :=
(aw_iconst d_X8_weighFees_0 rfl
(aw_istore_n (lv' := [(1, zi 0), (0, zr 8 0)]) d_X8_weighFees_1 rfl rfl (by decide) rfl
(aw_sub [1, 0] rfl H0)))
def LX8_bestFee_17 (l : Launch) (P : Int → zM → Prop) (v1 : Int) (v2 : Int) (v3 : Int) (M : zM) : Prop := AW l m_X8_bestFee (zTi m_X8_bestFee P) 17 [(0, zr 8 0), (1, zi v1), (2, zi v2), (3, zi v3)] [] M
theorem vX8_bestFee_17 {l : Launch} {P : Int → zM → Prop} {v1 : Int} {v2 : Int} {v3 : Int} {M : zM}
    (H0 : (zI v3 ∧ (500 < v3 → (zI v1 ∧ (v1 ≠ 0 → ((0 ≤ v2 ∧ v2 < 501) ∧ P (M 25 0 v2) M)) ∧ (v1 = 0 → P v2 M))) ∧ (v3 ≤ 500 → ((0 ≤ v3 ∧ v3 < 501) ∧ ((0 ≤ v2 ∧ v2 < 501) ∧ (zI (M 25 0 v3) ∧ zI (M 25 0 v2) ∧ ((M 25 0 v3) ≤ (M 25 0 v2) → LX8_bestFee_17 l P v1 v2 (v3 + 1) M) ∧ ((M 25 0 v2) < (M 25 0 v3) → LX8_bestFee_17 l P v1 v3 (v3 + 1) M))))))) :
    LX8_bestFee_17 l P v1 v2 v3 M :=
(aw_iload_n d_X8_bestFee_17 rfl rfl 3 rfl
(aw_sipush d_X8_bestFee_18 rfl (by decide)
(have z10 := H0.1; have e11 := H0.2; aw_icmp_gt d_X8_bestFee_21 rfl rfl z10 (by decide) (fun c12 => have e14 := e11.1 c12; (aw_iload_n d_X8_bestFee_47 rfl rfl 1 rfl
(have z16 := e14.1; have e17 := e14.2; aw_if_ne d_X8_bestFee_48 rfl rfl z16 (fun c18 => have e20 := e17.1 c18; (aw_aload_n d_X8_bestFee_55 rfl rfl 0 rfl (by decide)
(aw_getR (k' := 25) (a := 0) (b := 0) (j := 0) d_X8_bestFee_56 rfl fl8_68 rfl zj0 ⟨by decide, fun _ => by decide⟩
(aw_iload_n d_X8_bestFee_59 rfl rfl 2 rfl
(have z22 := e20.1; have e23 := e20.2; (aw_iald d_X8_bestFee_60 rfl za25 z22
(aw_ri d_X8_bestFee_61 rfl e23))))))) (fun c19 => have e21 := e17.2 c19; (aw_iload_n d_X8_bestFee_51 rfl rfl 2 rfl
(aw_goto d_X8_bestFee_52 rfl
(aw_ri d_X8_bestFee_61 rfl e21))))))) (fun c13 => have e15 := e11.2 c13; (aw_aload_n d_X8_bestFee_24 rfl rfl 0 rfl (by decide)
(aw_getR (k' := 25) (a := 0) (b := 0) (j := 0) d_X8_bestFee_25 rfl fl8_68 rfl zj0 ⟨by decide, fun _ => by decide⟩
(aw_iload_n d_X8_bestFee_28 rfl rfl 3 rfl
(have z24 := e15.1; have e25 := e15.2; (aw_iald d_X8_bestFee_29 rfl za25 z24
(aw_aload_n d_X8_bestFee_30 rfl rfl 0 rfl (by decide)
(aw_getR (k' := 25) (a := 0) (b := 0) (j := 0) d_X8_bestFee_31 rfl fl8_68 rfl zj0 ⟨by decide, fun _ => by decide⟩
(aw_iload_n d_X8_bestFee_34 rfl rfl 2 rfl
(have z26 := e25.1; have e27 := e25.2; (aw_iald d_X8_bestFee_35 rfl za25 z26
(have z28 := e27.1; have z29 := e27.2.1; have e30 := e27.2.2; aw_icmp_le d_X8_bestFee_36 rfl rfl z28 z29 (fun c31 => have e33 := e30.1 c31; (aw_iinc (lv' := [(3, zi (v3 + 1)), (0, zr 8 0), (1, zi v1), (2, zi v2)]) (y := (v3 + 1)) d_X8_bestFee_41 rfl 3 rfl (by decide) rfl rfl
(aw_goto d_X8_bestFee_44 rfl
(aw_sub [1, 2, 3, 0] rfl e33)))) (fun c32 => have e34 := e30.2 c32; (aw_iload_n d_X8_bestFee_39 rfl rfl 3 rfl
(aw_istore_n (lv' := [(2, zi v3), (0, zr 8 0), (1, zi v1), (3, zi v3)]) d_X8_bestFee_40 rfl rfl (by decide) rfl
(aw_iinc (lv' := [(3, zi (v3 + 1)), (2, zi v3), (0, zr 8 0), (1, zi v1)]) (y := (v3 + 1)) d_X8_bestFee_41 rfl 3 rfl (by decide) rfl rfl
(aw_goto d_X8_bestFee_44 rfl
(aw_sub [2, 3, 1, 0] rfl e34)))))))))))))))))))))
theorem vX8_bestFee {l : Launch} {P : Int → zM → Prop} {v1 : Int} {M : zM}
    (H0 : (zI v1 ∧ ((v1 = 0 ∨ v1 = 1 → (CV l m_X8_weighFees [zr 8 0] M (fun M7 => LX8_bestFee_17 l P v1 0 1 M7))) ∧ (¬ (v1 = 0 ∨ v1 = 1) → P (-1) M)))) :
    CI l m_X8_bestFee [zr 8 0, zi v1] M P :=
(aw_iload_n d_X8_bestFee_0 rfl rfl 1 rfl
(have z1 := H0.1; have e2 := H0.2; (aw_SI (As := [zi v1]) (st := []) d_X8_bestFee_1 rfl cs8_248 ⟨Nat.le_of_ble_eq_true rfl, Nat.le_of_ble_eq_true rfl⟩ rfl rfl (Nat.le_of_ble_eq_true rfl) (Nat.le_of_ble_eq_true rfl) (s_X8_isZeroOrOne z1) (fun _ _ hq => aw_eqs hq
(aw_if_ne d_X8_bestFee_4 rfl rfl zb_I (fun c3 => have e5 := e2.1 (zb_n0 c3); (aw_aload_n d_X8_bestFee_9 rfl rfl 0 rfl (by decide)
(aw_VV (As := []) (st := []) d_X8_bestFee_10 rfl cv8_296 ⟨Nat.le_of_ble_eq_true rfl, Nat.le_of_ble_eq_true rfl⟩ rfl rfl (Nat.le_of_ble_eq_true rfl) (Nat.le_of_ble_eq_true rfl) e5 (fun M7 e8 => (aw_iconst d_X8_bestFee_13 rfl
(aw_istore_n (lv' := [(2, zi 0), (0, zr 8 0), (1, zi v1)]) d_X8_bestFee_14 rfl rfl (by decide) rfl
(aw_iconst d_X8_bestFee_15 rfl
(aw_istore_n (lv' := [(3, zi 1), (2, zi 0), (0, zr 8 0), (1, zi v1)]) d_X8_bestFee_16 rfl rfl (by decide) rfl
(aw_sub [2, 3, 1, 0] rfl e8))))))))) (fun c4 => have e6 := e2.2 (zb_0 c4); (aw_iconst d_X8_bestFee_7 rfl
(aw_ri d_X8_bestFee_8 rfl e6))))))))
def LX9_bestFee_29 (l : Launch) (P : Int → zM → Prop) (v1 : Int) (v2 : Int) (v3 : Int) (v4 : Int) (v5 : Int) (M : zM) : Prop := AW l m_X9_bestFee (zTi m_X9_bestFee P) 29 [(0, zr 9 0), (1, zi v1), (2, zi v2), (3, zi v3), (4, zi v4), (5, zi v5)] [] M
def LX9_bestFee_53 (l : Launch) (P : Int → zM → Prop) (v1 : Int) (v2 : Int) (v3 : Int) (v4 : Int) (v5 : Int) (v6 : Int) (v7 : Int) (M : zM) : Prop := AW l m_X9_bestFee (zTi m_X9_bestFee P) 53 [(0, zr 9 0), (1, zi v1), (2, zi v2), (3, zi v3), (4, zi v4), (5, zi v5), (6, zi v6), (7, zi v7)] [] M
theorem vX9_bestFee_29 {l : Launch} {P : Int → zM → Prop} {v1 : Int} {v2 : Int} {v3 : Int} {v4 : Int} {v5 : Int} {M : zM}
    (H0 : (zI v5 ∧ (500 < v5 → (∀ M15 : zM, M15 = zu M 27 0 181 v2 → (zI v1 ∧ (v1 ≠ 0 → P v4 M15) ∧ (v1 = 0 → P v3 M15)))) ∧ (v5 ≤ 500 → (∀ M23 : zM, M23 = zu M 27 0 181 v5 → LX9_bestFee_53 l P v1 v2 v3 v4 v5 0 0 M23)))) :
    LX9_bestFee_29 l P v1 v2 v3 v4 v5 M :=
(aw_iload d_X9_bestFee_29 rfl 5 rfl
(aw_sipush d_X9_bestFee_31 rfl (by decide)
(have z9 := H0.1; have e10 := H0.2; aw_icmp_gt d_X9_bestFee_34 rfl rfl z9 (by decide) (fun c11 => have e13 := e10.1 c11; (aw_aload_n d_X9_bestFee_104 rfl rfl 0 rfl (by decide)
(aw_getR (k' := 27) (a := 0) (b := 0) (j := 0) d_X9_bestFee_105 rfl fl9_7 rfl zj0 ⟨by decide, fun _ => by decide⟩
(aw_sipush d_X9_bestFee_108 rfl (by decide)
(aw_iload_n d_X9_bestFee_111 rfl rfl 2 rfl
(have e16 := e13 _ rfl; aw_iast d_X9_bestFee_112 rfl za27 (by decide)
(aw_iload_n d_X9_bestFee_113 rfl rfl 1 rfl
(have z17 := e16.1; have e18 := e16.2; aw_if_ne d_X9_bestFee_114 rfl rfl z17 (fun c19 => have e21 := e18.1 c19; (aw_iload d_X9_bestFee_121 rfl 4 rfl
(aw_ri d_X9_bestFee_123 rfl e21))) (fun c20 => have e22 := e18.2 c20; (aw_iload_n d_X9_bestFee_117 rfl rfl 3 rfl
(aw_goto d_X9_bestFee_118 rfl
(aw_ri d_X9_bestFee_123 rfl e22)))))))))))) (fun c12 => have e14 := e10.2 c12; (aw_aload_n d_X9_bestFee_37 rfl rfl 0 rfl (by decide)
(aw_getR (k' := 27) (a := 0) (b := 0) (j := 0) d_X9_bestFee_38 rfl fl9_7 rfl zj0 ⟨by decide, fun _ => by decide⟩
(aw_sipush d_X9_bestFee_41 rfl (by decide)
(aw_iload d_X9_bestFee_44 rfl 5 rfl
(have e24 := e14 _ rfl; aw_iast d_X9_bestFee_46 rfl za27 (by decide)
(aw_iconst d_X9_bestFee_47 rfl
(aw_istore (lv' := [(6, zi 0), (0, zr 9 0), (1, zi v1), (2, zi v2), (3, zi v3), (4, zi v4), (5, zi v5)]) d_X9_bestFee_48 rfl (by decide) rfl
(aw_iconst d_X9_bestFee_50 rfl
(aw_istore (lv' := [(7, zi 0), (6, zi 0), (0, zr 9 0), (1, zi v1), (2, zi v2), (3, zi v3), (4, zi v4), (5, zi v5)]) d_X9_bestFee_51 rfl (by decide) rfl
(aw_sub [2, 3, 4, 5, 6, 7, 1, 0] rfl e24))))))))))))))
theorem vX9_bestFee_53 {l : Launch} {P : Int → zM → Prop} {v1 : Int} {v2 : Int} {v3 : Int} {v4 : Int} {v5 : Int} {v6 : Int} {v7 : Int} {M : zM}
    (H0 : (zI v7 ∧ (4 ≤ v7 → (zI v3 ∧ (v3 = (-1) → LX9_bestFee_29 l P v1 v2 v5 v6 (v5 + 1) M) ∧ (v3 ≠ (-1) → (zI v6 ∧ zI v4 ∧ (v4 < v6 → LX9_bestFee_29 l P v1 v2 v5 v6 (v5 + 1) M) ∧ (v6 ≤ v4 → LX9_bestFee_29 l P v1 v2 v3 v4 (v5 + 1) M))))) ∧ (v7 < 4 → (CI l m_X9_takingsOf [zr 9 0, zi v7] M (fun x47 M44 => LX9_bestFee_53 l P v1 v2 v3 v4 v5 (v6 + x47) (v7 + 1) M44))))) :
    LX9_bestFee_53 l P v1 v2 v3 v4 v5 v6 v7 M :=
(aw_iload d_X9_bestFee_53 rfl 7 rfl
(aw_iconst d_X9_bestFee_55 rfl
(have z25 := H0.1; have e26 := H0.2; aw_icmp_ge d_X9_bestFee_56 rfl rfl z25 (by decide) (fun c27 => have e29 := e26.1 c27; (aw_iload_n d_X9_bestFee_76 rfl rfl 3 rfl
(aw_iconst d_X9_bestFee_77 rfl
(have z31 := e29.1; have e32 := e29.2; aw_icmp_eq d_X9_bestFee_78 rfl rfl z31 (by decide) (fun c33 => have e35 := e32.1 c33; (aw_iload d_X9_bestFee_91 rfl 5 rfl
(aw_istore_n (lv' := [(3, zi v5), (0, zr 9 0), (1, zi v1), (2, zi v2), (4, zi v4), (5, zi v5), (6, zi v6), (7, zi v7)]) d_X9_bestFee_93 rfl rfl (by decide) rfl
(aw_iload d_X9_bestFee_94 rfl 6 rfl
(aw_istore (lv' := [(4, zi v6), (3, zi v5), (0, zr 9 0), (1, zi v1), (2, zi v2), (5, zi v5), (6, zi v6), (7, zi v7)]) d_X9_bestFee_96 rfl (by decide) rfl
(aw_iinc (lv' := [(5, zi (v5 + 1)), (4, zi v6), (3, zi v5), (0, zr 9 0), (1, zi v1), (2, zi v2), (6, zi v6), (7, zi v7)]) (y := (v5 + 1)) d_X9_bestFee_98 rfl 5 rfl (by decide) rfl rfl
(aw_goto d_X9_bestFee_101 rfl
(aw_sub [3, 4, 5, 2, 1, 0] rfl e35)))))))) (fun c34 => have e36 := e32.2 c34; (aw_iload d_X9_bestFee_81 rfl 6 rfl
(aw_iload d_X9_bestFee_83 rfl 4 rfl
(have z37 := e36.1; have z38 := e36.2.1; have e39 := e36.2.2; aw_icmp_gt d_X9_bestFee_85 rfl rfl z37 z38 (fun c40 => have e42 := e39.1 c40; (aw_iload d_X9_bestFee_91 rfl 5 rfl
(aw_istore_n (lv' := [(3, zi v5), (0, zr 9 0), (1, zi v1), (2, zi v2), (4, zi v4), (5, zi v5), (6, zi v6), (7, zi v7)]) d_X9_bestFee_93 rfl rfl (by decide) rfl
(aw_iload d_X9_bestFee_94 rfl 6 rfl
(aw_istore (lv' := [(4, zi v6), (3, zi v5), (0, zr 9 0), (1, zi v1), (2, zi v2), (5, zi v5), (6, zi v6), (7, zi v7)]) d_X9_bestFee_96 rfl (by decide) rfl
(aw_iinc (lv' := [(5, zi (v5 + 1)), (4, zi v6), (3, zi v5), (0, zr 9 0), (1, zi v1), (2, zi v2), (6, zi v6), (7, zi v7)]) (y := (v5 + 1)) d_X9_bestFee_98 rfl 5 rfl (by decide) rfl rfl
(aw_goto d_X9_bestFee_101 rfl
(aw_sub [3, 4, 5, 2, 1, 0] rfl e42)))))))) (fun c41 => have e43 := e39.2 c41; (aw_goto d_X9_bestFee_88 rfl
(aw_iinc (lv' := [(5, zi (v5 + 1)), (0, zr 9 0), (1, zi v1), (2, zi v2), (3, zi v3), (4, zi v4), (6, zi v6), (7, zi v7)]) (y := (v5 + 1)) d_X9_bestFee_98 rfl 5 rfl (by decide) rfl rfl
(aw_goto d_X9_bestFee_101 rfl
(aw_sub [1, 2, 3, 4, 5, 0] rfl e43))))))))))))) (fun c28 => have e30 := e26.2 c28; (aw_iload d_X9_bestFee_59 rfl 6 rfl
(aw_aload_n d_X9_bestFee_61 rfl rfl 0 rfl (by decide)
(aw_iload d_X9_bestFee_62 rfl 7 rfl
(aw_VI (As := [zi v7]) (st := [zi v6]) d_X9_bestFee_64 rfl cv9_266 ⟨Nat.le_of_ble_eq_true rfl, Nat.le_of_ble_eq_true rfl⟩ rfl rfl (Nat.le_of_ble_eq_true rfl) (Nat.le_of_ble_eq_true rfl) e30 (fun x47 M44 e45 => (aw_iadd d_X9_bestFee_67 rfl
(aw_istore (lv' := [(6, zi (v6 + x47)), (0, zr 9 0), (1, zi v1), (2, zi v2), (3, zi v3), (4, zi v4), (5, zi v5), (7, zi v7)]) d_X9_bestFee_68 rfl (by decide) rfl
(aw_iinc (lv' := [(7, zi (v7 + 1)), (6, zi (v6 + x47)), (0, zr 9 0), (1, zi v1), (2, zi v2), (3, zi v3), (4, zi v4), (5, zi v5)]) (y := (v7 + 1)) d_X9_bestFee_70 rfl 7 rfl (by decide) rfl rfl
(aw_goto d_X9_bestFee_73 rfl
(aw_sub [2, 3, 4, 5, 6, 7, 1, 0] rfl e45))))))))))))))
theorem vX9_bestFee {l : Launch} {P : Int → zM → Prop} {v1 : Int} {M : zM}
    (H0 : (zI v1 ∧ ((zJ v1 ∧ zJ 0 ∧ zJ 1) ∧ ((0 ≤ v1 ∧ v1 ≤ 1 → LX9_bestFee_29 l P v1 (M 27 0 181) (-1) 0 0 M) ∧ (¬ (0 ≤ v1 ∧ v1 ≤ 1) → P (-1) M))))) :
    CI l m_X9_bestFee [zr 9 0, zi v1] M P :=
(aw_iload_n d_X9_bestFee_0 rfl rfl 1 rfl
(have z1 := H0.1; have e2 := H0.2; (aw_i2l d_X9_bestFee_1 rfl z1
(aw_lconst (x := 0) d_X9_bestFee_2 rfl (by decide)
(aw_lconst (x := 1) d_X9_bestFee_3 rfl (by decide)
(have z3 := e2.1; have e4 := e2.2; (aw_SI (As := [zl v1, zl 0, zl 1]) (st := []) d_X9_bestFee_4 rfl cs9_82 ⟨Nat.le_of_ble_eq_true rfl, Nat.le_of_ble_eq_true rfl⟩ rfl rfl (Nat.le_of_ble_eq_true rfl) (Nat.le_of_ble_eq_true rfl) (s_X9_in z3) (fun _ _ hq => aw_eqs hq
(aw_if_ne d_X9_bestFee_7 rfl rfl zb_I (fun c5 => have e7 := e4.1 (zb_n0 c5); (aw_aload_n d_X9_bestFee_12 rfl rfl 0 rfl (by decide)
(aw_getR (k' := 27) (a := 0) (b := 0) (j := 0) d_X9_bestFee_13 rfl fl9_7 rfl zj0 ⟨by decide, fun _ => by decide⟩
(aw_sipush d_X9_bestFee_16 rfl (by decide)
(aw_iald d_X9_bestFee_19 rfl za27 (by decide)
(aw_istore_n (lv' := [(2, zi (M 27 0 181)), (0, zr 9 0), (1, zi v1)]) d_X9_bestFee_20 rfl rfl (by decide) rfl
(aw_iconst d_X9_bestFee_21 rfl
(aw_istore_n (lv' := [(3, zi (-1)), (2, zi (M 27 0 181)), (0, zr 9 0), (1, zi v1)]) d_X9_bestFee_22 rfl rfl (by decide) rfl
(aw_iconst d_X9_bestFee_23 rfl
(aw_istore (lv' := [(4, zi 0), (3, zi (-1)), (2, zi (M 27 0 181)), (0, zr 9 0), (1, zi v1)]) d_X9_bestFee_24 rfl (by decide) rfl
(aw_iconst d_X9_bestFee_26 rfl
(aw_istore (lv' := [(5, zi 0), (4, zi 0), (3, zi (-1)), (2, zi (M 27 0 181)), (0, zr 9 0), (1, zi v1)]) d_X9_bestFee_27 rfl (by decide) rfl
(aw_sub [4, 5, 3, 2, 1, 0] rfl e7))))))))))))) (fun c6 => have e8 := e4.2 (zb_0 c6); (aw_iconst d_X9_bestFee_10 rfl
(aw_ri d_X9_bestFee_11 rfl e8))))))))))))
theorem q8_bestFee {k : Int} (c : CX M S) (zk : zI k) : CI l m_X8_bestFee [zr 8 0, zi k] M (fun x M' => x = aBestFee S k ∧ Fr kScr M M') := by
  refine vX8_bestFee ⟨zk, fun a => ?_, fun a => ⟨by rw [aBestFee, if_neg a], Fr.rf⟩⟩
  have ai : aBestFee S k = if k = 0 then zbest (tFee S) 500 else tFee S (zbest (tFee S) 500) := by rw [aBestFee, if_pos a]
  have weigh : CV l m_X8_weighFees [zr 8 0] M (fun M' => Fr kScr M M' ∧ ∀ p, 0 ≤ p ∧ p ≤ 500 → M' 25 0 p = tFee S p) := by
    have outer : ∀ (n : Nat) (g : Int) (M' : zM), (4 - g).toNat = n → 0 ≤ g ∧ g ≤ 4 → Fr kScr M M' → (∀ p, 0 ≤ p ∧ p ≤ 500 → M' 25 0 p = zsum (fun g => tkg (qB S g) (qA S g) p (qlaw S)) g) → LX8_weighFees_24 l (fun M' => Fr kScr M M' ∧ ∀ p, 0 ≤ p ∧ p ≤ 500 → M' 25 0 p = tFee S p) g M' := by
      intro n
      induction n with
      | zero =>
        intro g M' hn hg f hp
        have : g = 4 := by omega
        subst this
        exact vX8_weighFees_24 ⟨by omega, fun _ => ⟨f, hp⟩, fun e => by omega⟩
      | succ n ih =>
        intro g M' hn hg f hp
        have c1 := c.scr f
        refine vX8_weighFees_24 ⟨by omega, fun e => by omega, fun _ => (c_X0_take c1.1.1 c1.1.2 c.2.1 (grE0 c.2 (by omega))).mono ?_⟩
        rintro M2 ⟨f2, r2⟩
        have inner : ∀ (m : Nat) (p : Int) (M' : zM), (501 - p).toNat = m → 0 ≤ p ∧ p ≤ 501 → Fr kScr M M' → bkR M' 0 (qB S g) (qA S g) → (∀ q, 0 ≤ q ∧ q ≤ 500 → M' 25 0 q = if q < p then zsum (fun g => tkg (qB S g) (qA S g) q (qlaw S)) (g + 1) else zsum (fun g => tkg (qB S g) (qA S g) q (qlaw S)) g) → LX8_weighFees_47 l (fun M' => Fr kScr M M' ∧ ∀ p, 0 ≤ p ∧ p ≤ 500 → M' 25 0 p = tFee S p) g p M' := by
          intro m
          induction m with
          | zero =>
            intro p M' hm hp f r hq
            have : p = 501 := by omega
            subst this
            exact vX8_weighFees_47 ⟨by omega, fun _ => ih (g + 1) M' (by omega) (by omega) f (fun q hq2 => by rw [hq q hq2, if_pos (by omega)]), fun e => by omega⟩
          | succ m ihm =>
            intro p M' hm hp f r hq
            have c1 := c.scr f
            have gg := gdS c.2 g
            refine vX8_weighFees_47 ⟨by omega, fun e => by omega, fun _ => ?_⟩
            rw [c1.law]
            refine (c_X0_settle gg (f := p) (by omega) c.2.2.2.2 r).mono ?_
            rintro M3 ⟨f3, s3⟩
            refine ⟨by omega, (c_X0_takings c.2.1 (by omega) c.2.2.2.2 s3).eq ?_⟩
            intro M4 q4
            have e25 : M3 25 0 = M' 25 0 := f3 _ _ (by omega)
            refine ihm (p + 1) M4 (by omega) (by omega) ((f.tr f3.scr0).tr (by rw [q4]; exact Fr.zu (by unfold kScr; omega))) (s3.1.of (by rw [q4, zu_k (by decide)]) (by rw [q4, zu_k (by decide)]) (by rw [q4, zu_k (by decide)])) (fun q hq2 => ?_)
            rw [q4, zu_at, e25]
            by_cases e : q = p
            · subst e
              rw [if_pos rfl, if_pos (by omega), hq q hq2, if_neg (by omega), zsum_s hg.1]
            · rw [if_neg e, hq q hq2]
              by_cases e2 : q < p
              · rw [if_pos e2, if_pos (by omega)]
              · rw [if_neg e2, if_neg (by omega)]
        exact inner _ 0 M2 rfl (by omega) (f.tr f2.scr) r2 (fun q hq => by rw [if_neg (by omega), f2 _ _ (by unfold kBk; omega)]; exact hp q hq)
    have zero : ∀ (n : Nat) (p : Int) (M' : zM), (501 - p).toNat = n → 0 ≤ p ∧ p ≤ 501 → Fr kScr M M' → (∀ q, 0 ≤ q ∧ q < p → M' 25 0 q = 0) → LX8_weighFees_2 l (fun M' => Fr kScr M M' ∧ ∀ p, 0 ≤ p ∧ p ≤ 500 → M' 25 0 p = tFee S p) p M' := by
      intro n
      induction n with
      | zero =>
        intro p M' hn hp f hq
        exact vX8_weighFees_2 ⟨by omega, fun _ => outer _ 0 M' rfl (by omega) f (fun q hq2 => by rw [hq q (by omega)]; rfl), fun e => by omega⟩
      | succ n ih =>
        intro p M' hn hp f hq
        refine vX8_weighFees_2 ⟨by omega, fun e => by omega, fun _ => ⟨by omega, fun M2 q2 => ih (p + 1) M2 (by omega) (by omega) (f.tr (by rw [q2]; exact Fr.zu (by unfold kScr; omega))) (fun q hq2 => ?_)⟩⟩
        rw [q2, zu_at]
        split
        · rfl
        · exact hq q (by omega)
    exact vX8_weighFees (zero _ 0 M rfl (by omega) Fr.rf (fun q hq => by omega))
  refine weigh.mono ?_
  rintro M1 ⟨F, hp⟩
  have loop : ∀ (n m : Nat), 500 - m = n → m ≤ 500 → LX8_bestFee_17 l (fun x M' => x = aBestFee S k ∧ Fr kScr M M') k (zbest (tFee S) m) ((m : Int) + 1) M1 := by
    intro n
    induction n with
    | zero =>
      intro m hn hm
      have : m = 500 := by omega
      subst this
      have hb := zbest_in (tFee S) 500
      refine vX8_bestFee_17 ⟨by omega, fun _ => ⟨zk, fun e => ⟨by omega, ?_, F⟩, fun e => ⟨?_, F⟩⟩, fun e => by omega⟩
      · rw [ai, if_neg e, hp _ (by omega)]
      · rw [ai, if_pos e]
    | succ n ih =>
      intro m hn hm
      have hb := zbest_in (tFee S) m
      have b1 := tFee_b c.2 (p := zbest (tFee S) m) (by omega)
      have b2 := tFee_b c.2 (p := (m : Int) + 1) (by omega)
      have := ih (m + 1) (by omega) (by omega)
      rw [zbest] at this
      refine vX8_bestFee_17 ⟨by omega, fun e => by omega, fun _ => ⟨by omega, by omega, ?_⟩⟩
      rw [hp _ (by omega), hp (zbest (tFee S) m) (by omega)]
      refine ⟨by omega, by omega, fun e => ?_, fun e => ?_⟩
      · rw [if_neg (by omega)] at this; exact this
      · rw [if_pos e] at this; exact this
  exact loop _ 0 rfl (by omega)
theorem q9_bestFee {k : Int} (h : MX M S) (zk : zI k) : CI l m_X9_bestFee [zr 9 0, zi k] M (fun x M' => x = aBestFee S k ∧ mQ M M') := by
  have ok := h.ok
  refine vX9_bestFee ⟨zk, by omega, fun a => ?_, fun a => ⟨by rw [aBestFee, if_neg (by omega)], mQ.rf h⟩⟩
  have ai : aBestFee S k = if k = 0 then zbest (tFee S) 500 else tFee S (zbest (tFee S) 500) := by rw [aBestFee, if_pos (by omega)]
  have fin : ∀ M' M2 : zM, (∀ k i, k ≠ 9 → k ≠ 27 → ¬ (31 ≤ k ∧ k ≤ 46) → M' k i = M k i) → (∀ i, i ≠ 0 → M' 27 i = M 27 i) → (∀ j, j ≠ 181 → M' 27 0 j = M 27 0 j) → (∀ j, (j = 2 ∨ j = 5 ∨ j = 6 ∨ j = 36) → M' 9 0 j = M 9 0 j) → (-1000 ≤ M' 9 0 7 ∧ M' 9 0 7 ≤ 1000) → M2 = zu M' 27 0 181 (M 27 0 181) → mQ M M2 := by
    intro M' M2 g1 g2 g3 g4 g5 q2
    refine ⟨fun k i h1 h2 => ?_, fun j hj => by rw [q2, zu_k (by decide)]; exact g4 j hj, by rw [q2, zu_k (by decide)]; exact g5⟩
    by_cases c : k = 27
    · subst c
      by_cases c2 : i = 0
      · subst c2
        funext j
        rw [q2, zu_at]
        by_cases c3 : j = 181
        · rw [if_pos c3, c3]
        · rw [if_neg c3, g3 j c3]
      · rw [q2, zu_i c2, g2 i c2]
    · rw [q2, zu_k c, g1 k i h1 c h2]
  have loop : ∀ (n p : Nat) (M' : zM) (best most : Int), 501 - p = n → p ≤ 501 → ((p = 0 ∧ best = -1 ∧ most = 0) ∨ (0 < p ∧ best = zbest (tFee S) (p - 1) ∧ most = tFee S (zbest (tFee S) (p - 1)))) →
      (∀ k i, k ≠ 9 → k ≠ 27 → ¬ (31 ≤ k ∧ k ≤ 46) → M' k i = M k i) → (∀ i, i ≠ 0 → M' 27 i = M 27 i) → (∀ j, j ≠ 181 → M' 27 0 j = M 27 0 j) → (∀ j, (j = 2 ∨ j = 5 ∨ j = 6 ∨ j = 36) → M' 9 0 j = M 9 0 j) → (-1000 ≤ M' 9 0 7 ∧ M' 9 0 7 ≤ 1000) →
      LX9_bestFee_29 l (fun x M' => x = aBestFee S k ∧ mQ M M') k (M 27 0 181) best most (p : Int) M' := by
    intro n
    induction n with
    | zero =>
      intro p M' best most hn hp hs g1 g2 g3 g4 g5
      have : p = 501 := by omega
      subst this
      refine vX9_bestFee_29 ⟨by omega, fun _ M2 q2 => ?_, fun e => by omega⟩
      have F := fin M' M2 g1 g2 g3 g4 g5 q2
      have hs := hs.resolve_left (by omega)
      exact ⟨zk, fun e => ⟨by rw [ai, if_neg e, hs.2.2], F⟩, fun e => ⟨by rw [ai, if_pos e, hs.2.1], F⟩⟩
    | succ n ih =>
      intro p M' best most hn hp hs g1 g2 g3 g4 g5
      refine vX9_bestFee_29 ⟨by omega, fun e => by omega, fun _ M2 q2 => ?_⟩
      have p2 : ∀ j, M2 27 0 j = if j = 181 then (p : Int) else M 27 0 j := by
        intro j
        rw [q2, zu_at]
        by_cases c : j = 181
        · rw [if_pos c, if_pos c]
        · rw [if_neg c, if_neg c, g3 j c]
      have hx : MX M2 (sSc S 1 p) := h.sc (j := 1) (by omega) (by funext j; rw [p2, zu_at]; rfl) (sFee_ok ok (by omega)) (by rw [q2, zu_k (by decide), g4 5 (by omega), h.2.1]) (by rw [q2, zu_k (by decide), g4 6 (by omega), h.2.2]) (by rw [q2, zu_k (by decide)]; exact g5)
      have inner : ∀ (m : Nat) (g : Int) (M3 : zM), (4 - g).toNat = m → 0 ≤ g ∧ g ≤ 4 → mQ M2 M3 → LX9_bestFee_53 l (fun x M' => x = aBestFee S k ∧ mQ M M') k (M 27 0 181) best most (p : Int) (zsum (fun g => tkg (qB S g) (qA S g) p (qlaw S)) g) g M3 := by
        intro m
        induction m with
        | zero =>
          intro g M3 hm hg f
          have : g = 4 := by omega
          subst this
          have et : zsum (fun g => tkg (qB S g) (qA S g) p (qlaw S)) 4 = tFee S p := rfl
          rw [et]
          have b2 := tFee_b ok (p := (p : Int)) (by omega)
          have next := fun best most hs => ih (p + 1) M3 best most (by omega) (by omega) hs (fun k i h1 h2 h3 => by rw [f.1 k i h1 h3, q2, zu_k h2, g1 k i h1 h2 h3]) (fun i hi => by rw [f.1 27 i (by decide) (by decide), q2, zu_i hi, g2 i hi]) (fun j hj => by rw [f.1 27 0 (by decide) (by decide), p2, if_neg hj]) (fun j hj => by rw [f.2.1 j hj, q2, zu_k (by decide), g4 j hj]) f.2.2
          rw [show ((p + 1 : Nat) : Int) = (p : Int) + 1 by omega] at next
          rcases hs with ⟨hp0, hb0, hm0⟩ | ⟨hp0, hb0, hm0⟩
          · have := next (p : Int) (tFee S p) (.inr ⟨by omega, by rw [show p + 1 - 1 = 0 by omega]; show (p : Int) = 0; omega, by rw [show p + 1 - 1 = 0 by omega]; show tFee S p = tFee S 0; rw [show (p : Int) = 0 by omega]⟩)
            exact vX9_bestFee_53 ⟨by omega, fun _ => ⟨by omega, fun e => this, fun e => absurd hb0 e⟩, fun e => by omega⟩
          · have hb := zbest_in (tFee S) (p - 1)
            have b1 := tFee_b ok (p := zbest (tFee S) (p - 1)) (by omega)
            have ez : zbest (tFee S) (p + 1 - 1) = if tFee S (zbest (tFee S) (p - 1)) < tFee S p then (p : Int) else zbest (tFee S) (p - 1) := by
              rw [show p + 1 - 1 = (p - 1) + 1 by omega, zbest, show (((p - 1 : Nat) : Int) + 1) = (p : Int) by omega]
            refine vX9_bestFee_53 ⟨by omega, fun _ => ⟨by omega, fun e => by omega, fun e => ⟨by omega, by omega, fun d => next _ _ (.inr ⟨by omega, ?_, ?_⟩), fun d => next _ _ (.inr ⟨by omega, ?_, ?_⟩)⟩⟩, fun e => by omega⟩
            · rw [ez, if_pos (by omega)]
            · rw [ez, if_pos (by omega)]
            · rw [ez, if_neg (by omega), hb0]
            · rw [ez, if_neg (by omega), hm0]
        | succ m ihm =>
          intro g M3 hm hg f
          have hx3 := hx.q f
          refine vX9_bestFee_53 ⟨by omega, fun e => by omega, fun _ => (c_X9_takingsOf hx3.1.1 (by omega)).mono ?_⟩
          rintro x M4 ⟨rfl, f4⟩
          have := ihm (g + 1) M4 (by omega) (by omega) (f.tr (mFs.q hx3 f4))
          rw [zsum_s hg.1] at this
          rw [hx3.B, hx3.A, hx3.1.2]
          exact this
      exact inner _ 0 M2 rfl (by omega) (mQ.rf hx)
  exact loop _ 0 M (-1) 0 rfl (by omega) (.inl ⟨rfl, rfl, rfl⟩) (fun _ _ _ _ _ => rfl) (fun _ _ => rfl) (fun _ _ => rfl) (fun _ _ => rfl) h.1.1.2.2.2.2.2
end
