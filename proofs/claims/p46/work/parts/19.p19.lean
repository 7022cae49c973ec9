/-! ===== the class: what a book says ===== -/
def bkW (M : zM) (b : Nat) : Prop := (0 ≤ M 0 b 2 ∧ M 0 b 2 ≤ 80) ∧ (0 ≤ M 0 b 3 ∧ M 0 b 3 ≤ 80) ∧ (∀ j, 0 ≤ j ∧ j < M 0 b 2 → 0 ≤ M 10 b j ∧ M 10 b j < 800000) ∧ (∀ j, 0 ≤ j ∧ j < M 0 b 3 → 0 ≤ M 11 b j ∧ M 11 b j < 800000) ∧ 0 ≤ M 0 b 4 ∧ M 0 b 4 ≤ 500
def rbid (M : zM) (b : Nat) (k : Int) : Int := if 0 ≤ k ∧ k < M 0 b 2 then 9999 - M 10 b k / 80 else -1
def rask (M : zM) (b : Nat) (k : Int) : Int := if 0 ≤ k ∧ k < M 0 b 3 then M 11 b k / 80 + M 0 b 4 else -1
def rslt (M : zM) (b : Nat) (z k : Int) : Int := if z = 0 then (if 0 ≤ k ∧ k < M 0 b 2 then M 10 b k % 80 else 80) else (if 0 ≤ k ∧ k < M 0 b 3 then M 11 b k % 80 else 80)
theorem tdiv_n {x y : Int} (h : 0 ≤ x) : Int.tdiv x y = x / y := Int.tdiv_eq_ediv_of_nonneg h
theorem tmod_n {x y : Int} (h : 0 ≤ x) : Int.tmod x y = x % y := Int.tmod_eq_emod_of_nonneg h
theorem rslt_b {M : zM} {b : Nat} {z k : Int} (w : bkW M b) : 0 ≤ rslt M b z k ∧ rslt M b z k ≤ 80 := by
  unfold rslt
  split
  · split <;> omega
  · split <;> omega
section
variable {l : Launch} {M : zM}
theorem vX0_slotAt {l : Launch} {P : Int → zM → Prop} {b : Nat} {v1 : Int} {v2 : Int} {M : zM}
    (H0 : (zI v2 ∧ (v2 < 0 → P 80 M) ∧ (0 ≤ v2 → ((80 ≤ v2 → P 80 M) ∧ (v2 < 80 → (zI v1 ∧ (v1 = 0 → (zI (M 0 b 2) ∧ (v2 < (M 0 b 2) → ((0 ≤ v2 ∧ v2 < 80) ∧ (zI (M 10 b v2) ∧ P (Int.tmod (M 10 b v2) 80) M))) ∧ ((M 0 b 2) ≤ v2 → P 80 M))) ∧ (v1 ≠ 0 → (zI (M 0 b 3) ∧ (v2 < (M 0 b 3) → ((0 ≤ v2 ∧ v2 < 80) ∧ (zI (M 11 b v2) ∧ P (Int.tmod (M 11 b v2) 80) M))) ∧ ((M 0 b 3) ≤ v2 → P 80 M))))))))) :
    CI l m_X0_slotAt [zr 0 b, zi v1, zi v2] M P :=
(aw_iload_n d_X0_slotAt_0 rfl rfl 2 rfl
(have z1 := H0.1; have e2 := H0.2; aw_if_lt d_X0_slotAt_1 rfl rfl z1 (fun c3 => have e5 := e2.1 c3; (aw_bipush d_X0_slotAt_29 rfl (by decide)
(aw_ri d_X0_slotAt_31 rfl e5))) (fun c4 => have e6 := e2.2 c4; (aw_iload_n d_X0_slotAt_4 rfl rfl 2 rfl
(aw_bipush d_X0_slotAt_5 rfl (by decide)
(aw_icmp_ge d_X0_slotAt_7 rfl rfl z1 (by decide) (fun c7 => have e9 := e6.1 c7; (aw_bipush d_X0_slotAt_29 rfl (by decide)
(aw_ri d_X0_slotAt_31 rfl e9))) (fun c8 => have e10 := e6.2 c8; (aw_iload_n d_X0_slotAt_10 rfl rfl 2 rfl
(aw_iload_n d_X0_slotAt_11 rfl rfl 1 rfl
(have z11 := e10.1; have e12 := e10.2; aw_if_eq d_X0_slotAt_12 rfl rfl z11 (fun c13 => have e15 := e12.1 c13; (aw_aload_n d_X0_slotAt_22 rfl rfl 0 rfl (by decide)
(aw_getI (kc := 2) d_X0_slotAt_23 rfl fl0_18 rfl rfl
(have z17 := e15.1; have e18 := e15.2; aw_icmp_lt d_X0_slotAt_26 rfl rfl z1 z17 (fun c19 => have e21 := e18.1 c19; (aw_iload_n d_X0_slotAt_32 rfl rfl 1 rfl
(aw_if_eq d_X0_slotAt_33 rfl rfl z11 (fun _ => (aw_aload_n d_X0_slotAt_45 rfl rfl 0 rfl (by decide)
(aw_getR (k' := 10) (a := 1) (b := 0) (j := b) d_X0_slotAt_46 rfl fl0_9 rfl zj1 ⟨by decide, fun h => h⟩
(aw_iload_n d_X0_slotAt_49 rfl rfl 2 rfl
(have z24 := e21.1; have e25 := e21.2; (aw_iald d_X0_slotAt_50 rfl za10 z24
(aw_bipush d_X0_slotAt_51 rfl (by decide)
(have z26 := e25.1; have e27 := e25.2; (aw_irem d_X0_slotAt_53 rfl z26 (by decide) (by decide)
(aw_ri d_X0_slotAt_54 rfl e27)))))))))) (fun c23 => absurd c13 (by omega))))) (fun c20 => have e22 := e18.2 c20; (aw_bipush d_X0_slotAt_29 rfl (by decide)
(aw_ri d_X0_slotAt_31 rfl e22))))))) (fun c14 => have e16 := e12.2 c14; (aw_aload_n d_X0_slotAt_15 rfl rfl 0 rfl (by decide)
(aw_getI (kc := 3) d_X0_slotAt_16 rfl fl0_22 rfl rfl
(aw_goto d_X0_slotAt_19 rfl
(have z28 := e16.1; have e29 := e16.2; aw_icmp_lt d_X0_slotAt_26 rfl rfl z1 z28 (fun c30 => have e32 := e29.1 c30; (aw_iload_n d_X0_slotAt_32 rfl rfl 1 rfl
(aw_if_eq d_X0_slotAt_33 rfl rfl z11 (fun c34 => absurd c14 (by omega)) (fun _ => (aw_aload_n d_X0_slotAt_36 rfl rfl 0 rfl (by decide)
(aw_getR (k' := 11) (a := 1) (b := 0) (j := b) d_X0_slotAt_37 rfl fl0_15 rfl zj1 ⟨by decide, fun h => h⟩
(aw_iload_n d_X0_slotAt_40 rfl rfl 2 rfl
(have z35 := e32.1; have e36 := e32.2; (aw_iald d_X0_slotAt_41 rfl za11 z35
(aw_goto d_X0_slotAt_42 rfl
(aw_bipush d_X0_slotAt_51 rfl (by decide)
(have z37 := e36.1; have e38 := e36.2; (aw_irem d_X0_slotAt_53 rfl z37 (by decide) (by decide)
(aw_ri d_X0_slotAt_54 rfl e38)))))))))))))) (fun c31 => have e33 := e29.2 c31; (aw_bipush d_X0_slotAt_29 rfl (by decide)
(aw_ri d_X0_slotAt_31 rfl e33))))))))))))))))))
theorem s_X0_slotAt {b : Nat} {z k : Int} (w : bkW M b ∧ zI z ∧ zI k) : CI l m_X0_slotAt [zr 0 b, zi z, zi k] M (fun x M' => x = rslt M b z k ∧ M' = M) := by
  obtain ⟨w, hz, hk⟩ := w
  have w1 := w.1
  have w2 := w.2.1
  have w3 := w.2.2.1 k
  have w4 := w.2.2.2.1 k
  refine vX0_slotAt ⟨hk, fun e => ⟨?_, rfl⟩, fun e => ⟨fun e2 => ⟨?_, rfl⟩, fun e2 => ⟨hz, fun e3 => ⟨by omega, fun e4 => ⟨by omega, ?_, ?_, rfl⟩, fun e4 => ⟨?_, rfl⟩⟩, fun e3 => ⟨by omega, fun e4 => ⟨by omega, ?_, ?_, rfl⟩, fun e4 => ⟨?_, rfl⟩⟩⟩⟩⟩
  · unfold rslt; split <;> rw [if_neg (by omega)]
  · unfold rslt; split <;> rw [if_neg (by omega)]
  · have := w3 ⟨e, e4⟩; omega
  · rw [tmod_n (w3 ⟨e, e4⟩).1]; unfold rslt; rw [if_pos e3, if_pos ⟨e, e4⟩]
  · unfold rslt; rw [if_pos e3, if_neg (by omega)]
  · have := w4 ⟨e, e4⟩; omega
  · rw [tmod_n (w4 ⟨e, e4⟩).1]; unfold rslt; rw [if_neg e3, if_pos ⟨e, e4⟩]
  · unfold rslt; rw [if_neg e3, if_neg (by omega)]
theorem vX0_traderAt {l : Launch} {P : Int → zM → Prop} {b : Nat} {v1 : Int} {v2 : Int} {M : zM}
    (H0 : ((bkW M b ∧ zI v1 ∧ zI v2) ∧ (zI (rslt M b v1 v2) ∧ P (Int.tdiv (rslt M b v1 v2) 4) M))) :
    CI l m_X0_traderAt [zr 0 b, zi v1, zi v2] M P :=
(aw_aload_n d_X0_traderAt_0 rfl rfl 0 rfl (by decide)
(aw_iload_n d_X0_traderAt_1 rfl rfl 1 rfl
(aw_iload_n d_X0_traderAt_2 rfl rfl 2 rfl
(have z1 := H0.1; have e2 := H0.2; (aw_VI (As := [zi v1, zi v2]) (st := []) d_X0_traderAt_3 rfl cv0_70 ⟨Nat.le_of_ble_eq_true rfl, Nat.le_of_ble_eq_true rfl⟩ rfl rfl (Nat.le_of_ble_eq_true rfl) (Nat.le_of_ble_eq_true rfl) (s_X0_slotAt z1) (fun _ _ hq => aw_eqs hq
(aw_iconst d_X0_traderAt_6 rfl
(have z3 := e2.1; have e4 := e2.2; (aw_idiv d_X0_traderAt_7 rfl z3 (by decide) (by decide)
(aw_ri d_X0_traderAt_8 rfl e4))))))))))
theorem vX0_bid {l : Launch} {P : Int → zM → Prop} {b : Nat} {v1 : Int} {M : zM}
    (H0 : (zI v1 ∧ (v1 < 0 → P (-1) M) ∧ (0 ≤ v1 → (zI (M 0 b 2) ∧ ((M 0 b 2) ≤ v1 → P (-1) M) ∧ (v1 < (M 0 b 2) → ((80 ≤ v1 → P (-1) M) ∧ (v1 < 80 → ((0 ≤ v1 ∧ v1 < 80) ∧ (zI (M 10 b v1) ∧ P (9999 - (Int.tdiv (M 10 b v1) 80)) M))))))))) :
    CI l m_X0_bid [zr 0 b, zi v1] M P :=
(aw_iload_n d_X0_bid_0 rfl rfl 1 rfl
(have z1 := H0.1; have e2 := H0.2; aw_if_lt d_X0_bid_1 rfl rfl z1 (fun c3 => have e5 := e2.1 c3; (aw_iconst d_X0_bid_34 rfl
(aw_ri d_X0_bid_35 rfl e5))) (fun c4 => have e6 := e2.2 c4; (aw_iload_n d_X0_bid_4 rfl rfl 1 rfl
(aw_aload_n d_X0_bid_5 rfl rfl 0 rfl (by decide)
(aw_getI (kc := 2) d_X0_bid_6 rfl fl0_18 rfl rfl
(have z7 := e6.1; have e8 := e6.2; aw_icmp_ge d_X0_bid_9 rfl rfl z1 z7 (fun c9 => have e11 := e8.1 c9; (aw_iconst d_X0_bid_34 rfl
(aw_ri d_X0_bid_35 rfl e11))) (fun c10 => have e12 := e8.2 c10; (aw_iload_n d_X0_bid_12 rfl rfl 1 rfl
(aw_bipush d_X0_bid_13 rfl (by decide)
(aw_icmp_ge d_X0_bid_15 rfl rfl z1 (by decide) (fun c13 => have e15 := e12.1 c13; (aw_iconst d_X0_bid_34 rfl
(aw_ri d_X0_bid_35 rfl e15))) (fun c14 => have e16 := e12.2 c14; (aw_sipush d_X0_bid_18 rfl (by decide)
(aw_aload_n d_X0_bid_21 rfl rfl 0 rfl (by decide)
(aw_getR (k' := 10) (a := 1) (b := 0) (j := b) d_X0_bid_22 rfl fl0_9 rfl zj1 ⟨by decide, fun h => h⟩
(aw_iload_n d_X0_bid_25 rfl rfl 1 rfl
(have z17 := e16.1; have e18 := e16.2; (aw_iald d_X0_bid_26 rfl za10 z17
(aw_bipush d_X0_bid_27 rfl (by decide)
(have z19 := e18.1; have e20 := e18.2; (aw_idiv d_X0_bid_29 rfl z19 (by decide) (by decide)
(aw_isub d_X0_bid_30 rfl
(aw_goto d_X0_bid_31 rfl
(aw_ri d_X0_bid_35 rfl e20))))))))))))))))))))))))
theorem vX0_ask {l : Launch} {P : Int → zM → Prop} {b : Nat} {v1 : Int} {M : zM}
    (H0 : (zI v1 ∧ (v1 < 0 → P (-1) M) ∧ (0 ≤ v1 → (zI (M 0 b 3) ∧ ((M 0 b 3) ≤ v1 → P (-1) M) ∧ (v1 < (M 0 b 3) → ((80 ≤ v1 → P (-1) M) ∧ (v1 < 80 → ((0 ≤ v1 ∧ v1 < 80) ∧ (zI (M 11 b v1) ∧ P ((Int.tdiv (M 11 b v1) 80) + (M 0 b 4)) M))))))))) :
    CI l m_X0_ask [zr 0 b, zi v1] M P :=
(aw_iload_n d_X0_ask_0 rfl rfl 1 rfl
(have z1 := H0.1; have e2 := H0.2; aw_if_lt d_X0_ask_1 rfl rfl z1 (fun c3 => have e5 := e2.1 c3; (aw_iconst d_X0_ask_35 rfl
(aw_ri d_X0_ask_36 rfl e5))) (fun c4 => have e6 := e2.2 c4; (aw_iload_n d_X0_ask_4 rfl rfl 1 rfl
(aw_aload_n d_X0_ask_5 rfl rfl 0 rfl (by decide)
(aw_getI (kc := 3) d_X0_ask_6 rfl fl0_22 rfl rfl
(have z7 := e6.1; have e8 := e6.2; aw_icmp_ge d_X0_ask_9 rfl rfl z1 z7 (fun c9 => have e11 := e8.1 c9; (aw_iconst d_X0_ask_35 rfl
(aw_ri d_X0_ask_36 rfl e11))) (fun c10 => have e12 := e8.2 c10; (aw_iload_n d_X0_ask_12 rfl rfl 1 rfl
(aw_bipush d_X0_ask_13 rfl (by decide)
(aw_icmp_ge d_X0_ask_15 rfl rfl z1 (by decide) (fun c13 => have e15 := e12.1 c13; (aw_iconst d_X0_ask_35 rfl
(aw_ri d_X0_ask_36 rfl e15))) (fun c14 => have e16 := e12.2 c14; (aw_aload_n d_X0_ask_18 rfl rfl 0 rfl (by decide)
(aw_getR (k' := 11) (a := 1) (b := 0) (j := b) d_X0_ask_19 rfl fl0_15 rfl zj1 ⟨by decide, fun h => h⟩
(aw_iload_n d_X0_ask_22 rfl rfl 1 rfl
(have z17 := e16.1; have e18 := e16.2; (aw_iald d_X0_ask_23 rfl za11 z17
(aw_bipush d_X0_ask_24 rfl (by decide)
(have z19 := e18.1; have e20 := e18.2; (aw_idiv d_X0_ask_26 rfl z19 (by decide) (by decide)
(aw_aload_n d_X0_ask_27 rfl rfl 0 rfl (by decide)
(aw_getI (kc := 4) d_X0_ask_28 rfl fl0_74 rfl rfl
(aw_iadd d_X0_ask_31 rfl
(aw_goto d_X0_ask_32 rfl
(aw_ri d_X0_ask_36 rfl e20)))))))))))))))))))))))))
theorem s_X0_traderAt {b : Nat} {z k : Int} (w : bkW M b ∧ zI z ∧ zI k) : CI l m_X0_traderAt [zr 0 b, zi z, zi k] M (fun x M' => x = rslt M b z k / 4 ∧ M' = M) := by
  have h := rslt_b (z := z) (k := k) w.1
  exact vX0_traderAt ⟨w, by omega, tdiv_n h.1, rfl⟩
theorem s_X0_bid {b : Nat} {k : Int} (w : bkW M b ∧ zI k) : CI l m_X0_bid [zr 0 b, zi k] M (fun x M' => x = rbid M b k ∧ M' = M) := by
  obtain ⟨w, hk⟩ := w
  have w1 := w.1
  have w3 := w.2.2.1 k
  refine vX0_bid ⟨hk, fun e => ⟨?_, rfl⟩, fun e => ⟨by omega, fun e2 => ⟨?_, rfl⟩, fun e2 => ⟨fun e3 => by omega, fun e3 => ⟨by omega, ?_, ?_, rfl⟩⟩⟩⟩
  · unfold rbid; rw [if_neg (by omega)]
  · unfold rbid; rw [if_neg (by omega)]
  · have := w3 ⟨e, e2⟩; omega
  · rw [tdiv_n (w3 ⟨e, e2⟩).1]; unfold rbid; rw [if_pos ⟨e, e2⟩]
theorem s_X0_ask {b : Nat} {k : Int} (w : bkW M b ∧ zI k) : CI l m_X0_ask [zr 0 b, zi k] M (fun x M' => x = rask M b k ∧ M' = M) := by
  obtain ⟨w, hk⟩ := w
  have w1 := w.2.1
  have w3 := w.2.2.2.1 k
  refine vX0_ask ⟨hk, fun e => ⟨?_, rfl⟩, fun e => ⟨by omega, fun e2 => ⟨?_, rfl⟩, fun e2 => ⟨fun e3 => by omega, fun e3 => ⟨by omega, ?_, ?_, rfl⟩⟩⟩⟩
  · unfold rask; rw [if_neg (by omega)]
  · unfold rask; rw [if_neg (by omega)]
  · have := w3 ⟨e, e2⟩; omega
  · rw [tdiv_n (w3 ⟨e, e2⟩).1]; unfold rask; rw [if_pos ⟨e, e2⟩]
theorem vX0_amount {l : Launch} {P : Int → zM → Prop} {b : Nat} {v1 : Int} {v2 : Int} {M : zM}
    (H0 : (zI v1 ∧ (v1 = 0 → ((bkW M b ∧ zI v2) ∧ P (rbid M b v2) M)) ∧ (v1 ≠ 0 → ((bkW M b ∧ zI v2) ∧ P (rask M b v2) M)))) :
    CI l m_X0_amount [zr 0 b, zi v1, zi v2] M P :=
(aw_iload_n d_X0_amount_0 rfl rfl 1 rfl
(have z1 := H0.1; have e2 := H0.2; aw_if_eq d_X0_amount_1 rfl rfl z1 (fun c3 => have e5 := e2.1 c3; (aw_aload_n d_X0_amount_12 rfl rfl 0 rfl (by decide)
(aw_iload_n d_X0_amount_13 rfl rfl 2 rfl
(have z7 := e5.1; have e8 := e5.2; (aw_VI (As := [zi v2]) (st := []) d_X0_amount_14 rfl cv0_80 ⟨Nat.le_of_ble_eq_true rfl, Nat.le_of_ble_eq_true rfl⟩ rfl rfl (Nat.le_of_ble_eq_true rfl) (Nat.le_of_ble_eq_true rfl) (s_X0_bid z7) (fun _ _ hq => aw_eqs hq
(aw_ri d_X0_amount_17 rfl e8))))))) (fun c4 => have e6 := e2.2 c4; (aw_aload_n d_X0_amount_4 rfl rfl 0 rfl (by decide)
(aw_iload_n d_X0_amount_5 rfl rfl 2 rfl
(have z9 := e6.1; have e10 := e6.2; (aw_VI (As := [zi v2]) (st := []) d_X0_amount_6 rfl cv0_77 ⟨Nat.le_of_ble_eq_true rfl, Nat.le_of_ble_eq_true rfl⟩ rfl rfl (Nat.le_of_ble_eq_true rfl) (Nat.le_of_ble_eq_true rfl) (s_X0_ask z9) (fun _ _ hq => aw_eqs hq
(aw_goto d_X0_amount_9 rfl
(aw_ri d_X0_amount_17 rfl e10))))))))))
theorem vX0_lastBid {l : Launch} {P : Int → zM → Prop} {b : Nat} {M : zM}
    (H0 : ((bkW M b ∧ zI ((M 0 b 6) - 1)) ∧ P (rbid M b ((M 0 b 6) - 1)) M)) :
    CI l m_X0_lastBid [zr 0 b] M P :=
(aw_aload_n d_X0_lastBid_0 rfl rfl 0 rfl (by decide)
(aw_aload_n d_X0_lastBid_1 rfl rfl 0 rfl (by decide)
(aw_getI (kc := 6) d_X0_lastBid_2 rfl fl0_83 rfl rfl
(aw_iconst d_X0_lastBid_5 rfl
(aw_isub d_X0_lastBid_6 rfl
(have z1 := H0.1; have e2 := H0.2; (aw_VI (As := [zi ((M 0 b 6) - 1)]) (st := []) d_X0_lastBid_7 rfl cv0_80 ⟨Nat.le_of_ble_eq_true rfl, Nat.le_of_ble_eq_true rfl⟩ rfl rfl (Nat.le_of_ble_eq_true rfl) (Nat.le_of_ble_eq_true rfl) (s_X0_bid z1) (fun _ _ hq => aw_eqs hq
(aw_ri d_X0_lastBid_10 rfl e2)))))))))
theorem vX0_lastAsk {l : Launch} {P : Int → zM → Prop} {b : Nat} {M : zM}
    (H0 : ((bkW M b ∧ zI ((M 0 b 6) - 1)) ∧ P (rask M b ((M 0 b 6) - 1)) M)) :
    CI l m_X0_lastAsk [zr 0 b] M P :=
(aw_aload_n d_X0_lastAsk_0 rfl rfl 0 rfl (by decide)
(aw_aload_n d_X0_lastAsk_1 rfl rfl 0 rfl (by decide)
(aw_getI (kc := 6) d_X0_lastAsk_2 rfl fl0_83 rfl rfl
(aw_iconst d_X0_lastAsk_5 rfl
(aw_isub d_X0_lastAsk_6 rfl
(have z1 := H0.1; have e2 := H0.2; (aw_VI (As := [zi ((M 0 b 6) - 1)]) (st := []) d_X0_lastAsk_7 rfl cv0_77 ⟨Nat.le_of_ble_eq_true rfl, Nat.le_of_ble_eq_true rfl⟩ rfl rfl (Nat.le_of_ble_eq_true rfl) (Nat.le_of_ble_eq_true rfl) (s_X0_ask z1) (fun _ _ hq => aw_eqs hq
(aw_ri d_X0_lastAsk_10 rfl e2)))))))))
theorem s_X0_amount {b : Nat} {z k : Int} (w : bkW M b ∧ zI z ∧ zI k) : CI l m_X0_amount [zr 0 b, zi z, zi k] M (fun x M' => x = (if z = 0 then rbid M b k else rask M b k) ∧ M' = M) :=
  vX0_amount ⟨w.2.1, fun e => ⟨⟨w.1, w.2.2⟩, by rw [if_pos e], rfl⟩, fun e => ⟨⟨w.1, w.2.2⟩, by rw [if_neg e], rfl⟩⟩
theorem s_X0_lastBid {b : Nat} (w : bkW M b ∧ zI (M 0 b 6 - 1)) : CI l m_X0_lastBid [zr 0 b] M (fun x M' => x = rbid M b (M 0 b 6 - 1) ∧ M' = M) := vX0_lastBid ⟨w, rfl, rfl⟩
theorem s_X0_lastAsk {b : Nat} (w : bkW M b ∧ zI (M 0 b 6 - 1)) : CI l m_X0_lastAsk [zr 0 b] M (fun x M' => x = rask M b (M 0 b 6 - 1) ∧ M' = M) := vX0_lastAsk ⟨w, rfl, rfl⟩
end

