/-! ===== the class: beside what is done ===== -/
section
variable {l : Launch} {M : zM} {b : Nat} {B A : List Int} {f w : Int}
theorem zsum_0s {g : Int → Int} {n : Int} (hn : 0 ≤ n) (h : ∀ i, 0 ≤ i ∧ i < n → g i = 0) : zsum g n = 0 := (zsum_stop (j := 0) (by omega) h).trans zsum_0
def LX0_openTwos_7 (l : Launch) (P : Int → zM → Prop) (b : Nat) (v1 : Int) (v2 : Int) (M : zM) : Prop := AW l m_X0_openTwos (zTi m_X0_openTwos P) 7 [(0, zr 0 b), (1, zi v1), (2, zi v2)] [] M
def LX0_openTwos_20 (l : Launch) (P : Int → zM → Prop) (b : Nat) (v1 : Int) (v2 : Int) (v3 : Int) (M : zM) : Prop := AW l m_X0_openTwos (zTi m_X0_openTwos P) 20 [(0, zr 0 b), (1, zi v1), (2, zi v2), (3, zi v3)] [] M
theorem vX0_openTwos_7 {l : Launch} {P : Int → zM → Prop} {b : Nat} {v1 : Int} {v2 : Int} {M : zM}
    (H0 : (zI v2 ∧ zI (M 0 b 2) ∧ ((M 0 b 2) ≤ v2 → P v1 M) ∧ (v2 < (M 0 b 2) → LX0_openTwos_20 l P b v1 v2 (M 0 b 8) M))) :
    LX0_openTwos_7 l P b v1 v2 M :=
(aw_iload_n d_X0_openTwos_7 rfl rfl 2 rfl
(aw_aload_n d_X0_openTwos_8 rfl rfl 0 rfl (by decide)
(aw_getI (kc := 2) d_X0_openTwos_9 rfl fl0_18 rfl rfl
(have z1 := H0.1; have z2 := H0.2.1; have e3 := H0.2.2; aw_icmp_ge d_X0_openTwos_12 rfl rfl z1 z2 (fun c4 => have e6 := e3.1 c4; (aw_iload_n d_X0_openTwos_56 rfl rfl 1 rfl
(aw_ri d_X0_openTwos_57 rfl e6))) (fun c5 => have e7 := e3.2 c5; (aw_aload_n d_X0_openTwos_15 rfl rfl 0 rfl (by decide)
(aw_getI (kc := 8) d_X0_openTwos_16 rfl fl0_92 rfl rfl
(aw_istore_n (lv' := [(3, zi (M 0 b 8)), (0, zr 0 b), (1, zi v1), (2, zi v2)]) d_X0_openTwos_19 rfl rfl (by decide) rfl
(aw_sub [1, 2, 3, 0] rfl e7)))))))))
theorem vX0_openTwos_20 {l : Launch} {P : Int → zM → Prop} {b : Nat} {v1 : Int} {v2 : Int} {v3 : Int} {M : zM}
    (H0 : (zI v3 ∧ zI (M 0 b 3) ∧ ((M 0 b 3) ≤ v3 → LX0_openTwos_7 l P b v1 (v2 + 1) M) ∧ (v3 < (M 0 b 3) → ((bkW M b ∧ zI v2) ∧ ((bkW M b ∧ zI v3) ∧ (zI (rbid M b v2) ∧ zI (rask M b v3) ∧ ((rbid M b v2) ≤ (rask M b v3) → LX0_openTwos_7 l P b v1 (v2 + 1) M) ∧ ((rask M b v3) < (rbid M b v2) → LX0_openTwos_20 l P b (v1 + 1) v2 (v3 + 1) M))))))) :
    LX0_openTwos_20 l P b v1 v2 v3 M :=
(aw_iload_n d_X0_openTwos_20 rfl rfl 3 rfl
(aw_aload_n d_X0_openTwos_21 rfl rfl 0 rfl (by decide)
(aw_getI (kc := 3) d_X0_openTwos_22 rfl fl0_22 rfl rfl
(have z8 := H0.1; have z9 := H0.2.1; have e10 := H0.2.2; aw_icmp_ge d_X0_openTwos_25 rfl rfl z8 z9 (fun c11 => have e13 := e10.1 c11; (aw_iinc (lv' := [(2, zi (v2 + 1)), (0, zr 0 b), (1, zi v1), (3, zi v3)]) (y := (v2 + 1)) d_X0_openTwos_50 rfl 2 rfl (by decide) rfl rfl
(aw_goto d_X0_openTwos_53 rfl
(aw_sub [1, 2, 0] rfl e13)))) (fun c12 => have e14 := e10.2 c12; (aw_aload_n d_X0_openTwos_28 rfl rfl 0 rfl (by decide)
(aw_iload_n d_X0_openTwos_29 rfl rfl 2 rfl
(have z15 := e14.1; have e16 := e14.2; (aw_VI (As := [zi v2]) (st := []) d_X0_openTwos_30 rfl cv0_80 ⟨Nat.le_of_ble_eq_true rfl, Nat.le_of_ble_eq_true rfl⟩ rfl rfl (Nat.le_of_ble_eq_true rfl) (Nat.le_of_ble_eq_true rfl) (s_X0_bid z15) (fun _ _ hq => aw_eqs hq
(aw_aload_n d_X0_openTwos_33 rfl rfl 0 rfl (by decide)
(aw_iload_n d_X0_openTwos_34 rfl rfl 3 rfl
(have z17 := e16.1; have e18 := e16.2; (aw_VI (As := [zi v3]) (st := [zi (rbid M b v2)]) d_X0_openTwos_35 rfl cv0_77 ⟨Nat.le_of_ble_eq_true rfl, Nat.le_of_ble_eq_true rfl⟩ rfl rfl (Nat.le_of_ble_eq_true rfl) (Nat.le_of_ble_eq_true rfl) (s_X0_ask z17) (fun _ _ hq => aw_eqs hq
(have z19 := e18.1; have z20 := e18.2.1; have e21 := e18.2.2; aw_icmp_le d_X0_openTwos_38 rfl rfl z19 z20 (fun c22 => have e24 := e21.1 c22; (aw_iinc (lv' := [(2, zi (v2 + 1)), (0, zr 0 b), (1, zi v1), (3, zi v3)]) (y := (v2 + 1)) d_X0_openTwos_50 rfl 2 rfl (by decide) rfl rfl
(aw_goto d_X0_openTwos_53 rfl
(aw_sub [1, 2, 0] rfl e24)))) (fun c23 => have e25 := e21.2 c23; (aw_iinc (lv' := [(1, zi (v1 + 1)), (0, zr 0 b), (2, zi v2), (3, zi v3)]) (y := (v1 + 1)) d_X0_openTwos_41 rfl 1 rfl (by decide) rfl rfl
(aw_iinc (lv' := [(3, zi (v3 + 1)), (1, zi (v1 + 1)), (0, zr 0 b), (2, zi v2)]) (y := (v3 + 1)) d_X0_openTwos_44 rfl 3 rfl (by decide) rfl rfl
(aw_goto d_X0_openTwos_47 rfl
(aw_sub [2, 1, 3, 0] rfl e25)))))))))))))))))))))
theorem vX0_openTwos {l : Launch} {P : Int → zM → Prop} {b : Nat} {M : zM}
    (H0 : LX0_openTwos_7 l P b 0 (M 0 b 8) M) :
    CI l m_X0_openTwos [zr 0 b] M P :=
(aw_iconst d_X0_openTwos_0 rfl
(aw_istore_n (lv' := [(1, zi 0), (0, zr 0 b)]) d_X0_openTwos_1 rfl rfl (by decide) rfl
(aw_aload_n d_X0_openTwos_2 rfl rfl 1 rfl (by decide)
(aw_getI (kc := 8) d_X0_openTwos_3 rfl fl0_92 rfl rfl
(aw_istore_n (lv' := [(2, zi (M 0 b 8)), (1, zi 0), (0, zr 0 b)]) d_X0_openTwos_6 rfl rfl (by decide) rfl
(aw_sub [2, 1, 0] rfl H0))))))
theorem vX0_openDifference {l : Launch} {P : Int → zM → Prop} {b : Nat} {M : zM}
    (H0 : (zI (M 0 b 8) ∧ zI (M 0 b 2) ∧ ((M 0 b 2) ≤ (M 0 b 8) → P 0 M) ∧ ((M 0 b 8) < (M 0 b 2) → (zI (M 0 b 3) ∧ ((M 0 b 8) < (M 0 b 3) → ((bkW M b ∧ zI (M 0 b 8)) ∧ ((bkW M b ∧ zI (M 0 b 8)) ∧ (zI ((rbid M b (M 0 b 8)) - (rask M b (M 0 b 8))) ∧ P (max 0 ((rbid M b (M 0 b 8)) - (rask M b (M 0 b 8)))) M)))) ∧ ((M 0 b 3) ≤ (M 0 b 8) → P 0 M))))) :
    CI l m_X0_openDifference [zr 0 b] M P :=
(aw_aload_n d_X0_openDifference_0 rfl rfl 0 rfl (by decide)
(aw_getI (kc := 8) d_X0_openDifference_1 rfl fl0_92 rfl rfl
(aw_aload_n d_X0_openDifference_4 rfl rfl 0 rfl (by decide)
(aw_getI (kc := 2) d_X0_openDifference_5 rfl fl0_18 rfl rfl
(have z1 := H0.1; have z2 := H0.2.1; have e3 := H0.2.2; aw_icmp_ge d_X0_openDifference_8 rfl rfl z1 z2 (fun c4 => have e6 := e3.1 c4; (aw_iconst d_X0_openDifference_22 rfl
(aw_ri d_X0_openDifference_23 rfl e6))) (fun c5 => have e7 := e3.2 c5; (aw_aload_n d_X0_openDifference_11 rfl rfl 0 rfl (by decide)
(aw_getI (kc := 8) d_X0_openDifference_12 rfl fl0_92 rfl rfl
(aw_aload_n d_X0_openDifference_15 rfl rfl 0 rfl (by decide)
(aw_getI (kc := 3) d_X0_openDifference_16 rfl fl0_22 rfl rfl
(have z8 := e7.1; have e9 := e7.2; aw_icmp_lt d_X0_openDifference_19 rfl rfl z1 z8 (fun c10 => have e12 := e9.1 c10; (aw_iconst d_X0_openDifference_24 rfl
(aw_aload_n d_X0_openDifference_25 rfl rfl 0 rfl (by decide)
(aw_aload_n d_X0_openDifference_26 rfl rfl 0 rfl (by decide)
(aw_getI (kc := 8) d_X0_openDifference_27 rfl fl0_92 rfl rfl
(have z14 := e12.1; have e15 := e12.2; (aw_VI (As := [zi (M 0 b 8)]) (st := [zi 0]) d_X0_openDifference_30 rfl cv0_80 ⟨Nat.le_of_ble_eq_true rfl, Nat.le_of_ble_eq_true rfl⟩ rfl rfl (Nat.le_of_ble_eq_true rfl) (Nat.le_of_ble_eq_true rfl) (s_X0_bid z14) (fun _ _ hq => aw_eqs hq
(aw_aload_n d_X0_openDifference_33 rfl rfl 0 rfl (by decide)
(aw_aload_n d_X0_openDifference_34 rfl rfl 0 rfl (by decide)
(aw_getI (kc := 8) d_X0_openDifference_35 rfl fl0_92 rfl rfl
(have z16 := e15.1; have e17 := e15.2; (aw_VI (As := [zi (M 0 b 8)]) (st := [zi (rbid M b (M 0 b 8)), zi 0]) d_X0_openDifference_38 rfl cv0_77 ⟨Nat.le_of_ble_eq_true rfl, Nat.le_of_ble_eq_true rfl⟩ rfl rfl (Nat.le_of_ble_eq_true rfl) (Nat.le_of_ble_eq_true rfl) (s_X0_ask z16) (fun _ _ hq => aw_eqs hq
(aw_isub d_X0_openDifference_41 rfl
(have z18 := e17.1; have e19 := e17.2; (aw_max d_X0_openDifference_42 rfl cm0_57 ⟨Nat.le_of_ble_eq_true rfl, Nat.le_of_ble_eq_true rfl⟩ (by decide) z18
(aw_ri d_X0_openDifference_45 rfl e19)))))))))))))))))) (fun c11 => have e13 := e9.2 c11; (aw_iconst d_X0_openDifference_22 rfl
(aw_ri d_X0_openDifference_23 rfl e13))))))))))))))
def LX0_likeLast_5 (l : Launch) (P : Int → zM → Prop) (b : Nat) (v1 : Int) (v2 : Int) (v3 : Int) (v4 : Int) (M : zM) : Prop := AW l m_X0_likeLast (zTi m_X0_likeLast P) 5 [(0, zr 0 b), (1, zi v1), (2, zi v2), (3, zi v3), (4, zi v4)] [] M
theorem vX0_likeLast_5 {l : Launch} {P : Int → zM → Prop} {b : Nat} {v1 : Int} {v2 : Int} {v3 : Int} {v4 : Int} {M : zM}
    (H0 : (zI v4 ∧ zI v2 ∧ (v2 ≤ v4 → P v3 M) ∧ (v4 < v2 → (zI (M 0 b 6) ∧ ((M 0 b 6) ≤ 0 → P v3 M) ∧ (0 < (M 0 b 6) → ((bkW M b ∧ zI v1 ∧ zI v4) ∧ ((bkW M b ∧ zI v1 ∧ zI ((M 0 b 6) - 1)) ∧ (zI (if v1 = 0 then rbid M b v4 else rask M b v4) ∧ zI (if v1 = 0 then rbid M b ((M 0 b 6) - 1) else rask M b ((M 0 b 6) - 1)) ∧ ((if v1 = 0 then rbid M b v4 else rask M b v4) ≠ (if v1 = 0 then rbid M b ((M 0 b 6) - 1) else rask M b ((M 0 b 6) - 1)) → LX0_likeLast_5 l P b v1 v2 v3 (v4 + 1) M) ∧ ((if v1 = 0 then rbid M b v4 else rask M b v4) = (if v1 = 0 then rbid M b ((M 0 b 6) - 1) else rask M b ((M 0 b 6) - 1)) → LX0_likeLast_5 l P b v1 v2 (v3 + 1) (v4 + 1) M))))))))) :
    LX0_likeLast_5 l P b v1 v2 v3 v4 M :=
(aw_iload d_X0_likeLast_5 rfl 4 rfl
(aw_iload_n d_X0_likeLast_7 rfl rfl 2 rfl
(have z1 := H0.1; have z2 := H0.2.1; have e3 := H0.2.2; aw_icmp_ge d_X0_likeLast_8 rfl rfl z1 z2 (fun c4 => have e6 := e3.1 c4; (aw_iload_n d_X0_likeLast_48 rfl rfl 3 rfl
(aw_ri d_X0_likeLast_49 rfl e6))) (fun c5 => have e7 := e3.2 c5; (aw_aload_n d_X0_likeLast_11 rfl rfl 0 rfl (by decide)
(aw_getI (kc := 6) d_X0_likeLast_12 rfl fl0_83 rfl rfl
(have z8 := e7.1; have e9 := e7.2; aw_if_le d_X0_likeLast_15 rfl rfl z8 (fun c10 => have e12 := e9.1 c10; (aw_iload_n d_X0_likeLast_48 rfl rfl 3 rfl
(aw_ri d_X0_likeLast_49 rfl e12))) (fun c11 => have e13 := e9.2 c11; (aw_aload_n d_X0_likeLast_18 rfl rfl 0 rfl (by decide)
(aw_iload_n d_X0_likeLast_19 rfl rfl 1 rfl
(aw_iload d_X0_likeLast_20 rfl 4 rfl
(have z14 := e13.1; have e15 := e13.2; (aw_VI (As := [zi v1, zi v4]) (st := []) d_X0_likeLast_22 rfl cv0_126 ⟨Nat.le_of_ble_eq_true rfl, Nat.le_of_ble_eq_true rfl⟩ rfl rfl (Nat.le_of_ble_eq_true rfl) (Nat.le_of_ble_eq_true rfl) (s_X0_amount z14) (fun _ _ hq => aw_eqs hq
(aw_aload_n d_X0_likeLast_25 rfl rfl 0 rfl (by decide)
(aw_iload_n d_X0_likeLast_26 rfl rfl 1 rfl
(aw_aload_n d_X0_likeLast_27 rfl rfl 0 rfl (by decide)
(aw_getI (kc := 6) d_X0_likeLast_28 rfl fl0_83 rfl rfl
(aw_iconst d_X0_likeLast_31 rfl
(aw_isub d_X0_likeLast_32 rfl
(have z16 := e15.1; have e17 := e15.2; (aw_VI (As := [zi v1, zi ((M 0 b 6) - 1)]) (st := [zi (if v1 = 0 then rbid M b v4 else rask M b v4)]) d_X0_likeLast_33 rfl cv0_126 ⟨Nat.le_of_ble_eq_true rfl, Nat.le_of_ble_eq_true rfl⟩ rfl rfl (Nat.le_of_ble_eq_true rfl) (Nat.le_of_ble_eq_true rfl) (s_X0_amount z16) (fun _ _ hq => aw_eqs hq
(have z18 := e17.1; have z19 := e17.2.1; have e20 := e17.2.2; aw_icmp_ne d_X0_likeLast_36 rfl rfl z18 z19 (fun c21 => have e23 := e20.1 c21; (aw_iinc (lv' := [(4, zi (v4 + 1)), (0, zr 0 b), (1, zi v1), (2, zi v2), (3, zi v3)]) (y := (v4 + 1)) d_X0_likeLast_42 rfl 4 rfl (by decide) rfl rfl
(aw_goto d_X0_likeLast_45 rfl
(aw_sub [1, 2, 3, 4, 0] rfl e23)))) (fun c22 => have e24 := e20.2 c22; (aw_iinc (lv' := [(3, zi (v3 + 1)), (0, zr 0 b), (1, zi v1), (2, zi v2), (4, zi v4)]) (y := (v3 + 1)) d_X0_likeLast_39 rfl 3 rfl (by decide) rfl rfl
(aw_iinc (lv' := [(4, zi (v4 + 1)), (3, zi (v3 + 1)), (0, zr 0 b), (1, zi v1), (2, zi v2)]) (y := (v4 + 1)) d_X0_likeLast_42 rfl 4 rfl (by decide) rfl rfl
(aw_goto d_X0_likeLast_45 rfl
(aw_sub [2, 3, 4, 1, 0] rfl e24)))))))))))))))))))))))))))))
theorem vX0_likeLast {l : Launch} {P : Int → zM → Prop} {b : Nat} {v1 : Int} {v2 : Int} {M : zM}
    (H0 : LX0_likeLast_5 l P b v1 v2 0 0 M) :
    CI l m_X0_likeLast [zr 0 b, zi v1, zi v2] M P :=
(aw_iconst d_X0_likeLast_0 rfl
(aw_istore_n (lv' := [(3, zi 0), (0, zr 0 b), (1, zi v1), (2, zi v2)]) d_X0_likeLast_1 rfl rfl (by decide) rfl
(aw_iconst d_X0_likeLast_2 rfl
(aw_istore (lv' := [(4, zi 0), (3, zi 0), (0, zr 0 b), (1, zi v1), (2, zi v2)]) d_X0_likeLast_3 rfl (by decide) rfl
(aw_sub [2, 3, 4, 1, 0] rfl H0)))))
theorem c_X0_openTwos (g : gd B A) (hf : 0 ≤ f ∧ f ≤ 500) (s : bkS M b B A f w) (hA : A.Pairwise (· < ·)) : CI l m_X0_openTwos [zr 0 b] M (fun x M' => x = opN B A f (dN B A f w) ∧ M' = M) := by
  have wk := s.W g hf
  have h1 := dN_b (B := B) (A := A) (f := f) (w := w)
  have h2 := tT_b (f := f) (B := B) (A := A)
  have h3 := g.1
  have b2 := s.1.1
  have b3 := s.1.2.1
  have e8 := s.2.1.2.2.2.2
  generalize dN B A f w = d at *
  have loop : ∀ (n : Nat) (i : Int), ((B.length : Int) - i).toNat = n → d ≤ i ∧ i ≤ (B.length : Int) → LX0_openTwos_7 l (fun x M' => x = opN B A f d ∧ M' = M) b (zsum (fun i => if d ≤ i then zsum (fun j => if d ≤ j ∧ gA f A j < gB B i then 1 else 0) A.length else 0) i) i M := by
    intro n
    induction n with
    | zero =>
      intro i hn hi
      have : i = (B.length : Int) := by omega
      subst this
      exact vX0_openTwos_7 ⟨by omega, by omega, fun _ => ⟨rfl, rfl⟩, fun e => by omega⟩
    | succ n ih =>
      intro i hn hi
      have hq := gB_in g (k := i) (by omega)
      refine vX0_openTwos_7 ⟨by omega, by omega, fun e => by omega, fun _ => ?_⟩
      have ih2 := ih (i + 1) (by omega) (by omega)
      rw [zsum_s (by omega), if_pos hi.1] at ih2
      have inner : ∀ (m : Nat) (j : Int), ((A.length : Int) - j).toNat = m → d ≤ j ∧ j ≤ (A.length : Int) → LX0_openTwos_20 l (fun x M' => x = opN B A f d ∧ M' = M) b (zsum (fun i => if d ≤ i then zsum (fun j => if d ≤ j ∧ gA f A j < gB B i then 1 else 0) A.length else 0) i + zsum (fun j => if d ≤ j ∧ gA f A j < gB B i then 1 else 0) j) i j M := by
        intro m
        induction m with
        | zero =>
          intro j hm hj
          have : j = (A.length : Int) := by omega
          subst this
          exact vX0_openTwos_20 ⟨by omega, by omega, fun _ => ih2, fun e => by omega⟩
        | succ m ihm =>
          intro j hm hj
          have hq2 := gA_in g (f := f) (k := j) (by omega)
          refine vX0_openTwos_20 ⟨by omega, by omega, fun e => by omega, fun _ => ⟨⟨wk, by omega⟩, ⟨wk, by omega⟩, ?_⟩⟩
          rw [s.bid (by omega), s.ask (by omega)]
          refine ⟨by omega, by omega, fun c => ?_, fun c => ?_⟩
          · rw [← zsum_stop (g := fun j => if d ≤ j ∧ gA f A j < gB B i then 1 else 0) (j := j) (n := A.length) (by omega) (fun j2 hj2 => by
              have := gA_mono (f := f) hA (i := j) (j := j2) (by omega)
              rw [if_neg (by omega)])]
            exact ih2
          · have ihm2 := ihm (j + 1) (by omega) (by omega)
            rw [zsum_s (by omega), if_pos ⟨hj.1, c⟩, ← Int.add_assoc] at ihm2
            exact ihm2
      have := inner _ d rfl (by omega)
      rw [zsum_0s (n := d) (by omega) (fun j hj => by rw [if_neg (by omega)]), Int.add_zero] at this
      rw [e8]
      exact this
  have := loop _ d rfl (by omega)
  rw [zsum_0s (n := d) (by omega) (fun j hj => by rw [if_neg (by omega)])] at this
  refine vX0_openTwos ?_
  rw [e8]
  exact this
theorem c_X0_openDifference (g : gd B A) (hf : 0 ≤ f ∧ f ≤ 500) (s : bkS M b B A f w) : CI l m_X0_openDifference [zr 0 b] M (fun x M' => x = opD B A f (dN B A f w) ∧ M' = M) := by
  have wk := s.W g hf
  have h1 := dN_b (B := B) (A := A) (f := f) (w := w)
  have h2 := tT_b (f := f) (B := B) (A := A)
  have h3 := g.1
  have b2 := s.1.1
  have b3 := s.1.2.1
  have e8 := s.2.1.2.2.2.2
  refine vX0_openDifference ?_
  rw [e8, b2, b3]
  refine ⟨by omega, by omega, fun c => ⟨?_, rfl⟩, fun c => ⟨by omega, fun c2 => ?_, fun c2 => ⟨?_, rfl⟩⟩⟩
  · rw [opD, if_neg (by omega)]
  · have q1 := gB_in g (k := dN B A f w) (by omega)
    have q2 := gA_in g (f := f) (k := dN B A f w) (by omega)
    rw [s.bid (by omega), s.ask (by omega)]
    exact ⟨⟨wk, by omega⟩, ⟨wk, by omega⟩, by omega, by rw [opD, if_pos (by omega)], rfl⟩
  · rw [opD, if_neg (by omega)]
theorem c_X0_likeLast {z c : Int} (g : gd B A) (hf : 0 ≤ f ∧ f ≤ 500) (s : bkS M b B A f w) (hz : z = 0 ∨ z = 1) (hc : 0 ≤ c ∧ c ≤ (if z = 0 then (B.length : Int) else A.length)) :
    CI l m_X0_likeLast [zr 0 b, zi z, zi c] M (fun x M' => x = lke (if z = 0 then gB B else gA f A) (tT f B A) c ∧ M' = M) := by
  have wk := s.W g hf
  have h2 := tT_b (f := f) (B := B) (A := A)
  have h3 := g.1
  have e6 := s.2.1.2.2.1
  have hc2 : c ≤ 80 := by have := hc.2; split at this <;> omega
  have am : ∀ k, 0 ≤ k → k < (if z = 0 then (B.length : Int) else A.length) → (if z = 0 then rbid M b k else rask M b k) = (if z = 0 then gB B else gA f A) k ∧ zI ((if z = 0 then gB B else gA f A) k) := by
    intro k hk hk2
    by_cases e : z = 0
    · rw [if_pos e] at hk2
      rw [if_pos e, if_pos e]
      have := gB_in g (k := k) ⟨hk, hk2⟩
      exact ⟨s.bid ⟨hk, hk2⟩, by omega⟩
    · rw [if_neg e] at hk2
      rw [if_neg e, if_neg e]
      have := gA_in g (f := f) (k := k) ⟨hk, hk2⟩
      exact ⟨s.ask ⟨hk, hk2⟩, by omega⟩
  have loop : ∀ (n : Nat) (k : Int), (c - k).toNat = n → 0 ≤ k ∧ k ≤ c → LX0_likeLast_5 l (fun x M' => x = lke (if z = 0 then gB B else gA f A) (tT f B A) c ∧ M' = M) b z c (lke (if z = 0 then gB B else gA f A) (tT f B A) k) k M := by
    intro n
    induction n with
    | zero =>
      intro k hn hk
      have : k = c := by omega
      subst this
      exact vX0_likeLast_5 ⟨by omega, by omega, fun _ => ⟨rfl, rfl⟩, fun e => by omega⟩
    | succ n ih =>
      intro k hn hk
      have a1 := am k hk.1 (by omega)
      have ih2 := ih (k + 1) (by omega) (by omega)
      refine vX0_likeLast_5 ⟨by omega, by omega, fun e => by omega, fun _ => ⟨by omega, fun e => ⟨?_, rfl⟩, fun e => ⟨⟨wk, by omega, by omega⟩, ⟨wk, by omega, by omega⟩, ?_⟩⟩⟩
      · unfold lke; rw [if_pos (by omega), if_pos (by omega)]
      · have a2 := am (tT f B A - 1) (by omega) (by split <;> omega)
        rw [e6, a1.1, a2.1]
        unfold lke at ih2 ⊢
        rw [if_neg (show ¬ tT f B A = 0 by omega), if_neg (show ¬ tT f B A = 0 by omega)]
        rw [if_neg (show ¬ tT f B A = 0 by omega), if_neg (show ¬ tT f B A = 0 by omega), zsum_s hk.1] at ih2
        refine ⟨a1.2, a2.2, fun q => ?_, fun q => ?_⟩
        · rw [if_neg q, Int.add_zero] at ih2; exact ih2
        · rw [if_pos q] at ih2; exact ih2
  refine vX0_likeLast ?_
  have := loop _ 0 rfl (by omega)
  rw [show lke (if z = 0 then gB B else gA f A) (tT f B A) 0 = 0 by unfold lke; rw [zsum_0]; split <;> rfl] at this
  exact this
theorem vX0_leastEntry {l : Launch} {P : Int → zM → Prop} {b : Nat} {M : zM}
    (H0 : (zI (M 0 b 6) ∧ ((M 0 b 6) = 0 → (zI (M 0 b 3) ∧ ((M 0 b 3) ≤ (M 0 b 6) → P (-1) M) ∧ ((M 0 b 6) < (M 0 b 3) → ((bkW M b ∧ zI (M 0 b 6)) ∧ P (rask M b (M 0 b 6)) M)))) ∧ ((M 0 b 6) ≠ 0 → ((bkW M b ∧ zI (M 0 b 6 - 1)) ∧ ((bkW M b ∧ zI (M 0 b 6)) ∧ (zI (rbid M b (M 0 b 6 - 1)) ∧ zI (rask M b (M 0 b 6)) ∧ ((rbid M b (M 0 b 6 - 1)) < (rask M b (M 0 b 6)) → (zI (M 0 b 3) ∧ ((M 0 b 3) ≤ (M 0 b 6) → P (-1) M) ∧ ((M 0 b 6) < (M 0 b 3) → P (-1) M))) ∧ ((rask M b (M 0 b 6)) ≤ (rbid M b (M 0 b 6 - 1)) → (zI (M 0 b 3) ∧ ((M 0 b 3) ≤ (M 0 b 6) → P (-1) M) ∧ ((M 0 b 6) < (M 0 b 3) → P (rask M b (M 0 b 6)) M))))))))) :
    CI l m_X0_leastEntry [zr 0 b] M P :=
(aw_aload_n d_X0_leastEntry_0 rfl rfl 0 rfl (by decide)
(aw_getI (kc := 6) d_X0_leastEntry_1 rfl fl0_83 rfl rfl
(have z1 := H0.1; have e2 := H0.2; aw_if_eq d_X0_leastEntry_4 rfl rfl z1 (fun c3 => have e5 := e2.1 c3; (aw_iconst d_X0_leastEntry_22 rfl
(aw_goto d_X0_leastEntry_23 rfl
(aw_istore_n (lv' := [(1, zi 1), (0, zr 0 b)]) d_X0_leastEntry_27 rfl rfl (by decide) rfl
(aw_aload_n d_X0_leastEntry_28 rfl rfl 1 rfl (by decide)
(aw_getI (kc := 6) d_X0_leastEntry_29 rfl fl0_83 rfl rfl
(aw_aload_n d_X0_leastEntry_32 rfl rfl 1 rfl (by decide)
(aw_getI (kc := 3) d_X0_leastEntry_33 rfl fl0_22 rfl rfl
(have z7 := e5.1; have e8 := e5.2; aw_icmp_ge d_X0_leastEntry_36 rfl rfl z1 z7 (fun c9 => have e11 := e8.1 c9; (aw_iconst d_X0_leastEntry_54 rfl
(aw_ri d_X0_leastEntry_55 rfl e11))) (fun c10 => have e12 := e8.2 c10; (aw_iload_n d_X0_leastEntry_39 rfl rfl 0 rfl
(aw_if_eq d_X0_leastEntry_40 rfl rfl (by decide) (fun c13 => absurd c13 (by decide)) (fun _ => (aw_aload_n d_X0_leastEntry_43 rfl rfl 1 rfl (by decide)
(aw_aload_n d_X0_leastEntry_44 rfl rfl 1 rfl (by decide)
(aw_getI (kc := 6) d_X0_leastEntry_45 rfl fl0_83 rfl rfl
(have z14 := e12.1; have e15 := e12.2; (aw_VI (As := [zi (M 0 b 6)]) (st := []) d_X0_leastEntry_48 rfl cv0_77 ⟨Nat.le_of_ble_eq_true rfl, Nat.le_of_ble_eq_true rfl⟩ rfl rfl (Nat.le_of_ble_eq_true rfl) (Nat.le_of_ble_eq_true rfl) (s_X0_ask z14) (fun _ _ hq => aw_eqs hq
(aw_goto d_X0_leastEntry_51 rfl
(aw_ri d_X0_leastEntry_55 rfl e15))))))))))))))))))))) (fun c4 => have e6 := e2.2 c4; (aw_aload_n d_X0_leastEntry_7 rfl rfl 0 rfl (by decide)
(have z16 := e6.1; have e17 := e6.2; (aw_VI (As := []) (st := []) d_X0_leastEntry_8 rfl cv0_99 ⟨Nat.le_of_ble_eq_true rfl, Nat.le_of_ble_eq_true rfl⟩ rfl rfl (Nat.le_of_ble_eq_true rfl) (Nat.le_of_ble_eq_true rfl) (s_X0_lastBid z16) (fun _ _ hq => aw_eqs hq
(aw_aload_n d_X0_leastEntry_11 rfl rfl 0 rfl (by decide)
(aw_aload_n d_X0_leastEntry_12 rfl rfl 0 rfl (by decide)
(aw_getI (kc := 6) d_X0_leastEntry_13 rfl fl0_83 rfl rfl
(have z18 := e17.1; have e19 := e17.2; (aw_VI (As := [zi (M 0 b 6)]) (st := [zi (rbid M b (M 0 b 6 - 1))]) d_X0_leastEntry_16 rfl cv0_77 ⟨Nat.le_of_ble_eq_true rfl, Nat.le_of_ble_eq_true rfl⟩ rfl rfl (Nat.le_of_ble_eq_true rfl) (Nat.le_of_ble_eq_true rfl) (s_X0_ask z18) (fun _ _ hq => aw_eqs hq
(have z20 := e19.1; have z21 := e19.2.1; have e22 := e19.2.2; aw_icmp_lt d_X0_leastEntry_19 rfl rfl z20 z21 (fun c23 => have e25 := e22.1 c23; (aw_iconst d_X0_leastEntry_26 rfl
(aw_istore_n (lv' := [(1, zi 0), (0, zr 0 b)]) d_X0_leastEntry_27 rfl rfl (by decide) rfl
(aw_aload_n d_X0_leastEntry_28 rfl rfl 1 rfl (by decide)
(aw_getI (kc := 6) d_X0_leastEntry_29 rfl fl0_83 rfl rfl
(aw_aload_n d_X0_leastEntry_32 rfl rfl 1 rfl (by decide)
(aw_getI (kc := 3) d_X0_leastEntry_33 rfl fl0_22 rfl rfl
(have z27 := e25.1; have e28 := e25.2; aw_icmp_ge d_X0_leastEntry_36 rfl rfl z1 z27 (fun c29 => have e31 := e28.1 c29; (aw_iconst d_X0_leastEntry_54 rfl
(aw_ri d_X0_leastEntry_55 rfl e31))) (fun c30 => have e32 := e28.2 c30; (aw_iload_n d_X0_leastEntry_39 rfl rfl 0 rfl
(aw_if_eq d_X0_leastEntry_40 rfl rfl (by decide) (fun _ => (aw_iconst d_X0_leastEntry_54 rfl
(aw_ri d_X0_leastEntry_55 rfl e32))) (fun c33 => absurd c33 (by decide))))))))))))) (fun c24 => have e26 := e22.2 c24; (aw_iconst d_X0_leastEntry_22 rfl
(aw_goto d_X0_leastEntry_23 rfl
(aw_istore_n (lv' := [(1, zi 1), (0, zr 0 b)]) d_X0_leastEntry_27 rfl rfl (by decide) rfl
(aw_aload_n d_X0_leastEntry_28 rfl rfl 1 rfl (by decide)
(aw_getI (kc := 6) d_X0_leastEntry_29 rfl fl0_83 rfl rfl
(aw_aload_n d_X0_leastEntry_32 rfl rfl 1 rfl (by decide)
(aw_getI (kc := 3) d_X0_leastEntry_33 rfl fl0_22 rfl rfl
(have z34 := e26.1; have e35 := e26.2; aw_icmp_ge d_X0_leastEntry_36 rfl rfl z1 z34 (fun c36 => have e38 := e35.1 c36; (aw_iconst d_X0_leastEntry_54 rfl
(aw_ri d_X0_leastEntry_55 rfl e38))) (fun c37 => have e39 := e35.2 c37; (aw_iload_n d_X0_leastEntry_39 rfl rfl 0 rfl
(aw_if_eq d_X0_leastEntry_40 rfl rfl (by decide) (fun c40 => absurd c40 (by decide)) (fun _ => (aw_aload_n d_X0_leastEntry_43 rfl rfl 1 rfl (by decide)
(aw_aload_n d_X0_leastEntry_44 rfl rfl 1 rfl (by decide)
(aw_getI (kc := 6) d_X0_leastEntry_45 rfl fl0_83 rfl rfl
(aw_VI (As := [zi (M 0 b 6)]) (st := []) d_X0_leastEntry_48 rfl cv0_77 ⟨Nat.le_of_ble_eq_true rfl, Nat.le_of_ble_eq_true rfl⟩ rfl rfl (Nat.le_of_ble_eq_true rfl) (Nat.le_of_ble_eq_true rfl) (s_X0_ask z18) (fun _ _ hq => aw_eqs hq
(aw_goto d_X0_leastEntry_51 rfl
(aw_ri d_X0_leastEntry_55 rfl e39)))))))))))))))))))))))))))))))))))
theorem vX0_greatestEntry {l : Launch} {P : Int → zM → Prop} {b : Nat} {M : zM}
    (H0 : (zI (M 0 b 6) ∧ ((M 0 b 6) = 0 → (zI (M 0 b 2) ∧ ((M 0 b 2) ≤ (M 0 b 6) → P (-1) M) ∧ ((M 0 b 6) < (M 0 b 2) → ((bkW M b ∧ zI (M 0 b 6)) ∧ P ((rbid M b (M 0 b 6)) - (M 0 b 4)) M)))) ∧ ((M 0 b 6) ≠ 0 → ((bkW M b ∧ zI (M 0 b 6 - 1)) ∧ ((bkW M b ∧ zI (M 0 b 6)) ∧ (zI (rask M b (M 0 b 6 - 1)) ∧ zI (rbid M b (M 0 b 6)) ∧ ((rbid M b (M 0 b 6)) < (rask M b (M 0 b 6 - 1)) → (zI (M 0 b 2) ∧ ((M 0 b 2) ≤ (M 0 b 6) → P (-1) M) ∧ ((M 0 b 6) < (M 0 b 2) → P (-1) M))) ∧ ((rask M b (M 0 b 6 - 1)) ≤ (rbid M b (M 0 b 6)) → (zI (M 0 b 2) ∧ ((M 0 b 2) ≤ (M 0 b 6) → P (-1) M) ∧ ((M 0 b 6) < (M 0 b 2) → P ((rbid M b (M 0 b 6)) - (M 0 b 4)) M))))))))) :
    CI l m_X0_greatestEntry [zr 0 b] M P :=
(aw_aload_n d_X0_greatestEntry_0 rfl rfl 0 rfl (by decide)
(aw_getI (kc := 6) d_X0_greatestEntry_1 rfl fl0_83 rfl rfl
(have z1 := H0.1; have e2 := H0.2; aw_if_eq d_X0_greatestEntry_4 rfl rfl z1 (fun c3 => have e5 := e2.1 c3; (aw_iconst d_X0_greatestEntry_22 rfl
(aw_goto d_X0_greatestEntry_23 rfl
(aw_istore_n (lv' := [(1, zi 1), (0, zr 0 b)]) d_X0_greatestEntry_27 rfl rfl (by decide) rfl
(aw_aload_n d_X0_greatestEntry_28 rfl rfl 1 rfl (by decide)
(aw_getI (kc := 6) d_X0_greatestEntry_29 rfl fl0_83 rfl rfl
(aw_aload_n d_X0_greatestEntry_32 rfl rfl 1 rfl (by decide)
(aw_getI (kc := 2) d_X0_greatestEntry_33 rfl fl0_18 rfl rfl
(have z7 := e5.1; have e8 := e5.2; aw_icmp_ge d_X0_greatestEntry_36 rfl rfl z1 z7 (fun c9 => have e11 := e8.1 c9; (aw_iconst d_X0_greatestEntry_59 rfl
(aw_ri d_X0_greatestEntry_60 rfl e11))) (fun c10 => have e12 := e8.2 c10; (aw_iload_n d_X0_greatestEntry_39 rfl rfl 0 rfl
(aw_if_eq d_X0_greatestEntry_40 rfl rfl (by decide) (fun c13 => absurd c13 (by decide)) (fun _ => (aw_aload_n d_X0_greatestEntry_43 rfl rfl 1 rfl (by decide)
(aw_aload_n d_X0_greatestEntry_44 rfl rfl 1 rfl (by decide)
(aw_getI (kc := 6) d_X0_greatestEntry_45 rfl fl0_83 rfl rfl
(have z14 := e12.1; have e15 := e12.2; (aw_VI (As := [zi (M 0 b 6)]) (st := []) d_X0_greatestEntry_48 rfl cv0_80 ⟨Nat.le_of_ble_eq_true rfl, Nat.le_of_ble_eq_true rfl⟩ rfl rfl (Nat.le_of_ble_eq_true rfl) (Nat.le_of_ble_eq_true rfl) (s_X0_bid z14) (fun _ _ hq => aw_eqs hq
(aw_aload_n d_X0_greatestEntry_51 rfl rfl 1 rfl (by decide)
(aw_getI (kc := 4) d_X0_greatestEntry_52 rfl fl0_74 rfl rfl
(aw_isub d_X0_greatestEntry_55 rfl
(aw_goto d_X0_greatestEntry_56 rfl
(aw_ri d_X0_greatestEntry_60 rfl e15)))))))))))))))))))))))) (fun c4 => have e6 := e2.2 c4; (aw_aload_n d_X0_greatestEntry_7 rfl rfl 0 rfl (by decide)
(have z16 := e6.1; have e17 := e6.2; (aw_VI (As := []) (st := []) d_X0_greatestEntry_8 rfl cv0_105 ⟨Nat.le_of_ble_eq_true rfl, Nat.le_of_ble_eq_true rfl⟩ rfl rfl (Nat.le_of_ble_eq_true rfl) (Nat.le_of_ble_eq_true rfl) (s_X0_lastAsk z16) (fun _ _ hq => aw_eqs hq
(aw_aload_n d_X0_greatestEntry_11 rfl rfl 0 rfl (by decide)
(aw_aload_n d_X0_greatestEntry_12 rfl rfl 0 rfl (by decide)
(aw_getI (kc := 6) d_X0_greatestEntry_13 rfl fl0_83 rfl rfl
(have z18 := e17.1; have e19 := e17.2; (aw_VI (As := [zi (M 0 b 6)]) (st := [zi (rask M b (M 0 b 6 - 1))]) d_X0_greatestEntry_16 rfl cv0_80 ⟨Nat.le_of_ble_eq_true rfl, Nat.le_of_ble_eq_true rfl⟩ rfl rfl (Nat.le_of_ble_eq_true rfl) (Nat.le_of_ble_eq_true rfl) (s_X0_bid z18) (fun _ _ hq => aw_eqs hq
(have z20 := e19.1; have z21 := e19.2.1; have e22 := e19.2.2; aw_icmp_gt d_X0_greatestEntry_19 rfl rfl z20 z21 (fun c23 => have e25 := e22.1 c23; (aw_iconst d_X0_greatestEntry_26 rfl
(aw_istore_n (lv' := [(1, zi 0), (0, zr 0 b)]) d_X0_greatestEntry_27 rfl rfl (by decide) rfl
(aw_aload_n d_X0_greatestEntry_28 rfl rfl 1 rfl (by decide)
(aw_getI (kc := 6) d_X0_greatestEntry_29 rfl fl0_83 rfl rfl
(aw_aload_n d_X0_greatestEntry_32 rfl rfl 1 rfl (by decide)
(aw_getI (kc := 2) d_X0_greatestEntry_33 rfl fl0_18 rfl rfl
(have z27 := e25.1; have e28 := e25.2; aw_icmp_ge d_X0_greatestEntry_36 rfl rfl z1 z27 (fun c29 => have e31 := e28.1 c29; (aw_iconst d_X0_greatestEntry_59 rfl
(aw_ri d_X0_greatestEntry_60 rfl e31))) (fun c30 => have e32 := e28.2 c30; (aw_iload_n d_X0_greatestEntry_39 rfl rfl 0 rfl
(aw_if_eq d_X0_greatestEntry_40 rfl rfl (by decide) (fun _ => (aw_iconst d_X0_greatestEntry_59 rfl
(aw_ri d_X0_greatestEntry_60 rfl e32))) (fun c33 => absurd c33 (by decide))))))))))))) (fun c24 => have e26 := e22.2 c24; (aw_iconst d_X0_greatestEntry_22 rfl
(aw_goto d_X0_greatestEntry_23 rfl
(aw_istore_n (lv' := [(1, zi 1), (0, zr 0 b)]) d_X0_greatestEntry_27 rfl rfl (by decide) rfl
(aw_aload_n d_X0_greatestEntry_28 rfl rfl 1 rfl (by decide)
(aw_getI (kc := 6) d_X0_greatestEntry_29 rfl fl0_83 rfl rfl
(aw_aload_n d_X0_greatestEntry_32 rfl rfl 1 rfl (by decide)
(aw_getI (kc := 2) d_X0_greatestEntry_33 rfl fl0_18 rfl rfl
(have z34 := e26.1; have e35 := e26.2; aw_icmp_ge d_X0_greatestEntry_36 rfl rfl z1 z34 (fun c36 => have e38 := e35.1 c36; (aw_iconst d_X0_greatestEntry_59 rfl
(aw_ri d_X0_greatestEntry_60 rfl e38))) (fun c37 => have e39 := e35.2 c37; (aw_iload_n d_X0_greatestEntry_39 rfl rfl 0 rfl
(aw_if_eq d_X0_greatestEntry_40 rfl rfl (by decide) (fun c40 => absurd c40 (by decide)) (fun _ => (aw_aload_n d_X0_greatestEntry_43 rfl rfl 1 rfl (by decide)
(aw_aload_n d_X0_greatestEntry_44 rfl rfl 1 rfl (by decide)
(aw_getI (kc := 6) d_X0_greatestEntry_45 rfl fl0_83 rfl rfl
(aw_VI (As := [zi (M 0 b 6)]) (st := []) d_X0_greatestEntry_48 rfl cv0_80 ⟨Nat.le_of_ble_eq_true rfl, Nat.le_of_ble_eq_true rfl⟩ rfl rfl (Nat.le_of_ble_eq_true rfl) (Nat.le_of_ble_eq_true rfl) (s_X0_bid z18) (fun _ _ hq => aw_eqs hq
(aw_aload_n d_X0_greatestEntry_51 rfl rfl 1 rfl (by decide)
(aw_getI (kc := 4) d_X0_greatestEntry_52 rfl fl0_74 rfl rfl
(aw_isub d_X0_greatestEntry_55 rfl
(aw_goto d_X0_greatestEntry_56 rfl
(aw_ri d_X0_greatestEntry_60 rfl e39))))))))))))))))))))))))))))))))))))))
theorem vX0_leastPrice {l : Launch} {P : Int → zM → Prop} {b : Nat} {M : zM}
    (H0 : (zI (M 0 b 6) ∧ zI (M 0 b 2) ∧ ((M 0 b 2) ≤ (M 0 b 6) → ((bkW M b ∧ zI (M 0 b 6 - 1)) ∧ P (rask M b (M 0 b 6 - 1)) M)) ∧ ((M 0 b 6) < (M 0 b 2) → ((bkW M b ∧ zI (M 0 b 6 - 1)) ∧ ((bkW M b ∧ zI (M 0 b 6)) ∧ (zI (rask M b (M 0 b 6 - 1)) ∧ zI (rbid M b (M 0 b 6)) ∧ P (max (rask M b (M 0 b 6 - 1)) (rbid M b (M 0 b 6))) M)))))) :
    CI l m_X0_leastPrice [zr 0 b] M P :=
(aw_aload_n d_X0_leastPrice_0 rfl rfl 0 rfl (by decide)
(aw_getI (kc := 6) d_X0_leastPrice_1 rfl fl0_83 rfl rfl
(aw_aload_n d_X0_leastPrice_4 rfl rfl 0 rfl (by decide)
(aw_getI (kc := 2) d_X0_leastPrice_5 rfl fl0_18 rfl rfl
(have z1 := H0.1; have z2 := H0.2.1; have e3 := H0.2.2; aw_icmp_ge d_X0_leastPrice_8 rfl rfl z1 z2 (fun c4 => have e6 := e3.1 c4; (aw_aload_n d_X0_leastPrice_29 rfl rfl 0 rfl (by decide)
(have z8 := e6.1; have e9 := e6.2; (aw_VI (As := []) (st := []) d_X0_leastPrice_30 rfl cv0_105 ⟨Nat.le_of_ble_eq_true rfl, Nat.le_of_ble_eq_true rfl⟩ rfl rfl (Nat.le_of_ble_eq_true rfl) (Nat.le_of_ble_eq_true rfl) (s_X0_lastAsk z8) (fun _ _ hq => aw_eqs hq
(aw_ri d_X0_leastPrice_33 rfl e9)))))) (fun c5 => have e7 := e3.2 c5; (aw_aload_n d_X0_leastPrice_11 rfl rfl 0 rfl (by decide)
(have z10 := e7.1; have e11 := e7.2; (aw_VI (As := []) (st := []) d_X0_leastPrice_12 rfl cv0_105 ⟨Nat.le_of_ble_eq_true rfl, Nat.le_of_ble_eq_true rfl⟩ rfl rfl (Nat.le_of_ble_eq_true rfl) (Nat.le_of_ble_eq_true rfl) (s_X0_lastAsk z10) (fun _ _ hq => aw_eqs hq
(aw_aload_n d_X0_leastPrice_15 rfl rfl 0 rfl (by decide)
(aw_aload_n d_X0_leastPrice_16 rfl rfl 0 rfl (by decide)
(aw_getI (kc := 6) d_X0_leastPrice_17 rfl fl0_83 rfl rfl
(have z12 := e11.1; have e13 := e11.2; (aw_VI (As := [zi (M 0 b 6)]) (st := [zi (rask M b (M 0 b 6 - 1))]) d_X0_leastPrice_20 rfl cv0_80 ⟨Nat.le_of_ble_eq_true rfl, Nat.le_of_ble_eq_true rfl⟩ rfl rfl (Nat.le_of_ble_eq_true rfl) (Nat.le_of_ble_eq_true rfl) (s_X0_bid z12) (fun _ _ hq => aw_eqs hq
(have z14 := e13.1; have z15 := e13.2.1; have e16 := e13.2.2; (aw_max d_X0_leastPrice_23 rfl cm0_57 ⟨Nat.le_of_ble_eq_true rfl, Nat.le_of_ble_eq_true rfl⟩ z14 z15
(aw_goto d_X0_leastPrice_26 rfl
(aw_ri d_X0_leastPrice_33 rfl e16))))))))))))))))))))
theorem vX0_greatestPrice {l : Launch} {P : Int → zM → Prop} {b : Nat} {M : zM}
    (H0 : (zI (M 0 b 6) ∧ zI (M 0 b 3) ∧ ((M 0 b 3) ≤ (M 0 b 6) → ((bkW M b ∧ zI (M 0 b 6 - 1)) ∧ P (rbid M b (M 0 b 6 - 1)) M)) ∧ ((M 0 b 6) < (M 0 b 3) → ((bkW M b ∧ zI (M 0 b 6 - 1)) ∧ ((bkW M b ∧ zI (M 0 b 6)) ∧ (zI (rbid M b (M 0 b 6 - 1)) ∧ zI (rask M b (M 0 b 6)) ∧ P (min (rbid M b (M 0 b 6 - 1)) (rask M b (M 0 b 6))) M)))))) :
    CI l m_X0_greatestPrice [zr 0 b] M P :=
(aw_aload_n d_X0_greatestPrice_0 rfl rfl 0 rfl (by decide)
(aw_getI (kc := 6) d_X0_greatestPrice_1 rfl fl0_83 rfl rfl
(aw_aload_n d_X0_greatestPrice_4 rfl rfl 0 rfl (by decide)
(aw_getI (kc := 3) d_X0_greatestPrice_5 rfl fl0_22 rfl rfl
(have z1 := H0.1; have z2 := H0.2.1; have e3 := H0.2.2; aw_icmp_ge d_X0_greatestPrice_8 rfl rfl z1 z2 (fun c4 => have e6 := e3.1 c4; (aw_aload_n d_X0_greatestPrice_29 rfl rfl 0 rfl (by decide)
(have z8 := e6.1; have e9 := e6.2; (aw_VI (As := []) (st := []) d_X0_greatestPrice_30 rfl cv0_99 ⟨Nat.le_of_ble_eq_true rfl, Nat.le_of_ble_eq_true rfl⟩ rfl rfl (Nat.le_of_ble_eq_true rfl) (Nat.le_of_ble_eq_true rfl) (s_X0_lastBid z8) (fun _ _ hq => aw_eqs hq
(aw_ri d_X0_greatestPrice_33 rfl e9)))))) (fun c5 => have e7 := e3.2 c5; (aw_aload_n d_X0_greatestPrice_11 rfl rfl 0 rfl (by decide)
(have z10 := e7.1; have e11 := e7.2; (aw_VI (As := []) (st := []) d_X0_greatestPrice_12 rfl cv0_99 ⟨Nat.le_of_ble_eq_true rfl, Nat.le_of_ble_eq_true rfl⟩ rfl rfl (Nat.le_of_ble_eq_true rfl) (Nat.le_of_ble_eq_true rfl) (s_X0_lastBid z10) (fun _ _ hq => aw_eqs hq
(aw_aload_n d_X0_greatestPrice_15 rfl rfl 0 rfl (by decide)
(aw_aload_n d_X0_greatestPrice_16 rfl rfl 0 rfl (by decide)
(aw_getI (kc := 6) d_X0_greatestPrice_17 rfl fl0_83 rfl rfl
(have z12 := e11.1; have e13 := e11.2; (aw_VI (As := [zi (M 0 b 6)]) (st := [zi (rbid M b (M 0 b 6 - 1))]) d_X0_greatestPrice_20 rfl cv0_77 ⟨Nat.le_of_ble_eq_true rfl, Nat.le_of_ble_eq_true rfl⟩ rfl rfl (Nat.le_of_ble_eq_true rfl) (Nat.le_of_ble_eq_true rfl) (s_X0_ask z12) (fun _ _ hq => aw_eqs hq
(have z14 := e13.1; have z15 := e13.2.1; have e16 := e13.2.2; (aw_min d_X0_greatestPrice_23 rfl cm0_52 ⟨Nat.le_of_ble_eq_true rfl, Nat.le_of_ble_eq_true rfl⟩ z14 z15
(aw_goto d_X0_greatestPrice_26 rfl
(aw_ri d_X0_greatestPrice_33 rfl e16))))))))))))))))))))
theorem c_X0_leastEntry (g : gd B A) (hf : 0 ≤ f ∧ f ≤ 500) (s : bkS M b B A f w) : CI l m_X0_leastEntry [zr 0 b] M (fun x M' => x = enB B A f ∧ M' = M) := by
  have wk := s.W g hf
  have h2 := tT_b (f := f) (B := B) (A := A)
  have h3 := g.1
  have b2 := s.1.1
  have b3 := s.1.2.1
  have e6 := s.2.1.2.2.1
  have k1 := s.1.ask (tT f B A)
  rw [s.2.1.1] at k1
  have k2 := rask_b (k := tT f B A) wk
  refine vX0_leastEntry ?_
  rw [e6, b3]
  refine ⟨by omega, fun c => ⟨by omega, fun c2 => ⟨?_, rfl⟩, fun c2 => ⟨⟨wk, by omega⟩, ?_, rfl⟩⟩, fun c => ?_⟩
  · rw [enB, if_neg (by omega)]
  · rw [enB, if_pos ⟨c2, .inl c⟩, k1, if_pos (by omega)]
  · have q1 := gB_in g (k := tT f B A - 1) (by omega)
    rw [s.bid (by omega)]
    refine ⟨⟨wk, by omega⟩, ⟨wk, by omega⟩, by omega, by omega, fun c2 => ⟨by omega, fun c3 => ⟨?_, rfl⟩, fun c3 => ⟨?_, rfl⟩⟩, fun c2 => ⟨by omega, fun c3 => ⟨?_, rfl⟩, fun c3 => ⟨?_, rfl⟩⟩⟩
    · rw [enB, if_neg (by omega)]
    · rw [k1, if_pos (by omega)] at c2
      rw [enB, if_neg (by rintro ⟨-, q | q⟩ <;> omega)]
    · rw [enB, if_neg (by omega)]
    · rw [k1, if_pos (by omega)] at c2 ⊢
      rw [enB, if_pos ⟨c3, .inr c2⟩]
theorem c_X0_greatestEntry (g : gd B A) (hf : 0 ≤ f ∧ f ≤ 500) (s : bkS M b B A f w) : CI l m_X0_greatestEntry [zr 0 b] M (fun x M' => x = enA B A f ∧ M' = M) := by
  have wk := s.W g hf
  have h2 := tT_b (f := f) (B := B) (A := A)
  have h3 := g.1
  have b2 := s.1.1
  have b3 := s.1.2.1
  have e6 := s.2.1.2.2.1
  have k1 := s.1.bid (tT f B A)
  have k2 := rbid_b (k := tT f B A) wk
  refine vX0_greatestEntry ?_
  rw [e6, b2, s.2.1.1]
  refine ⟨by omega, fun c => ⟨by omega, fun c2 => ⟨?_, rfl⟩, fun c2 => ⟨⟨wk, by omega⟩, ?_, rfl⟩⟩, fun c => ?_⟩
  · rw [enA, if_neg (by omega)]
  · rw [enA, if_pos ⟨c2, .inl c⟩, k1, if_pos (by omega)]
  · have q1 := gA_in g (f := f) (k := tT f B A - 1) (by omega)
    rw [s.ask (by omega)]
    refine ⟨⟨wk, by omega⟩, ⟨wk, by omega⟩, by omega, by omega, fun c2 => ⟨by omega, fun c3 => ⟨?_, rfl⟩, fun c3 => ⟨?_, rfl⟩⟩, fun c2 => ⟨by omega, fun c3 => ⟨?_, rfl⟩, fun c3 => ⟨?_, rfl⟩⟩⟩
    · rw [enA, if_neg (by omega)]
    · rw [k1, if_pos (by omega)] at c2
      rw [enA, if_neg (by rintro ⟨-, q | q⟩ <;> omega)]
    · rw [enA, if_neg (by omega)]
    · rw [k1, if_pos (by omega)] at c2 ⊢
      rw [enA, if_pos ⟨c3, .inr c2⟩]
theorem c_X0_leastPrice (g : gd B A) (hf : 0 ≤ f ∧ f ≤ 500) (s : bkS M b B A f w) (hT : tT f B A ≠ 0) : CI l m_X0_leastPrice [zr 0 b] M (fun x M' => x = prL B A f ∧ M' = M) := by
  have wk := s.W g hf
  have h2 := tT_b (f := f) (B := B) (A := A)
  have h3 := g.1
  have b2 := s.1.1
  have e6 := s.2.1.2.2.1
  have q1 := gA_in g (f := f) (k := tT f B A - 1) (by omega)
  refine vX0_leastPrice ?_
  rw [e6, b2, s.ask (by omega)]
  refine ⟨by omega, by omega, fun c => ⟨⟨wk, by omega⟩, by rw [prL, if_neg (by omega)], rfl⟩, fun c => ?_⟩
  have q2 := gB_in g (k := tT f B A) (by omega)
  rw [s.bid (by omega)]
  exact ⟨⟨wk, by omega⟩, ⟨wk, by omega⟩, by omega, by omega, by rw [prL, if_pos c], rfl⟩
theorem c_X0_greatestPrice (g : gd B A) (hf : 0 ≤ f ∧ f ≤ 500) (s : bkS M b B A f w) (hT : tT f B A ≠ 0) : CI l m_X0_greatestPrice [zr 0 b] M (fun x M' => x = prH B A f ∧ M' = M) := by
  have wk := s.W g hf
  have h2 := tT_b (f := f) (B := B) (A := A)
  have h3 := g.1
  have b3 := s.1.2.1
  have e6 := s.2.1.2.2.1
  have q1 := gB_in g (k := tT f B A - 1) (by omega)
  refine vX0_greatestPrice ?_
  rw [e6, b3, s.bid (by omega)]
  refine ⟨by omega, by omega, fun c => ⟨⟨wk, by omega⟩, by rw [prH, if_neg (by omega)], rfl⟩, fun c => ?_⟩
  have q2 := gA_in g (f := f) (k := tT f B A) (by omega)
  rw [s.ask (by omega)]
  exact ⟨⟨wk, by omega⟩, ⟨wk, by omega⟩, by omega, by omega, by rw [prH, if_pos c], rfl⟩
def LX0_bidsNotBelow_2 (l : Launch) (P : Int → zM → Prop) (b : Nat) (v1 : Int) (v2 : Int) (M : zM) : Prop := AW l m_X0_bidsNotBelow (zTi m_X0_bidsNotBelow P) 2 [(0, zr 0 b), (1, zi v1), (2, zi v2)] [] M
theorem vX0_bidsNotBelow_2 {l : Launch} {P : Int → zM → Prop} {b : Nat} {v1 : Int} {v2 : Int} {M : zM}
    (H0 : (zI v2 ∧ zI (M 0 b 2) ∧ ((M 0 b 2) ≤ v2 → P v2 M) ∧ (v2 < (M 0 b 2) → ((bkW M b ∧ zI v2) ∧ (zI (rbid M b v2) ∧ zI v1 ∧ ((rbid M b v2) < v1 → P v2 M) ∧ (v1 ≤ (rbid M b v2) → LX0_bidsNotBelow_2 l P b v1 (v2 + 1) M)))))) :
    LX0_bidsNotBelow_2 l P b v1 v2 M :=
(aw_iload_n d_X0_bidsNotBelow_2 rfl rfl 2 rfl
(aw_aload_n d_X0_bidsNotBelow_3 rfl rfl 0 rfl (by decide)
(aw_getI (kc := 2) d_X0_bidsNotBelow_4 rfl fl0_18 rfl rfl
(have z1 := H0.1; have z2 := H0.2.1; have e3 := H0.2.2; aw_icmp_ge d_X0_bidsNotBelow_7 rfl rfl z1 z2 (fun c4 => have e6 := e3.1 c4; (aw_iload_n d_X0_bidsNotBelow_25 rfl rfl 2 rfl
(aw_ri d_X0_bidsNotBelow_26 rfl e6))) (fun c5 => have e7 := e3.2 c5; (aw_aload_n d_X0_bidsNotBelow_10 rfl rfl 0 rfl (by decide)
(aw_iload_n d_X0_bidsNotBelow_11 rfl rfl 2 rfl
(have z8 := e7.1; have e9 := e7.2; (aw_VI (As := [zi v2]) (st := []) d_X0_bidsNotBelow_12 rfl cv0_80 ⟨Nat.le_of_ble_eq_true rfl, Nat.le_of_ble_eq_true rfl⟩ rfl rfl (Nat.le_of_ble_eq_true rfl) (Nat.le_of_ble_eq_true rfl) (s_X0_bid z8) (fun _ _ hq => aw_eqs hq
(aw_iload_n d_X0_bidsNotBelow_15 rfl rfl 1 rfl
(have z10 := e9.1; have z11 := e9.2.1; have e12 := e9.2.2; aw_icmp_lt d_X0_bidsNotBelow_16 rfl rfl z10 z11 (fun c13 => have e15 := e12.1 c13; (aw_iload_n d_X0_bidsNotBelow_25 rfl rfl 2 rfl
(aw_ri d_X0_bidsNotBelow_26 rfl e15))) (fun c14 => have e16 := e12.2 c14; (aw_iinc (lv' := [(2, zi (v2 + 1)), (0, zr 0 b), (1, zi v1)]) (y := (v2 + 1)) d_X0_bidsNotBelow_19 rfl 2 rfl (by decide) rfl rfl
(aw_goto d_X0_bidsNotBelow_22 rfl
(aw_sub [1, 2, 0] rfl e16))))))))))))))))
theorem vX0_bidsNotBelow {l : Launch} {P : Int → zM → Prop} {b : Nat} {v1 : Int} {M : zM}
    (H0 : LX0_bidsNotBelow_2 l P b v1 0 M) :
    CI l m_X0_bidsNotBelow [zr 0 b, zi v1] M P :=
(aw_iconst d_X0_bidsNotBelow_0 rfl
(aw_istore_n (lv' := [(2, zi 0), (0, zr 0 b), (1, zi v1)]) d_X0_bidsNotBelow_1 rfl rfl (by decide) rfl
(aw_sub [1, 2, 0] rfl H0)))
def LX0_asksNotAbove_2 (l : Launch) (P : Int → zM → Prop) (b : Nat) (v1 : Int) (v2 : Int) (M : zM) : Prop := AW l m_X0_asksNotAbove (zTi m_X0_asksNotAbove P) 2 [(0, zr 0 b), (1, zi v1), (2, zi v2)] [] M
theorem vX0_asksNotAbove_2 {l : Launch} {P : Int → zM → Prop} {b : Nat} {v1 : Int} {v2 : Int} {M : zM}
    (H0 : (zI v2 ∧ zI (M 0 b 3) ∧ ((M 0 b 3) ≤ v2 → P v2 M) ∧ (v2 < (M 0 b 3) → ((bkW M b ∧ zI v2) ∧ (zI (rask M b v2) ∧ zI v1 ∧ (v1 < (rask M b v2) → P v2 M) ∧ ((rask M b v2) ≤ v1 → LX0_asksNotAbove_2 l P b v1 (v2 + 1) M)))))) :
    LX0_asksNotAbove_2 l P b v1 v2 M :=
(aw_iload_n d_X0_asksNotAbove_2 rfl rfl 2 rfl
(aw_aload_n d_X0_asksNotAbove_3 rfl rfl 0 rfl (by decide)
(aw_getI (kc := 3) d_X0_asksNotAbove_4 rfl fl0_22 rfl rfl
(have z1 := H0.1; have z2 := H0.2.1; have e3 := H0.2.2; aw_icmp_ge d_X0_asksNotAbove_7 rfl rfl z1 z2 (fun c4 => have e6 := e3.1 c4; (aw_iload_n d_X0_asksNotAbove_25 rfl rfl 2 rfl
(aw_ri d_X0_asksNotAbove_26 rfl e6))) (fun c5 => have e7 := e3.2 c5; (aw_aload_n d_X0_asksNotAbove_10 rfl rfl 0 rfl (by decide)
(aw_iload_n d_X0_asksNotAbove_11 rfl rfl 2 rfl
(have z8 := e7.1; have e9 := e7.2; (aw_VI (As := [zi v2]) (st := []) d_X0_asksNotAbove_12 rfl cv0_77 ⟨Nat.le_of_ble_eq_true rfl, Nat.le_of_ble_eq_true rfl⟩ rfl rfl (Nat.le_of_ble_eq_true rfl) (Nat.le_of_ble_eq_true rfl) (s_X0_ask z8) (fun _ _ hq => aw_eqs hq
(aw_iload_n d_X0_asksNotAbove_15 rfl rfl 1 rfl
(have z10 := e9.1; have z11 := e9.2.1; have e12 := e9.2.2; aw_icmp_gt d_X0_asksNotAbove_16 rfl rfl z10 z11 (fun c13 => have e15 := e12.1 c13; (aw_iload_n d_X0_asksNotAbove_25 rfl rfl 2 rfl
(aw_ri d_X0_asksNotAbove_26 rfl e15))) (fun c14 => have e16 := e12.2 c14; (aw_iinc (lv' := [(2, zi (v2 + 1)), (0, zr 0 b), (1, zi v1)]) (y := (v2 + 1)) d_X0_asksNotAbove_19 rfl 2 rfl (by decide) rfl rfl
(aw_goto d_X0_asksNotAbove_22 rfl
(aw_sub [1, 2, 0] rfl e16))))))))))))))))
theorem vX0_asksNotAbove {l : Launch} {P : Int → zM → Prop} {b : Nat} {v1 : Int} {M : zM}
    (H0 : LX0_asksNotAbove_2 l P b v1 0 M) :
    CI l m_X0_asksNotAbove [zr 0 b, zi v1] M P :=
(aw_iconst d_X0_asksNotAbove_0 rfl
(aw_istore_n (lv' := [(2, zi 0), (0, zr 0 b), (1, zi v1)]) d_X0_asksNotAbove_1 rfl rfl (by decide) rfl
(aw_sub [1, 2, 0] rfl H0)))
theorem c_X0_bidsNotBelow {p : Int} (g : gd B A) (hf : 0 ≤ f ∧ f ≤ 500) (s : bkS M b B A f w) (zp : zI p) : CI l m_X0_bidsNotBelow [zr 0 b, zi p] M (fun x M' => x = lead (fun k => decide (p ≤ gB B k)) B.length ∧ M' = M) := by
  have wk := s.W g hf
  have h3 := g.1
  have b2 := s.1.1
  have loop : ∀ (n : Nat) (k : Int), ((B.length : Int) - k).toNat = n → 0 ≤ k ∧ k ≤ (B.length : Int) → (∀ j, 0 ≤ j ∧ j < k → p ≤ gB B j) → LX0_bidsNotBelow_2 l (fun x M' => x = lead (fun k => decide (p ≤ gB B k)) B.length ∧ M' = M) b p k M := by
    intro n
    induction n with
    | zero =>
      intro k hn hk hj
      refine vX0_bidsNotBelow_2 ⟨by omega, by omega, fun _ => ⟨?_, rfl⟩, fun e => by omega⟩
      exact (lead_eq hk (fun j q => by simpa using hj j q) (fun e => by omega)).symm
    | succ n ih =>
      intro k hn hk hj
      have q1 := gB_in g (k := k) (by omega)
      refine vX0_bidsNotBelow_2 ⟨by omega, by omega, fun e => by omega, fun _ => ⟨⟨wk, by omega⟩, ?_⟩⟩
      rw [s.bid (by omega)]
      refine ⟨by omega, zp, fun c => ⟨?_, rfl⟩, fun c => ih (k + 1) (by omega) (by omega) fun j q => ?_⟩
      · exact (lead_eq hk (fun j q => by simpa using hj j q) (fun e => by simp; omega)).symm
      · by_cases e : j = k
        · rw [e]; exact c
        · exact hj j (by omega)
  exact vX0_bidsNotBelow (loop _ 0 rfl (by omega) (fun j q => by omega))
theorem c_X0_asksNotAbove {p : Int} (g : gd B A) (hf : 0 ≤ f ∧ f ≤ 500) (s : bkS M b B A f w) (zp : zI p) : CI l m_X0_asksNotAbove [zr 0 b, zi p] M (fun x M' => x = lead (fun k => decide (gA f A k ≤ p)) A.length ∧ M' = M) := by
  have wk := s.W g hf
  have h3 := g.1
  have b2 := s.1.2.1
  have loop : ∀ (n : Nat) (k : Int), ((A.length : Int) - k).toNat = n → 0 ≤ k ∧ k ≤ (A.length : Int) → (∀ j, 0 ≤ j ∧ j < k → gA f A j ≤ p) → LX0_asksNotAbove_2 l (fun x M' => x = lead (fun k => decide (gA f A k ≤ p)) A.length ∧ M' = M) b p k M := by
    intro n
    induction n with
    | zero =>
      intro k hn hk hj
      refine vX0_asksNotAbove_2 ⟨by omega, by omega, fun _ => ⟨?_, rfl⟩, fun e => by omega⟩
      exact (lead_eq hk (fun j q => by simpa using hj j q) (fun e => by omega)).symm
    | succ n ih =>
      intro k hn hk hj
      have q1 := gA_in g (f := f) (k := k) (by omega)
      refine vX0_asksNotAbove_2 ⟨by omega, by omega, fun e => by omega, fun _ => ⟨⟨wk, by omega⟩, ?_⟩⟩
      rw [s.ask (by omega)]
      refine ⟨by omega, zp, fun c => ⟨?_, rfl⟩, fun c => ih (k + 1) (by omega) (by omega) fun j q => ?_⟩
      · exact (lead_eq hk (fun j q => by simpa using hj j q) (fun e => by simp; omega)).symm
      · by_cases e : j = k
        · rw [e]; exact c
        · exact hj j (by omega)
  exact vX0_asksNotAbove (loop _ 0 rfl (by omega) (fun j q => by omega))
end
