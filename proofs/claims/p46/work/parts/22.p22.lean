/-! ===== the class: a book settled ===== -/
def gd (B A : List Int) : Prop := (B.length ≤ 80 ∧ A.length ≤ 80) ∧ (∀ x ∈ B, 0 ≤ x ∧ x < 800000) ∧ (∀ x ∈ A, 0 ≤ x ∧ x < 800000)
theorem gd_m {S : zS} {E : Int → Prop} {v : Int → Int → Int} (h : okM S v) : gd (mB S E v) (mA S E v) :=
  ⟨⟨B_len h (mB_ok h), A_len h (mA_ok h)⟩, fun x hx => by have := PB_rng h x ((mB_ok h).2 x |>.mp hx); omega, fun x hx => by have := PA_rng h x ((mA_ok h).2 x |>.mp hx); omega⟩
theorem bkR.W {M : zM} {b : Nat} {B A : List Int} (h : bkR M b B A) (g : gd B A) (hf : 0 ≤ M 0 b 4 ∧ M 0 b 4 ≤ 500) : bkW M b := by
  obtain ⟨h1, h2, h3, h4⟩ := h
  have g1 := g.1
  refine ⟨by omega, by omega, fun j hj => ?_, fun j hj => ?_, hf⟩
  · rw [h1] at hj; rw [h3 j hj]; exact g.2.1 _ (at_mem hj)
  · rw [h2] at hj; rw [h4 j hj]; exact g.2.2 _ (at_mem hj)
theorem bkR.bid {M : zM} {b : Nat} {B A : List Int} (h : bkR M b B A) (k : Int) : rbid M b k = if 0 ≤ k ∧ k < (B.length : Int) then gB B k else -1 := by
  unfold rbid
  rw [h.1]
  split
  · next c => rw [h.2.2.1 k c]; rfl
  · rfl
theorem bkR.ask {M : zM} {b : Nat} {B A : List Int} (h : bkR M b B A) (k : Int) : rask M b k = if 0 ≤ k ∧ k < (A.length : Int) then gA (M 0 b 4) A k else -1 := by
  unfold rask
  rw [h.2.1]
  split
  · next c => rw [h.2.2.2 k c]; rfl
  · rfl
theorem bkR.trd {M : zM} {b : Nat} {B A : List Int} (h : bkR M b B A) {z k : Int} : rslt M b z k / 4 = if z = 0 then (if 0 ≤ k ∧ k < (B.length : Int) then ktr (B.getD k.toNat 0) else 20) else (if 0 ≤ k ∧ k < (A.length : Int) then ktr (A.getD k.toNat 0) else 20) := by
  unfold rslt
  rw [h.1, h.2.1]
  split
  · split
    · next c => rw [h.2.2.1 k c]; rfl
    · rfl
  · split
    · next c => rw [h.2.2.2 k c]; rfl
    · rfl
theorem gB_in {B A : List Int} {k : Int} (g : gd B A) (h : 0 ≤ k ∧ k < (B.length : Int)) : 0 ≤ gB B k ∧ gB B k ≤ 9999 := by
  have := g.2.1 _ (at_mem h)
  unfold gB kbv
  omega
theorem gA_in {B A : List Int} {f k : Int} (g : gd B A) (h : 0 ≤ k ∧ k < (A.length : Int)) : f ≤ gA f A k ∧ gA f A k ≤ 9999 + f := by
  have := g.2.2 _ (at_mem h)
  unfold gA kav
  omega
theorem tW_in {B A : List Int} {f : Int} (g : gd B A) (hf : 0 ≤ f) : 0 ≤ tW f B A ∧ tW f B A ≤ 800000 := by
  have h := tW_b (f := f) (B := B) (A := A) (c := 9999) (by omega) (fun x hx => by have := g.2.1 x hx; unfold kbv; omega) (fun x hx => by have := g.2.2 x hx; unfold kav; omega)
  have := g.1.1
  omega
/-- settled by the fee f and the law w -/
def bkS (M : zM) (b : Nat) (B A : List Int) (f w : Int) : Prop := bkR M b B A ∧ (M 0 b 4 = f ∧ M 0 b 5 = w ∧ M 0 b 6 = tT f B A ∧ M 0 b 7 = tW f B A ∧ M 0 b 8 = dN B A f w) ∧ (tT f B A ≠ 0 → w ≠ 3 → M 0 b 9 = dP B A f w ∧ M 0 b 10 = dG B A f w)
theorem bkS.of {M M' : zM} {b : Nat} {B A : List Int} {f w : Int} (h : bkS M b B A f w) (e0 : M' 0 b = M 0 b) (e1 : M' 10 b = M 10 b) (e2 : M' 11 b = M 11 b) : bkS M' b B A f w :=
  ⟨h.1.of e0 e1 e2, by rw [e0]; exact h.2.1, by rw [e0]; exact h.2.2⟩
/-- the fields of a book alone are written -/
theorem fx_fld {b : Nat} {M M' : zM} {j x : Int} (h : M' = zu M 0 b j x) : Fx (fun k i => k = 0 ∧ i = b) M M' := by
  rw [h]
  exact Fx.zu Fx.rf ⟨rfl, rfl⟩
theorem bkR.fld {M M' : zM} {b : Nat} {B A : List Int} {j x : Int} (h : bkR M b B A) (e : M' = zu M 0 b j x) (hj : j ≠ 2 ∧ j ≠ 3) : bkR M' b B A :=
  ⟨by rw [e, zu_at, if_neg (by omega)]; exact h.1, by rw [e, zu_at, if_neg (by omega)]; exact h.2.1, h.2.2.1.of (by rw [e, zu_k (by decide)]), h.2.2.2.of (by rw [e, zu_k (by decide)])⟩
section
variable {l : Launch} {M : zM}
theorem vX0_priceForAll {l : Launch} {P : Int → zM → Prop} {b : Nat} {M : zM}
    (H0 : (zI (M 0 b 5) ∧ ((M 0 b 5) ≠ 1 → (((M 0 b 5) ≠ 0 → P (-1) M) ∧ ((M 0 b 5) = 0 → (zI (M 0 b 6) ∧ zI (M 0 b 2) ∧ ((M 0 b 2) ≤ (M 0 b 6) → P (-1) M) ∧ ((M 0 b 6) < (M 0 b 2) → (zI (M 0 b 3) ∧ ((M 0 b 6) < (M 0 b 3) → ((bkW M b ∧ zI (M 0 b 6)) ∧ ((bkW M b ∧ zI (M 0 b 6)) ∧ (zI ((rbid M b (M 0 b 6)) + (rask M b (M 0 b 6))) ∧ ((bkW M b ∧ zI (M 0 b 6 - 1)) ∧ (zI (Int.tdiv ((rbid M b (M 0 b 6)) + (rask M b (M 0 b 6))) 2) ∧ zI (rbid M b (M 0 b 6 - 1)) ∧ ((rbid M b (M 0 b 6 - 1)) < (Int.tdiv ((rbid M b (M 0 b 6)) + (rask M b (M 0 b 6))) 2) → P (-1) M) ∧ ((Int.tdiv ((rbid M b (M 0 b 6)) + (rask M b (M 0 b 6))) 2) ≤ (rbid M b (M 0 b 6 - 1)) → ((bkW M b ∧ zI (M 0 b 6 - 1)) ∧ (zI (rask M b (M 0 b 6 - 1)) ∧ ((Int.tdiv ((rbid M b (M 0 b 6)) + (rask M b (M 0 b 6))) 2) < (rask M b (M 0 b 6 - 1)) → P (-1) M) ∧ ((rask M b (M 0 b 6 - 1)) ≤ (Int.tdiv ((rbid M b (M 0 b 6)) + (rask M b (M 0 b 6))) 2) → P (Int.tdiv ((rbid M b (M 0 b 6)) + (rask M b (M 0 b 6))) 2) M)))))))))) ∧ ((M 0 b 3) ≤ (M 0 b 6) → P (-1) M))))))) ∧ ((M 0 b 5) = 1 → ((bkW M b ∧ zI (M 0 b 6 - 1)) ∧ ((bkW M b ∧ zI (M 0 b 6 - 1)) ∧ (zI ((rbid M b (M 0 b 6 - 1)) + (rask M b (M 0 b 6 - 1))) ∧ P (Int.tdiv ((rbid M b (M 0 b 6 - 1)) + (rask M b (M 0 b 6 - 1))) 2) M)))))) :
    CI l m_X0_priceForAll [zr 0 b] M P :=
(aw_aload_n d_X0_priceForAll_0 rfl rfl 0 rfl (by decide)
(aw_getI (kc := 5) d_X0_priceForAll_1 rfl fl0_86 rfl rfl
(aw_iconst d_X0_priceForAll_4 rfl
(have z1 := H0.1; have e2 := H0.2; aw_icmp_ne d_X0_priceForAll_5 rfl rfl z1 (by decide) (fun c3 => have e5 := e2.1 c3; (aw_aload_n d_X0_priceForAll_20 rfl rfl 0 rfl (by decide)
(aw_getI (kc := 5) d_X0_priceForAll_21 rfl fl0_86 rfl rfl
(aw_if_ne d_X0_priceForAll_24 rfl rfl z1 (fun c7 => have e9 := e5.1 c7; (aw_iconst d_X0_priceForAll_49 rfl
(aw_ri d_X0_priceForAll_50 rfl e9))) (fun c8 => have e10 := e5.2 c8; (aw_aload_n d_X0_priceForAll_27 rfl rfl 0 rfl (by decide)
(aw_getI (kc := 6) d_X0_priceForAll_28 rfl fl0_83 rfl rfl
(aw_aload_n d_X0_priceForAll_31 rfl rfl 0 rfl (by decide)
(aw_getI (kc := 2) d_X0_priceForAll_32 rfl fl0_18 rfl rfl
(have z11 := e10.1; have z12 := e10.2.1; have e13 := e10.2.2; aw_icmp_ge d_X0_priceForAll_35 rfl rfl z11 z12 (fun c14 => have e16 := e13.1 c14; (aw_iconst d_X0_priceForAll_49 rfl
(aw_ri d_X0_priceForAll_50 rfl e16))) (fun c15 => have e17 := e13.2 c15; (aw_aload_n d_X0_priceForAll_38 rfl rfl 0 rfl (by decide)
(aw_getI (kc := 6) d_X0_priceForAll_39 rfl fl0_83 rfl rfl
(aw_aload_n d_X0_priceForAll_42 rfl rfl 0 rfl (by decide)
(aw_getI (kc := 3) d_X0_priceForAll_43 rfl fl0_22 rfl rfl
(have z18 := e17.1; have e19 := e17.2; aw_icmp_lt d_X0_priceForAll_46 rfl rfl z11 z18 (fun c20 => have e22 := e19.1 c20; (aw_aload_n d_X0_priceForAll_51 rfl rfl 0 rfl (by decide)
(aw_aload_n d_X0_priceForAll_52 rfl rfl 0 rfl (by decide)
(aw_getI (kc := 6) d_X0_priceForAll_53 rfl fl0_83 rfl rfl
(have z24 := e22.1; have e25 := e22.2; (aw_VI (As := [zi (M 0 b 6)]) (st := []) d_X0_priceForAll_56 rfl cv0_80 ⟨Nat.le_of_ble_eq_true rfl, Nat.le_of_ble_eq_true rfl⟩ rfl rfl (Nat.le_of_ble_eq_true rfl) (Nat.le_of_ble_eq_true rfl) (s_X0_bid z24) (fun _ _ hq => aw_eqs hq
(aw_aload_n d_X0_priceForAll_59 rfl rfl 0 rfl (by decide)
(aw_aload_n d_X0_priceForAll_60 rfl rfl 0 rfl (by decide)
(aw_getI (kc := 6) d_X0_priceForAll_61 rfl fl0_83 rfl rfl
(have z26 := e25.1; have e27 := e25.2; (aw_VI (As := [zi (M 0 b 6)]) (st := [zi (rbid M b (M 0 b 6))]) d_X0_priceForAll_64 rfl cv0_77 ⟨Nat.le_of_ble_eq_true rfl, Nat.le_of_ble_eq_true rfl⟩ rfl rfl (Nat.le_of_ble_eq_true rfl) (Nat.le_of_ble_eq_true rfl) (s_X0_ask z26) (fun _ _ hq => aw_eqs hq
(aw_iadd d_X0_priceForAll_67 rfl
(aw_iconst d_X0_priceForAll_68 rfl
(have z28 := e27.1; have e29 := e27.2; (aw_idiv d_X0_priceForAll_69 rfl z28 (by decide) (by decide)
(aw_istore_n (lv' := [(1, zi (Int.tdiv ((rbid M b (M 0 b 6)) + (rask M b (M 0 b 6))) 2)), (0, zr 0 b)]) d_X0_priceForAll_70 rfl rfl (by decide) rfl
(aw_iload_n d_X0_priceForAll_71 rfl rfl 0 rfl
(aw_aload_n d_X0_priceForAll_72 rfl rfl 1 rfl (by decide)
(have z30 := e29.1; have e31 := e29.2; (aw_VI (As := []) (st := [zi (Int.tdiv ((rbid M b (M 0 b 6)) + (rask M b (M 0 b 6))) 2)]) d_X0_priceForAll_73 rfl cv0_99 ⟨Nat.le_of_ble_eq_true rfl, Nat.le_of_ble_eq_true rfl⟩ rfl rfl (Nat.le_of_ble_eq_true rfl) (Nat.le_of_ble_eq_true rfl) (s_X0_lastBid z30) (fun _ _ hq => aw_eqs hq
(have z32 := e31.1; have z33 := e31.2.1; have e34 := e31.2.2; aw_icmp_gt d_X0_priceForAll_76 rfl rfl z32 z33 (fun c35 => have e37 := e34.1 c35; (aw_iconst d_X0_priceForAll_91 rfl
(aw_ri d_X0_priceForAll_92 rfl e37))) (fun c36 => have e38 := e34.2 c36; (aw_iload_n d_X0_priceForAll_79 rfl rfl 0 rfl
(aw_aload_n d_X0_priceForAll_80 rfl rfl 1 rfl (by decide)
(have z39 := e38.1; have e40 := e38.2; (aw_VI (As := []) (st := [zi (Int.tdiv ((rbid M b (M 0 b 6)) + (rask M b (M 0 b 6))) 2)]) d_X0_priceForAll_81 rfl cv0_105 ⟨Nat.le_of_ble_eq_true rfl, Nat.le_of_ble_eq_true rfl⟩ rfl rfl (Nat.le_of_ble_eq_true rfl) (Nat.le_of_ble_eq_true rfl) (s_X0_lastAsk z39) (fun _ _ hq => aw_eqs hq
(have z41 := e40.1; have e42 := e40.2; aw_icmp_lt d_X0_priceForAll_84 rfl rfl z32 z41 (fun c43 => have e45 := e42.1 c43; (aw_iconst d_X0_priceForAll_91 rfl
(aw_ri d_X0_priceForAll_92 rfl e45))) (fun c44 => have e46 := e42.2 c44; (aw_iload_n d_X0_priceForAll_87 rfl rfl 0 rfl
(aw_goto d_X0_priceForAll_88 rfl
(aw_ri d_X0_priceForAll_92 rfl e46))))))))))))))))))))))))))))))))))) (fun c21 => have e23 := e19.2 c21; (aw_iconst d_X0_priceForAll_49 rfl
(aw_ri d_X0_priceForAll_50 rfl e23))))))))))))))))))) (fun c4 => have e6 := e2.2 c4; (aw_aload_n d_X0_priceForAll_8 rfl rfl 0 rfl (by decide)
(have z47 := e6.1; have e48 := e6.2; (aw_VI (As := []) (st := []) d_X0_priceForAll_9 rfl cv0_99 ⟨Nat.le_of_ble_eq_true rfl, Nat.le_of_ble_eq_true rfl⟩ rfl rfl (Nat.le_of_ble_eq_true rfl) (Nat.le_of_ble_eq_true rfl) (s_X0_lastBid z47) (fun _ _ hq => aw_eqs hq
(aw_aload_n d_X0_priceForAll_12 rfl rfl 0 rfl (by decide)
(have z49 := e48.1; have e50 := e48.2; (aw_VI (As := []) (st := [zi (rbid M b (M 0 b 6 - 1))]) d_X0_priceForAll_13 rfl cv0_105 ⟨Nat.le_of_ble_eq_true rfl, Nat.le_of_ble_eq_true rfl⟩ rfl rfl (Nat.le_of_ble_eq_true rfl) (Nat.le_of_ble_eq_true rfl) (s_X0_lastAsk z49) (fun _ _ hq => aw_eqs hq
(aw_iadd d_X0_priceForAll_16 rfl
(aw_iconst d_X0_priceForAll_17 rfl
(have z51 := e50.1; have e52 := e50.2; (aw_idiv d_X0_priceForAll_18 rfl z51 (by decide) (by decide)
(aw_ri d_X0_priceForAll_19 rfl e52))))))))))))))))))
theorem c_X0_priceForAll {b : Nat} {B A : List Int} {f w : Int} (g : gd B A) (hf : 0 ≤ f ∧ f ≤ 500) (hw : 0 ≤ w ∧ w ≤ 2) (r : bkR M b B A) (e4 : M 0 b 4 = f) (e5 : M 0 b 5 = w) (e6 : M 0 b 6 = tT f B A) (hT : tT f B A ≠ 0) :
    CI l m_X0_priceForAll [zr 0 b] M (fun x M' => M' = M ∧ (full B A f w → x = dP B A f w ∧ 0 ≤ x ∧ x ≤ 20000) ∧ (¬ full B A f w → x = -1)) := by
  have hb := tT_b (f := f) (B := B) (A := A)
  have wk := r.W g (by omega)
  have z6 : zI (M 0 b 6) := by have := g.1; omega
  have z61 : zI (M 0 b 6 - 1) := by have := g.1; omega
  have r1 := g.1
  have k1 : rbid M b (M 0 b 6 - 1) = gB B (tT f B A - 1) := by rw [r.bid, e6, if_pos (by omega)]
  have k2 : rask M b (M 0 b 6 - 1) = gA f A (tT f B A - 1) := by rw [r.ask, e6, e4, if_pos (by omega)]
  have q1 := gB_in g (k := tT f B A - 1) (by omega)
  have q2 := gA_in g (f := f) (k := tT f B A - 1) (by omega)
  refine vX0_priceForAll ⟨by omega, fun n1 => ⟨fun n0 => ⟨rfl, fun c => ?_, fun _ => rfl⟩, fun y0 => ⟨z6, by have := wk.1; omega, fun c => ⟨rfl, fun c2 => ?_, fun _ => rfl⟩, fun c => ⟨by have := wk.2.1; omega, fun c2 => ?_, fun c2 => ⟨rfl, fun c3 => ?_, fun _ => rfl⟩⟩⟩⟩, fun y1 => ?_⟩
  · have := c.resolve_left (by omega) |>.resolve_left (by omega); omega
  · have := c2.resolve_left (by omega) |>.resolve_left (by omega); rw [r.1] at c; omega
  · rw [r.1] at c
    rw [r.2.1] at c2
    have k3 : rbid M b (M 0 b 6) = gB B (tT f B A) := by rw [r.bid, e6, if_pos (by omega)]
    have k4 : rask M b (M 0 b 6) = gA f A (tT f B A) := by rw [r.ask, e6, e4, if_pos (by omega)]
    have q3 := gB_in g (k := tT f B A) (by omega)
    have q4 := gA_in g (f := f) (k := tT f B A) (by omega)
    rw [k1, k2, k3, k4, tdiv_n (by omega)]
    have em : (gB B (tT f B A) + gA f A (tT f B A)) / 2 = mid B A f (tT f B A) := rfl
    rw [em]
    have hm : 0 ≤ mid B A f (tT f B A) ∧ mid B A f (tT f B A) ≤ 20000 := by unfold mid; omega
    refine ⟨⟨wk, z6⟩, ⟨wk, z6⟩, by omega, ⟨wk, z61⟩, by omega, by omega, fun c3 => ⟨rfl, fun c4 => ?_, fun _ => rfl⟩, fun c3 => ⟨⟨wk, z61⟩, by omega, fun c4 => ⟨rfl, fun c5 => ?_, fun _ => rfl⟩, fun c4 => ⟨rfl, fun c5 => ⟨?_, hm⟩, fun c5 => ?_⟩⟩⟩
    · have := c4.resolve_left (by omega) |>.resolve_left (by omega); omega
    · have := c5.resolve_left (by omega) |>.resolve_left (by omega); omega
    · unfold dP; rw [if_pos c5, if_pos (by omega)]
    · exact absurd (Or.inr (.inr ⟨by omega, by omega, by omega, c3, c4⟩)) c5
  · have := c3.resolve_left (by omega) |>.resolve_left (by omega); rw [r.2.1] at c2; omega
  · rw [k1, k2, tdiv_n (by omega)]
    refine ⟨⟨wk, z61⟩, ⟨wk, z61⟩, by omega, rfl, fun c => ⟨?_, by omega⟩, fun c => absurd (Or.inr (.inl (by omega))) c⟩
    unfold dP
    rw [if_pos c, if_neg (by omega)]
    rfl
def LX0_settle_20 (l : Launch) (P : zM → Prop) (b : Nat) (M : zM) : Prop := AW l m_X0_settle (zTv m_X0_settle P) 20 [(0, zr 0 b)] [] M
def LX0_settle_100 (l : Launch) (P : zM → Prop) (b : Nat) (M : zM) : Prop := AW l m_X0_settle (zTv m_X0_settle P) 100 [(0, zr 0 b)] [] M
theorem vX0_settle_20 {l : Launch} {P : zM → Prop} {b : Nat} {M : zM}
    (H0 : (zI (M 0 b 6) ∧ zI (M 0 b 2) ∧ ((M 0 b 2) ≤ (M 0 b 6) → LX0_settle_100 l P b M) ∧ ((M 0 b 6) < (M 0 b 2) → (zI (M 0 b 3) ∧ ((M 0 b 3) ≤ (M 0 b 6) → LX0_settle_100 l P b M) ∧ ((M 0 b 6) < (M 0 b 3) → ((bkW M b ∧ zI (M 0 b 6)) ∧ ((bkW M b ∧ zI (M 0 b 6)) ∧ (zI (rbid M b (M 0 b 6)) ∧ zI (rask M b (M 0 b 6)) ∧ ((rbid M b (M 0 b 6)) < (rask M b (M 0 b 6)) → LX0_settle_100 l P b M) ∧ ((rask M b (M 0 b 6)) ≤ (rbid M b (M 0 b 6)) → (∀ M33 : zM, M33 = zu M 0 b 7 ((M 0 b 7) + ((rbid M b (M 0 b 6)) - (rask M b (M 0 b 6)))) → (∀ M35 : zM, M35 = zu M33 0 b 6 ((M33 0 b 6) + 1) → LX0_settle_20 l P b M35))))))))))) :
    LX0_settle_20 l P b M :=
(aw_aload_n d_X0_settle_20 rfl rfl 0 rfl (by decide)
(aw_getI (kc := 6) d_X0_settle_21 rfl fl0_83 rfl rfl
(aw_aload_n d_X0_settle_24 rfl rfl 0 rfl (by decide)
(aw_getI (kc := 2) d_X0_settle_25 rfl fl0_18 rfl rfl
(have z9 := H0.1; have z10 := H0.2.1; have e11 := H0.2.2; aw_icmp_ge d_X0_settle_28 rfl rfl z9 z10 (fun c12 => have e14 := e11.1 c12; e14) (fun c13 => have e15 := e11.2 c13; (aw_aload_n d_X0_settle_31 rfl rfl 0 rfl (by decide)
(aw_getI (kc := 6) d_X0_settle_32 rfl fl0_83 rfl rfl
(aw_aload_n d_X0_settle_35 rfl rfl 0 rfl (by decide)
(aw_getI (kc := 3) d_X0_settle_36 rfl fl0_22 rfl rfl
(have z16 := e15.1; have e17 := e15.2; aw_icmp_ge d_X0_settle_39 rfl rfl z9 z16 (fun c18 => have e20 := e17.1 c18; e20) (fun c19 => have e21 := e17.2 c19; (aw_aload_n d_X0_settle_42 rfl rfl 0 rfl (by decide)
(aw_aload_n d_X0_settle_43 rfl rfl 0 rfl (by decide)
(aw_getI (kc := 6) d_X0_settle_44 rfl fl0_83 rfl rfl
(have z22 := e21.1; have e23 := e21.2; (aw_VI (As := [zi (M 0 b 6)]) (st := []) d_X0_settle_47 rfl cv0_80 ⟨Nat.le_of_ble_eq_true rfl, Nat.le_of_ble_eq_true rfl⟩ rfl rfl (Nat.le_of_ble_eq_true rfl) (Nat.le_of_ble_eq_true rfl) (s_X0_bid z22) (fun _ _ hq => aw_eqs hq
(aw_aload_n d_X0_settle_50 rfl rfl 0 rfl (by decide)
(aw_aload_n d_X0_settle_51 rfl rfl 0 rfl (by decide)
(aw_getI (kc := 6) d_X0_settle_52 rfl fl0_83 rfl rfl
(have z24 := e23.1; have e25 := e23.2; (aw_VI (As := [zi (M 0 b 6)]) (st := [zi (rbid M b (M 0 b 6))]) d_X0_settle_55 rfl cv0_77 ⟨Nat.le_of_ble_eq_true rfl, Nat.le_of_ble_eq_true rfl⟩ rfl rfl (Nat.le_of_ble_eq_true rfl) (Nat.le_of_ble_eq_true rfl) (s_X0_ask z24) (fun _ _ hq => aw_eqs hq
(have z26 := e25.1; have z27 := e25.2.1; have e28 := e25.2.2; aw_icmp_lt d_X0_settle_58 rfl rfl z26 z27 (fun c29 => have e31 := e28.1 c29; e31) (fun c30 => have e32 := e28.2 c30; (aw_aload_n d_X0_settle_61 rfl rfl 0 rfl (by decide)
(aw_dup d_X0_settle_62 rfl rfl
(aw_getI (kc := 7) d_X0_settle_63 rfl fl0_89 rfl rfl
(aw_aload_n d_X0_settle_66 rfl rfl 0 rfl (by decide)
(aw_aload_n d_X0_settle_67 rfl rfl 0 rfl (by decide)
(aw_getI (kc := 6) d_X0_settle_68 rfl fl0_83 rfl rfl
(aw_VI (As := [zi (M 0 b 6)]) (st := [zi (M 0 b 7), zr 0 b]) d_X0_settle_71 rfl cv0_80 ⟨Nat.le_of_ble_eq_true rfl, Nat.le_of_ble_eq_true rfl⟩ rfl rfl (Nat.le_of_ble_eq_true rfl) (Nat.le_of_ble_eq_true rfl) (s_X0_bid z22) (fun _ _ hq => aw_eqs hq
(aw_aload_n d_X0_settle_74 rfl rfl 0 rfl (by decide)
(aw_aload_n d_X0_settle_75 rfl rfl 0 rfl (by decide)
(aw_getI (kc := 6) d_X0_settle_76 rfl fl0_83 rfl rfl
(aw_VI (As := [zi (M 0 b 6)]) (st := [zi (rbid M b (M 0 b 6)), zi (M 0 b 7), zr 0 b]) d_X0_settle_79 rfl cv0_77 ⟨Nat.le_of_ble_eq_true rfl, Nat.le_of_ble_eq_true rfl⟩ rfl rfl (Nat.le_of_ble_eq_true rfl) (Nat.le_of_ble_eq_true rfl) (s_X0_ask z24) (fun _ _ hq => aw_eqs hq
(aw_isub d_X0_settle_82 rfl
(aw_iadd d_X0_settle_83 rfl
(have e34 := e32 _ rfl; aw_put (kc := 7) d_X0_settle_84 rfl fp0_89 rfl rfl rfl rfl
(aw_aload_n d_X0_settle_87 rfl rfl 0 rfl (by decide)
(aw_dup d_X0_settle_88 rfl rfl
(aw_getI (kc := 6) d_X0_settle_89 rfl fl0_83 rfl rfl
(aw_iconst d_X0_settle_92 rfl
(aw_iadd d_X0_settle_93 rfl
(have e36 := e34 _ rfl; aw_put (kc := 6) d_X0_settle_94 rfl fp0_83 rfl rfl rfl rfl
(aw_goto d_X0_settle_97 rfl
e36)))))))))))))))))))))))))))))))))))))))))))))))))
theorem vX0_settle_100 {l : Launch} {P : zM → Prop} {b : Nat} {M : zM}
    (H0 : (∀ M37 : zM, M37 = zu M 0 b 8 (M 0 b 6) → (zI (M37 0 b 6) ∧ ((M37 0 b 6) = 0 → P M37) ∧ ((M37 0 b 6) ≠ 0 → (zI (M37 0 b 5) ∧ ((M37 0 b 5) ≠ 3 → (CI l m_X0_priceForAll [zr 0 b] M37 (fun x54 M51 => (zI x54 ∧ (x54 ≠ (-1) → (∀ M61 : zM, M61 = zu M51 0 b 9 x54 → (∀ M63 : zM, M63 = zu M61 0 b 10 (x54 - (M61 0 b 4)) → P M63))) ∧ (x54 = (-1) → (∀ M65 : zM, M65 = zu M51 0 b 8 ((M51 0 b 6) - 1) → ((bkW M65 b ∧ zI (M65 0 b 6 - 1)) ∧ (∀ M69 : zM, M69 = zu M65 0 b 9 (rbid M65 b (M65 0 b 6 - 1)) → ((bkW M69 b ∧ zI (M69 0 b 6 - 1)) ∧ (∀ M73 : zM, M73 = zu M69 0 b 10 ((rask M69 b (M69 0 b 6 - 1)) - (M69 0 b 4)) → P M73)))))))))) ∧ ((M37 0 b 5) = 3 → P M37)))))) :
    LX0_settle_100 l P b M :=
(aw_aload_n d_X0_settle_100 rfl rfl 0 rfl (by decide)
(aw_aload_n d_X0_settle_101 rfl rfl 0 rfl (by decide)
(aw_getI (kc := 6) d_X0_settle_102 rfl fl0_83 rfl rfl
(have e38 := H0 _ rfl; aw_put (kc := 8) d_X0_settle_105 rfl fp0_92 rfl rfl rfl rfl
(aw_aload_n d_X0_settle_108 rfl rfl 0 rfl (by decide)
(aw_getI (kc := 6) d_X0_settle_109 rfl fl0_83 rfl rfl
(have z39 := e38.1; have e40 := e38.2; aw_if_eq d_X0_settle_112 rfl rfl z39 (fun c41 => have e43 := e40.1 c41; (aw_rv d_X0_settle_123 rfl e43)) (fun c42 => have e44 := e40.2 c42; (aw_aload_n d_X0_settle_115 rfl rfl 0 rfl (by decide)
(aw_getI (kc := 5) d_X0_settle_116 rfl fl0_86 rfl rfl
(aw_iconst d_X0_settle_119 rfl
(have z45 := e44.1; have e46 := e44.2; aw_icmp_ne d_X0_settle_120 rfl rfl z45 (by decide) (fun c47 => have e49 := e46.1 c47; (aw_aload_n d_X0_settle_124 rfl rfl 0 rfl (by decide)
(aw_VI (As := []) (st := []) d_X0_settle_125 rfl cv0_95 ⟨Nat.le_of_ble_eq_true rfl, Nat.le_of_ble_eq_true rfl⟩ rfl rfl (Nat.le_of_ble_eq_true rfl) (Nat.le_of_ble_eq_true rfl) e49 (fun x54 M51 e52 => (aw_istore_n (lv' := [(3, zi x54), (0, zr 0 b)]) d_X0_settle_128 rfl rfl (by decide) rfl
(aw_iload_n d_X0_settle_129 rfl rfl 0 rfl
(aw_iconst d_X0_settle_130 rfl
(have z55 := e52.1; have e56 := e52.2; aw_icmp_ne d_X0_settle_131 rfl rfl z55 (by decide) (fun c57 => have e59 := e56.1 c57; (aw_aload_n d_X0_settle_168 rfl rfl 1 rfl (by decide)
(aw_iload_n d_X0_settle_169 rfl rfl 0 rfl
(have e62 := e59 _ rfl; aw_put (kc := 9) d_X0_settle_170 rfl fp0_102 rfl rfl rfl rfl
(aw_aload_n d_X0_settle_173 rfl rfl 1 rfl (by decide)
(aw_iload_n d_X0_settle_174 rfl rfl 0 rfl
(aw_aload_n d_X0_settle_175 rfl rfl 1 rfl (by decide)
(aw_getI (kc := 4) d_X0_settle_176 rfl fl0_74 rfl rfl
(aw_isub d_X0_settle_179 rfl
(have e64 := e62 _ rfl; aw_put (kc := 10) d_X0_settle_180 rfl fp0_108 rfl rfl rfl rfl
(aw_rv d_X0_settle_183 rfl e64))))))))))) (fun c58 => have e60 := e56.2 c58; (aw_aload_n d_X0_settle_134 rfl rfl 1 rfl (by decide)
(aw_aload_n d_X0_settle_135 rfl rfl 1 rfl (by decide)
(aw_getI (kc := 6) d_X0_settle_136 rfl fl0_83 rfl rfl
(aw_iconst d_X0_settle_139 rfl
(aw_isub d_X0_settle_140 rfl
(have e66 := e60 _ rfl; aw_put (kc := 8) d_X0_settle_141 rfl fp0_92 rfl rfl rfl rfl
(aw_aload_n d_X0_settle_144 rfl rfl 1 rfl (by decide)
(aw_aload_n d_X0_settle_145 rfl rfl 1 rfl (by decide)
(have z67 := e66.1; have e68 := e66.2; (aw_VI (As := []) (st := [zr 0 b]) d_X0_settle_146 rfl cv0_99 ⟨Nat.le_of_ble_eq_true rfl, Nat.le_of_ble_eq_true rfl⟩ rfl rfl (Nat.le_of_ble_eq_true rfl) (Nat.le_of_ble_eq_true rfl) (s_X0_lastBid z67) (fun _ _ hq => aw_eqs hq
(have e70 := e68 _ rfl; aw_put (kc := 9) d_X0_settle_149 rfl fp0_102 rfl rfl rfl rfl
(aw_aload_n d_X0_settle_152 rfl rfl 1 rfl (by decide)
(aw_aload_n d_X0_settle_153 rfl rfl 1 rfl (by decide)
(have z71 := e70.1; have e72 := e70.2; (aw_VI (As := []) (st := [zr 0 b]) d_X0_settle_154 rfl cv0_105 ⟨Nat.le_of_ble_eq_true rfl, Nat.le_of_ble_eq_true rfl⟩ rfl rfl (Nat.le_of_ble_eq_true rfl) (Nat.le_of_ble_eq_true rfl) (s_X0_lastAsk z71) (fun _ _ hq => aw_eqs hq
(aw_aload_n d_X0_settle_157 rfl rfl 1 rfl (by decide)
(aw_getI (kc := 4) d_X0_settle_158 rfl fl0_74 rfl rfl
(aw_isub d_X0_settle_161 rfl
(have e74 := e72 _ rfl; aw_put (kc := 10) d_X0_settle_162 rfl fp0_108 rfl rfl rfl rfl
(aw_goto d_X0_settle_165 rfl
(aw_rv d_X0_settle_183 rfl e74)))))))))))))))))))))))))))))))) (fun c48 => have e50 := e46.2 c48; (aw_rv d_X0_settle_123 rfl e50))))))))))))))
theorem vX0_settle {l : Launch} {P : zM → Prop} {b : Nat} {v1 : Int} {v2 : Int} {M : zM}
    (H0 : (∀ M1 : zM, M1 = zu M 0 b 4 v1 → (∀ M3 : zM, M3 = zu M1 0 b 5 v2 → (∀ M5 : zM, M5 = zu M3 0 b 6 0 → (∀ M7 : zM, M7 = zu M5 0 b 7 0 → LX0_settle_20 l P b M7))))) :
    CV l m_X0_settle [zr 0 b, zi v1, zi v2] M P :=
(aw_aload_n d_X0_settle_0 rfl rfl 0 rfl (by decide)
(aw_iload_n d_X0_settle_1 rfl rfl 1 rfl
(have e2 := H0 _ rfl; aw_put (kc := 4) d_X0_settle_2 rfl fp0_74 rfl rfl rfl rfl
(aw_aload_n d_X0_settle_5 rfl rfl 0 rfl (by decide)
(aw_iload_n d_X0_settle_6 rfl rfl 2 rfl
(have e4 := e2 _ rfl; aw_put (kc := 5) d_X0_settle_7 rfl fp0_86 rfl rfl rfl rfl
(aw_aload_n d_X0_settle_10 rfl rfl 0 rfl (by decide)
(aw_iconst d_X0_settle_11 rfl
(have e6 := e4 _ rfl; aw_put (kc := 6) d_X0_settle_12 rfl fp0_83 rfl rfl rfl rfl
(aw_aload_n d_X0_settle_15 rfl rfl 0 rfl (by decide)
(aw_iconst d_X0_settle_16 rfl
(have e8 := e6 _ rfl; aw_put (kc := 7) d_X0_settle_17 rfl fp0_89 rfl rfl rfl rfl
(aw_sub [0] rfl e8)))))))))))))
theorem c_X0_settle {b : Nat} {B A : List Int} {f w : Int} (g : gd B A) (hf : 0 ≤ f ∧ f ≤ 500) (hw : 0 ≤ w ∧ w ≤ 3) (r : bkR M b B A) :
    CV l m_X0_settle [zr 0 b, zi f, zi w] M (fun M' => Fx (fun k i => k = 0 ∧ i = b) M M' ∧ bkS M' b B A f w) := by
  have hb := tT_b (f := f) (B := B) (A := A)
  have hl := g.1
  have fin : ∀ M' : zM, Fx (fun k i => k = 0 ∧ i = b) M M' → bkR M' b B A → M' 0 b 4 = f → M' 0 b 5 = w → M' 0 b 6 = tT f B A → M' 0 b 7 = tW f B A → LX0_settle_100 l (fun M' => Fx (fun k i => k = 0 ∧ i = b) M M' ∧ bkS M' b B A f w) b M' := by
    intro M' f0 r0 e4 e5 e6 e7
    refine vX0_settle_100 ?_
    intro M2 e
    have f2 := f0.tr (fx_fld e)
    have r2 := r0.fld e (by decide)
    have a4 : M2 0 b 4 = f := by rw [e, zu_at, if_neg (by decide), e4]
    have a5 : M2 0 b 5 = w := by rw [e, zu_at, if_neg (by decide), e5]
    have a6 : M2 0 b 6 = tT f B A := by rw [e, zu_at, if_neg (by decide), e6]
    have a7 : M2 0 b 7 = tW f B A := by rw [e, zu_at, if_neg (by decide), e7]
    have a8 : M2 0 b 8 = tT f B A := by rw [e, zu_at, if_pos rfl, e6]
    refine ⟨by omega, fun c => ⟨f2, r2, ⟨a4, a5, a6, a7, ?_⟩, fun c2 => absurd (a6 ▸ c) c2⟩, fun c => ⟨by omega, fun c2 => ?_, fun c2 => ⟨f2, r2, ⟨a4, a5, a6, a7, ?_⟩, fun _ c3 => by omega⟩⟩⟩
    · rw [a8, dN, if_pos (by omega)]; omega
    · rw [a6] at c
      refine (c_X0_priceForAll g hf (w := w) (by omega) r2 a4 a5 a6 c).mono ?_
      rintro x M3 ⟨rfl, hx1, hx2⟩
      by_cases cf : full B A f w
      · obtain ⟨h1, h2, h3⟩ := hx1 cf
        refine ⟨by omega, fun _ M4 q4 M5 q5 => ?_, fun n => by omega⟩
        have q54 : M4 0 b 4 = f := by rw [q4, zu_at, if_neg (by decide), a4]
        rw [q54] at q5
        refine ⟨(f2.tr (fx_fld q4)).tr (fx_fld q5), (r2.fld q4 (by decide)).fld q5 (by decide), ⟨?_, ?_, ?_, ?_, ?_⟩, fun _ _ => ⟨?_, ?_⟩⟩
        · rw [q5, zu_at, if_neg (by decide), q54]
        · rw [q5, zu_at, if_neg (by decide), q4, zu_at, if_neg (by decide), a5]
        · rw [q5, zu_at, if_neg (by decide), q4, zu_at, if_neg (by decide), a6]
        · rw [q5, zu_at, if_neg (by decide), q4, zu_at, if_neg (by decide), a7]
        · rw [q5, zu_at, if_neg (by decide), q4, zu_at, if_neg (by decide), a8, dN, if_neg c, if_pos cf]
        · rw [q5, zu_at, if_neg (by decide), q4, zu_at, if_pos rfl, h1]
        · rw [q5, zu_at, if_pos rfl, dG, if_pos cf, h1]
      · have hx := hx2 cf
        refine ⟨by omega, fun n => absurd hx n, fun _ M4 q4 => ?_⟩
        have r4 := r2.fld q4 (by decide)
        have b4 : M4 0 b 4 = f := by rw [q4, zu_at, if_neg (by decide), a4]
        have b6 : M4 0 b 6 = tT f B A := by rw [q4, zu_at, if_neg (by decide), a6]
        have k1 : rbid M4 b (M4 0 b 6 - 1) = gB B (tT f B A - 1) := by rw [r4.bid, b6, if_pos (by omega)]
        refine ⟨⟨r4.W g (by omega), by omega⟩, fun M5 q5 => ?_⟩
        rw [k1] at q5
        have r5 := r4.fld q5 (by decide)
        have c4 : M5 0 b 4 = f := by rw [q5, zu_at, if_neg (by decide), b4]
        have c6 : M5 0 b 6 = tT f B A := by rw [q5, zu_at, if_neg (by decide), b6]
        have k2 : rask M5 b (M5 0 b 6 - 1) = gA f A (tT f B A - 1) := by rw [r5.ask, c6, c4, if_pos (by omega)]
        refine ⟨⟨r5.W g (by omega), by omega⟩, fun M6 q6 => ?_⟩
        rw [k2, c4] at q6
        refine ⟨((f2.tr (fx_fld q4)).tr (fx_fld q5)).tr (fx_fld q6), r5.fld q6 (by decide), ⟨?_, ?_, ?_, ?_, ?_⟩, fun _ _ => ⟨?_, ?_⟩⟩
        · rw [q6, zu_at, if_neg (by decide), c4]
        · rw [q6, zu_at, if_neg (by decide), q5, zu_at, if_neg (by decide), q4, zu_at, if_neg (by decide), a5]
        · rw [q6, zu_at, if_neg (by decide), c6]
        · rw [q6, zu_at, if_neg (by decide), q5, zu_at, if_neg (by decide), q4, zu_at, if_neg (by decide), a7]
        · rw [q6, zu_at, if_neg (by decide), q5, zu_at, if_neg (by decide), q4, zu_at, if_pos rfl, a6, dN, if_neg c, if_neg cf]
        · rw [q6, zu_at, if_neg (by decide), q5, zu_at, if_pos rfl, dP, if_neg cf]
        · rw [q6, zu_at, if_pos rfl, dG, if_neg cf]
    · rw [a8, dN, if_neg (by rw [a6] at c; exact c), if_pos (.inl (by omega))]
  have loop : ∀ (n : Nat) (k : Int) (M' : zM), ((B.length : Int) - k).toNat = n → 0 ≤ k ∧ k ≤ tT f B A → Fx (fun k i => k = 0 ∧ i = b) M M' → bkR M' b B A → M' 0 b 4 = f → M' 0 b 5 = w → M' 0 b 6 = k → M' 0 b 7 + tW f (B.drop k.toNat) (A.drop k.toNat) = tW f B A → k + tT f (B.drop k.toNat) (A.drop k.toNat) = tT f B A →
      LX0_settle_20 l (fun M' => Fx (fun k i => k = 0 ∧ i = b) M M' ∧ bkS M' b B A f w) b M' := by
    intro n
    induction n with
    | zero =>
      intro k M' hn hk f0 r0 e4 e5 e6 e7 e8
      have wk := r0.W g (by omega)
      have hs := tT_stop (f := f) (B := B) (A := A) (k := k) hk.1 (fun h1 => by omega)
      rw [hs.1] at e8
      rw [hs.2] at e7
      refine vX0_settle_20 ⟨by omega, by have := wk.1; omega, fun _ => fin M' f0 r0 e4 e5 (by omega) (by omega), fun c => ?_⟩
      rw [r0.1, e6] at c
      omega
    | succ n ih =>
      intro k M' hn hk f0 r0 e4 e5 e6 e7 e8
      have wk := r0.W g (by omega)
      have stop : ((k < (B.length : Int) → k < (A.length : Int) → gB B k < gA f A k)) → LX0_settle_100 l (fun M' => Fx (fun k i => k = 0 ∧ i = b) M M' ∧ bkS M' b B A f w) b M' := by
        intro hs
        have hs := tT_stop (f := f) (B := B) (A := A) hk.1 hs
        rw [hs.1] at e8
        rw [hs.2] at e7
        exact fin M' f0 r0 e4 e5 (by omega) (by omega)
      refine vX0_settle_20 ⟨by omega, by have := wk.1; omega, fun c => stop (by rw [r0.1, e6] at c; omega), fun c => ⟨by have := wk.2.1; omega, fun c2 => stop (by rw [r0.2.1, e6] at c2; omega), fun c2 => ?_⟩⟩
      rw [r0.1, e6] at c
      rw [r0.2.1, e6] at c2
      have z6 : zI (M' 0 b 6) := by omega
      have k3 : rbid M' b (M' 0 b 6) = gB B k := by rw [r0.bid, e6, if_pos (by omega)]
      have k4 : rask M' b (M' 0 b 6) = gA f A k := by rw [r0.ask, e6, e4, if_pos (by omega)]
      have q3 := gB_in g (k := k) (by omega)
      have q4 := gA_in g (f := f) (k := k) (by omega)
      rw [k3, k4]
      refine ⟨⟨wk, z6⟩, ⟨wk, z6⟩, by omega, by omega, fun c3 => stop (fun _ _ => c3), fun c3 M2 p2 M3 p3 => ?_⟩
      have hs := tT_step (f := f) (B := B) (A := A) hk.1 c c2 c3
      have d6 : M2 0 b 6 = k := by rw [p2, zu_at, if_neg (by decide), e6]
      rw [d6] at p3
      have hbd := tT_b (f := f) (B := B.drop (k + 1).toNat) (A := A.drop (k + 1).toNat)
      refine ih (k + 1) M3 (by omega) (by omega) ((f0.tr (fx_fld p2)).tr (fx_fld p3)) ((r0.fld p2 (by decide)).fld p3 (by decide)) ?_ ?_ ?_ ?_ (by omega)
      · rw [p3, zu_at, if_neg (by decide), p2, zu_at, if_neg (by decide), e4]
      · rw [p3, zu_at, if_neg (by decide), p2, zu_at, if_neg (by decide), e5]
      · rw [p3, zu_at, if_pos rfl]
      · rw [p3, zu_at, if_neg (by decide), p2, zu_at, if_pos rfl]; omega
  refine vX0_settle ?_
  intro M1 e1 M2 e2 M3 e3 M4 e4
  refine loop _ 0 M4 rfl (by omega) ((((fx_fld e1).tr (fx_fld e2)).tr (fx_fld e3)).tr (fx_fld e4)) ((((r.fld e1 (by decide)).fld e2 (by decide)).fld e3 (by decide)).fld e4 (by decide)) ?_ ?_ ?_ ?_ ?_
  · rw [e4, zu_at, if_neg (by decide), e3, zu_at, if_neg (by decide), e2, zu_at, if_neg (by decide), e1, zu_at, if_pos rfl]
  · rw [e4, zu_at, if_neg (by decide), e3, zu_at, if_neg (by decide), e2, zu_at, if_pos rfl]
  · rw [e4, zu_at, if_neg (by decide), e3, zu_at, if_pos rfl]
  · rw [e4, zu_at, if_pos rfl]
    show 0 + tW f B A = tW f B A
    omega
  · show 0 + tT f B A = tT f B A
    omega
end

