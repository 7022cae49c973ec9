/-! ===== the class: what a settled book says ===== -/
theorem CI.eq {l : Launch} {X : zD} {args : List zV} {M : zM} {r : Int} {P : Int → zM → Prop} (k : CI l X args M (fun x M' => x = r ∧ M' = M)) (h : P r M) : CI l X args M P := k.mono (by rintro _ _ ⟨rfl, rfl⟩; exact h)
theorem zsum_stop {g : Int → Int} {j n : Int} (hj : 0 ≤ j ∧ j ≤ n) (h : ∀ i, j ≤ i ∧ i < n → g i = 0) : zsum g n = zsum g j := by
  have key : ∀ m : Nat, j + m ≤ n → zsum g (j + m) = zsum g j := by
    intro m
    induction m with
    | zero => intro _; simp
    | succ m ih =>
      intro hm
      rw [show j + ((m + 1 : Nat) : Int) = (j + m) + 1 by omega, zsum_s (by omega), ih (by omega), h _ (by omega)]
      omega
  have := key (n - j).toNat (by omega)
  rwa [show j + (((n - j).toNat : Nat) : Int) = n by omega] at this
def mWo (B A : List Int) (f t : Int) : Int := tW f (B.filter (fun x => !decide (ktr x = t))) (A.filter (fun x => !decide (ktr x = t)))
def mny (B A : List Int) (f w z t : Int) : Int :=
  if cnt (if z = 0 then B else A) t (dN B A f w) = 0 then 0 else
  if w = 3 then (if z = 0 then mWo B A f t - (tW f B A - say1 (gB B) B t (dN B A f w)) else tW f B A + say1 (gA f A) A t (dN B A f w) - mWo B A f t - cnt A t (dN B A f w) * f)
  else cnt (if z = 0 then B else A) t (dN B A f w) * (if z = 0 then dP B A f w else dG B A f w)
theorem mny_0 {B A : List Int} {f w t : Int} : mny B A f w 0 t = if cnt B t (dN B A f w) = 0 then 0 else if w = 3 then mWo B A f t - (tW f B A - say1 (gB B) B t (dN B A f w)) else cnt B t (dN B A f w) * dP B A f w := rfl
theorem mny_1 {B A : List Int} {f w t : Int} : mny B A f w 1 t = if cnt A t (dN B A f w) = 0 then 0 else if w = 3 then tW f B A + say1 (gA f A) A t (dN B A f w) - mWo B A f t - cnt A t (dN B A f w) * f else cnt A t (dN B A f w) * dG B A f w := rfl
def tkg (B A : List Int) (f w : Int) : Int := if w = 3 then zsum (fun t => mny B A f w 0 t - mny B A f w 1 t) 20 else if dN B A f w = 0 then 0 else dN B A f w * (dP B A f w - dG B A f w)
theorem cnt_s {R : List Int} {t k : Int} (h : 0 ≤ k) : cnt R t (k + 1) = cnt R t k + (if ktr (R.getD k.toNat 0) = t then 1 else 0) := zsum_s h
theorem say1_s {g : Int → Int} {R : List Int} {t k : Int} (h : 0 ≤ k) : say1 g R t (k + 1) = say1 g R t k + (if ktr (R.getD k.toNat 0) = t then g k else 0) := zsum_s h
section
variable {l : Launch} {M : zM} {b : Nat} {B A : List Int} {f w : Int}
theorem bkS.W (s : bkS M b B A f w) (g : gd B A) (hf : 0 ≤ f ∧ f ≤ 500) : bkW M b := s.1.W g (by rw [s.2.1.1]; exact hf)
theorem bkS.bid (s : bkS M b B A f w) {k : Int} (h : 0 ≤ k ∧ k < (B.length : Int)) : rbid M b k = gB B k := by rw [s.1.bid, if_pos h]
theorem bkS.ask (s : bkS M b B A f w) {k : Int} (h : 0 ≤ k ∧ k < (A.length : Int)) : rask M b k = gA f A k := by rw [s.1.ask, if_pos h, s.2.1.1]
theorem bkS.trd {z : Int} (s : bkS M b B A f w) (k : Int) (h : 0 ≤ k ∧ k < (if z = 0 then (B.length : Int) else (A.length : Int))) : rslt M b z k / 4 = ktr ((if z = 0 then B else A).getD k.toNat 0) := by
  rw [s.1.trd]
  by_cases e : z = 0
  · rw [if_pos e] at h ⊢
    rw [if_pos h, if_pos e]
  · rw [if_neg e] at h ⊢
    rw [if_pos h, if_neg e]
def LX0_doneOf_5 (l : Launch) (P : Int → zM → Prop) (b : Nat) (v1 : Int) (v2 : Int) (v3 : Int) (v4 : Int) (M : zM) : Prop := AW l m_X0_doneOf (zTi m_X0_doneOf P) 5 [(0, zr 0 b), (1, zi v1), (2, zi v2), (3, zi v3), (4, zi v4)] [] M
theorem vX0_doneOf_5 {l : Launch} {P : Int → zM → Prop} {b : Nat} {v1 : Int} {v2 : Int} {v3 : Int} {v4 : Int} {M : zM}
    (H0 : (zI v4 ∧ zI (M 0 b 8) ∧ ((M 0 b 8) ≤ v4 → P v3 M) ∧ (v4 < (M 0 b 8) → ((bkW M b ∧ zI v1 ∧ zI v4) ∧ (zI (rslt M b v1 v4 / 4) ∧ zI v2 ∧ ((rslt M b v1 v4 / 4) ≠ v2 → LX0_doneOf_5 l P b v1 v2 v3 (v4 + 1) M) ∧ ((rslt M b v1 v4 / 4) = v2 → LX0_doneOf_5 l P b v1 v2 (v3 + 1) (v4 + 1) M)))))) :
    LX0_doneOf_5 l P b v1 v2 v3 v4 M :=
(aw_iload d_X0_doneOf_5 rfl 4 rfl
(aw_aload_n d_X0_doneOf_7 rfl rfl 0 rfl (by decide)
(aw_getI (kc := 8) d_X0_doneOf_8 rfl fl0_92 rfl rfl
(have z1 := H0.1; have z2 := H0.2.1; have e3 := H0.2.2; aw_icmp_ge d_X0_doneOf_11 rfl rfl z1 z2 (fun c4 => have e6 := e3.1 c4; (aw_iload_n d_X0_doneOf_34 rfl rfl 3 rfl
(aw_ri d_X0_doneOf_35 rfl e6))) (fun c5 => have e7 := e3.2 c5; (aw_aload_n d_X0_doneOf_14 rfl rfl 0 rfl (by decide)
(aw_iload_n d_X0_doneOf_15 rfl rfl 1 rfl
(aw_iload d_X0_doneOf_16 rfl 4 rfl
(have z8 := e7.1; have e9 := e7.2; (aw_VI (As := [zi v1, zi v4]) (st := []) d_X0_doneOf_18 rfl cv0_114 ⟨Nat.le_of_ble_eq_true rfl, Nat.le_of_ble_eq_true rfl⟩ rfl rfl (Nat.le_of_ble_eq_true rfl) (Nat.le_of_ble_eq_true rfl) (s_X0_traderAt z8) (fun _ _ hq => aw_eqs hq
(aw_iload_n d_X0_doneOf_21 rfl rfl 2 rfl
(have z10 := e9.1; have z11 := e9.2.1; have e12 := e9.2.2; aw_icmp_ne d_X0_doneOf_22 rfl rfl z10 z11 (fun c13 => have e15 := e12.1 c13; (aw_iinc (lv' := [(4, zi (v4 + 1)), (0, zr 0 b), (1, zi v1), (2, zi v2), (3, zi v3)]) (y := (v4 + 1)) d_X0_doneOf_28 rfl 4 rfl (by decide) rfl rfl
(aw_goto d_X0_doneOf_31 rfl
(aw_sub [1, 2, 3, 4, 0] rfl e15)))) (fun c14 => have e16 := e12.2 c14; (aw_iinc (lv' := [(3, zi (v3 + 1)), (0, zr 0 b), (1, zi v1), (2, zi v2), (4, zi v4)]) (y := (v3 + 1)) d_X0_doneOf_25 rfl 3 rfl (by decide) rfl rfl
(aw_iinc (lv' := [(4, zi (v4 + 1)), (3, zi (v3 + 1)), (0, zr 0 b), (1, zi v1), (2, zi v2)]) (y := (v4 + 1)) d_X0_doneOf_28 rfl 4 rfl (by decide) rfl rfl
(aw_goto d_X0_doneOf_31 rfl
(aw_sub [2, 3, 4, 1, 0] rfl e16))))))))))))))))))
theorem vX0_doneOf {l : Launch} {P : Int → zM → Prop} {b : Nat} {v1 : Int} {v2 : Int} {M : zM}
    (H0 : LX0_doneOf_5 l P b v1 v2 0 0 M) :
    CI l m_X0_doneOf [zr 0 b, zi v1, zi v2] M P :=
(aw_iconst d_X0_doneOf_0 rfl
(aw_istore_n (lv' := [(3, zi 0), (0, zr 0 b), (1, zi v1), (2, zi v2)]) d_X0_doneOf_1 rfl rfl (by decide) rfl
(aw_iconst d_X0_doneOf_2 rfl
(aw_istore (lv' := [(4, zi 0), (3, zi 0), (0, zr 0 b), (1, zi v1), (2, zi v2)]) d_X0_doneOf_3 rfl (by decide) rfl
(aw_sub [2, 3, 4, 1, 0] rfl H0)))))
def LX0_amountsDone_5 (l : Launch) (P : Int → zM → Prop) (b : Nat) (v1 : Int) (v2 : Int) (v3 : Int) (v4 : Int) (M : zM) : Prop := AW l m_X0_amountsDone (zTi m_X0_amountsDone P) 5 [(0, zr 0 b), (1, zi v1), (2, zi v2), (3, zi v3), (4, zi v4)] [] M
theorem vX0_amountsDone_5 {l : Launch} {P : Int → zM → Prop} {b : Nat} {v1 : Int} {v2 : Int} {v3 : Int} {v4 : Int} {M : zM}
    (H0 : (zI v4 ∧ zI (M 0 b 8) ∧ ((M 0 b 8) ≤ v4 → P v3 M) ∧ (v4 < (M 0 b 8) → ((bkW M b ∧ zI v1 ∧ zI v4) ∧ (zI (rslt M b v1 v4 / 4) ∧ zI v2 ∧ ((rslt M b v1 v4 / 4) ≠ v2 → LX0_amountsDone_5 l P b v1 v2 v3 (v4 + 1) M) ∧ ((rslt M b v1 v4 / 4) = v2 → ((bkW M b ∧ zI v1 ∧ zI v4) ∧ LX0_amountsDone_5 l P b v1 v2 (v3 + (if v1 = 0 then rbid M b v4 else rask M b v4)) (v4 + 1) M))))))) :
    LX0_amountsDone_5 l P b v1 v2 v3 v4 M :=
(aw_iload d_X0_amountsDone_5 rfl 4 rfl
(aw_aload_n d_X0_amountsDone_7 rfl rfl 0 rfl (by decide)
(aw_getI (kc := 8) d_X0_amountsDone_8 rfl fl0_92 rfl rfl
(have z1 := H0.1; have z2 := H0.2.1; have e3 := H0.2.2; aw_icmp_ge d_X0_amountsDone_11 rfl rfl z1 z2 (fun c4 => have e6 := e3.1 c4; (aw_iload_n d_X0_amountsDone_41 rfl rfl 3 rfl
(aw_ri d_X0_amountsDone_42 rfl e6))) (fun c5 => have e7 := e3.2 c5; (aw_aload_n d_X0_amountsDone_14 rfl rfl 0 rfl (by decide)
(aw_iload_n d_X0_amountsDone_15 rfl rfl 1 rfl
(aw_iload d_X0_amountsDone_16 rfl 4 rfl
(have z8 := e7.1; have e9 := e7.2; (aw_VI (As := [zi v1, zi v4]) (st := []) d_X0_amountsDone_18 rfl cv0_114 ⟨Nat.le_of_ble_eq_true rfl, Nat.le_of_ble_eq_true rfl⟩ rfl rfl (Nat.le_of_ble_eq_true rfl) (Nat.le_of_ble_eq_true rfl) (s_X0_traderAt z8) (fun _ _ hq => aw_eqs hq
(aw_iload_n d_X0_amountsDone_21 rfl rfl 2 rfl
(have z10 := e9.1; have z11 := e9.2.1; have e12 := e9.2.2; aw_icmp_ne d_X0_amountsDone_22 rfl rfl z10 z11 (fun c13 => have e15 := e12.1 c13; (aw_iinc (lv' := [(4, zi (v4 + 1)), (0, zr 0 b), (1, zi v1), (2, zi v2), (3, zi v3)]) (y := (v4 + 1)) d_X0_amountsDone_35 rfl 4 rfl (by decide) rfl rfl
(aw_goto d_X0_amountsDone_38 rfl
(aw_sub [1, 2, 3, 4, 0] rfl e15)))) (fun c14 => have e16 := e12.2 c14; (aw_iload_n d_X0_amountsDone_25 rfl rfl 3 rfl
(aw_aload_n d_X0_amountsDone_26 rfl rfl 0 rfl (by decide)
(aw_iload_n d_X0_amountsDone_27 rfl rfl 1 rfl
(aw_iload d_X0_amountsDone_28 rfl 4 rfl
(have z17 := e16.1; have e18 := e16.2; (aw_VI (As := [zi v1, zi v4]) (st := [zi v3]) d_X0_amountsDone_30 rfl cv0_126 ⟨Nat.le_of_ble_eq_true rfl, Nat.le_of_ble_eq_true rfl⟩ rfl rfl (Nat.le_of_ble_eq_true rfl) (Nat.le_of_ble_eq_true rfl) (s_X0_amount z17) (fun _ _ hq => aw_eqs hq
(aw_iadd d_X0_amountsDone_33 rfl
(aw_istore_n (lv' := [(3, zi (v3 + (if v1 = 0 then rbid M b v4 else rask M b v4))), (0, zr 0 b), (1, zi v1), (2, zi v2), (4, zi v4)]) d_X0_amountsDone_34 rfl rfl (by decide) rfl
(aw_iinc (lv' := [(4, zi (v4 + 1)), (3, zi (v3 + (if v1 = 0 then rbid M b v4 else rask M b v4))), (0, zr 0 b), (1, zi v1), (2, zi v2)]) (y := (v4 + 1)) d_X0_amountsDone_35 rfl 4 rfl (by decide) rfl rfl
(aw_goto d_X0_amountsDone_38 rfl
(aw_sub [2, 3, 4, 1, 0] rfl e18))))))))))))))))))))))))))
theorem vX0_amountsDone {l : Launch} {P : Int → zM → Prop} {b : Nat} {v1 : Int} {v2 : Int} {M : zM}
    (H0 : LX0_amountsDone_5 l P b v1 v2 0 0 M) :
    CI l m_X0_amountsDone [zr 0 b, zi v1, zi v2] M P :=
(aw_iconst d_X0_amountsDone_0 rfl
(aw_istore_n (lv' := [(3, zi 0), (0, zr 0 b), (1, zi v1), (2, zi v2)]) d_X0_amountsDone_1 rfl rfl (by decide) rfl
(aw_iconst d_X0_amountsDone_2 rfl
(aw_istore (lv' := [(4, zi 0), (3, zi 0), (0, zr 0 b), (1, zi v1), (2, zi v2)]) d_X0_amountsDone_3 rfl (by decide) rfl
(aw_sub [2, 3, 4, 1, 0] rfl H0)))))
theorem c_X0_doneOf {z t : Int} (g : gd B A) (hf : 0 ≤ f ∧ f ≤ 500) (s : bkS M b B A f w) (hz : z = 0 ∨ z = 1) (zt : zI t) :
    CI l m_X0_doneOf [zr 0 b, zi z, zi t] M (fun x M' => x = cnt (if z = 0 then B else A) t (dN B A f w) ∧ M' = M) := by
  have wk := s.W g hf
  have h1 := dN_b (B := B) (A := A) (f := f) (w := w)
  have h2 := tT_b (f := f) (B := B) (A := A)
  have h3 := g.1
  have e8 := s.2.1.2.2.2.2
  have loop : ∀ (n : Nat) (k : Int), (dN B A f w - k).toNat = n → 0 ≤ k ∧ k ≤ dN B A f w → LX0_doneOf_5 l (fun x M' => x = cnt (if z = 0 then B else A) t (dN B A f w) ∧ M' = M) b z t (cnt (if z = 0 then B else A) t k) k M := by
    intro n
    induction n with
    | zero =>
      intro k hn hk
      have : k = dN B A f w := by omega
      subst this
      exact vX0_doneOf_5 ⟨by omega, by omega, fun _ => ⟨rfl, rfl⟩, fun e => by omega⟩
    | succ n ih =>
      intro k hn hk
      have hs := rslt_b (z := z) (k := k) wk
      have ht := s.trd (z := z) k (by split <;> omega)
      have ih2 := ih (k + 1) (by omega) (by omega)
      rw [cnt_s hk.1, ← ht] at ih2
      refine vX0_doneOf_5 ⟨by omega, by omega, fun e => by omega, fun _ => ⟨⟨wk, by omega, by omega⟩, by omega, zt, fun e => ?_, fun e => ?_⟩⟩
      · rw [if_neg e, Int.add_zero] at ih2
        exact ih2
      · rw [if_pos e] at ih2
        exact ih2
  exact vX0_doneOf (loop _ 0 rfl (by omega))
theorem c_X0_amountsDone {z t : Int} (g : gd B A) (hf : 0 ≤ f ∧ f ≤ 500) (s : bkS M b B A f w) (hz : z = 0 ∨ z = 1) (zt : zI t) :
    CI l m_X0_amountsDone [zr 0 b, zi z, zi t] M (fun x M' => x = (if z = 0 then say1 (gB B) B t (dN B A f w) else say1 (gA f A) A t (dN B A f w)) ∧ M' = M) := by
  have wk := s.W g hf
  have h1 := dN_b (B := B) (A := A) (f := f) (w := w)
  have h2 := tT_b (f := f) (B := B) (A := A)
  have h3 := g.1
  have e8 := s.2.1.2.2.2.2
  have er : (if z = 0 then say1 (gB B) B t (dN B A f w) else say1 (gA f A) A t (dN B A f w)) = say1 (if z = 0 then gB B else gA f A) (if z = 0 then B else A) t (dN B A f w) := by split <;> rfl
  rw [er]
  have loop : ∀ (n : Nat) (k : Int), (dN B A f w - k).toNat = n → 0 ≤ k ∧ k ≤ dN B A f w → LX0_amountsDone_5 l (fun x M' => x = say1 (if z = 0 then gB B else gA f A) (if z = 0 then B else A) t (dN B A f w) ∧ M' = M) b z t (say1 (if z = 0 then gB B else gA f A) (if z = 0 then B else A) t k) k M := by
    intro n
    induction n with
    | zero =>
      intro k hn hk
      have : k = dN B A f w := by omega
      subst this
      exact vX0_amountsDone_5 ⟨by omega, by omega, fun _ => ⟨rfl, rfl⟩, fun e => by omega⟩
    | succ n ih =>
      intro k hn hk
      have hs := rslt_b (z := z) (k := k) wk
      have ht := s.trd (z := z) k (by split <;> omega)
      have ih2 := ih (k + 1) (by omega) (by omega)
      rw [say1_s hk.1, ← ht] at ih2
      refine vX0_amountsDone_5 ⟨by omega, by omega, fun e => by omega, fun _ => ⟨⟨wk, by omega, by omega⟩, by omega, zt, fun e => ?_, fun e => ⟨⟨wk, by omega, by omega⟩, ?_⟩⟩⟩
      · rw [if_neg e, Int.add_zero] at ih2
        exact ih2
      · rw [if_pos e] at ih2
        have ea : (if z = 0 then rbid M b k else rask M b k) = (if z = 0 then gB B else gA f A) k := by
          rw [s.bid (by omega), s.ask (by omega)]; split <;> rfl
        rw [ea]
        exact ih2
  exact vX0_amountsDone (loop _ 0 rfl (by omega))
def LX0_worthWithout_7 (l : Launch) (P : Int → zM → Prop) (b : Nat) (v1 : Int) (v2 : Int) (v3 : Int) (v4 : Int) (M : zM) : Prop := AW l m_X0_worthWithout (zTi m_X0_worthWithout P) 7 [(0, zr 0 b), (1, zi v1), (2, zi v2), (3, zi v3), (4, zi v4)] [] M
def LX0_worthWithout_30 (l : Launch) (P : Int → zM → Prop) (b : Nat) (v1 : Int) (v2 : Int) (v3 : Int) (v4 : Int) (M : zM) : Prop := AW l m_X0_worthWithout (zTi m_X0_worthWithout P) 30 [(0, zr 0 b), (1, zi v1), (2, zi v2), (3, zi v3), (4, zi v4)] [] M
theorem vX0_worthWithout_7 {l : Launch} {P : Int → zM → Prop} {b : Nat} {v1 : Int} {v2 : Int} {v3 : Int} {v4 : Int} {M : zM}
    (H0 : (zI v4 ∧ zI (M 0 b 2) ∧ ((M 0 b 2) ≤ v4 → P v2 M) ∧ (v4 < (M 0 b 2) → ((bkW M b ∧ zI 0 ∧ zI v4) ∧ (zI (rslt M b 0 v4 / 4) ∧ zI v1 ∧ ((rslt M b 0 v4 / 4) ≠ v1 → LX0_worthWithout_30 l P b v1 v2 v3 v4 M) ∧ ((rslt M b 0 v4 / 4) = v1 → LX0_worthWithout_7 l P b v1 v2 v3 (v4 + 1) M)))))) :
    LX0_worthWithout_7 l P b v1 v2 v3 v4 M :=
(aw_iload d_X0_worthWithout_7 rfl 4 rfl
(aw_aload_n d_X0_worthWithout_9 rfl rfl 0 rfl (by decide)
(aw_getI (kc := 2) d_X0_worthWithout_10 rfl fl0_18 rfl rfl
(have z1 := H0.1; have z2 := H0.2.1; have e3 := H0.2.2; aw_icmp_ge d_X0_worthWithout_13 rfl rfl z1 z2 (fun c4 => have e6 := e3.1 c4; (aw_iload_n d_X0_worthWithout_103 rfl rfl 2 rfl
(aw_ri d_X0_worthWithout_104 rfl e6))) (fun c5 => have e7 := e3.2 c5; (aw_aload_n d_X0_worthWithout_16 rfl rfl 0 rfl (by decide)
(aw_iconst d_X0_worthWithout_17 rfl
(aw_iload d_X0_worthWithout_18 rfl 4 rfl
(have z8 := e7.1; have e9 := e7.2; (aw_VI (As := [zi 0, zi v4]) (st := []) d_X0_worthWithout_20 rfl cv0_114 ⟨Nat.le_of_ble_eq_true rfl, Nat.le_of_ble_eq_true rfl⟩ rfl rfl (Nat.le_of_ble_eq_true rfl) (Nat.le_of_ble_eq_true rfl) (s_X0_traderAt z8) (fun _ _ hq => aw_eqs hq
(aw_iload_n d_X0_worthWithout_23 rfl rfl 1 rfl
(have z10 := e9.1; have z11 := e9.2.1; have e12 := e9.2.2; aw_icmp_ne d_X0_worthWithout_24 rfl rfl z10 z11 (fun c13 => have e15 := e12.1 c13; e15) (fun c14 => have e16 := e12.2 c14; (aw_goto d_X0_worthWithout_27 rfl
(aw_iinc (lv' := [(4, zi (v4 + 1)), (0, zr 0 b), (1, zi v1), (2, zi v2), (3, zi v3)]) (y := (v4 + 1)) d_X0_worthWithout_97 rfl 4 rfl (by decide) rfl rfl
(aw_goto d_X0_worthWithout_100 rfl
(aw_sub [1, 2, 3, 4, 0] rfl e16))))))))))))))))))
theorem vX0_worthWithout_30 {l : Launch} {P : Int → zM → Prop} {b : Nat} {v1 : Int} {v2 : Int} {v3 : Int} {v4 : Int} {M : zM}
    (H0 : (zI v3 ∧ zI (M 0 b 3) ∧ ((M 0 b 3) ≤ v3 → P v2 M) ∧ (v3 < (M 0 b 3) → ((bkW M b ∧ zI 1 ∧ zI v3) ∧ (zI (rslt M b 1 v3 / 4) ∧ zI v1 ∧ ((rslt M b 1 v3 / 4) ≠ v1 → ((bkW M b ∧ zI v4) ∧ ((bkW M b ∧ zI v3) ∧ (zI (rbid M b v4) ∧ zI (rask M b v3) ∧ ((rask M b v3) ≤ (rbid M b v4) → LX0_worthWithout_7 l P b v1 (v2 + ((rbid M b v4) - (rask M b v3))) (v3 + 1) (v4 + 1) M) ∧ ((rbid M b v4) < (rask M b v3) → P v2 M))))) ∧ ((rslt M b 1 v3 / 4) = v1 → LX0_worthWithout_30 l P b v1 v2 (v3 + 1) v4 M)))))) :
    LX0_worthWithout_30 l P b v1 v2 v3 v4 M :=
(aw_iload_n d_X0_worthWithout_30 rfl rfl 3 rfl
(aw_aload_n d_X0_worthWithout_31 rfl rfl 0 rfl (by decide)
(aw_getI (kc := 3) d_X0_worthWithout_32 rfl fl0_22 rfl rfl
(have z17 := H0.1; have z18 := H0.2.1; have e19 := H0.2.2; aw_icmp_ge d_X0_worthWithout_35 rfl rfl z17 z18 (fun c20 => have e22 := e19.1 c20; (aw_iload_n d_X0_worthWithout_54 rfl rfl 3 rfl
(aw_aload_n d_X0_worthWithout_55 rfl rfl 0 rfl (by decide)
(aw_getI (kc := 3) d_X0_worthWithout_56 rfl fl0_22 rfl rfl
(aw_icmp_ge d_X0_worthWithout_59 rfl rfl z17 z18 (fun _ => (aw_iload_n d_X0_worthWithout_103 rfl rfl 2 rfl
(aw_ri d_X0_worthWithout_104 rfl e22))) (fun c24 => absurd c20 (by omega))))))) (fun c21 => have e23 := e19.2 c21; (aw_aload_n d_X0_worthWithout_38 rfl rfl 0 rfl (by decide)
(aw_iconst d_X0_worthWithout_39 rfl
(aw_iload_n d_X0_worthWithout_40 rfl rfl 3 rfl
(have z25 := e23.1; have e26 := e23.2; (aw_VI (As := [zi 1, zi v3]) (st := []) d_X0_worthWithout_41 rfl cv0_114 ⟨Nat.le_of_ble_eq_true rfl, Nat.le_of_ble_eq_true rfl⟩ rfl rfl (Nat.le_of_ble_eq_true rfl) (Nat.le_of_ble_eq_true rfl) (s_X0_traderAt z25) (fun _ _ hq => aw_eqs hq
(aw_iload_n d_X0_worthWithout_44 rfl rfl 1 rfl
(have z27 := e26.1; have z28 := e26.2.1; have e29 := e26.2.2; aw_icmp_ne d_X0_worthWithout_45 rfl rfl z27 z28 (fun c30 => have e32 := e29.1 c30; (aw_iload_n d_X0_worthWithout_54 rfl rfl 3 rfl
(aw_aload_n d_X0_worthWithout_55 rfl rfl 0 rfl (by decide)
(aw_getI (kc := 3) d_X0_worthWithout_56 rfl fl0_22 rfl rfl
(aw_icmp_ge d_X0_worthWithout_59 rfl rfl z17 z18 (fun c34 => absurd c21 (by omega)) (fun _ => (aw_aload_n d_X0_worthWithout_62 rfl rfl 0 rfl (by decide)
(aw_iload d_X0_worthWithout_63 rfl 4 rfl
(have z35 := e32.1; have e36 := e32.2; (aw_VI (As := [zi v4]) (st := []) d_X0_worthWithout_65 rfl cv0_80 ⟨Nat.le_of_ble_eq_true rfl, Nat.le_of_ble_eq_true rfl⟩ rfl rfl (Nat.le_of_ble_eq_true rfl) (Nat.le_of_ble_eq_true rfl) (s_X0_bid z35) (fun _ _ hq => aw_eqs hq
(aw_aload_n d_X0_worthWithout_68 rfl rfl 0 rfl (by decide)
(aw_iload_n d_X0_worthWithout_69 rfl rfl 3 rfl
(have z37 := e36.1; have e38 := e36.2; (aw_VI (As := [zi v3]) (st := [zi (rbid M b v4)]) d_X0_worthWithout_70 rfl cv0_77 ⟨Nat.le_of_ble_eq_true rfl, Nat.le_of_ble_eq_true rfl⟩ rfl rfl (Nat.le_of_ble_eq_true rfl) (Nat.le_of_ble_eq_true rfl) (s_X0_ask z37) (fun _ _ hq => aw_eqs hq
(have z39 := e38.1; have z40 := e38.2.1; have e41 := e38.2.2; aw_icmp_ge d_X0_worthWithout_73 rfl rfl z39 z40 (fun c42 => have e44 := e41.1 c42; (aw_iload_n d_X0_worthWithout_79 rfl rfl 2 rfl
(aw_aload_n d_X0_worthWithout_80 rfl rfl 0 rfl (by decide)
(aw_iload d_X0_worthWithout_81 rfl 4 rfl
(aw_VI (As := [zi v4]) (st := [zi v2]) d_X0_worthWithout_83 rfl cv0_80 ⟨Nat.le_of_ble_eq_true rfl, Nat.le_of_ble_eq_true rfl⟩ rfl rfl (Nat.le_of_ble_eq_true rfl) (Nat.le_of_ble_eq_true rfl) (s_X0_bid z35) (fun _ _ hq => aw_eqs hq
(aw_aload_n d_X0_worthWithout_86 rfl rfl 0 rfl (by decide)
(aw_iload_n d_X0_worthWithout_87 rfl rfl 3 rfl
(aw_VI (As := [zi v3]) (st := [zi (rbid M b v4), zi v2]) d_X0_worthWithout_88 rfl cv0_77 ⟨Nat.le_of_ble_eq_true rfl, Nat.le_of_ble_eq_true rfl⟩ rfl rfl (Nat.le_of_ble_eq_true rfl) (Nat.le_of_ble_eq_true rfl) (s_X0_ask z37) (fun _ _ hq => aw_eqs hq
(aw_isub d_X0_worthWithout_91 rfl
(aw_iadd d_X0_worthWithout_92 rfl
(aw_istore_n (lv' := [(2, zi (v2 + ((rbid M b v4) - (rask M b v3)))), (0, zr 0 b), (1, zi v1), (3, zi v3), (4, zi v4)]) d_X0_worthWithout_93 rfl rfl (by decide) rfl
(aw_iinc (lv' := [(3, zi (v3 + 1)), (2, zi (v2 + ((rbid M b v4) - (rask M b v3)))), (0, zr 0 b), (1, zi v1), (4, zi v4)]) (y := (v3 + 1)) d_X0_worthWithout_94 rfl 3 rfl (by decide) rfl rfl
(aw_iinc (lv' := [(4, zi (v4 + 1)), (3, zi (v3 + 1)), (2, zi (v2 + ((rbid M b v4) - (rask M b v3)))), (0, zr 0 b), (1, zi v1)]) (y := (v4 + 1)) d_X0_worthWithout_97 rfl 4 rfl (by decide) rfl rfl
(aw_goto d_X0_worthWithout_100 rfl
(aw_sub [3, 4, 2, 1, 0] rfl e44))))))))))))))))) (fun c43 => have e45 := e41.2 c43; (aw_goto d_X0_worthWithout_76 rfl
(aw_iload_n d_X0_worthWithout_103 rfl rfl 2 rfl
(aw_ri d_X0_worthWithout_104 rfl e45))))))))))))))))))))) (fun c31 => have e33 := e29.2 c31; (aw_iinc (lv' := [(3, zi (v3 + 1)), (0, zr 0 b), (1, zi v1), (2, zi v2), (4, zi v4)]) (y := (v3 + 1)) d_X0_worthWithout_48 rfl 3 rfl (by decide) rfl rfl
(aw_goto d_X0_worthWithout_51 rfl
(aw_sub [1, 2, 3, 0, 4] rfl e33)))))))))))))))))
theorem vX0_worthWithout {l : Launch} {P : Int → zM → Prop} {b : Nat} {v1 : Int} {M : zM}
    (H0 : LX0_worthWithout_7 l P b v1 0 0 0 M) :
    CI l m_X0_worthWithout [zr 0 b, zi v1] M P :=
(aw_iconst d_X0_worthWithout_0 rfl
(aw_istore_n (lv' := [(2, zi 0), (0, zr 0 b), (1, zi v1)]) d_X0_worthWithout_1 rfl rfl (by decide) rfl
(aw_iconst d_X0_worthWithout_2 rfl
(aw_istore_n (lv' := [(3, zi 0), (2, zi 0), (0, zr 0 b), (1, zi v1)]) d_X0_worthWithout_3 rfl rfl (by decide) rfl
(aw_iconst d_X0_worthWithout_4 rfl
(aw_istore (lv' := [(4, zi 0), (3, zi 0), (2, zi 0), (0, zr 0 b), (1, zi v1)]) d_X0_worthWithout_5 rfl (by decide) rfl
(aw_sub [3, 4, 2, 1, 0] rfl H0)))))))
theorem c_X0_worthWithout {t : Int} (g : gd B A) (hf : 0 ≤ f ∧ f ≤ 500) (s : bkS M b B A f w) (zt : zI t) :
    CI l m_X0_worthWithout [zr 0 b, zi t] M (fun x M' => x = mWo B A f t ∧ M' = M) := by
  have wk := s.W g hf
  have h3 := g.1
  have b2 := s.1.1
  have b3 := s.1.2.1
  have step : ∀ (R : List Int) (k : Int), 0 ≤ k ∧ k < (R.length : Int) → (R.drop k.toNat).filter (fun x => !decide (ktr x = t)) = if ktr (R.getD k.toNat 0) = t then (R.drop (k + 1).toNat).filter (fun x => !decide (ktr x = t)) else R.getD k.toNat 0 :: (R.drop (k + 1).toNat).filter (fun x => !decide (ktr x = t)) := by
    intro R k hk
    rw [drop_at hk, List.filter_cons]
    by_cases c : ktr (R.getD k.toNat 0) = t
    · rw [if_pos c, if_neg (by simpa using c)]
    · rw [if_neg c, if_pos (by simpa using c)]
  have loop : ∀ (n m : Nat) (i j sum : Int), ((B.length : Int) - i).toNat = n → ((A.length : Int) - j).toNat = m → 0 ≤ i ∧ i ≤ (B.length : Int) → 0 ≤ j ∧ j ≤ (A.length : Int) →
      sum + tW f ((B.drop i.toNat).filter (fun x => !decide (ktr x = t))) ((A.drop j.toNat).filter (fun x => !decide (ktr x = t))) = mWo B A f t →
      LX0_worthWithout_7 l (fun x M' => x = mWo B A f t ∧ M' = M) b t sum j i M := by
    intro n
    induction n with
    | zero =>
      intro m i j sum hn hm hi hj hs
      refine vX0_worthWithout_7 ⟨by omega, by omega, fun _ => ⟨?_, rfl⟩, fun e => by omega⟩
      rw [drop_end (by omega), List.filter_nil, tW_nil1] at hs
      omega
    | succ n ih =>
      intro m i j sum hn hm hi hj hs
      have hsl := rslt_b (z := 0) (k := i) wk
      have ht := s.trd (z := 0) i (by rw [if_pos rfl]; omega)
      rw [if_pos rfl] at ht
      refine vX0_worthWithout_7 ⟨by omega, by omega, fun e => by omega, fun _ => ⟨⟨wk, by omega, by omega⟩, by omega, zt, fun e => ?_, fun e => ?_⟩⟩
      · rw [ht] at e
        have inner : ∀ (m : Nat) (j : Int), ((A.length : Int) - j).toNat = m → 0 ≤ j ∧ j ≤ (A.length : Int) → sum + tW f ((B.drop i.toNat).filter (fun x => !decide (ktr x = t))) ((A.drop j.toNat).filter (fun x => !decide (ktr x = t))) = mWo B A f t →
            LX0_worthWithout_30 l (fun x M' => x = mWo B A f t ∧ M' = M) b t sum j i M := by
          intro m
          induction m with
          | zero =>
            intro j hm hj hs
            refine vX0_worthWithout_30 ⟨by omega, by omega, fun _ => ⟨?_, rfl⟩, fun e => by omega⟩
            rw [drop_end (L := A) (by omega), List.filter_nil, tW_nil2] at hs
            omega
          | succ m ihm =>
            intro j hm hj hs
            have hsl := rslt_b (z := 1) (k := j) wk
            have ht1 := s.trd (z := 1) j (by rw [if_neg (by decide)]; omega)
            rw [if_neg (by decide)] at ht1
            have q1 := gB_in g (k := i) (by omega)
            have q2 := gA_in g (f := f) (k := j) (by omega)
            rw [step A j (by omega)] at hs
            refine vX0_worthWithout_30 ⟨by omega, by omega, fun e => by omega, fun _ => ⟨⟨wk, by omega, by omega⟩, by omega, zt, fun e2 => ?_, fun e2 => ?_⟩⟩
            · rw [ht1] at e2
              rw [step B i (by omega), if_neg e, if_neg e2, tW] at hs
              rw [s.bid (by omega), s.ask (by omega)]
              refine ⟨⟨wk, by omega⟩, ⟨wk, by omega⟩, by omega, by omega, fun c => ?_, fun c => ⟨?_, rfl⟩⟩
              · rw [if_pos (by unfold gB gA at c; exact c)] at hs
                refine ih _ (i + 1) (j + 1) _ (by omega) rfl (by omega) (by omega) ?_
                rw [← hs]
                unfold gB gA
                omega
              · rw [if_neg (by unfold gB gA at c; omega)] at hs
                omega
            · rw [ht1] at e2
              rw [if_pos e2] at hs
              exact ihm (j + 1) (by omega) (by omega) hs
        exact inner m j hm hj hs
      · rw [ht] at e
        rw [step B i (by omega), if_pos e] at hs
        exact ih m (i + 1) j sum (by omega) hm (by omega) hj hs
  refine vX0_worthWithout (loop _ _ 0 0 0 rfl rfl (by omega) (by omega) ?_)
  show 0 + tW f (B.filter _) (A.filter _) = _
  rw [Int.zero_add]
  rfl
theorem vX0_moneyOf {l : Launch} {P : Int → zM → Prop} {b : Nat} {v1 : Int} {v2 : Int} {M : zM}
    (H0 : (CI l m_X0_doneOf [zr 0 b, zi v1, zi v2] M (fun x4 M1 => (zI x4 ∧ (x4 ≠ 0 → (zI (M1 0 b 5) ∧ ((M1 0 b 5) = 3 → (CI l m_X0_amountsDone [zr 0 b, zi v1, zi v2] M1 (fun x20 M17 => (CI l m_X0_worthWithout [zr 0 b, zi v2] M17 (fun x24 M21 => (zI v1 ∧ (v1 = 0 → P (x24 - ((M21 0 b 7) - x20)) M21) ∧ (v1 ≠ 0 → P ((((M21 0 b 7) + x20) - x24) - (x4 * (M21 0 b 4))) M21))))))) ∧ ((M1 0 b 5) ≠ 3 → (zI v1 ∧ (v1 = 0 → P (x4 * (M1 0 b 9)) M1) ∧ (v1 ≠ 0 → P (x4 * (M1 0 b 10)) M1))))) ∧ (x4 = 0 → P 0 M1))))) :
    CI l m_X0_moneyOf [zr 0 b, zi v1, zi v2] M P :=
(aw_aload_n d_X0_moneyOf_0 rfl rfl 0 rfl (by decide)
(aw_iload_n d_X0_moneyOf_1 rfl rfl 1 rfl
(aw_iload_n d_X0_moneyOf_2 rfl rfl 2 rfl
(aw_VI (As := [zi v1, zi v2]) (st := []) d_X0_moneyOf_3 rfl cv0_117 ⟨Nat.le_of_ble_eq_true rfl, Nat.le_of_ble_eq_true rfl⟩ rfl rfl (Nat.le_of_ble_eq_true rfl) (Nat.le_of_ble_eq_true rfl) H0 (fun x4 M1 e2 => (aw_istore_n (lv' := [(3, zi x4), (0, zr 0 b), (1, zi v1), (2, zi v2)]) d_X0_moneyOf_6 rfl rfl (by decide) rfl
(aw_iload_n d_X0_moneyOf_7 rfl rfl 0 rfl
(have z5 := e2.1; have e6 := e2.2; aw_if_ne d_X0_moneyOf_8 rfl rfl z5 (fun c7 => have e9 := e6.1 c7; (aw_aload_n d_X0_moneyOf_13 rfl rfl 1 rfl (by decide)
(aw_getI (kc := 5) d_X0_moneyOf_14 rfl fl0_86 rfl rfl
(aw_iconst d_X0_moneyOf_17 rfl
(have z11 := e9.1; have e12 := e9.2; aw_icmp_eq d_X0_moneyOf_18 rfl rfl z11 (by decide) (fun c13 => have e15 := e12.1 c13; (aw_aload_n d_X0_moneyOf_39 rfl rfl 1 rfl (by decide)
(aw_iload_n d_X0_moneyOf_40 rfl rfl 2 rfl
(aw_iload_n d_X0_moneyOf_41 rfl rfl 3 rfl
(aw_VI (As := [zi v1, zi v2]) (st := []) d_X0_moneyOf_42 rfl cv0_120 ⟨Nat.le_of_ble_eq_true rfl, Nat.le_of_ble_eq_true rfl⟩ rfl rfl (Nat.le_of_ble_eq_true rfl) (Nat.le_of_ble_eq_true rfl) e15 (fun x20 M17 e18 => (aw_istore (lv' := [(4, zi x20), (3, zi x4), (0, zr 0 b), (1, zi v1), (2, zi v2)]) d_X0_moneyOf_45 rfl (by decide) rfl
(aw_aload_n d_X0_moneyOf_47 rfl rfl 2 rfl (by decide)
(aw_iload_n d_X0_moneyOf_48 rfl rfl 4 rfl
(aw_VI (As := [zi v2]) (st := []) d_X0_moneyOf_49 rfl cv0_123 ⟨Nat.le_of_ble_eq_true rfl, Nat.le_of_ble_eq_true rfl⟩ rfl rfl (Nat.le_of_ble_eq_true rfl) (Nat.le_of_ble_eq_true rfl) e18 (fun x24 M21 e22 => (aw_istore (lv' := [(5, zi x24), (4, zi x20), (3, zi x4), (0, zr 0 b), (1, zi v1), (2, zi v2)]) d_X0_moneyOf_52 rfl (by decide) rfl
(aw_iload_n d_X0_moneyOf_54 rfl rfl 4 rfl
(have z25 := e22.1; have e26 := e22.2; aw_if_eq d_X0_moneyOf_55 rfl rfl z25 (fun c27 => have e29 := e26.1 c27; (aw_iload d_X0_moneyOf_78 rfl 0 rfl
(aw_aload_n d_X0_moneyOf_80 rfl rfl 3 rfl (by decide)
(aw_getI (kc := 7) d_X0_moneyOf_81 rfl fl0_89 rfl rfl
(aw_iload d_X0_moneyOf_84 rfl 1 rfl
(aw_isub d_X0_moneyOf_86 rfl
(aw_isub d_X0_moneyOf_87 rfl
(aw_ri d_X0_moneyOf_88 rfl e29)))))))) (fun c28 => have e30 := e26.2 c28; (aw_aload_n d_X0_moneyOf_58 rfl rfl 3 rfl (by decide)
(aw_getI (kc := 7) d_X0_moneyOf_59 rfl fl0_89 rfl rfl
(aw_iload d_X0_moneyOf_62 rfl 1 rfl
(aw_iadd d_X0_moneyOf_64 rfl
(aw_iload d_X0_moneyOf_65 rfl 0 rfl
(aw_isub d_X0_moneyOf_67 rfl
(aw_iload_n d_X0_moneyOf_68 rfl rfl 2 rfl
(aw_aload_n d_X0_moneyOf_69 rfl rfl 3 rfl (by decide)
(aw_getI (kc := 4) d_X0_moneyOf_70 rfl fl0_74 rfl rfl
(aw_imul d_X0_moneyOf_73 rfl
(aw_isub d_X0_moneyOf_74 rfl
(aw_goto d_X0_moneyOf_75 rfl
(aw_ri d_X0_moneyOf_88 rfl e30)))))))))))))))))))))))))))) (fun c14 => have e16 := e12.2 c14; (aw_iload_n d_X0_moneyOf_21 rfl rfl 0 rfl
(aw_iload_n d_X0_moneyOf_22 rfl rfl 2 rfl
(have z31 := e16.1; have e32 := e16.2; aw_if_eq d_X0_moneyOf_23 rfl rfl z31 (fun c33 => have e35 := e32.1 c33; (aw_aload_n d_X0_moneyOf_33 rfl rfl 1 rfl (by decide)
(aw_getI (kc := 9) d_X0_moneyOf_34 rfl fl0_102 rfl rfl
(aw_imul d_X0_moneyOf_37 rfl
(aw_ri d_X0_moneyOf_38 rfl e35))))) (fun c34 => have e36 := e32.2 c34; (aw_aload_n d_X0_moneyOf_26 rfl rfl 1 rfl (by decide)
(aw_getI (kc := 10) d_X0_moneyOf_27 rfl fl0_108 rfl rfl
(aw_goto d_X0_moneyOf_30 rfl
(aw_imul d_X0_moneyOf_37 rfl
(aw_ri d_X0_moneyOf_38 rfl e36))))))))))))))) (fun c8 => have e10 := e6.2 c8; (aw_iconst d_X0_moneyOf_11 rfl
(aw_ri d_X0_moneyOf_12 rfl e10)))))))))))
def LX0_takings_51 (l : Launch) (P : Int → zM → Prop) (b : Nat) (v1 : Int) (v2 : Int) (M : zM) : Prop := AW l m_X0_takings (zTi m_X0_takings P) 51 [(0, zr 0 b), (1, zi v1), (2, zi v2)] [] M
theorem vX0_takings_51 {l : Launch} {P : Int → zM → Prop} {b : Nat} {v1 : Int} {v2 : Int} {M : zM}
    (H0 : (zI v2 ∧ (20 ≤ v2 → P v1 M) ∧ (v2 < 20 → (CI l m_X0_worthWithout [zr 0 b, zi v2] M (fun x22 M19 => LX0_takings_51 l P b (v1 - ((M 0 b 7) - x22)) (v2 + 1) M19))))) :
    LX0_takings_51 l P b v1 v2 M :=
(aw_iload_n d_X0_takings_51 rfl rfl 2 rfl
(aw_bipush d_X0_takings_52 rfl (by decide)
(have z13 := H0.1; have e14 := H0.2; aw_icmp_ge d_X0_takings_54 rfl rfl z13 (by decide) (fun c15 => have e17 := e14.1 c15; (aw_iload_n d_X0_takings_76 rfl rfl 1 rfl
(aw_ri d_X0_takings_77 rfl e17))) (fun c16 => have e18 := e14.2 c16; (aw_iload_n d_X0_takings_57 rfl rfl 1 rfl
(aw_aload_n d_X0_takings_58 rfl rfl 0 rfl (by decide)
(aw_getI (kc := 7) d_X0_takings_59 rfl fl0_89 rfl rfl
(aw_aload_n d_X0_takings_62 rfl rfl 0 rfl (by decide)
(aw_iload_n d_X0_takings_63 rfl rfl 2 rfl
(aw_VI (As := [zi v2]) (st := [zi (M 0 b 7), zi v1]) d_X0_takings_64 rfl cv0_123 ⟨Nat.le_of_ble_eq_true rfl, Nat.le_of_ble_eq_true rfl⟩ rfl rfl (Nat.le_of_ble_eq_true rfl) (Nat.le_of_ble_eq_true rfl) e18 (fun x22 M19 e20 => (aw_isub d_X0_takings_67 rfl
(aw_isub d_X0_takings_68 rfl
(aw_istore_n (lv' := [(1, zi (v1 - ((M 0 b 7) - x22))), (0, zr 0 b), (2, zi v2)]) d_X0_takings_69 rfl rfl (by decide) rfl
(aw_iinc (lv' := [(2, zi (v2 + 1)), (1, zi (v1 - ((M 0 b 7) - x22))), (0, zr 0 b)]) (y := (v2 + 1)) d_X0_takings_70 rfl 2 rfl (by decide) rfl rfl
(aw_goto d_X0_takings_73 rfl
(aw_sub [2, 1, 0] rfl e20)))))))))))))))))
theorem vX0_takings {l : Launch} {P : Int → zM → Prop} {b : Nat} {M : zM}
    (H0 : (zI (M 0 b 5) ∧ ((M 0 b 5) = 3 → LX0_takings_51 l P b ((M 0 b 7) + ((M 0 b 8) * (M 0 b 4))) 0 M) ∧ ((M 0 b 5) ≠ 3 → (zI (M 0 b 8) ∧ ((M 0 b 8) ≠ 0 → P ((M 0 b 8) * ((M 0 b 9) - (M 0 b 10))) M) ∧ ((M 0 b 8) = 0 → P 0 M))))) :
    CI l m_X0_takings [zr 0 b] M P :=
(aw_aload_n d_X0_takings_0 rfl rfl 0 rfl (by decide)
(aw_getI (kc := 5) d_X0_takings_1 rfl fl0_86 rfl rfl
(aw_iconst d_X0_takings_4 rfl
(have z1 := H0.1; have e2 := H0.2; aw_icmp_eq d_X0_takings_5 rfl rfl z1 (by decide) (fun c3 => have e5 := e2.1 c3; (aw_aload_n d_X0_takings_34 rfl rfl 0 rfl (by decide)
(aw_getI (kc := 7) d_X0_takings_35 rfl fl0_89 rfl rfl
(aw_aload_n d_X0_takings_38 rfl rfl 0 rfl (by decide)
(aw_getI (kc := 8) d_X0_takings_39 rfl fl0_92 rfl rfl
(aw_aload_n d_X0_takings_42 rfl rfl 0 rfl (by decide)
(aw_getI (kc := 4) d_X0_takings_43 rfl fl0_74 rfl rfl
(aw_imul d_X0_takings_46 rfl
(aw_iadd d_X0_takings_47 rfl
(aw_istore_n (lv' := [(1, zi ((M 0 b 7) + ((M 0 b 8) * (M 0 b 4)))), (0, zr 0 b)]) d_X0_takings_48 rfl rfl (by decide) rfl
(aw_iconst d_X0_takings_49 rfl
(aw_istore_n (lv' := [(2, zi 0), (1, zi ((M 0 b 7) + ((M 0 b 8) * (M 0 b 4)))), (0, zr 0 b)]) d_X0_takings_50 rfl rfl (by decide) rfl
(aw_sub [2, 1, 0] rfl e5))))))))))))) (fun c4 => have e6 := e2.2 c4; (aw_aload_n d_X0_takings_8 rfl rfl 0 rfl (by decide)
(aw_getI (kc := 8) d_X0_takings_9 rfl fl0_92 rfl rfl
(have z7 := e6.1; have e8 := e6.2; aw_if_ne d_X0_takings_12 rfl rfl z7 (fun c9 => have e11 := e8.1 c9; (aw_aload_n d_X0_takings_19 rfl rfl 0 rfl (by decide)
(aw_getI (kc := 8) d_X0_takings_20 rfl fl0_92 rfl rfl
(aw_aload_n d_X0_takings_23 rfl rfl 0 rfl (by decide)
(aw_getI (kc := 9) d_X0_takings_24 rfl fl0_102 rfl rfl
(aw_aload_n d_X0_takings_27 rfl rfl 0 rfl (by decide)
(aw_getI (kc := 10) d_X0_takings_28 rfl fl0_108 rfl rfl
(aw_isub d_X0_takings_31 rfl
(aw_imul d_X0_takings_32 rfl
(aw_ri d_X0_takings_33 rfl e11)))))))))) (fun c10 => have e12 := e8.2 c10; (aw_iconst d_X0_takings_15 rfl
(aw_goto d_X0_takings_16 rfl
(aw_ri d_X0_takings_33 rfl e12))))))))))))
theorem c_X0_moneyOf {z t : Int} (g : gd B A) (hf : 0 ≤ f ∧ f ≤ 500) (hw : 0 ≤ w ∧ w ≤ 3) (s : bkS M b B A f w) (hz : z = 0 ∨ z = 1) (zt : zI t) :
    CI l m_X0_moneyOf [zr 0 b, zi z, zi t] M (fun x M' => x = mny B A f w z t ∧ M' = M) := by
  have h1 := dN_b (B := B) (A := A) (f := f) (w := w)
  have h2 := tT_b (f := f) (B := B) (A := A)
  have h3 := g.1
  have hc := cnt_b (R := if z = 0 then B else A) (t := t) (n := dN B A f w) h1.1
  have e5 := s.2.1.2.1
  have hT : cnt (if z = 0 then B else A) t (dN B A f w) ≠ 0 → tT f B A ≠ 0 := by
    intro c e
    have : dN B A f w = 0 := by omega
    rw [this] at c
    exact c rfl
  rcases hz with rfl | rfl
  · rw [if_pos rfl] at hc hT
    rw [mny_0]
    refine vX0_moneyOf ((c_X0_doneOf g hf s (.inl rfl) zt).eq ?_)
    rw [if_pos rfl]
    refine ⟨by omega, fun c => ⟨by omega, fun c3 => ?_, fun c3 => ⟨by omega, fun ez => ⟨?_, rfl⟩, fun ez => absurd rfl ez⟩⟩, fun c => ⟨?_, rfl⟩⟩
    · refine (c_X0_amountsDone g hf s (.inl rfl) zt).eq ((c_X0_worthWithout g hf s zt).eq ⟨by omega, fun ez => ⟨?_, rfl⟩, fun ez => absurd rfl ez⟩)
      have w3 : w = 3 := by omega
      rw [if_neg c, if_pos w3, s.2.1.2.2.2.1, if_pos (show (0 : Int) = 0 from rfl)]
    · rw [if_neg c, if_neg (by omega), (s.2.2 (hT c) (by omega)).1]
    · rw [if_pos c]
  · rw [if_neg (by decide)] at hc hT
    rw [mny_1]
    refine vX0_moneyOf ((c_X0_doneOf g hf s (.inr rfl) zt).eq ?_)
    rw [if_neg (by decide)]
    refine ⟨by omega, fun c => ⟨by omega, fun c3 => ?_, fun c3 => ⟨by omega, fun ez => by omega, fun ez => ⟨?_, rfl⟩⟩⟩, fun c => ⟨?_, rfl⟩⟩
    · refine (c_X0_amountsDone g hf s (.inr rfl) zt).eq ((c_X0_worthWithout g hf s zt).eq ⟨by omega, fun ez => by omega, fun ez => ⟨?_, rfl⟩⟩)
      have w3 : w = 3 := by omega
      rw [if_neg c, if_pos w3, if_neg (show ¬ (1 : Int) = 0 by decide), s.2.1.2.2.2.1, s.2.1.1]
    · rw [if_neg c, if_neg (by omega), (s.2.2 (hT c) (by omega)).2]
    · rw [if_pos c]
end

