/-! ===== how great a gain may be; the class's ranking ===== -/
theorem mul_bd {a b m lo hi : Int} (ha : 0 ≤ a ∧ a ≤ m) (hb : lo ≤ b ∧ b ≤ hi) (hl : lo ≤ 0) (hh : 0 ≤ hi) : m * lo ≤ a * b ∧ a * b ≤ m * hi := by
  constructor
  · have h1 : a * lo ≤ a * b := Int.mul_le_mul_of_nonneg_left hb.1 ha.1
    have h2 : m * lo ≤ a * lo := Int.mul_le_mul_of_nonpos_right ha.2 hl
    omega
  · have h1 : a * b ≤ a * hi := Int.mul_le_mul_of_nonneg_left hb.2 ha.1
    have h2 : a * hi ≤ m * hi := Int.mul_le_mul_of_nonneg_right ha.2 hh
    omega
theorem say1_bd {g : Int → Int} {R : List Int} {t n c : Int} (hn : 0 ≤ n) (hc : 0 ≤ c) (h : ∀ k, 0 ≤ k ∧ k < n → 0 ≤ g k ∧ g k ≤ c) : 0 ≤ say1 g R t n ∧ say1 g R t n ≤ c * n := by
  have := zsum_bd (f := fun k => if ktr (R.getD k.toNat 0) = t then g k else 0) (n := n) (c := 0) (d := c) hn (fun i hi => by
    have := h i hi
    split <;> omega)
  unfold say1
  omega
theorem dP_b {B A : List Int} {f w : Int} (g : gd B A) (hf : 0 ≤ f ∧ f ≤ 500) (hT : tT f B A ≠ 0) : (0 ≤ dP B A f w ∧ dP B A f w ≤ 20000) ∧ (-500 ≤ dG B A f w ∧ dG B A f w ≤ 20000) := by
  have hb := tT_b (f := f) (B := B) (A := A)
  have q1 := gB_in g (k := tT f B A - 1) (by omega)
  have q2 := gA_in g (f := f) (k := tT f B A - 1) (by omega)
  have hp : 0 ≤ dP B A f w ∧ dP B A f w ≤ 20000 := by
    unfold dP
    by_cases c : full B A f w
    · rw [if_pos c]
      by_cases c0 : w = 0
      · rw [if_pos c0]
        have c1 := c.resolve_left (by omega) |>.resolve_left (by omega)
        have q3 := gB_in g (k := tT f B A) (by omega)
        have q4 := gA_in g (f := f) (k := tT f B A) (by omega)
        unfold mid
        omega
      · rw [if_neg c0]; unfold mid; omega
    · rw [if_neg c]; omega
  refine ⟨hp, ?_⟩
  unfold dG
  split <;> omega
theorem gd_len {B A : List Int} {t : Int} (g : gd B A) : gd (B.filter (fun x => !decide (ktr x = t))) (A.filter (fun x => !decide (ktr x = t))) :=
  ⟨⟨Nat.le_trans (List.length_filter_le _ _) g.1.1, Nat.le_trans (List.length_filter_le _ _) g.1.2⟩, fun x hx => g.2.1 x (List.mem_filter.mp hx).1, fun x hx => g.2.2 x (List.mem_filter.mp hx).1⟩
theorem mny_b {B A : List Int} {f w t : Int} (g : gd B A) (hf : 0 ≤ f ∧ f ≤ 500) : (-4000000 ≤ mny B A f w 0 t ∧ mny B A f w 0 t ≤ 4000000) ∧ (-4000000 ≤ mny B A f w 1 t ∧ mny B A f w 1 t ≤ 4000000) := by
  have hb := tT_b (f := f) (B := B) (A := A)
  have hd := dN_b (B := B) (A := A) (f := f) (w := w)
  have hl := g.1
  have w1 := tW_in (f := f) g hf.1
  have w2 := tW_in (f := f) (gd_len (t := t) g) hf.1
  have ew : mWo B A f t = tW f (B.filter (fun x => !decide (ktr x = t))) (A.filter (fun x => !decide (ktr x = t))) := rfl
  have c1 := cnt_b (R := B) (t := t) hd.1
  have c2 := cnt_b (R := A) (t := t) hd.1
  have s1 := say1_bd (g := gB B) (R := B) (t := t) (n := dN B A f w) (c := 9999) hd.1 (by omega) (fun k hk => gB_in g (by omega))
  have s2 := say1_bd (g := gA f A) (R := A) (t := t) (n := dN B A f w) (c := 10499) hd.1 (by omega) (fun k hk => by have := gA_in g (f := f) (k := k) (by omega); omega)
  have hT : cnt B t (dN B A f w) ≠ 0 ∨ cnt A t (dN B A f w) ≠ 0 → tT f B A ≠ 0 := by
    intro c e
    have : dN B A f w = 0 := by omega
    rw [this] at c
    rcases c with c | c <;> exact c rfl
  constructor
  · rw [mny_0]
    by_cases e : cnt B t (dN B A f w) = 0
    · rw [if_pos e]; omega
    · rw [if_neg e]
      have hp := dP_b (w := w) g hf (hT (.inl e))
      by_cases e3 : w = 3
      · rw [if_pos e3]; omega
      · rw [if_neg e3]
        have := mul_bd (a := cnt B t (dN B A f w)) (b := dP B A f w) (m := 80) (lo := 0) (hi := 20000) (by omega) hp.1 (by omega) (by omega)
        omega
  · rw [mny_1]
    by_cases e : cnt A t (dN B A f w) = 0
    · rw [if_pos e]; omega
    · rw [if_neg e]
      have hp := dP_b (w := w) g hf (hT (.inr e))
      by_cases e3 : w = 3
      · rw [if_pos e3]
        have := mul_bd (a := cnt A t (dN B A f w)) (b := f) (m := 80) (lo := 0) (hi := 500) (by omega) hf (by omega) (by omega)
        omega
      · rw [if_neg e3]
        have := mul_bd (a := cnt A t (dN B A f w)) (b := dG B A f w) (m := 80) (lo := -500) (hi := 20000) (by omega) hp.2 (by omega) (by omega)
        omega
theorem gnr_b {S : zS} {E : Int → Prop} {v : Int → Int → Int} {f w t : Int} (ok : okM S v) (ok0 : okM S (qsy S)) (hf : 0 ≤ f ∧ f ≤ 500) : -5000000 ≤ gnr S (mB S E v) (mA S E v) f w t ∧ gnr S (mB S E v) (mA S E v) f w t ≤ 5000000 := by
  have hd := dN_b (B := mB S E v) (A := mA S E v) (f := f) (w := w)
  have hl := dN_l (B := mB S E v) (A := mA S E v) (f := f) (w := w)
  have hm := mny_b (B := mB S E v) (A := mA S E v) (f := f) (w := w) (t := t) (gd_m ok) hf
  unfold gnr
  by_cases c : qsl S t = 1
  · rw [if_pos c]
    have : 0 ≤ zsum (qsy S t) (cnt (mA S E v) t (dN (mB S E v) (mA S E v) f w)) ∧ zsum (qsy S t) (cnt (mA S E v) t (dN (mB S E v) (mA S E v) f w)) ≤ 40000 := by
      by_cases q : (0 ≤ t ∧ t < qn S) ∧ E t ∧ qsl S t = 1
      · have h1 := (ownA (f := 0) ok q.1 q.2.1 c ⟨hd.1, hl.2⟩).2
        have h2 := ok.2.1 t q.1
        have h3 := (cnt_b (R := mA S E v) (t := t) hd.1).1
        have := zsum_bd (f := qsy S t) (n := cnt (mA S E v) t (dN (mB S E v) (mA S E v) f w)) (c := 0) (d := 9999) h3 (fun u hu => ok0.2.2.1 t u ⟨q.1.1, q.1.2, hu.1, by omega⟩)
        omega
      · rw [cnt_none (noA ok q) ⟨hd.1, hl.2⟩, zsum_0]; omega
    omega
  · rw [if_neg c]
    have : 0 ≤ zsum (qsy S t) (cnt (mB S E v) t (dN (mB S E v) (mA S E v) f w)) ∧ zsum (qsy S t) (cnt (mB S E v) t (dN (mB S E v) (mA S E v) f w)) ≤ 40000 := by
      by_cases q : (0 ≤ t ∧ t < qn S) ∧ E t ∧ ¬ qsl S t = 1
      · have h1 := (ownB ok q.1 q.2.1 c ⟨hd.1, hl.1⟩).2
        have h2 := ok.2.1 t q.1
        have h3 := (cnt_b (R := mB S E v) (t := t) hd.1).1
        have := zsum_bd (f := qsy S t) (n := cnt (mB S E v) t (dN (mB S E v) (mA S E v) f w)) (c := 0) (d := 9999) h3 (fun u hu => ok0.2.2.1 t u ⟨q.1.1, q.1.2, hu.1, by omega⟩)
        omega
      · rw [cnt_none (noB ok q) ⟨hd.1, hl.1⟩, zsum_0]; omega
    omega
theorem tkg_b {B A : List Int} {f w : Int} (g : gd B A) (hf : 0 ≤ f ∧ f ≤ 500) : -160000000 ≤ tkg B A f w ∧ tkg B A f w ≤ 160000000 := by
  have hb := tT_b (f := f) (B := B) (A := A)
  have hd := dN_b (B := B) (A := A) (f := f) (w := w)
  have hl := g.1
  unfold tkg
  by_cases c : w = 3
  · rw [if_pos c]
    have := zsum_bd (f := fun t => mny B A f w 0 t - mny B A f w 1 t) (n := 20) (c := -8000000) (d := 8000000) (by omega) (fun t _ => by
      have := mny_b (w := w) (t := t) g hf
      omega)
    omega
  · rw [if_neg c]
    by_cases e : dN B A f w = 0
    · rw [if_pos e]; omega
    · rw [if_neg e]
      have hp := dP_b (w := w) g hf (by omega)
      have := mul_bd (a := dN B A f w) (b := dP B A f w - dG B A f w) (m := 80) (lo := -20000) (hi := 20500) (by omega) (by omega) (by omega) (by omega)
      omega
/-! the ranking: keys by gain, the greatest first, then by trader -/
def rkK (G : Int → Int) (t : Int) : Int := -(G t) * 32 + t
def rkP (S : zS) (g : Int) (G : Int → Int) (x : Int) : Prop := ∃ t, ((0 ≤ t ∧ t < qn S) ∧ qgr S t = g) ∧ x = rkK G t
noncomputable def rkL (S : zS) (g : Int) (G : Int → Int) : List Int := rowOf (rkP S g G)
def rkt (x : Int) : Int := x % 32
def rkg (x : Int) : Int := -(x / 32)
theorem rkK_d {G : Int → Int} {t : Int} (h : 0 ≤ t ∧ t < 32) : rkt (rkK G t) = t ∧ rkg (rkK G t) = G t := by
  unfold rkt rkg rkK
  omega
noncomputable def sGn (S : zS) (g t : Int) : Int := gnr S (qB S g) (qA S g) (qfee S) (qlaw S) t
theorem sGn_b {S : zS} (h : okS S) (g t : Int) : -5000000 ≤ sGn S g t ∧ sGn S g t ≤ 5000000 := gnr_b h.1 h.1 h.2.2.1
def mRk (M : zM) (R : List Int) : Prop := M 4 0 2 = R.length ∧ ∀ j : Int, 0 ≤ j ∧ j < (R.length : Int) → M 20 0 j = rkt (R.getD j.toNat 0) ∧ M 21 0 j = rkg (R.getD j.toNat 0)
def kRk (k _i : Nat) : Prop := k = 4 ∨ k = 20 ∨ k = 21
section
variable {l : Launch} {M : zM}
def LX4_place_22 (l : Launch) (P : zM → Prop) (v1 : Int) (v2 : Int) (v3 : Int) (M : zM) : Prop := AW l m_X4_place (zTv m_X4_place P) 22 [(0, zr 4 0), (1, zi v1), (2, zi v2), (3, zi v3)] [] M
theorem vX4_place_22 {l : Launch} {P : zM → Prop} {v1 : Int} {v2 : Int} {v3 : Int} {M : zM}
    (H0 : (zI v3 ∧ (v3 ≤ 0 → ((0 ≤ v3 ∧ v3 < 20) ∧ ∀ M18 : zM, M18 = zu M 21 0 v3 v2 → (∀ M20 : zM, M20 = zu M18 20 0 v3 v1 → (∀ M22 : zM, M22 = zu M20 4 0 2 ((M20 4 0 2) + 1) → P M22)))) ∧ (0 < v3 → ((0 ≤ (v3 - 1) ∧ (v3 - 1) < 20) ∧ (zI (M 21 0 (v3 - 1)) ∧ zI v2 ∧ (v2 ≤ (M 21 0 (v3 - 1)) → ((0 ≤ v3 ∧ v3 < 20) ∧ ∀ M34 : zM, M34 = zu M 21 0 v3 v2 → (∀ M36 : zM, M36 = zu M34 20 0 v3 v1 → (∀ M38 : zM, M38 = zu M36 4 0 2 ((M36 4 0 2) + 1) → P M38)))) ∧ ((M 21 0 (v3 - 1)) < v2 → ((0 ≤ v3 ∧ v3 < 20) ∧ ∀ M41 : zM, M41 = zu M 21 0 v3 (M 21 0 (v3 - 1)) → (∀ M43 : zM, M43 = zu M41 20 0 v3 (M41 20 0 (v3 - 1)) → LX4_place_22 l P v1 v2 (v3 - 1) M43)))))))) :
    LX4_place_22 l P v1 v2 v3 M :=
(aw_iload_n d_X4_place_22 rfl rfl 3 rfl
(have z11 := H0.1; have e12 := H0.2; aw_if_le d_X4_place_23 rfl rfl z11 (fun c13 => have e15 := e12.1 c13; (aw_aload_n d_X4_place_72 rfl rfl 0 rfl (by decide)
(aw_getR (k' := 21) (a := 0) (b := 0) (j := 0) d_X4_place_73 rfl fl4_15 rfl zj0 ⟨by decide, fun _ => by decide⟩
(aw_iload_n d_X4_place_76 rfl rfl 3 rfl
(aw_iload_n d_X4_place_77 rfl rfl 2 rfl
(have z17 := e15.1; have e19 := e15.2 _ rfl; aw_iast d_X4_place_78 rfl za21 z17
(aw_aload_n d_X4_place_79 rfl rfl 0 rfl (by decide)
(aw_getR (k' := 20) (a := 0) (b := 0) (j := 0) d_X4_place_80 rfl fl4_9 rfl zj0 ⟨by decide, fun _ => by decide⟩
(aw_iload_n d_X4_place_83 rfl rfl 3 rfl
(aw_iload_n d_X4_place_84 rfl rfl 1 rfl
(have e21 := e19 _ rfl; aw_iast d_X4_place_85 rfl za20 z17
(aw_aload_n d_X4_place_86 rfl rfl 0 rfl (by decide)
(aw_dup d_X4_place_87 rfl rfl
(aw_getI (kc := 2) d_X4_place_88 rfl fl4_18 rfl rfl
(aw_iconst d_X4_place_91 rfl
(aw_iadd d_X4_place_92 rfl
(have e23 := e21 _ rfl; aw_put (kc := 2) d_X4_place_93 rfl fp4_18 rfl rfl rfl rfl
(aw_rv d_X4_place_96 rfl e23)))))))))))))))))) (fun c14 => have e16 := e12.2 c14; (aw_aload_n d_X4_place_26 rfl rfl 0 rfl (by decide)
(aw_getR (k' := 21) (a := 0) (b := 0) (j := 0) d_X4_place_27 rfl fl4_15 rfl zj0 ⟨by decide, fun _ => by decide⟩
(aw_iload_n d_X4_place_30 rfl rfl 3 rfl
(aw_iconst d_X4_place_31 rfl
(aw_isub d_X4_place_32 rfl
(have z24 := e16.1; have e25 := e16.2; (aw_iald d_X4_place_33 rfl za21 z24
(aw_iload_n d_X4_place_34 rfl rfl 2 rfl
(have z26 := e25.1; have z27 := e25.2.1; have e28 := e25.2.2; aw_icmp_ge d_X4_place_35 rfl rfl z26 z27 (fun c29 => have e31 := e28.1 c29; (aw_aload_n d_X4_place_72 rfl rfl 0 rfl (by decide)
(aw_getR (k' := 21) (a := 0) (b := 0) (j := 0) d_X4_place_73 rfl fl4_15 rfl zj0 ⟨by decide, fun _ => by decide⟩
(aw_iload_n d_X4_place_76 rfl rfl 3 rfl
(aw_iload_n d_X4_place_77 rfl rfl 2 rfl
(have z33 := e31.1; have e35 := e31.2 _ rfl; aw_iast d_X4_place_78 rfl za21 z33
(aw_aload_n d_X4_place_79 rfl rfl 0 rfl (by decide)
(aw_getR (k' := 20) (a := 0) (b := 0) (j := 0) d_X4_place_80 rfl fl4_9 rfl zj0 ⟨by decide, fun _ => by decide⟩
(aw_iload_n d_X4_place_83 rfl rfl 3 rfl
(aw_iload_n d_X4_place_84 rfl rfl 1 rfl
(have e37 := e35 _ rfl; aw_iast d_X4_place_85 rfl za20 z33
(aw_aload_n d_X4_place_86 rfl rfl 0 rfl (by decide)
(aw_dup d_X4_place_87 rfl rfl
(aw_getI (kc := 2) d_X4_place_88 rfl fl4_18 rfl rfl
(aw_iconst d_X4_place_91 rfl
(aw_iadd d_X4_place_92 rfl
(have e39 := e37 _ rfl; aw_put (kc := 2) d_X4_place_93 rfl fp4_18 rfl rfl rfl rfl
(aw_rv d_X4_place_96 rfl e39)))))))))))))))))) (fun c30 => have e32 := e28.2 c30; (aw_aload_n d_X4_place_38 rfl rfl 0 rfl (by decide)
(aw_getR (k' := 21) (a := 0) (b := 0) (j := 0) d_X4_place_39 rfl fl4_15 rfl zj0 ⟨by decide, fun _ => by decide⟩
(aw_iload_n d_X4_place_42 rfl rfl 3 rfl
(aw_aload_n d_X4_place_43 rfl rfl 0 rfl (by decide)
(aw_getR (k' := 21) (a := 0) (b := 0) (j := 0) d_X4_place_44 rfl fl4_15 rfl zj0 ⟨by decide, fun _ => by decide⟩
(aw_iload_n d_X4_place_47 rfl rfl 3 rfl
(aw_iconst d_X4_place_48 rfl
(aw_isub d_X4_place_49 rfl
(aw_iald d_X4_place_50 rfl za21 z24
(have z40 := e32.1; have e42 := e32.2 _ rfl; aw_iast d_X4_place_51 rfl za21 z40
(aw_aload_n d_X4_place_52 rfl rfl 0 rfl (by decide)
(aw_getR (k' := 20) (a := 0) (b := 0) (j := 0) d_X4_place_53 rfl fl4_9 rfl zj0 ⟨by decide, fun _ => by decide⟩
(aw_iload_n d_X4_place_56 rfl rfl 3 rfl
(aw_aload_n d_X4_place_57 rfl rfl 0 rfl (by decide)
(aw_getR (k' := 20) (a := 0) (b := 0) (j := 0) d_X4_place_58 rfl fl4_9 rfl zj0 ⟨by decide, fun _ => by decide⟩
(aw_iload_n d_X4_place_61 rfl rfl 3 rfl
(aw_iconst d_X4_place_62 rfl
(aw_isub d_X4_place_63 rfl
(aw_iald d_X4_place_64 rfl za20 z24
(have e44 := e42 _ rfl; aw_iast d_X4_place_65 rfl za20 z40
(aw_iinc (lv' := [(3, zi (v3 - 1)), (0, zr 4 0), (1, zi v1), (2, zi v2)]) (y := (v3 - 1)) d_X4_place_66 rfl 3 rfl (by decide) rfl rfl
(aw_goto d_X4_place_69 rfl
(aw_sub [1, 2, 3, 0] rfl e44))))))))))))))))))))))))))))))))))))
theorem vX4_place {l : Launch} {P : zM → Prop} {v1 : Int} {v2 : Int} {M : zM}
    (H0 : (zI (M 4 0 2) ∧ ((M 4 0 2) < 0 → P M) ∧ (0 ≤ (M 4 0 2) → (((M 4 0 2) < 20 → LX4_place_22 l P v1 v2 (M 4 0 2) M) ∧ (20 ≤ (M 4 0 2) → P M))))) :
    CV l m_X4_place [zr 4 0, zi v1, zi v2] M P :=
(aw_aload_n d_X4_place_0 rfl rfl 0 rfl (by decide)
(aw_getI (kc := 2) d_X4_place_1 rfl fl4_18 rfl rfl
(have z1 := H0.1; have e2 := H0.2; aw_if_lt d_X4_place_4 rfl rfl z1 (fun c3 => have e5 := e2.1 c3; (aw_rv d_X4_place_16 rfl e5)) (fun c4 => have e6 := e2.2 c4; (aw_aload_n d_X4_place_7 rfl rfl 0 rfl (by decide)
(aw_getI (kc := 2) d_X4_place_8 rfl fl4_18 rfl rfl
(aw_bipush d_X4_place_11 rfl (by decide)
(aw_icmp_lt d_X4_place_13 rfl rfl z1 (by decide) (fun c7 => have e9 := e6.1 c7; (aw_aload_n d_X4_place_17 rfl rfl 0 rfl (by decide)
(aw_getI (kc := 2) d_X4_place_18 rfl fl4_18 rfl rfl
(aw_istore_n (lv' := [(3, zi (M 4 0 2)), (0, zr 4 0), (1, zi v1), (2, zi v2)]) d_X4_place_21 rfl rfl (by decide) rfl
(aw_sub [1, 2, 3, 0] rfl e9))))) (fun c8 => have e10 := e6.2 c8; (aw_rv d_X4_place_16 rfl e10))))))))))
theorem c_X4_place {R : List Int} {P : Int → Prop} {x t G : Int} (h : isRow R P) (r : mRk M R) (hx : ∀ y ∈ R, y % 32 < x % 32) (hlen : R.length < 20) (e1 : rkt x = t) (e2 : rkg x = G) (zG : zI G) (hR : ∀ y ∈ R, zI (rkg y)) :
    CV l m_X4_place [zr 4 0, zi t, zi G] M (fun M' => Fx kRk M M' ∧ ∃ R', isRow R' (fun y => P y ∨ y = x) ∧ R'.length = R.length + 1 ∧ mRk M' R') := by
  have fin : ∀ (p : Nat) (M' M1 M2 M3 : zM), p ≤ R.length → Fx kRk M M' → M' 4 0 2 = R.length → (∀ j : Int, 0 ≤ j ∧ j < p → M' 20 0 j = rkt (R.getD j.toNat 0) ∧ M' 21 0 j = rkg (R.getD j.toNat 0)) →
      (∀ j : Int, p < j ∧ j ≤ (R.length : Int) → M' 20 0 j = rkt (R.getD (j - 1).toNat 0) ∧ M' 21 0 j = rkg (R.getD (j - 1).toNat 0)) →
      (∀ j : Nat, p ≤ j → j < R.length → x < R.getD j 0) → (∀ j : Nat, j < p → R.getD j 0 < x) → M1 = zu M' 21 0 p G → M2 = zu M1 20 0 p t → M3 = zu M2 4 0 2 (M2 4 0 2 + 1) →
      Fx kRk M M3 ∧ ∃ R', isRow R' (fun y => P y ∨ y = x) ∧ R'.length = R.length + 1 ∧ mRk M3 R' := by
    intro p M' M1 M2 M3 hp' fr e4 h1 h2 h3 h4 q1 q2 q3
    refine ⟨?_, _, row_ins h hp' h4 h3, ins_len hp', ?_, fun j hj => ?_⟩
    · rw [q3, q2, q1]
      exact Fx.zu (Fx.zu (Fx.zu fr (.inr (.inr rfl))) (.inr (.inl rfl))) (.inl rfl)
    · rw [q3, zu_at, if_pos rfl, q2, zu_k (by decide), q1, zu_k (by decide), e4, ins_len hp']
      omega
    · rw [ins_len hp'] at hj
      have ev : (R.take p ++ x :: R.drop p).getD j.toNat 0 = if j < p then R.getD j.toNat 0 else if j = p then x else R.getD (j - 1).toNat 0 := by
        rw [List.getD_eq_getElem?_getD, ins_at hp']
        by_cases c : j < p
        · rw [if_pos (by omega), if_pos c, List.getD_eq_getElem?_getD]
        · rw [if_neg (by omega), if_neg c]
          by_cases c2 : j = p
          · rw [if_pos (by omega), if_pos c2]; rfl
          · rw [if_neg (by omega), if_neg c2, List.getD_eq_getElem?_getD, show (j - 1).toNat = j.toNat - 1 by omega]
      rw [ev, q3, zu_k (by decide), zu_k (by decide), q2, zu_at, zu_k (by decide), q1, zu_k (by decide), zu_at]
      by_cases c : j = p
      · subst c
        rw [if_pos rfl, if_pos rfl, if_neg (by omega), if_pos rfl]
        exact ⟨e1.symm, e2.symm⟩
      · by_cases c2 : j < p
        · simp only [if_neg c, if_pos c2]; exact h1 j ⟨hj.1, c2⟩
        · simp only [if_neg c2, if_neg c]; exact h2 j (by omega)
  have loop : ∀ (p : Nat) (M' : zM), p ≤ R.length → Fx kRk M M' → M' 4 0 2 = R.length → (∀ j : Int, 0 ≤ j ∧ j < p → M' 20 0 j = rkt (R.getD j.toNat 0) ∧ M' 21 0 j = rkg (R.getD j.toNat 0)) →
      (∀ j : Int, p < j ∧ j ≤ (R.length : Int) → M' 20 0 j = rkt (R.getD (j - 1).toNat 0) ∧ M' 21 0 j = rkg (R.getD (j - 1).toNat 0)) →
      (∀ j : Nat, p ≤ j → j < R.length → x < R.getD j 0) → LX4_place_22 l (fun M' => Fx kRk M M' ∧ ∃ R', isRow R' (fun y => P y ∨ y = x) ∧ R'.length = R.length + 1 ∧ mRk M' R') t G (p : Int) M' := by
    intro p
    induction p with
    | zero =>
      intro M' hp' fr e4 h1 h2 h3
      refine vX4_place_22 ⟨by omega, fun _ => ⟨by omega, fun M1 q1 M2 q2 M3 q3 => ?_⟩, fun e => by omega⟩
      exact fin 0 M' M1 M2 M3 hp' fr e4 h1 h2 h3 (fun j hj => by omega) q1 q2 q3
    | succ p ih =>
      intro M' hp' fr e4 h1 h2 h3
      have hm : R.getD p 0 ∈ R := by
        have := at_mem (L := R) (j := (p : Int)) (by omega)
        rwa [show ((p : Int)).toNat = p by omega] at this
      have hv := h1 (((p + 1 : Nat) : Int) - 1) (by omega)
      rw [show (((p + 1 : Nat) : Int) - 1).toNat = p by omega] at hv
      have b1 := hR _ hm
      have b2 := hx _ hm
      refine vX4_place_22 ⟨by omega, fun e => by omega, fun _ => ⟨by omega, by rw [hv.2]; exact b1, zG, fun e => ⟨by omega, fun M1 q1 M2 q2 M3 q3 => ?_⟩, fun e => ⟨by omega, fun M1 q1 M2 q2 => ?_⟩⟩⟩
      · rw [hv.2] at e
        have hlt : R.getD p 0 < x := by unfold rkg at e e2; omega
        refine fin (p + 1) M' M1 M2 M3 hp' fr e4 h1 h2 h3 (fun j hj => ?_) q1 q2 q3
        by_cases c : j = p
        · subst c; exact hlt
        · have := at_lt h.1 (i := (j : Int)) (j := (p : Int)) (by omega)
          rw [show ((p : Int)).toNat = p by omega, show ((j : Int)).toNat = j by omega] at this
          omega
      · rw [hv.2] at e
        have hlt : x < R.getD p 0 := by unfold rkg at e e2; omega
        have s2 : M1 20 = M' 20 := by funext i; rw [q1, zu_k (by decide)]
        rw [s2, hv.1] at q2
        rw [hv.2] at q1
        have ep : (((p + 1 : Nat) : Int) - 1) = (p : Int) := by omega
        rw [ep]
        refine ih M2 (by omega) (by rw [q2, q1]; exact Fx.zu (Fx.zu fr (.inr (.inr rfl))) (.inr (.inl rfl))) (by rw [q2, zu_k (by decide), q1, zu_k (by decide)]; exact e4) (fun j hj => ?_) (fun j hj => ?_) (fun j hj1 hj2 => ?_)
        · rw [q2, zu_at, if_neg (by omega), zu_k (by decide), q1, zu_k (by decide), zu_at, if_neg (by omega)]
          exact h1 j (by omega)
        · rw [q2, zu_at, zu_k (by decide), q1, zu_k (by decide), zu_at]
          by_cases c : j = ((p + 1 : Nat) : Int)
          · rw [if_pos c, if_pos c, c, ep]
            exact ⟨rfl, rfl⟩
          · rw [if_neg c, if_neg c]
            exact h2 j (by omega)
        · by_cases c : j = p
          · subst c; exact hlt
          · exact h3 j (by omega) hj2
  refine vX4_place ?_
  rw [r.1]
  exact ⟨by omega, fun e => by omega, fun _ => ⟨fun _ => loop R.length M (Nat.le_refl _) Fx.rf r.1 (fun j hj => r.2 j (by omega)) (fun j hj => by omega) (fun j h1 h2 => by omega), fun e => by omega⟩⟩
end
