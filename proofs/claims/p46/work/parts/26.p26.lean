/-! ===== a market's traders: what is theirs ===== -/
theorem cnt_none {R : List Int} {t n : Int} (h : ∀ x ∈ R, ktr x ≠ t) (hn : 0 ≤ n ∧ n ≤ (R.length : Int)) : cnt R t n = 0 :=
  zsum_0s hn.1 fun i hi => if_neg (h _ (at_mem (by omega)))
theorem noB {S : zS} {E : Int → Prop} {v : Int → Int → Int} {t : Int} (ok : okM S v) (h : ¬ ((0 ≤ t ∧ t < qn S) ∧ E t ∧ ¬ qsl S t = 1)) : ∀ x ∈ mB S E v, ktr x ≠ t := by
  intro x hx q
  obtain ⟨t', u, c, rfl⟩ := ((mB_ok ok).2 x).mp hx
  have := (kB_d (ok.rng c.1)).1
  have e : t' = t := by omega
  subst e
  exact h ⟨⟨c.1.1, c.1.2.1⟩, c.2⟩
theorem noA {S : zS} {E : Int → Prop} {v : Int → Int → Int} {t : Int} (ok : okM S v) (h : ¬ ((0 ≤ t ∧ t < qn S) ∧ E t ∧ qsl S t = 1)) : ∀ x ∈ mA S E v, ktr x ≠ t := by
  intro x hx q
  obtain ⟨t', u, c, rfl⟩ := ((mA_ok ok).2 x).mp hx
  have := (kA_d (ok.rng c.1)).1
  have e : t' = t := by omega
  subst e
  exact h ⟨⟨c.1.1, c.1.2.1⟩, c.2⟩
theorem ownB {S : zS} {E : Int → Prop} {v : Int → Int → Int} {t m : Int} (ok : okM S v) (ht : 0 ≤ t ∧ t < qn S) (hE : E t) (hs : ¬ qsl S t = 1) (hm : 0 ≤ m ∧ m ≤ ((mB S E v).length : Int)) :
    say1 (gB (mB S E v)) (mB S E v) t m = zsum (v t) (cnt (mB S E v) t m) ∧ cnt (mB S E v) t m ≤ qun S t := by
  have hu := ok.2.1 t ht
  have hq : ∀ u, 0 ≤ u ∧ u < qun S t → qU S t u := fun u h => ⟨ht.1, ht.2, h.1, h.2⟩
  have key := own_say (R := mB S E v) (c := kB v) (g := kbv) (t := t) (n := qun S t) (m := m) (mB_ok ok).1 hu.1 hm (fun x => by
    rw [(mB_ok ok).2]
    constructor
    · rintro ⟨⟨t', u, c, rfl⟩, q⟩
      have d := (kB_d (ok.rng c.1)).1
      have e : t' = t := by omega
      subst e
      exact ⟨u, c.1.2.2.1, c.1.2.2.2, rfl⟩
    · rintro ⟨u, h1, h2, rfl⟩
      exact ⟨⟨t, u, ⟨hq u ⟨h1, h2⟩, hE, hs⟩, rfl⟩, (kB_d (ok.rng (hq u ⟨h1, h2⟩))).1⟩) (fun u h => by
    have := (ok.2.2.2 t u (hq u (by omega)) (hq (u + 1) (by omega))).2 hs
    unfold kB
    omega)
  refine ⟨key.1.trans (zsum_congr fun u h => ?_), key.2⟩
  exact (kB_d (ok.rng (hq u (by omega)))).2.2.1
theorem zsum_add {g : Int → Int} {f n : Int} (hn : 0 ≤ n) : zsum (fun u => g u + f) n = zsum g n + n * f := by
  have key : ∀ m : Nat, zsum (fun u => g u + f) m = zsum g m + m * f := by
    intro m
    induction m with
    | zero => simp [zsum, zsumN]
    | succ m ih =>
      rw [show ((m + 1 : Nat) : Int) = (m : Int) + 1 by omega, zsum_s (by omega), zsum_s (by omega), ih, Int.add_mul]
      omega
  have := key n.toNat
  rwa [show ((n.toNat : Nat) : Int) = n by omega] at this
theorem ownA {S : zS} {E : Int → Prop} {v : Int → Int → Int} {t m f : Int} (ok : okM S v) (ht : 0 ≤ t ∧ t < qn S) (hE : E t) (hs : qsl S t = 1) (hm : 0 ≤ m ∧ m ≤ ((mA S E v).length : Int)) :
    say1 (gA f (mA S E v)) (mA S E v) t m = zsum (v t) (cnt (mA S E v) t m) + cnt (mA S E v) t m * f ∧ cnt (mA S E v) t m ≤ qun S t := by
  have hu := ok.2.1 t ht
  have hq : ∀ u, 0 ≤ u ∧ u < qun S t → qU S t u := fun u h => ⟨ht.1, ht.2, h.1, h.2⟩
  have key := own_say (R := mA S E v) (c := kA v) (g := kav f) (t := t) (n := qun S t) (m := m) (mA_ok ok).1 hu.1 hm (fun x => by
    rw [(mA_ok ok).2]
    constructor
    · rintro ⟨⟨t', u, c, rfl⟩, q⟩
      have d := (kA_d (ok.rng c.1)).1
      have e : t' = t := by omega
      subst e
      exact ⟨u, c.1.2.2.1, c.1.2.2.2, rfl⟩
    · rintro ⟨u, h1, h2, rfl⟩
      exact ⟨⟨t, u, ⟨hq u ⟨h1, h2⟩, hE, hs⟩, rfl⟩, (kA_d (ok.rng (hq u ⟨h1, h2⟩))).1⟩) (fun u h => by
    have := (ok.2.2.2 t u (hq u (by omega)) (hq (u + 1) (by omega))).1 hs
    unfold kA
    omega)
  refine ⟨key.1.trans ?_, key.2⟩
  rw [← zsum_add (cnt_b hm.1).1]
  exact zsum_congr fun u h => (kA_d (ok.rng (hq u (by omega)))).2.2.1 f
theorem filter_all {R : List Int} {t : Int} (h : ∀ x ∈ R, ktr x ≠ t) : R.filter (fun x => !decide (ktr x = t)) = R := by
  rw [List.filter_eq_self]
  intro x hx
  simpa using h x hx
theorem cnt_0 {R : List Int} {t n : Int} (hn : 0 ≤ n) (h : cnt R t n = 0) : ∀ k, 0 ≤ k ∧ k < n → ktr (R.getD k.toNat 0) ≠ t := by
  intro k hk q
  have key : ∀ m : Nat, k + 1 + m ≤ n → 1 ≤ cnt R t (k + 1 + m) := by
    intro m
    induction m with
    | zero =>
      intro _
      rw [show k + 1 + ((0 : Nat) : Int) = k + 1 by omega, cnt_s hk.1, if_pos q]
      have := (cnt_b (R := R) (t := t) hk.1).1
      omega
    | succ m ih =>
      intro hm
      have := ih (by omega)
      rw [show k + 1 + ((m + 1 : Nat) : Int) = (k + 1 + m) + 1 by omega, cnt_s (by omega)]
      split <;> omega
  have := key (n - (k + 1)).toNat (by omega)
  rw [show k + 1 + (((n - (k + 1)).toNat : Nat) : Int) = n by omega] at this
  omega
/-- none of its units among the trades: nothing is lost without it -/
theorem mWo_none {S : zS} {E : Int → Prop} {v : Int → Int → Int} {t f : Int} (ok : okM S v) (h1 : ¬ qsl S t = 1 → cnt (mB S E v) t (tT f (mB S E v) (mA S E v)) = 0) (h2 : qsl S t = 1 → cnt (mA S E v) t (tT f (mB S E v) (mA S E v)) = 0) : mWo (mB S E v) (mA S E v) f t = tW f (mB S E v) (mA S E v) := by
  have hb := tT_b (f := f) (B := mB S E v) (A := mA S E v)
  unfold mWo
  by_cases c : qsl S t = 1
  · rw [filter_all (noB ok (fun q => q.2.2 c))]
    refine out_A (mA_ok ok).1 fun k hk => ?_
    have := cnt_0 hb.1 (h2 c) (k : Int) (by omega)
    simpa using this
  · rw [filter_all (noA ok (fun q => c q.2.2))]
    refine out_B (mB_ok ok).1 fun k hk => ?_
    have := cnt_0 hb.1 (h1 c) (k : Int) (by omega)
    simpa using this
theorem dN_l {B A : List Int} {f w : Int} : dN B A f w ≤ B.length ∧ dN B A f w ≤ A.length := by
  have h1 := dN_b (B := B) (A := A) (f := f) (w := w)
  have h2 := tT_b (f := f) (B := B) (A := A)
  omega
theorem dN_3 {B A : List Int} {f : Int} : dN B A f 3 = tT f B A := by
  unfold dN
  rw [if_pos (Or.inl rfl)]
  split <;> omega
theorem cnt_4 {S : zS} {E : Int → Prop} {v : Int → Int → Int} {t f w : Int} (ok : okM S v) : cnt (mB S E v) t (dN (mB S E v) (mA S E v) f w) ≤ 4 ∧ cnt (mA S E v) t (dN (mB S E v) (mA S E v) f w) ≤ 4 := by
  have hd := dN_b (B := mB S E v) (A := mA S E v) (f := f) (w := w)
  have hl := dN_l (B := mB S E v) (A := mA S E v) (f := f) (w := w)
  constructor
  · by_cases c : (0 ≤ t ∧ t < qn S) ∧ E t ∧ ¬ qsl S t = 1
    · have := (ownB ok c.1 c.2.1 c.2.2 ⟨hd.1, hl.1⟩).2
      have := ok.2.1 t c.1
      omega
    · rw [cnt_none (noB ok c) ⟨hd.1, hl.1⟩]; omega
  · by_cases c : (0 ≤ t ∧ t < qn S) ∧ E t ∧ qsl S t = 1
    · have := (ownA (f := f) ok c.1 c.2.1 c.2.2 ⟨hd.1, hl.2⟩).2
      have := ok.2.1 t c.1
      omega
    · rw [cnt_none (noA ok c) ⟨hd.1, hl.2⟩]; omega

