/-! ===== how great a gain may be; the class's ranking ===== -/
theorem mul_bd {a b m lo hi : Int} (ha : 0 ≤ a ∧ a ≤ m) (hb : lo ≤ b ∧ b ≤ hi) (hl : lo ≤ 0) (hh : 0 ≤ hi) : m * lo ≤ a * b ∧ a * b ≤ m * hi := by
  constructor
  · have h1 : a * lo ≤ a * b := Int.mul_le_mul_of_nonneg_left hb.1 ha.1
    have h2 : m * lo ≤ a * lo := Int.mul_le_mul_of_nonpos_right ha.2 hl
    omega
  · have h1 : a * b ≤ a * hi := Int.mul_le_mul_of_nonneg_left hb.2 ha.1
    have h2 : a * hi ≤ m * hi := Int.mul_le_mul_of_nonneg_right ha.2 hh
    omega
theorem say1_bd {g : Int → Int} {R : List Int} {t n c : Int} (hn : 0 ≤ n) (hc : 0 ≤ c) (h : ∀ k, 0 ≤ k ∧ k < n → 0 ≤ g k ∧ g k ≤ c) : 0 ≤ say1 g R t n ∧ say1 g R t n ≤ c * n := by
  have := zsum_bd (f := fun k => if ktr (R.getD k.toNat 0) = t then g k else 0) (n := n) (c := 0) (d := c) hn (fun i hi => by
    have := h i hi
    split <;> omega)
  unfold say1
  omega
theorem dP_b {B A : List Int} {f w : Int} (g : gd B A) (hf : 0 ≤ f ∧ f ≤ 500) (hT : tT f B A ≠ 0) : (0 ≤ dP B A f w ∧ dP B A f w ≤ 20000) ∧ (-500 ≤ dG B A f w ∧ dG B A f w ≤ 20000) := by
  have hb := tT_b (f := f) (B := B) (A := A)
  have q1 := gB_in g (k := tT f B A - 1) (by omega)
  have q2 := gA_in g (f := f) (k := tT f B A - 1) (by omega)
  have hp : 0 ≤ dP B A f w ∧ dP B A f w ≤ 20000 := by
    unfold dP
    by_cases c : full B A f w
    · rw [if_pos c]
      by_cases c0 : w = 0
      · rw [if_pos c0]
        have c1 := c.resolve_left (by omega) |>.resolve_left (by omega)
        have q3 := gB_in g (k := tT f B A) (by omega)
        have q4 := gA_in g (f := f) (k := tT f B A) (by omega)
        unfold mid
        omega
      · rw [if_neg c0]; unfold mid; omega
    · rw [if_neg c]; omega
  refine ⟨hp, ?_⟩
  unfold dG
  split <;> omega
theorem gd_len {B A : List Int} {t : Int} (g : gd B A) : gd (B.filter (fun x => !decide (ktr x = t))) (A.filter (fun x => !decide (ktr x = t))) :=
  ⟨⟨Nat.le_trans (List.length_filter_le _ _) g.1.1, Nat.le_trans (List.length_filter_le _ _) g.1.2⟩, fun x hx => g.2.1 x (List.mem_filter.mp hx).1, fun x hx => g.2.2 x (List.mem_filter.mp hx).1⟩
theorem mny_b {B A : List Int} {f w t : Int} (g : gd B A) (hf : 0 ≤ f ∧ f ≤ 500) : (-4000000 ≤ mny B A f w 0 t ∧ mny B A f w 0 t ≤ 4000000) ∧ (-4000000 ≤ mny B A f w 1 t ∧ mny B A f w 1 t ≤ 4000000) := by
  have hb := tT_b (f := f) (B := B) (A := A)
  have hd := dN_b (B := B) (A := A) (f := f) (w := w)
  have hl := g.1
  have w1 := tW_in (f := f) g hf.1
  have w2 := tW_in (f := f) (gd_len (t := t) g) hf.1
  have ew : mWo B A f t = tW f (B.filter (fun x => !decide (ktr x = t))) (A.filter (fun x => !decide (ktr x = t))) := rfl
  have c1 := cnt_b (R := B) (t := t) hd.1
  have c2 := cnt_b (R := A) (t := t) hd.1
  have s1 := say1_bd (g := gB B) (R := B) (t := t) (n := dN B A f w) (c := 9999) hd.1 (by omega) (fun k hk => gB_in g (by omega))
  have s2 := say1_bd (g := gA f A) (R := A) (t := t) (n := dN B A f w) (c := 10499) hd.1 (by omega) (fun k hk => by have := gA_in g (f := f) (k := k) (by omega); omega)
  have hT : cnt B t (dN B A f w) ≠ 0 ∨ cnt A t (dN B A f w) ≠ 0 → tT f B A ≠ 0 := by
    intro c e
    have : dN B A f w = 0 := by omega
    rw [this] at c
    rcases c with c | c <;> exact c rfl
  constructor
  · rw [mny_0]
    by_cases e : cnt B t (dN B A f w) = 0
    · rw [if_pos e]; omega
    · rw [if_neg e]
      have hp := dP_b (w := w) g hf (hT (.inl e))
      by_cases e3 : w = 3
      · rw [if_pos e3]; omega
      · rw [if_neg e3]
        have := mul_bd (a := cnt B t (dN B A f w)) (b := dP B A f w) (m := 80) (lo := 0) (hi := 20000) (by omega) hp.1 (by omega) (by omega)
        omega
  · rw [mny_1]
    by_cases e : cnt A t (dN B A f w) = 0
    · rw [if_pos e]; omega
    · rw [if_neg e]
      have hp := dP_b (w := w) g hf (hT (.inr e))
      by_cases e3 : w = 3
      · rw [if_pos e3]
        have := mul_bd (a := cnt A t (dN B A f w)) (b := f) (m := 80) (lo := 0) (hi := 500) (by omega) hf (by omega) (by omega)
        omega
      · rw [if_neg e3]
        have := mul_bd (a := cnt A t (dN B A f w)) (b := dG B A f w) (m := 80) (lo := -500) (hi := 20000) (by omega) hp.2 (by omega) (by omega)
        omega
theorem tkg_b {B A : List Int} {f w : Int} (g : gd B A) (hf : 0 ≤ f ∧ f ≤ 500) : -160000000 ≤ tkg B A f w ∧ tkg B A f w ≤ 160000000 := by
  have hb := tT_b (f := f) (B := B) (A := A)
  have hd := dN_b (B := B) (A := A) (f := f) (w := w)
  have hl := g.1
  unfold tkg
  by_cases c : w = 3
  · rw [if_pos c]
    have := zsum_bd (f := fun t => mny B A f w 0 t - mny B A f w 1 t) (n := 20) (c := -8000000) (d := 8000000) (by omega) (fun t _ => by
      have := mny_b (w := w) (t := t) g hf
      omega)
    omega
  · rw [if_neg c]
    by_cases e : dN B A f w = 0
    · rw [if_pos e]; omega
    · rw [if_neg e]
      have hp := dP_b (w := w) g hf (by omega)
      have := mul_bd (a := dN B A f w) (b := dP B A f w - dG B A f w) (m := 80) (lo := -20000) (hi := 20500) (by omega) (by omega) (by omega) (by omega)
      omega
/-! the ranking: keys by gain, the greatest first, then by trader -/
section
variable {l : Launch} {M : zM}
end

