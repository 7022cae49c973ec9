/-! ===== rows in order: what a market is ===== -/
def isRow (L : List Int) (P : Int → Prop) : Prop := L.Pairwise (· < ·) ∧ ∀ x, x ∈ L ↔ P x
theorem row_ext : ∀ {L L' : List Int}, L.Pairwise (· < ·) → L'.Pairwise (· < ·) → (∀ x, x ∈ L ↔ x ∈ L') → L = L'
  | [], [], _, _, _ => rfl
  | [], b :: L', _, _, h => absurd ((h b).mpr List.mem_cons_self) List.not_mem_nil
  | a :: L, [], _, _, h => absurd ((h a).mp List.mem_cons_self) List.not_mem_nil
  | a :: L, b :: L', h1, h2, h => by
    have h1' := List.pairwise_cons.mp h1
    have h2' := List.pairwise_cons.mp h2
    have e : a = b := by
      have ha := (h a).mp List.mem_cons_self
      have hb := (h b).mpr List.mem_cons_self
      rcases List.mem_cons.mp ha with q | q
      · exact q
      · rcases List.mem_cons.mp hb with r | r
        · exact r.symm
        · have := h1'.1 b r
          have := h2'.1 a q
          omega
    subst e
    rw [row_ext h1'.2 h2'.2]
    intro x
    have hx := h x
    simp only [List.mem_cons] at hx
    constructor
    · intro q
      rcases hx.mp (.inr q) with r | r
      · subst r; exact absurd (h1'.1 _ q) (by omega)
      · exact r
    · intro q
      rcases hx.mpr (.inr q) with r | r
      · subst r; exact absurd (h2'.1 _ q) (by omega)
      · exact r
theorem isRow.uniq {L L' : List Int} {P P' : Int → Prop} (h : isRow L P) (h' : isRow L' P') (e : ∀ x, P x ↔ P' x) : L = L' :=
  row_ext h.1 h'.1 fun x => (h.2 x).trans ((e x).trans (h'.2 x).symm)
theorem isRow.to {L : List Int} {P P' : Int → Prop} (h : isRow L P) (e : ∀ x, P x ↔ P' x) : isRow L P' := ⟨h.1, fun x => (h.2 x).trans (e x)⟩
noncomputable def rowOf (P : Int → Prop) : List Int := @dite _ (∃ L, isRow L P) (Classical.propDecidable _) (fun h => h.choose) (fun _ => [])
theorem rowOf_is {P : Int → Prop} {L : List Int} (h : isRow L P) : rowOf P = L := by
  have hx : ∃ L, isRow L P := ⟨L, h⟩
  unfold rowOf
  rw [dif_pos hx]
  exact hx.choose_spec.uniq h fun _ => Iff.rfl
theorem rowOf_ok {P : Int → Prop} {n : Nat} (h : ∀ x, P x → 0 ≤ x ∧ x < (n : Int)) : isRow (rowOf P) P := by
  have hx : ∃ L, isRow L P := by
    refine ⟨((List.range n).map Int.ofNat).filter (fun x => @decide (P x) (Classical.propDecidable _)), ?_, fun x => ?_⟩
    · refine List.Pairwise.filter _ ?_
      rw [List.pairwise_map]
      exact List.pairwise_lt_range.imp (fun h => by simpa using h)
    · simp only [List.mem_filter, List.mem_map, List.mem_range]
      constructor
      · rintro ⟨-, q⟩
        simpa using q
      · intro q
        have := h x q
        exact ⟨⟨x.toNat, by omega, by simp; omega⟩, by simpa using q⟩
  obtain ⟨L, hL⟩ := hx
  rw [rowOf_is hL]
  exact hL
theorem rowOf_congr {P P' : Int → Prop} (h : ∀ x, P x ↔ P' x) : rowOf P = rowOf P' := by rw [show P = P' from funext fun x => propext (h x)]
theorem isRow.filter {L : List Int} {P : Int → Prop} (h : isRow L P) (p : Int → Bool) : isRow (L.filter p) (fun x => P x ∧ p x = true) :=
  ⟨h.1.filter _, fun x => by rw [List.mem_filter, h.2]⟩
/-- an element at its place -/
theorem at_mem {L : List Int} {j : Int} (h : 0 ≤ j ∧ j < (L.length : Int)) : L.getD j.toNat 0 ∈ L := by
  rw [List.getD_eq_getElem?_getD, List.getElem?_eq_getElem (by omega)]
  exact List.getElem_mem _
theorem at_lt {L : List Int} (hL : L.Pairwise (· < ·)) {i j : Int} (h : 0 ≤ i ∧ i < j ∧ j < (L.length : Int)) : L.getD i.toNat 0 < L.getD j.toNat 0 := by
  rw [List.getD_eq_getElem?_getD, List.getElem?_eq_getElem (by omega), List.getD_eq_getElem?_getD, List.getElem?_eq_getElem (by omega)]
  exact List.pairwise_iff_getElem.mp hL i.toNat j.toNat (by omega) (by omega) (by omega)
theorem drop_at {L : List Int} {j : Int} (h : 0 ≤ j ∧ j < (L.length : Int)) : L.drop j.toNat = L.getD j.toNat 0 :: L.drop (j + 1).toNat := by
  rw [List.getD_eq_getElem?_getD, List.getElem?_eq_getElem (by omega), show (j + 1).toNat = j.toNat + 1 by omega]
  exact List.drop_eq_getElem_cons (by omega)
theorem drop_end {L : List Int} {j : Int} (h : (L.length : Int) ≤ j) : L.drop j.toNat = [] := List.drop_eq_nil_of_le (by omega)
theorem take_at {L : List Int} {j : Int} (h : 0 ≤ j ∧ j < (L.length : Int)) : L.take (j + 1).toNat = L.take j.toNat ++ [L.getD j.toNat 0] := by
  rw [List.getD_eq_getElem?_getD, List.getElem?_eq_getElem (by omega), show (j + 1).toNat = j.toNat + 1 by omega, List.take_add_one, List.getElem?_eq_getElem (by omega)]
  rfl
/-- a new one at its place -/
theorem row_ins {L : List Int} {P : Int → Prop} (h : isRow L P) {x : Int} {p : Nat} (hp : p ≤ L.length) (h1 : ∀ j : Nat, j < p → L.getD j 0 < x) (h2 : ∀ j : Nat, p ≤ j → j < L.length → x < L.getD j 0) : isRow (L.take p ++ x :: L.drop p) (fun y => P y ∨ y = x) := by
  have g : ∀ j : Nat, (hj : j < L.length) → L.getD j 0 = L[j] := fun j hj => by rw [List.getD_eq_getElem?_getD, List.getElem?_eq_getElem hj]; rfl
  have m1 : ∀ a ∈ L.take p, a < x := by
    intro a ha
    obtain ⟨i, hi, e⟩ := List.mem_take_iff_getElem.mp ha
    have := h1 i (by omega)
    rw [g i (by omega), e] at this
    exact this
  have m2 : ∀ a ∈ L.drop p, x < a := by
    intro a ha
    obtain ⟨i, hi, e⟩ := List.mem_drop_iff_getElem.mp ha
    have := h2 (p + i) (by omega) (by omega)
    rw [g _ (by omega), e] at this
    exact this
  refine ⟨?_, fun y => ?_⟩
  · rw [List.pairwise_append]
    refine ⟨h.1.sublist (List.take_sublist _ _), ?_, ?_⟩
    · rw [List.pairwise_cons]
      exact ⟨m2, h.1.sublist (List.drop_sublist _ _)⟩
    · intro a ha b hb
      rcases List.mem_cons.mp hb with rfl | hb
      · exact m1 a ha
      · have := m1 a ha
        have := m2 b hb
        omega
  · show _ ↔ P y ∨ y = x
    rw [← h.2 y]
    have e : y ∈ L ↔ y ∈ L.take p ∨ y ∈ L.drop p := by rw [← List.mem_append, List.take_append_drop]
    rw [e, List.mem_append, List.mem_cons]
    constructor
    · rintro (q | q | q)
      · exact .inl (.inl q)
      · exact .inr q
      · exact .inl (.inr q)
    · rintro ((q | q) | q)
      · exact .inl q
      · exact .inr (.inr q)
      · exact .inr (.inl q)
theorem ins_at {L : List Int} {x : Int} {p j : Nat} (hp : p ≤ L.length) : (L.take p ++ x :: L.drop p)[j]? = if j < p then L[j]? else if j = p then some x else L[j - 1]? := by
  rw [List.getElem?_append, List.length_take, Nat.min_eq_left hp]
  split
  · next h => rw [List.getElem?_take, if_pos h]
  · next h =>
    split
    · next h2 => subst h2; simp
    · next h2 =>
      rw [show j - p = (j - p - 1) + 1 by omega, List.getElem?_cons_succ, List.getElem?_drop, show p + (j - p - 1) = j - 1 by omega]
theorem ins_len {L : List Int} {x : Int} {p : Nat} (hp : p ≤ L.length) : (L.take p ++ x :: L.drop p).length = L.length + 1 := by
  simp
  omega
/-- no more of them than there are slots -/
theorem len_slots (f : Int → Int) : ∀ (n : Nat) (L : List Int), L.Pairwise (fun a b => f a ≠ f b) → (∀ x ∈ L, 0 ≤ f x ∧ f x < (n : Int)) → L.length ≤ n
  | 0, [], _, _ => Nat.le_refl _
  | 0, a :: L, _, h => by have := h a List.mem_cons_self; omega
  | n + 1, L, hp, h => by
    have k1 : (L.filter (fun x => decide (f x < (n : Int)))).length ≤ n := by
      refine len_slots f n _ (hp.filter _) fun x hx => ?_
      have := List.mem_filter.mp hx
      have h2 := h x this.1
      have h3 : f x < (n : Int) := by simpa using this.2
      omega
    have k2 : ∀ L' : List Int, L'.Pairwise (fun a b => f a ≠ f b) → (∀ x ∈ L', 0 ≤ f x ∧ f x < (n + 1 : Int)) → L'.length ≤ (L'.filter (fun x => decide (f x < (n : Int)))).length + 1 := by
      intro L'
      induction L' with
      | nil => intro _ _; exact Nat.zero_le _
      | cons a L' ih =>
        intro hp' h'
        have hp2 := List.pairwise_cons.mp hp'
        rw [List.filter_cons]
        by_cases ha : f a < (n : Int)
        · rw [if_pos (by simpa using ha), List.length_cons, List.length_cons]
          have := ih hp2.2 (fun x hx => h' x (List.mem_cons_of_mem _ hx))
          omega
        · rw [if_neg (by simpa using ha), List.length_cons]
          have ea := h' a List.mem_cons_self
          have e : L'.filter (fun x => decide (f x < (n : Int))) = L' := by
            rw [List.filter_eq_self]
            intro x hx
            have h3 := h' x (List.mem_cons_of_mem _ hx)
            have h4 := hp2.1 x hx
            simp only [decide_eq_true_eq]
            omega
          rw [e]
          exact Nat.le_refl _
    have := k2 L hp (fun x hx => by have := h x hx; omega)
    omega
/-! ===== keys of units ===== -/
def kB (v : Int → Int → Int) (t u : Int) : Int := (9999 - v t u) * 80 + (4 * t + u)
def kA (v : Int → Int → Int) (t u : Int) : Int := v t u * 80 + (4 * t + u)
def ktr (x : Int) : Int := x % 80 / 4
def kun (x : Int) : Int := x % 4
def kbv (x : Int) : Int := 9999 - x / 80
def kav (f x : Int) : Int := x / 80 + f
/-- a hall whose units can be laid by the values v -/
def okM (S : zS) (v : Int → Int → Int) : Prop :=
  (0 ≤ qn S ∧ qn S ≤ 20) ∧ (∀ t, 0 ≤ t ∧ t < qn S → 0 ≤ qun S t ∧ qun S t ≤ 4) ∧ (∀ t u, qU S t u → 0 ≤ v t u ∧ v t u ≤ 9999) ∧
  (∀ t u, qU S t u → qU S t (u + 1) → (qsl S t = 1 → v t u ≤ v t (u + 1)) ∧ (¬ qsl S t = 1 → v t (u + 1) ≤ v t u))
def cB (S : zS) (E : Int → Prop) (t u : Int) : Prop := qU S t u ∧ E t ∧ ¬ qsl S t = 1
def cA (S : zS) (E : Int → Prop) (t u : Int) : Prop := qU S t u ∧ E t ∧ qsl S t = 1
def PB (S : zS) (E : Int → Prop) (v : Int → Int → Int) (x : Int) : Prop := ∃ t u, cB S E t u ∧ x = kB v t u
def PA (S : zS) (E : Int → Prop) (v : Int → Int → Int) (x : Int) : Prop := ∃ t u, cA S E t u ∧ x = kA v t u
theorem okM.rng {S : zS} {v : Int → Int → Int} (h : okM S v) {t u : Int} (q : qU S t u) : (0 ≤ t ∧ t < 20) ∧ (0 ≤ u ∧ u < 4) ∧ (0 ≤ v t u ∧ v t u ≤ 9999) := by
  have h1 := h.1
  have h2 := h.2.1 t ⟨q.1, q.2.1⟩
  have h3 := h.2.2.1 t u q
  obtain ⟨q1, q2, q3, q4⟩ := q
  omega
theorem kB_d {v : Int → Int → Int} {t u : Int} (h : (0 ≤ t ∧ t < 20) ∧ (0 ≤ u ∧ u < 4) ∧ (0 ≤ v t u ∧ v t u ≤ 9999)) : ktr (kB v t u) = t ∧ kun (kB v t u) = u ∧ kbv (kB v t u) = v t u ∧ 0 ≤ kB v t u ∧ kB v t u < 800000 ∧ kB v t u % 80 = 4 * t + u := by
  unfold ktr kun kbv kB
  omega
theorem kA_d {v : Int → Int → Int} {t u : Int} (h : (0 ≤ t ∧ t < 20) ∧ (0 ≤ u ∧ u < 4) ∧ (0 ≤ v t u ∧ v t u ≤ 9999)) : ktr (kA v t u) = t ∧ kun (kA v t u) = u ∧ (∀ f, kav f (kA v t u) = v t u + f) ∧ 0 ≤ kA v t u ∧ kA v t u < 800000 ∧ kA v t u % 80 = 4 * t + u := by
  unfold ktr kun kA kav
  refine ⟨by omega, by omega, fun f => by omega, by omega, by omega, by omega⟩
theorem PB_rng {S : zS} {E : Int → Prop} {v : Int → Int → Int} (h : okM S v) (x : Int) (q : PB S E v x) : 0 ≤ x ∧ x < (800000 : Nat) := by
  obtain ⟨t, u, c, rfl⟩ := q
  have := kB_d (h.rng c.1)
  omega
theorem PA_rng {S : zS} {E : Int → Prop} {v : Int → Int → Int} (h : okM S v) (x : Int) (q : PA S E v x) : 0 ≤ x ∧ x < (800000 : Nat) := by
  obtain ⟨t, u, c, rfl⟩ := q
  have := kA_d (h.rng c.1)
  omega
noncomputable def mB (S : zS) (E : Int → Prop) (v : Int → Int → Int) : List Int := rowOf (PB S E v)
noncomputable def mA (S : zS) (E : Int → Prop) (v : Int → Int → Int) : List Int := rowOf (PA S E v)
theorem mB_ok {S : zS} {E : Int → Prop} {v : Int → Int → Int} (h : okM S v) : isRow (mB S E v) (PB S E v) := rowOf_ok (PB_rng h)
theorem mA_ok {S : zS} {E : Int → Prop} {v : Int → Int → Int} (h : okM S v) : isRow (mA S E v) (PA S E v) := rowOf_ok (PA_rng h)
theorem mB_congr {S S' : zS} {E E' : Int → Prop} {v v' : Int → Int → Int} (h1 : ∀ t u, cB S E t u ↔ cB S' E' t u) (h2 : ∀ t u, cB S E t u → v t u = v' t u) : mB S E v = mB S' E' v' := by
  refine rowOf_congr fun x => ⟨?_, ?_⟩
  · rintro ⟨t, u, c, rfl⟩
    exact ⟨t, u, (h1 t u).mp c, by unfold kB; rw [h2 t u c]⟩
  · rintro ⟨t, u, c, rfl⟩
    have c' := (h1 t u).mpr c
    exact ⟨t, u, c', by unfold kB; rw [h2 t u c']⟩
theorem mA_congr {S S' : zS} {E E' : Int → Prop} {v v' : Int → Int → Int} (h1 : ∀ t u, cA S E t u ↔ cA S' E' t u) (h2 : ∀ t u, cA S E t u → v t u = v' t u) : mA S E v = mA S' E' v' := by
  refine rowOf_congr fun x => ⟨?_, ?_⟩
  · rintro ⟨t, u, c, rfl⟩
    exact ⟨t, u, (h1 t u).mp c, by unfold kA; rw [h2 t u c]⟩
  · rintro ⟨t, u, c, rfl⟩
    have c' := (h1 t u).mpr c
    exact ⟨t, u, c', by unfold kA; rw [h2 t u c']⟩
theorem PB_len {S : zS} {E : Int → Prop} {v : Int → Int → Int} {L : List Int} (h : okM S v) (r : L.Pairwise (· < ·)) (m : ∀ x ∈ L, PB S E v x) : L.length ≤ 80 := by
  refine len_slots (fun x => x % 80) 80 L ?_ (fun x _ => by omega)
  refine r.imp_of_mem ?_
  intro a b ha hb hab e
  obtain ⟨t, u, c, rfl⟩ := m a ha
  obtain ⟨t', u', c', rfl⟩ := m b hb
  have h1 := h.rng c.1
  have h2 := h.rng c'.1
  have k1 := (kB_d h1).2.2.2.2.2
  have k2 := (kB_d h2).2.2.2.2.2
  have e' : kB v t u % 80 = kB v t' u' % 80 := e
  have et : t = t' := by omega
  have eu : u = u' := by omega
  subst et
  subst eu
  omega
theorem PA_len {S : zS} {E : Int → Prop} {v : Int → Int → Int} {L : List Int} (h : okM S v) (r : L.Pairwise (· < ·)) (m : ∀ x ∈ L, PA S E v x) : L.length ≤ 80 := by
  refine len_slots (fun x => x % 80) 80 L ?_ (fun x _ => by omega)
  refine r.imp_of_mem ?_
  intro a b ha hb hab e
  obtain ⟨t, u, c, rfl⟩ := m a ha
  obtain ⟨t', u', c', rfl⟩ := m b hb
  have h1 := h.rng c.1
  have h2 := h.rng c'.1
  have k1 := (kA_d h1).2.2.2.2.2
  have k2 := (kA_d h2).2.2.2.2.2
  have e' : kA v t u % 80 = kA v t' u' % 80 := e
  have et : t = t' := by omega
  have eu : u = u' := by omega
  subst et
  subst eu
  omega

