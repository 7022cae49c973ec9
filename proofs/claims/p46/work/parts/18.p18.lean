/-! ===== trades, what is done, what is paid: over rows ===== -/
def gB (B : List Int) (k : Int) : Int := kbv (B.getD k.toNat 0)
def gA (f : Int) (A : List Int) (k : Int) : Int := kav f (A.getD k.toNat 0)
def tT (f : Int) : List Int → List Int → Int
  | b :: B, a :: A => if kav f a ≤ kbv b then tT f B A + 1 else 0
  | _, _ => 0
def tW (f : Int) : List Int → List Int → Int
  | b :: B, a :: A => if kav f a ≤ kbv b then (kbv b - kav f a) + tW f B A else 0
  | _, _ => 0
theorem tT_nil1 {f : Int} {A : List Int} : tT f [] A = 0 := by cases A <;> rfl
theorem tT_nil2 {f : Int} {B : List Int} : tT f B [] = 0 := by cases B <;> rfl
theorem tW_nil1 {f : Int} {A : List Int} : tW f [] A = 0 := by cases A <;> rfl
theorem tW_nil2 {f : Int} {B : List Int} : tW f B [] = 0 := by cases B <;> rfl
theorem tT_b {f : Int} : ∀ {B A : List Int}, 0 ≤ tT f B A ∧ tT f B A ≤ B.length ∧ tT f B A ≤ A.length
  | [], A => by rw [tT_nil1]; omega
  | b :: B, [] => by rw [tT_nil2]; omega
  | b :: B, a :: A => by
    have ih := tT_b (f := f) (B := B) (A := A)
    rw [tT]
    simp only [List.length_cons]
    split <;> omega
theorem tT_ge {f : Int} : ∀ {B A : List Int} {k : Nat}, (k : Int) < tT f B A → kav f (A.getD k 0) ≤ kbv (B.getD k 0)
  | [], A, k, h => by rw [tT_nil1] at h; omega
  | b :: B, [], k, h => by rw [tT_nil2] at h; omega
  | b :: B, a :: A, k, h => by
    rw [tT] at h
    split at h
    · next c =>
      cases k with
      | zero => exact c
      | succ k => exact tT_ge (B := B) (A := A) (k := k) (by omega)
    · omega
theorem tT_at {f : Int} : ∀ {B A : List Int}, tT f B A < B.length → tT f B A < A.length → kbv (B.getD (tT f B A).toNat 0) < kav f (A.getD (tT f B A).toNat 0)
  | [], A, h, _ => by have := (tT_b (f := f) (B := []) (A := A)).1; simp at h; omega
  | b :: B, [], _, h => by have := (tT_b (f := f) (B := b :: B) (A := [])).1; simp at h; omega
  | b :: B, a :: A, h1, h2 => by
    rw [tT] at h1 h2 ⊢
    simp only [List.length_cons] at h1 h2
    by_cases c : kav f a ≤ kbv b
    · rw [if_pos c] at h1 h2 ⊢
      have ih := tT_at (f := f) (B := B) (A := A) (by omega) (by omega)
      have hb := (tT_b (f := f) (B := B) (A := A)).1
      rw [show (tT f B A + 1).toNat = (tT f B A).toNat + 1 by omega]
      exact ih
    · rw [if_neg c]
      show kbv b < kav f a
      omega
theorem tT_g {f : Int} {B A : List Int} {k : Int} (h : 0 ≤ k ∧ k < tT f B A) : gA f A k ≤ gB B k := tT_ge (by omega)
theorem tT_l {f : Int} {B A : List Int} (h1 : tT f B A < B.length) (h2 : tT f B A < A.length) : gB B (tT f B A) < gA f A (tT f B A) := tT_at h1 h2
theorem tT_step {f : Int} {B A : List Int} {k : Int} (hk : 0 ≤ k) (h1 : k < B.length) (h2 : k < A.length) (c : gA f A k ≤ gB B k) :
    tT f (B.drop k.toNat) (A.drop k.toNat) = tT f (B.drop (k + 1).toNat) (A.drop (k + 1).toNat) + 1 ∧ tW f (B.drop k.toNat) (A.drop k.toNat) = (gB B k - gA f A k) + tW f (B.drop (k + 1).toNat) (A.drop (k + 1).toNat) := by
  rw [drop_at ⟨hk, h1⟩, drop_at ⟨hk, h2⟩, tT, tW]
  unfold gA gB at c ⊢
  rw [if_pos c, if_pos c]
  exact ⟨rfl, rfl⟩
theorem tT_stop {f : Int} {B A : List Int} {k : Int} (hk : 0 ≤ k) (c : k < B.length → k < A.length → gB B k < gA f A k) :
    tT f (B.drop k.toNat) (A.drop k.toNat) = 0 ∧ tW f (B.drop k.toNat) (A.drop k.toNat) = 0 := by
  by_cases h1 : k < B.length
  · by_cases h2 : k < A.length
    · have := c h1 h2
      rw [drop_at ⟨hk, h1⟩, drop_at ⟨hk, h2⟩, tT, tW, if_neg (by unfold gA gB at this; omega), if_neg (by unfold gA gB at this; omega)]
      exact ⟨rfl, rfl⟩
    · rw [drop_end (L := A) (by omega), tT_nil2, tW_nil2]; exact ⟨rfl, rfl⟩
  · rw [drop_end (L := B) (by omega), tT_nil1, tW_nil1]; exact ⟨rfl, rfl⟩
theorem B_len {S : zS} {E : Int → Prop} {v : Int → Int → Int} {B : List Int} (h : okM S v) (r : isRow B (PB S E v)) : B.length ≤ 80 := PB_len h r.1 fun x hx => (r.2 x).mp hx
theorem A_len {S : zS} {E : Int → Prop} {v : Int → Int → Int} {A : List Int} (h : okM S v) (r : isRow A (PA S E v)) : A.length ≤ 80 := PA_len h r.1 fun x hx => (r.2 x).mp hx
/-! done by a law: T trades, the rows, the fee, the law -/
def mid (B A : List Int) (f k : Int) : Int := (gB B k + gA f A k) / 2
abbrev full (B A : List Int) (f w : Int) : Prop := w = 3 ∨ w = 1 ∨ (w = 0 ∧ tT f B A < B.length ∧ tT f B A < A.length ∧ mid B A f (tT f B A) ≤ gB B (tT f B A - 1) ∧ gA f A (tT f B A - 1) ≤ mid B A f (tT f B A))
def dN (B A : List Int) (f w : Int) : Int := if tT f B A = 0 then 0 else if full B A f w then tT f B A else tT f B A - 1
def dP (B A : List Int) (f w : Int) : Int := if full B A f w then (if w = 0 then mid B A f (tT f B A) else mid B A f (tT f B A - 1)) else gB B (tT f B A - 1)
def dG (B A : List Int) (f w : Int) : Int := (if full B A f w then dP B A f w else gA f A (tT f B A - 1)) - f
theorem dN_b {B A : List Int} {f w : Int} : 0 ≤ dN B A f w ∧ dN B A f w ≤ tT f B A := by
  have := (tT_b (f := f) (B := B) (A := A)).1
  unfold dN
  split
  · omega
  · split <;> omega
/-- how many of the first n of a row are of a trader -/
def cnt (R : List Int) (t n : Int) : Int := zsum (fun k => if ktr (R.getD k.toNat 0) = t then 1 else 0) n
theorem zsum_bd {f : Int → Int} {n c d : Int} (hn : 0 ≤ n) (h : ∀ i, 0 ≤ i ∧ i < n → c ≤ f i ∧ f i ≤ d) : c * n ≤ zsum f n ∧ zsum f n ≤ d * n := by
  unfold zsum
  have key : ∀ m : Nat, (m : Int) ≤ n → c * m ≤ zsumN f m ∧ zsumN f m ≤ d * m := by
    intro m
    induction m with
    | zero => intro _; simp [zsumN]
    | succ m ih =>
      intro hm
      rw [zsumN]
      have h1 := ih (by omega)
      have h2 := h m (by omega)
      have e1 : c * ((m + 1 : Nat) : Int) = c * m + c := by rw [Int.natCast_add, Int.mul_add]; simp
      have e2 : d * ((m + 1 : Nat) : Int) = d * m + d := by rw [Int.natCast_add, Int.mul_add]; simp
      omega
  have := key n.toNat (by omega)
  rwa [show ((n.toNat : Nat) : Int) = n by omega] at this
theorem cnt_b {R : List Int} {t n : Int} (hn : 0 ≤ n) : 0 ≤ cnt R t n ∧ cnt R t n ≤ n := by
  have := zsum_bd (f := fun k => if ktr (R.getD k.toNat 0) = t then 1 else 0) (n := n) (c := 0) (d := 1) hn (fun i _ => by split <;> omega)
  unfold cnt
  omega
/-- what the first n of a row say, those of a trader -/
def say1 (g : Int → Int) (R : List Int) (t n : Int) : Int := zsum (fun k => if ktr (R.getD k.toNat 0) = t then g k else 0) n
/-- the units of a trader stand in its row one behind the other -/
theorem own_units {R : List Int} {c : Int → Int → Int} {t n : Int} (hR : R.Pairwise (· < ·)) (hn : 0 ≤ n)
    (hm : ∀ x, (x ∈ R ∧ ktr x = t) ↔ ∃ u, 0 ≤ u ∧ u < n ∧ x = c t u) (hc : ∀ u, 0 ≤ u ∧ u + 1 < n → c t u < c t (u + 1)) : R.filter (fun x => decide (ktr x = t)) = (List.range n.toNat).map (fun u : Nat => c t (u : Int)) := by
  have mono : ∀ (j i : Nat), i < j → (j : Int) < n → c t i < c t j := by
    intro j
    induction j with
    | zero => intro i h; omega
    | succ j ih =>
      intro i h1 h2
      have h3 := hc j (by omega)
      by_cases e : i = j
      · subst e; exact h3
      · have := ih i (by omega) (by omega)
        have e : ((j + 1 : Nat) : Int) = (j : Int) + 1 := by omega
        rw [e]
        omega
  refine row_ext (hR.filter _) ?_ fun x => ?_
  · rw [List.pairwise_map]
    refine List.pairwise_lt_range.imp_of_mem ?_
    intro a b ha hb hab
    exact mono b a hab (by have := List.mem_range.mp hb; omega)
  · rw [List.mem_filter, decide_eq_true_eq, hm, List.mem_map]
    constructor
    · rintro ⟨u, h1, h2, rfl⟩
      exact ⟨u.toNat, by rw [List.mem_range]; omega, by rw [show ((u.toNat : Nat) : Int) = u by omega]⟩
    · rintro ⟨u, h1, rfl⟩
      have := List.mem_range.mp h1
      exact ⟨u, by omega, by omega, rfl⟩
def lsum (g : Int → Int) : List Int → Int
  | [] => 0
  | x :: L => g x + lsum g L
theorem lsum_app {g : Int → Int} : ∀ {L L' : List Int}, lsum g (L ++ L') = lsum g L + lsum g L'
  | [], L' => by simp [lsum]
  | x :: L, L' => by rw [List.cons_append, lsum, lsum, lsum_app]; omega
theorem say_l {g : Int → Int} {R : List Int} {t n : Int} (h : 0 ≤ n ∧ n ≤ (R.length : Int)) : say1 (fun k => g (R.getD k.toNat 0)) R t n = lsum g ((R.take n.toNat).filter (fun x => decide (ktr x = t))) ∧ cnt R t n = ((R.take n.toNat).filter (fun x => decide (ktr x = t))).length := by
  have key : ∀ m : Nat, (m : Int) ≤ n → say1 (fun k => g (R.getD k.toNat 0)) R t m = lsum g ((R.take m).filter (fun x => decide (ktr x = t))) ∧ cnt R t m = ((R.take m).filter (fun x => decide (ktr x = t))).length := by
    intro m
    induction m with
    | zero => intro _; exact ⟨by simp [lsum]; rfl, by simp; rfl⟩
    | succ m ih =>
      intro hm
      obtain ⟨i1, i2⟩ := ih (by omega)
      have e : ((m + 1 : Nat) : Int) = (m : Int) + 1 := by omega
      have ht := take_at (L := R) (j := (m : Int)) (by omega)
      rw [show ((m : Int) + 1).toNat = m + 1 by omega, show ((m : Int)).toNat = m by omega] at ht
      have p1 : say1 (fun k => g (R.getD k.toNat 0)) R t ((m + 1 : Nat) : Int) = say1 (fun k => g (R.getD k.toNat 0)) R t m + (if ktr (R.getD m 0) = t then g (R.getD m 0) else 0) := by
        rw [e]; unfold say1; rw [zsum_s (by omega)]; simp
      have p2 : cnt R t ((m + 1 : Nat) : Int) = cnt R t m + (if ktr (R.getD m 0) = t then 1 else 0) := by
        rw [e]; unfold cnt; rw [zsum_s (by omega)]; simp
      rw [p1, p2, i1, i2, ht, List.filter_append, lsum_app, List.length_append, List.filter_cons, List.filter_nil]
      by_cases q : ktr (R.getD m 0) = t
      · rw [if_pos q, if_pos q, if_pos (by simpa using q)]
        simp [lsum]
      · rw [if_neg q, if_neg q, if_neg (by simpa using q)]
        simp [lsum]
  have := key n.toNat (by omega)
  rwa [show ((n.toNat : Nat) : Int) = n by omega] at this
theorem lsum_range {g : Int → Int} {c : Int → Int} : ∀ {n : Nat}, lsum g ((List.range n).map (fun u : Nat => c (u : Int))) = zsum (fun u => g (c u)) n
  | 0 => rfl
  | n + 1 => by
    rw [List.range_succ, List.map_append, lsum_app, lsum_range, List.map_cons, List.map_nil]
    have e : ((n + 1 : Nat) : Int) = (n : Int) + 1 := by omega
    rw [e, zsum_s (by omega)]
    simp [lsum]
/-- so what its first ones among the done say is what its first units say -/
theorem own_say {R : List Int} {c : Int → Int → Int} {g : Int → Int} {t n m : Int} (hR : R.Pairwise (· < ·)) (hn : 0 ≤ n) (hm' : 0 ≤ m ∧ m ≤ (R.length : Int))
    (hm : ∀ x, (x ∈ R ∧ ktr x = t) ↔ ∃ u, 0 ≤ u ∧ u < n ∧ x = c t u) (hc : ∀ u, 0 ≤ u ∧ u + 1 < n → c t u < c t (u + 1)) :
    say1 (fun k => g (R.getD k.toNat 0)) R t m = zsum (fun u => g (c t u)) (cnt R t m) ∧ cnt R t m ≤ n := by
  obtain ⟨h1, h2⟩ := say_l (g := g) (t := t) hm'
  have h3 := own_units hR hn hm hc
  have h4 : R.filter (fun x => decide (ktr x = t)) = (R.take m.toNat).filter (fun x => decide (ktr x = t)) ++ (R.drop m.toNat).filter (fun x => decide (ktr x = t)) := by
    rw [← List.filter_append, List.take_append_drop]
  have h5 : (R.take m.toNat).filter (fun x => decide (ktr x = t)) = (R.filter (fun x => decide (ktr x = t))).take ((R.take m.toNat).filter (fun x => decide (ktr x = t))).length := by
    rw [h4, List.take_left]
  have hlen : ((R.take m.toNat).filter (fun x => decide (ktr x = t))).length ≤ n.toNat := by
    have := congrArg List.length h4
    rw [h3, List.length_append, List.length_map, List.length_range] at this
    omega
  rw [h1, h2]
  refine ⟨?_, by omega⟩
  conv => lhs; rw [h5, h3, ← List.map_take, List.take_range, Nat.min_eq_left hlen]
  exact lsum_range
/-- a trader that has none among the trades isn't missed -/
theorem out_B {f : Int} {p : Int → Bool} : ∀ {B A : List Int}, B.Pairwise (· < ·) → (∀ k : Nat, (k : Int) < tT f B A → p (B.getD k 0) = true) → tW f (B.filter p) A = tW f B A
  | [], A, _, _ => rfl
  | b :: B, [], _, _ => by rw [tW_nil2, tW_nil2]
  | b :: B, a :: A, hB, h => by
    have hB' := List.pairwise_cons.mp hB
    rw [tT] at h
    by_cases c : kav f a ≤ kbv b
    · rw [if_pos c] at h
      have hb := tT_b (f := f) (B := B) (A := A)
      have h0 : p b = true := h 0 (by omega)
      rw [List.filter_cons, if_pos h0, tW, tW, if_pos c, if_pos c, out_B hB'.2 fun k hk => h (k + 1) (by omega)]
    · rw [tW.eq_1 f b B a A, if_neg c]
      cases hq : (b :: B).filter p with
      | nil => exact tW_nil1
      | cons x L =>
        have hx : x ∈ b :: B := (List.mem_filter.mp (by rw [hq]; exact List.mem_cons_self)).1
        have hle : b ≤ x := by
          rcases List.mem_cons.mp hx with e | e
          · omega
          · have := hB'.1 x e; omega
        rw [tW, if_neg]
        unfold kbv at c ⊢
        omega
theorem out_A {f : Int} {p : Int → Bool} : ∀ {B A : List Int}, A.Pairwise (· < ·) → (∀ k : Nat, (k : Int) < tT f B A → p (A.getD k 0) = true) → tW f B (A.filter p) = tW f B A
  | [], A, _, _ => by rw [tW_nil1, tW_nil1]
  | b :: B, [], _, _ => rfl
  | b :: B, a :: A, hA, h => by
    have hA' := List.pairwise_cons.mp hA
    rw [tT] at h
    by_cases c : kav f a ≤ kbv b
    · rw [if_pos c] at h
      have hb := tT_b (f := f) (B := B) (A := A)
      have h0 : p a = true := h 0 (by omega)
      rw [List.filter_cons, if_pos h0, tW, tW, if_pos c, if_pos c, out_A hA'.2 fun k hk => h (k + 1) (by omega)]
    · rw [tW.eq_1 f b B a A, if_neg c]
      cases hq : (a :: A).filter p with
      | nil => exact tW_nil2
      | cons x L =>
        have hx : x ∈ a :: A := (List.mem_filter.mp (by rw [hq]; exact List.mem_cons_self)).1
        have hle : a ≤ x := by
          rcases List.mem_cons.mp hx with e | e
          · omega
          · have := hA'.1 x e; omega
        rw [tW, if_neg]
        unfold kav at c ⊢
        omega
theorem tW_b {f : Int} : ∀ {B A : List Int} {c : Int}, 0 ≤ c → (∀ x ∈ B, kbv x ≤ c) → (∀ x ∈ A, 0 ≤ kav f x) → 0 ≤ tW f B A ∧ tW f B A ≤ c * B.length
  | [], A, c, hc, _, _ => by rw [tW_nil1]; simp
  | b :: B, [], c, hc, _, _ => by rw [tW_nil2]; exact ⟨Int.le_refl _, Int.mul_nonneg hc (by omega)⟩
  | b :: B, a :: A, c, hc, h1, h2 => by
    have ih := tW_b (f := f) (B := B) (A := A) hc (fun x hx => h1 x (List.mem_cons_of_mem _ hx)) (fun x hx => h2 x (List.mem_cons_of_mem _ hx))
    have k1 := h1 b List.mem_cons_self
    have k2 := h2 a List.mem_cons_self
    have e : c * ((b :: B).length : Int) = c * (B.length : Int) + c := by rw [List.length_cons, Int.natCast_add, Int.mul_add]; simp
    have e0 : 0 ≤ c * (B.length : Int) := Int.mul_nonneg hc (by omega)
    rw [tW]
    split <;> omega

