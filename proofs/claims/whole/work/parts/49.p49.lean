/-! ===== served: the reference, all ===== -/
section
variable {l : Launch} {M : zM} {S : zS}
theorem c_X9_laysSums {g : Int} (h : MX M S) (hg : 0 ≤ g ∧ g < 4) : CV l m_X9_laysSums [zr 9 0, zi g] M (fun M' => mQ M M' ∧ (M' 39 0 = M 39 0 ∧ M' 40 0 = M 40 0) ∧ (M' 9 0 11 = (qB S g).length ∧ M' 9 0 15 = (qA S g).length) ∧ (∀ i : Nat, i ≤ (qB S g).length → M' 43 0 i = pS kbv i (qB S g)) ∧ (∀ j : Nat, j ≤ (qA S g).length → M' 44 0 j = pS (kav (qfee S)) j (qA S g))) := by
  have hlB : (qB S g).length ≤ 80 := B_len h.ok.1 (mB_ok (S := S) (E := fun t => qgr S t = g) h.ok.1)
  have hlA : (qA S g).length ≤ 80 := A_len h.ok.1 (mA_ok (S := S) (E := fun t => qgr S t = g) h.ok.1)
  refine vX9_laysSums ((lays_g h.1.1 hg).mono ?_)
  rintro M1 ⟨fr1, ld⟩
  rw [h.B, h.A, h.1.2] at ld
  have q1 := mFs.q h fr1.s
  have g39 : M1 39 0 = M 39 0 := fr1.1 39 0 (by decide) (by omega)
  have g40 : M1 40 0 = M 40 0 := fr1.1 40 0 (by decide) (by omega)
  generalize qB S g = B at *
  generalize qA S g = A at *
  generalize qfee S = fe at *
  obtain ⟨rb, ra, -, -⟩ := ld
  intro M2 e2 M3 e3
  let F : zM → Prop := fun M' => ∀ k i, k ≠ 43 → k ≠ 44 → M' k i = M1 k i
  let Po : zM → Prop := fun M' => mQ M M' ∧ (M' 39 0 = M 39 0 ∧ M' 40 0 = M 40 0) ∧ (M' 9 0 11 = B.length ∧ M' 9 0 15 = A.length) ∧ (∀ i : Nat, i ≤ B.length → M' 43 0 i = pS kbv i B) ∧ (∀ j : Nat, j ≤ A.length → M' 44 0 j = pS (kav fe) j A)
  have fin : ∀ M', F M' → (∀ i : Nat, i ≤ B.length → M' 43 0 i = pS kbv i B) → (∀ j : Nat, j ≤ A.length → M' 44 0 j = pS (kav fe) j A) → Po M' := by
    intro M' f s1 s2
    have e9 : M' 9 0 = M1 9 0 := f 9 0 (by decide) (by decide)
    refine ⟨⟨fun k i h1 h2 => (f k i (by omega) (by omega)).trans (q1.1 k i h1 h2), fun j hj => by rw [e9]; exact q1.2.1 j hj, by rw [e9]; exact q1.2.2⟩, ⟨(f 39 0 (by decide) (by decide)).trans g39, (f 40 0 (by decide) (by decide)).trans g40⟩, ⟨by rw [e9]; exact rb.1, by rw [e9]; exact ra.1⟩, s1, s2⟩
  have lpA : ∀ (n j : Nat) (M' : zM), A.length - j = n → j ≤ A.length → F M' → (∀ i : Nat, i ≤ B.length → M' 43 0 i = pS kbv i B) → (∀ j' : Nat, j' ≤ j → M' 44 0 j' = pS (kav fe) j' A) → LX9_laysSums_60 l Po (j : Int) M' := by
    intro n
    induction n with
    | zero =>
      intro j M' hn hj f s1 s2
      have e9 : M' 9 0 = M1 9 0 := f 9 0 (by decide) (by decide)
      refine vX9_laysSums_60 ?_
      rw [e9, ra.1]
      exact ⟨by omega, by omega, fun _ => fin M' f s1 (by rw [show A.length = j by omega]; exact s2), fun c => by omega⟩
    | succ n ih =>
      intro j M' hn hj f s1 s2
      have e9 : M' 9 0 = M1 9 0 := f 9 0 (by decide) (by decide)
      have e36 : M' 36 0 = M1 36 0 := f 36 0 (by decide) (by decide)
      refine vX9_laysSums_60 ?_
      rw [e9, e36, ra.1]
      refine ⟨by omega, by omega, fun c => by omega, fun _ => ⟨by omega, by omega, by omega, ?_⟩⟩
      intro M4 e4
      have := ih (j + 1) M4 (by omega) (by omega) (fun k i h1 h2 => by rw [e4, zu_k h2]; exact f k i h1 h2) (fun i hi => by rw [e4, zu_k (by decide)]; exact s1 i hi) (fun j' hj' => by
        rw [e4, zu_at]
        by_cases c : j' = j + 1
        · subst c
          rw [if_pos (by omega), s2 j (by omega), (ra.2 j (by omega)).1, pS_snoc (by omega)]
          unfold gA
          rw [Int.toNat_natCast]
        · rw [if_neg (by omega)]
          exact s2 j' (by omega))
      rw [show ((j + 1 : Nat) : Int) = (j : Int) + 1 by omega] at this
      exact this
  have lpB : ∀ (n i : Nat) (M' : zM), B.length - i = n → i ≤ B.length → F M' → M' 44 0 0 = 0 → (∀ i' : Nat, i' ≤ i → M' 43 0 i' = pS kbv i' B) → LX9_laysSums_23 l Po (i : Int) M' := by
    intro n
    induction n with
    | zero =>
      intro i M' hn hi f z s1
      have e9 : M' 9 0 = M1 9 0 := f 9 0 (by decide) (by decide)
      refine vX9_laysSums_23 ?_
      rw [e9, rb.1]
      refine ⟨by omega, by omega, fun _ => ?_, fun c => by omega⟩
      exact lpA _ 0 M' rfl (by omega) f (by rw [show B.length = i by omega]; exact s1) (fun j' hj' => by
        rw [show j' = 0 by omega, pS]
        exact z)
    | succ n ih =>
      intro i M' hn hi f z s1
      have e9 : M' 9 0 = M1 9 0 := f 9 0 (by decide) (by decide)
      have e33 : M' 33 0 = M1 33 0 := f 33 0 (by decide) (by decide)
      refine vX9_laysSums_23 ?_
      rw [e9, e33, rb.1]
      refine ⟨by omega, by omega, fun c => by omega, fun _ => ⟨by omega, by omega, by omega, ?_⟩⟩
      intro M4 e4
      have := ih (i + 1) M4 (by omega) (by omega) (fun k i h1 h2 => by rw [e4, zu_k h1]; exact f k i h1 h2) (by rw [e4, zu_k (by decide)]; exact z) (fun i' hi' => by
        rw [e4, zu_at]
        by_cases c : i' = i + 1
        · subst c
          rw [if_pos (by omega), s1 i (by omega), (rb.2 i (by omega)).1, pS_snoc (by omega)]
          unfold gB
          rw [Int.toNat_natCast]
        · rw [if_neg (by omega)]
          exact s1 i' (by omega))
      rw [show ((i + 1 : Nat) : Int) = (i : Int) + 1 by omega] at this
      exact this
  refine lpB _ 0 M3 rfl (by omega) (fun k i h1 h2 => by rw [e3, zu_k h2, e2, zu_k h1]) (by rw [e3, zu_at, if_pos rfl]) (fun i' hi' => ?_)
  rw [show i' = 0 by omega, e3, zu_k (by decide), e2, zu_at, if_pos (by omega), pS]
/-- a grade goes on -/
theorem c_X9_goesOnBy {g : Nat} {f m h' : Int → Int} (h : MX M S) (hg : g < 4) (sf : sv S g f) (dm : DP (-1) (wA (qfee S)) f (qA S (g : Int)) m) (dh : DP 1 wB m (qB S (g : Int)) h') (r : rel g (NB S g) f M) :
    CV l m_X9_goesOnBy [zr 9 0, zi (g : Int)] M (fun M' => mQ M M' ∧ rel (g + 1) (NB S (g + 1)) h' M') := by
  have hlB : (qB S (g : Int)).length ≤ 80 := B_len h.ok.1 (mB_ok (S := S) (E := fun t => qgr S t = (g : Int)) h.ok.1)
  have hlA : (qA S (g : Int)).length ≤ 80 := A_len h.ok.1 (mA_ok (S := S) (E := fun t => qgr S t = (g : Int)) h.ok.1)
  have hNB := NB_b h.ok (g := g + 1) (by omega)
  have hN0 := NB_b h.ok (g := g) (by omega)
  have eN : NB S (g + 1) = NB S g + ((qB S (g : Int)).length : Int) := rfl
  have hsv := (sv_b h.ok sf).1
  have wBb : ∀ x ∈ qB S (g : Int), -1 ≤ wB x ∧ wB x ≤ 1279871 := by
    intro x hx
    obtain ⟨t, u, c, rfl⟩ := ((mB_ok h.ok.1).2 x).mp hx
    have h1 := h.ok.1.rng c.1
    have h2 := (kB_d h1).2.2.1
    unfold wB
    omega
  have wAb : ∀ x ∈ qA S (g : Int), -1343872 ≤ wA (qfee S) x ∧ wA (qfee S) x ≤ 0 := by
    intro x hx
    obtain ⟨t, u, c, rfl⟩ := ((mA_ok h.ok.1).2 x).mp hx
    have h1 := h.ok.1.rng c.1
    have h2 := (kA_d h1).2.2.1 (qfee S)
    have h3 := h.ok.2.2.1
    unfold wA
    omega
  refine vX9_goesOnBy ((c_X9_laysSums h (by omega)).mono ?_)
  rintro M1 ⟨q1, ⟨g39, g40⟩, gl, sB, sA⟩
  generalize NB S (g + 1) = N at *
  generalize qB S (g : Int) = B at *
  generalize qA S (g : Int) = A at *
  generalize qfee S = fe at *
  have pB : ∀ i : Nat, i ≤ B.length → -80 ≤ pS wB i B ∧ pS wB i B ≤ 102389680 := by
    intro i hi
    have := pS_bd wBb hi
    omega
  have pA : ∀ j : Nat, j ≤ A.length → -107509760 ≤ pS (wA fe) j A ∧ pS (wA fe) j A ≤ 0 := by
    intro j hj
    have := pS_bd wAb hj
    omega
  have r1 : rel g (NB S g) f M1 := by
    intro o ho
    rw [g39, g40]
    exact r o ho
  have vb : ∀ le j i, T3 M1 A B le j i → (-110000000 * ((g : Int) + 1) ≤ vl fe A B f le j i) ∧ -600000000 ≤ vl fe A B f le j i ∧ vl fe A B f le j i ≤ 1200000000 := by
    intro le j i t
    have a := pA j t.2.2.1
    have b := pB i t.2.2.2.2.1
    have c := hsv le t.1
    unfold vl
    rcases r1 le t.1 with ⟨k, -⟩ | ⟨-, -, k⟩
    · exact absurd k t.2.1
    · omega
  have x : gX M1 fe A B f N := by
    refine ⟨gl, ⟨sB, sA⟩, fun le hle c => ?_, ⟨hlB, hlA⟩, by omega, fun le j i t => (vb le j i t).2, fun le hle => ?_⟩
    · rcases r1 le hle with ⟨k, -⟩ | ⟨k1, k2, -⟩
      · exact absurd k c
      · exact ⟨by omega, k2⟩
    · rcases r1 le hle with ⟨k, -⟩ | ⟨k1, k2, -⟩ <;> omega
  let Po : zM → Prop := fun M' => mQ M M' ∧ rel (g + 1) N h' M'
  -- the end: copied
  have fin : ∀ Mx M' : zM, gF M1 Mx → tR M1 fe A B f N (fun _ _ _ => True) Mx → (∀ k i, k ≠ 39 → k ≠ 40 → M' k i = Mx k i) → (∀ o, 0 ≤ o ∧ o ≤ 80 → M' 39 0 o = Mx 41 0 o ∧ M' 40 0 o = Mx 42 0 o) → Po M' := by
    intro Mx M' fx tx f' e'
    have e9 : M' 9 0 = M1 9 0 := (f' 9 0 (by decide) (by decide)).trans (fx 9 0 (by decide) (by decide))
    refine ⟨⟨fun k i h1 h2 => ((f' k i (by omega) (by omega)).trans (fx k i (by omega) (by omega))).trans (q1.1 k i h1 h2), fun j hj => by rw [e9]; exact q1.2.1 j hj, by rw [e9]; exact q1.2.2⟩, fun o ho => ?_⟩
    rw [(e' o ho).1, (e' o ho).2]
    have dho := dh o ho
    obtain ⟨i, hi, hoi, ei⟩ := dho.2
    rw [show o + 1 * (i : Int) = o + i by omega] at hoi ei
    have dmo := dm (o + i) (by omega)
    obtain ⟨j, hj, hoj, ej⟩ := dmo.2
    rw [show o + (i : Int) + -1 * (j : Int) = o + i - j by omega] at hoj ej
    have b1 := pB i hi
    have a1 := pA j hj
    have low : M1 40 0 (o + i - j) = -1 → h' o ≤ -1000000000 + 102400000 * ((g : Int) + 1) := by
      intro c
      rcases r1 (o + i - j) (by omega) with ⟨-, k⟩ | ⟨k, -, -⟩
      · omega
      · omega
    have mk : M1 40 0 (o + i - j) ≠ -1 → T3 M1 A B (o + i - j) j i ∧ vl fe A B f (o + i - j) j i = h' o := by
      intro c
      refine ⟨⟨by omega, c, hj, by omega, hi, by omega⟩, ?_⟩
      unfold vl
      omega
    rcases tx o ho with ⟨a, b⟩ | ⟨a, ⟨le, j', i', t, et, ev⟩, c⟩
    · refine .inl ⟨a, ?_⟩
      push_cast
      refine low ?_
      by_cases c : M1 40 0 (o + i - j) = -1
      · exact c
      · exact absurd (by omega) (b _ _ _ trivial (mk c).1)
    · refine .inr ⟨a, ?_⟩
      push_cast
      have v1 := (vb _ _ _ t).1
      obtain ⟨t1, t2, t3, t4, t5, t6⟩ := t
      have up : vl fe A B f le j' i' ≤ h' o := by
        have k1 := (dm (o + i') (by omega)).1 j' t3 (by omega)
        have k2 := dho.1 i' t5 (by omega)
        rw [show o + (i' : Int) + -1 * (j' : Int) = le by omega] at k1
        rw [show o + 1 * (i' : Int) = o + i' by omega] at k2
        unfold vl
        omega
      by_cases c2 : M1 40 0 (o + i - j) = -1
      · have := low c2
        omega
      · have k := mk c2
        have k3 := c _ _ _ trivial k.1 (by omega)
        omega
  have l113 : ∀ Mx : zM, gF M1 Mx → tR M1 fe A B f N (fun _ _ _ => True) Mx → ∀ (n : Nat) (k : Int) (M' : zM), (81 - k).toNat = n → 0 ≤ k ∧ k ≤ 81 → (∀ k i, k ≠ 39 → k ≠ 40 → M' k i = Mx k i) → (∀ o, 0 ≤ o ∧ o < k → M' 39 0 o = Mx 41 0 o ∧ M' 40 0 o = Mx 42 0 o) → LX9_goesOnBy_113 l Po k M' := by
    intro Mx fx tx n
    induction n with
    | zero =>
      intro k M' hn hk f' e'
      exact vX9_goesOnBy_113 ⟨by omega, fun _ => fin Mx M' fx tx f' fun o ho => e' o (by omega), fun c => by omega⟩
    | succ n ih =>
      intro k M' hn hk f' e'
      refine vX9_goesOnBy_113 ⟨by omega, fun c => by omega, fun _ => ⟨by omega, ?_⟩⟩
      intro M2 e2 M3 e3
      refine ih (k + 1) M3 (by omega) (by omega) (fun k' i' h1 h2 => by rw [e3, zu_k h2, e2, zu_k h1]; exact f' k' i' h1 h2) fun o ho => ?_
      have k39 : M3 39 0 o = if o = k then Mx 41 0 k else M' 39 0 o := by
        rw [e3, zu_k (by decide), e2, zu_at, f' 41 0 (by decide) (by decide)]
      have k40 : M3 40 0 o = if o = k then Mx 42 0 k else M' 40 0 o := by
        rw [e3, zu_at, e2, zu_k (by decide), zu_k (by decide), f' 42 0 (by decide) (by decide)]
      rw [k39, k40]
      by_cases c : o = k
      · rw [if_pos c, if_pos c, c]
        exact ⟨rfl, rfl⟩
      · rw [if_neg c, if_neg c]
        exact e' o (by omega)
  have l68 : ∀ (le : Int) (j : Nat), (0 ≤ le ∧ le ≤ 80) → M1 40 0 le ≠ -1 → j ≤ A.length → le + j ≤ 80 → (∀ M', gF M1 M' → tR M1 fe A B f N (fun l' j' i' => l' < le ∨ (l' = le ∧ j' < j + 1)) M' → LX9_goesOnBy_49 l Po le ((j : Int) + 1) M') →
      ∀ (n i : Nat) (M' : zM), B.length + 1 - i = n → i ≤ B.length + 1 → gF M1 M' → tR M1 fe A B f N (fun l' j' i' => l' < le ∨ (l' = le ∧ (j' < j ∨ (j' = j ∧ i' < i)))) M' → LX9_goesOnBy_68 l Po le (j : Int) (i : Int) M' := by
    intro le j hle hc hj hlj K n
    induction n with
    | zero =>
      intro i M' hn hi fr tr
      have e9 : M' 9 0 = M1 9 0 := fr 9 0 (by decide) (by decide)
      refine vX9_goesOnBy_68 ?_
      rw [e9, gl.1]
      refine ⟨by omega, by omega, fun _ => K M' fr (tr.mono fun l' j' i' t q => ?_), fun c => by omega⟩
      have := t.2.2.2.2.1
      omega
    | succ n ih =>
      intro i M' hn hi fr tr
      have e9 : M' 9 0 = M1 9 0 := fr 9 0 (by decide) (by decide)
      refine vX9_goesOnBy_68 ?_
      rw [e9, gl.1]
      refine ⟨by omega, by omega, fun c => by omega, fun _ => ⟨by omega, fun c => K M' fr (tr.mono fun l' j' i' t q => ?_), fun c => ?_⟩⟩
      · have := t.2.2.2.2.2
        omega
      · refine (c_X9_tries x fr tr (le := le) (j := j) (i := i) ⟨hle, hc, hj, hlj, by omega, c⟩).mono ?_
        rintro M2 ⟨f2, t2⟩
        have := ih (i + 1) M2 (by omega) (by omega) f2 (t2.mono fun l' j' i' t q => by omega)
        rw [show ((i + 1 : Nat) : Int) = (i : Int) + 1 by omega] at this
        exact this
  have l49 : ∀ (le : Int), (0 ≤ le ∧ le ≤ 80) → M1 40 0 le ≠ -1 → (∀ M', gF M1 M' → tR M1 fe A B f N (fun l' _ _ => l' < le + 1) M' → LX9_goesOnBy_28 l Po (le + 1) M') →
      ∀ (n j : Nat) (M' : zM), A.length + 1 - j = n → j ≤ A.length + 1 → gF M1 M' → tR M1 fe A B f N (fun l' j' _ => l' < le ∨ (l' = le ∧ j' < j)) M' → LX9_goesOnBy_49 l Po le (j : Int) M' := by
    intro le hle hc K n
    induction n with
    | zero =>
      intro j M' hn hj fr tr
      have e9 : M' 9 0 = M1 9 0 := fr 9 0 (by decide) (by decide)
      refine vX9_goesOnBy_49 ?_
      rw [e9, gl.2]
      refine ⟨by omega, by omega, fun _ => K M' fr (tr.mono fun l' j' i' t q => ?_), fun c => by omega⟩
      have := t.2.2.1
      omega
    | succ n ih =>
      intro j M' hn hj fr tr
      have e9 : M' 9 0 = M1 9 0 := fr 9 0 (by decide) (by decide)
      refine vX9_goesOnBy_49 ?_
      rw [e9, gl.2]
      refine ⟨by omega, by omega, fun c => by omega, fun _ => ⟨by omega, fun c => K M' fr (tr.mono fun l' j' i' t q => ?_), fun c => ?_⟩⟩
      · have := t.2.2.2.1
        omega
      · refine l68 le j hle hc (by omega) (by omega) (fun M2 f2 t2 => ?_) _ 0 M' rfl (by omega) fr (tr.mono fun l' j' i' t q => by omega)
        have := ih (j + 1) M2 (by omega) (by omega) f2 t2
        rw [show ((j + 1 : Nat) : Int) = (j : Int) + 1 by omega] at this
        exact this
  have l28 : ∀ (n : Nat) (le : Int) (M' : zM), (81 - le).toNat = n → 0 ≤ le ∧ le ≤ 81 → gF M1 M' → tR M1 fe A B f N (fun l' _ _ => l' < le) M' → LX9_goesOnBy_28 l Po le M' := by
    intro n
    induction n with
    | zero =>
      intro le M' hn hle fr tr
      refine vX9_goesOnBy_28 ⟨by omega, fun _ => l113 M' fr (tr.mono fun l' j' i' t _ => by have := t.1; omega) _ 0 M' rfl (by omega) (fun _ _ _ _ => rfl) fun o ho => by omega, fun c => by omega⟩
    | succ n ih =>
      intro le M' hn hle fr tr
      have e40 : M' 40 0 = M1 40 0 := fr 40 0 (by decide) (by decide)
      refine vX9_goesOnBy_28 ?_
      rw [e40]
      refine ⟨by omega, fun c => by omega, fun _ => ⟨by omega, x.2.2.2.2.2.2 le (by omega), fun c => ?_, fun c => ?_⟩⟩
      · exact l49 le (by omega) c (fun M2 f2 t2 => ih (le + 1) M2 (by omega) (by omega) f2 t2) _ 0 M' rfl (by omega) fr (tr.mono fun l' j' i' t q => by omega)
      · refine ih (le + 1) M' (by omega) (by omega) fr (tr.mono fun l' j' i' t q => ?_)
        have : l' ≠ le := fun e => t.2.1 (e ▸ c)
        omega
  have l7 : ∀ (n : Nat) (k : Int) (M' : zM), (81 - k).toNat = n → 0 ≤ k ∧ k ≤ 81 → gF M1 M' → (∀ o, 0 ≤ o ∧ o < k → M' 42 0 o = -1) → LX9_goesOnBy_7 l Po k M' := by
    intro n
    induction n with
    | zero =>
      intro k M' hn hk fr e
      refine vX9_goesOnBy_7 ⟨by omega, fun _ => l28 _ 0 M' rfl (by omega) fr fun o ho => .inl ⟨e o (by omega), fun le j i q t => ?_⟩, fun c => by omega⟩
      have := t.1
      omega
    | succ n ih =>
      intro k M' hn hk fr e
      refine vX9_goesOnBy_7 ⟨by omega, fun c => by omega, fun _ => ⟨by omega, ?_⟩⟩
      rintro M2 rfl
      refine ih (k + 1) _ (by omega) (by omega) (fun k' i' h1 h2 => by rw [zu_k h2]; exact fr k' i' h1 h2) fun o ho => ?_
      rw [zu_at]
      by_cases c : o = k
      · rw [if_pos c]
      · rw [if_neg c]
        exact e o (by omega)
  exact l7 _ 0 M1 rfl (by omega) (fun _ _ _ _ => rfl) fun o ho => by omega
theorem q9_served {w : Int} (h : MX M S) (zw : zI w) : CI l m_X9_served [zr 9 0, zi w] M (fun x M' => x = aServed S w ∧ mQ M M') := by
  have fin : ∀ M', mQ M M' → ∀ f, sv S 4 f → rel 4 (NB S 4) f M' → 0 ≤ w ∧ w ≤ 2 → LX9_served_51 l (fun x M' => x = aServed S w ∧ mQ M M') w 4 M' := by
    intro M' q f sf r hw
    have e := hv_is sf
    have b := sv_b h.ok sf
    have b0 := b.1 0 (by omega)
    have nb := NB_b h.ok (g := 4) (by omega)
    have na : ¬ (w < 0 ∨ 2 < w) := by omega
    have k : (0 ≤ M' 40 0 0 ∧ M' 40 0 0 ≤ 80) ∧ hv S = M' 39 0 0 * 128 - M' 40 0 0 := by
      rcases r 0 (by omega) with ⟨-, a⟩ | ⟨a, a2, -⟩
      · omega
      · omega
    have k1 : (hv S + 127) / 128 = M' 39 0 0 := by omega
    refine vX9_served_51 ⟨by omega, fun _ => ⟨zw, fun w0 => ⟨fun w1 => ?_, fun w1 => ⟨?_, q⟩⟩, fun w0 => ⟨?_, q⟩⟩, fun c => by omega⟩
    · refine (c_X9_worthOfAll (h.q q)).mono ?_
      rintro y M2 ⟨rfl, q2⟩
      refine ⟨?_, q.tr q2⟩
      unfold aServed
      rw [if_neg na, if_neg w1, if_neg w0, k1]
    · unfold aServed
      rw [if_neg na, if_pos w1, k1]
      omega
    · unfold aServed
      rw [if_neg na, if_neg (by omega), if_pos w0, k1]
  have lp : ∀ (n g : Nat) (M' : zM), 4 - g = n → g ≤ 4 → mQ M M' → (∃ f, sv S g f ∧ rel g (NB S g) f M') → 0 ≤ w ∧ w ≤ 2 → LX9_served_51 l (fun x M' => x = aServed S w ∧ mQ M M') w (g : Int) M' := by
    intro n
    induction n with
    | zero =>
      intro g M' hn hg q ⟨f, sf, r⟩ hw
      have eg : g = 4 := by omega
      subst eg
      exact fin M' q f sf r hw
    | succ n ih =>
      intro g M' hn hg q ⟨f, sf, r⟩ hw
      obtain ⟨h', m', hh⟩ : ∃ h' m', sv S g m' ∧ sv S (g + 1) h' := by
        obtain ⟨h', e⟩ := sv_ex h.ok (g + 1)
        obtain ⟨f', m', a, b, c⟩ := e
        exact ⟨h', f', a, f', m', a, b, c⟩
      obtain ⟨m, hm⟩ := DP_ex (d := -1) (f := f) (.inr rfl) (wA_an (qfee S)) (L := qA S (g : Int)) (mA_ok h.ok.1).1
      obtain ⟨h2, hh2⟩ := DP_ex (d := 1) (f := m) (.inl rfl) wB_an (L := qB S (g : Int)) (mB_ok h.ok.1).1
      refine vX9_served_51 ⟨by omega, fun c => by omega, fun _ => (c_X9_goesOnBy (h.q q) (by omega) sf hm hh2 r).mono ?_⟩
      rintro M2 ⟨q2, r2⟩
      have := ih (g + 1) M2 (by omega) (by omega) (q.tr q2) ⟨h2, ⟨f, m, sf, hm, hh2⟩, r2⟩ hw
      rw [show ((g + 1 : Nat) : Int) = (g : Int) + 1 by omega] at this
      exact this
  have l0 : ∀ (n : Nat) (k : Int) (M' : zM), (81 - k).toNat = n → 0 ≤ k ∧ k ≤ 81 → (∀ k' i', k' ≠ 40 → M' k' i' = M k' i') → (∀ o, 0 ≤ o ∧ o < k → M' 40 0 o = -1) → 0 ≤ w ∧ w ≤ 2 → LX9_served_16 l (fun x M' => x = aServed S w ∧ mQ M M') w k M' := by
    intro n
    induction n with
    | zero =>
      intro k M' hn hk fr e hw
      refine vX9_served_16 ⟨by omega, fun _ => ?_, fun c => by omega⟩
      intro M2 e2 M3 e3
      have e9 : M3 9 0 = M 9 0 := by rw [e3, zu_k (by decide), e2, zu_k (by decide)]; exact fr 9 0 (by decide)
      refine lp _ 0 M3 rfl (by omega) ⟨fun k i h1 h2 => by rw [e3, zu_k (by omega), e2, zu_k (by omega)]; exact fr k i (by omega), fun j _ => by rw [e9], by rw [e9]; exact h.1.1.2.2.2.2.2⟩ ⟨h0, fun _ _ => rfl, fun o ho => ?_⟩ hw
      have k40 : M3 40 0 o = if o = 0 then 0 else -1 := by
        rw [e3, zu_at, e2, zu_k (by decide)]
        by_cases c : o = 0
        · rw [if_pos c, if_pos c]
        · rw [if_neg c, if_neg c]
          exact e o (by omega)
      rw [k40]
      by_cases c : o = 0
      · subst c
        refine .inr ⟨by rw [if_pos rfl]; exact ⟨by omega, by have := (NB_b h.ok (g := 0) (by omega)).1; omega⟩, ?_, by unfold h0; rw [if_pos rfl]; omega⟩
        rw [if_pos rfl, e3, zu_k (by decide), e2, zu_at, if_pos rfl]
        rfl
      · rw [if_neg c]
        refine .inl ⟨rfl, ?_⟩
        unfold h0
        rw [if_neg c]
        omega
    | succ n ih =>
      intro k M' hn hk fr e hw
      refine vX9_served_16 ⟨by omega, fun c => by omega, fun _ => ⟨by omega, ?_⟩⟩
      rintro M2 rfl
      refine ih (k + 1) _ (by omega) (by omega) (fun k' i' h1 => by rw [zu_k h1]; exact fr k' i' h1) (fun o ho => ?_) hw
      rw [zu_at]
      by_cases c : o = k
      · rw [if_pos c]
      · rw [if_neg c]
        exact e o (by omega)
  refine vX9_served ⟨zw, ⟨by omega, by omega, by omega⟩, fun c => l0 _ 0 M rfl (by omega) (fun _ _ _ => rfl) (fun o ho => by omega) c, fun c => ⟨?_, mQ.rf h⟩⟩
  unfold aServed
  rw [if_pos (by omega)]
end
