/-! ===== served: rows by how many are over ===== -/
def ins (x : Int) : List Int → List Int
  | [] => [x]
  | y :: t => if x < y then x :: y :: t else y :: ins x t
theorem ins_mem {x z : Int} : ∀ {L : List Int}, z ∈ ins x L ↔ z ∈ L ∨ z = x
  | [] => by rw [ins]; simp
  | y :: t => by
    rw [ins]
    have ih := ins_mem (x := x) (z := z) (L := t)
    by_cases c : x < y
    · rw [if_pos c]
      simp only [List.mem_cons]
      constructor
      · rintro (q | q)
        · exact .inr q
        · exact .inl q
      · rintro (q | q)
        · exact .inr q
        · exact .inl q
    · rw [if_neg c]
      simp only [List.mem_cons, ih]
      constructor
      · rintro (q | q | q)
        · exact .inl (.inl q)
        · exact .inl (.inr q)
        · exact .inr q
      · rintro ((q | q) | q)
        · exact .inl q
        · exact .inr (.inl q)
        · exact .inr (.inr q)
theorem ins_len2 {x : Int} : ∀ {L : List Int}, (ins x L).length = L.length + 1
  | [] => rfl
  | y :: t => by
    rw [ins]
    split
    · rfl
    · rw [List.length_cons, List.length_cons, ins_len2]
theorem ins_pw {x : Int} : ∀ {L : List Int}, L.Pairwise (· < ·) → x ∉ L → (ins x L).Pairwise (· < ·)
  | [], _, _ => by rw [ins]; exact List.pairwise_singleton _ _
  | y :: t, h, hx => by
    have h' := List.pairwise_cons.mp h
    have hy : x ≠ y := fun e => hx (e ▸ List.mem_cons_self)
    rw [ins]
    by_cases c : x < y
    · rw [if_pos c, List.pairwise_cons]
      refine ⟨fun z hz => ?_, h⟩
      rcases List.mem_cons.mp hz with q | q
      · omega
      · have := h'.1 z q
        omega
    · rw [if_neg c, List.pairwise_cons]
      refine ⟨fun z hz => ?_, ins_pw h'.2 fun q => hx (List.mem_cons_of_mem _ q)⟩
      rcases ins_mem.mp hz with q | q
      · exact h'.1 z q
      · omega
theorem ins_row {L : List Int} {P : Int → Prop} (h : isRow L P) {x : Int} (hx : ¬ P x) : isRow (ins x L) (fun y => P y ∨ y = x) :=
  ⟨ins_pw h.1 fun q => hx ((h.2 x).mp q), fun y => by rw [ins_mem, h.2]⟩
def pS (w : Int → Int) : Nat → List Int → Int
  | 0, _ => 0
  | _ + 1, [] => 0
  | i + 1, y :: t => w y + pS w i t
theorem pS_next {w : Int → Int} (hw : ∀ a b, a < b → w b ≤ w a) : ∀ {L : List Int} {x : Int} {i : Nat}, (x :: L).Pairwise (· < ·) → i < L.length → pS w (i + 1) L ≤ w x + pS w i L
  | [], x, i, h, hi => by simp at hi
  | y :: t, x, 0, h, hi => by
    have h' := (List.pairwise_cons.mp h).1 y List.mem_cons_self
    have := hw x y h'
    show w y + pS w 0 t ≤ w x + 0
    rw [pS]
    omega
  | y :: t, x, i + 1, h, hi => by
    have h' := (List.pairwise_cons.mp h)
    have k := hw x y (h'.1 y List.mem_cons_self)
    have ih := pS_next hw (L := t) (x := y) (i := i) h'.2 (by simpa using hi)
    show w y + pS w (i + 1) t ≤ w x + (w y + pS w i t)
    omega
theorem pS_ins {w : Int → Int} (hw : ∀ a b, a < b → w b ≤ w a) : ∀ {L : List Int} {x : Int} {i : Nat}, L.Pairwise (· < ·) → i < L.length → pS w (i + 1) (ins x L) = max (pS w (i + 1) L) (pS w i L + w x)
  | [], x, i, h, hi => by simp at hi
  | y :: t, x, i, h, hi => by
    have h' := (List.pairwise_cons.mp h)
    rw [ins]
    by_cases c : x < y
    · rw [if_pos c]
      have k : (x :: y :: t).Pairwise (· < ·) := by
        rw [List.pairwise_cons]
        refine ⟨fun z hz => ?_, h⟩
        rcases List.mem_cons.mp hz with q | q
        · omega
        · have := h'.1 z q
          omega
      have := pS_next hw k hi
      show w x + pS w i (y :: t) = _
      omega
    · rw [if_neg c]
      cases i with
      | zero =>
        have k : w x ≤ w y := by
          by_cases e : x = y
          · rw [e]; omega
          · exact hw y x (by omega)
        show w y + 0 = max (w y + 0) (0 + w x)
        omega
      | succ i =>
        have ih := pS_ins hw (L := t) (x := x) (i := i) h'.2 (by simpa using hi)
        show w y + pS w (i + 1) (ins x t) = max (w y + pS w (i + 1) t) (w y + pS w i t + w x)
        omega
theorem pS_end {w : Int → Int} (hw : ∀ a b, a < b → w b ≤ w a) : ∀ {L : List Int} {x : Int}, pS w (L.length + 1) (ins x L) = pS w L.length L + w x
  | [], x => by show w x + 0 = 0 + w x; omega
  | y :: t, x => by
    rw [ins]
    by_cases c : x < y
    · rw [if_pos c]
      show w x + pS w (t.length + 1) (y :: t) = pS w (t.length + 1) (y :: t) + w x
      omega
    · rw [if_neg c]
      have := pS_end hw (L := t) (x := x)
      show w y + pS w (t.length + 1) (ins x t) = w y + pS w t.length t + w x
      omega
theorem pS_up {w : Int → Int} (hw : ∀ a b, a < b → w b ≤ w a) {L : List Int} {x : Int} {i : Nat} (h : L.Pairwise (· < ·)) (hi : i ≤ L.length) : pS w i L ≤ pS w i (ins x L) := by
  cases i with
  | zero => rw [pS, pS]; omega
  | succ i =>
    rw [pS_ins hw h (by omega)]
    omega
theorem pS_in {w : Int → Int} (hw : ∀ a b, a < b → w b ≤ w a) {L : List Int} {x : Int} {i : Nat} (h : L.Pairwise (· < ·)) (hi : i ≤ L.length) : pS w i L + w x ≤ pS w (i + 1) (ins x L) := by
  by_cases c : i < L.length
  · rw [pS_ins hw h c]
    omega
  · have e : i = L.length := by omega
    rw [e, pS_end hw]
    omega
/-- h is the best that a row L gives over f, each of it a step by d -/
def DP (d : Int) (w : Int → Int) (f : Int → Int) (L : List Int) (h : Int → Int) : Prop :=
  ∀ o, 0 ≤ o ∧ o ≤ 80 → (∀ i : Nat, i ≤ L.length → 0 ≤ o + d * i ∧ o + d * i ≤ 80 → f (o + d * i) + pS w i L ≤ h o) ∧ ∃ i : Nat, i ≤ L.length ∧ (0 ≤ o + d * i ∧ o + d * i ≤ 80) ∧ f (o + d * i) + pS w i L = h o
theorem DP_step {d : Int} {w f h h' : Int → Int} {L : List Int} {x : Int} (hd : d = 1 ∨ d = -1) (hw : ∀ a b, a < b → w b ≤ w a) (hL : L.Pairwise (· < ·)) (H : DP d w f L h)
    (e : ∀ o, 0 ≤ o ∧ o ≤ 80 → h' o = if 0 ≤ o + d ∧ o + d ≤ 80 then max (h o) (h (o + d) + w x) else h o) : DP d w f (ins x L) h' := by
  intro o ho
  have h1 := H o ho
  have e1 := e o ho
  have up : ∀ i : Nat, i ≤ (ins x L).length → 0 ≤ o + d * i ∧ o + d * i ≤ 80 → f (o + d * i) + pS w i (ins x L) ≤ h' o := by
    intro i hi hr
    rw [ins_len2] at hi
    cases i with
    | zero =>
      have := h1.1 0 (Nat.zero_le _) hr
      rw [pS] at this ⊢
      rw [e1]
      split <;> omega
    | succ i =>
      have m : d * ((i + 1 : Nat) : Int) = d + d * i := by push_cast; rw [Int.mul_add]; omega
      have hi0 : (0 : Int) ≤ d * i ∨ d * i ≤ 0 := by omega
      have r1 : 0 ≤ o + d ∧ o + d ≤ 80 := by
        rw [m] at hr
        rcases hd with q | q
        · subst q; omega
        · subst q; omega
      rw [if_pos r1] at e1
      have k2 := (H (o + d) r1).1 i (by omega) (by rw [m] at hr; omega)
      have k1 : i < L.length → f (o + d * ((i + 1 : Nat) : Int)) + pS w (i + 1) L ≤ h o := fun c => h1.1 (i + 1) (by omega) hr
      rw [show o + d + d * (i : Int) = o + d * ((i + 1 : Nat) : Int) by rw [m]; omega] at k2
      by_cases c : i < L.length
      · rw [pS_ins hw hL c]
        have := k1 c
        omega
      · have ei : i = L.length := by omega
        subst ei
        rw [pS_end hw]
        omega
  refine ⟨up, ?_⟩
  rw [ins_len2]
  have old : h' o = h o → ∃ i : Nat, i ≤ L.length + 1 ∧ (0 ≤ o + d * i ∧ o + d * i ≤ 80) ∧ f (o + d * i) + pS w i (ins x L) = h' o := by
    intro c
    obtain ⟨i, hi, hr, he⟩ := h1.2
    refine ⟨i, by omega, hr, ?_⟩
    have := up i (by rw [ins_len2]; omega) hr
    have := pS_up hw (x := x) hL hi
    omega
  by_cases r1 : 0 ≤ o + d ∧ o + d ≤ 80
  · rw [if_pos r1] at e1
    by_cases c : h (o + d) + w x ≤ h o
    · exact old (e1.trans (Int.max_eq_left c))
    · obtain ⟨i, hi, hr, he⟩ := (H (o + d) r1).2
      have m : d * ((i + 1 : Nat) : Int) = d + d * i := by push_cast; rw [Int.mul_add]; omega
      have hr' : 0 ≤ o + d * ((i + 1 : Nat) : Int) ∧ o + d * ((i + 1 : Nat) : Int) ≤ 80 := by rw [m]; omega
      refine ⟨i + 1, by omega, hr', ?_⟩
      have := up (i + 1) (by rw [ins_len2]; omega) hr'
      have := pS_in hw (x := x) hL hi
      rw [show o + d + d * (i : Int) = o + d * ((i + 1 : Nat) : Int) by rw [m]; omega] at he
      omega
  · rw [if_neg r1] at e1
    exact old e1
