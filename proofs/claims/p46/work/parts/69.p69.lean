/-! ===== tell: the class's numbers ===== -/
def nF (M M' : zM) : Prop := (∀ k i, k ≠ 7 → M' k i = M k i) ∧ (∀ j, j ≠ 3 → j ≠ 4 → M' 7 0 j = M 7 0 j)
theorem nF.rf {M : zM} : nF M M := ⟨fun _ _ _ => rfl, fun _ _ _ => rfl⟩
theorem nF.tr {M M1 M2 : zM} (a : nF M M1) (b : nF M1 M2) : nF M M2 := ⟨fun k i h => (b.1 k i h).trans (a.1 k i h), fun j h1 h2 => (b.2 j h1 h2).trans (a.2 j h1 h2)⟩
theorem tF.n {M M' : zM} (f : tF M M') : nF M M' := ⟨f.1, fun j h _ => f.2 j h⟩
theorem tX.n {M M' : zM} {b : Int → Int} {n : Int} (h : tX M b n) (f : nF M M') : tX M' b n := by
  refine ⟨by rw [f.2 2 (by decide) (by decide)]; exact h.1, fun i hi => ?_⟩
  rw [f.1 24 0 (by decide)]
  exact h.2 i hi
section
variable {l : Launch} {M : zM} {b : Int → Int} {n : Int}
theorem c_X7_note {w k : Int} : CV l m_X7_note [zr 7 0, zi w, zi k] M (fun M' => M' = zu M 7 0 4 (8 * w + k)) := vX7_note fun _ e => e
/-- where a number begins, where it ends, what it is -/
def nmI (b : Int → Int) (n p : Int) : Int := sk isB b n p
def nmQ (b : Int → Int) (n p : Int) : Int := sk isD b n (sk isB b n p)
def nmV (b : Int → Int) (n p : Int) : Int := dv b (nmI b n p) (nmQ b n p - nmI b n p).toNat
theorem c_X7_readNumber {m : Int} (h : tX M b n) (hp : 0 ≤ M 7 0 3 ∧ M 7 0 3 ≤ n) (hm : 0 ≤ m ∧ m ≤ 9999) : CI l m_X7_readNumber [zr 7 0, zi m] M (fun x M' => x = min (nmV b n (M 7 0 3)) 10000 ∧ nF M M' ∧ M' 7 0 3 = nmQ b n (M 7 0 3) ∧
    M' 7 0 4 = if nmQ b n (M 7 0 3) = nmI b n (M 7 0 3) then 8 * nmI b n (M 7 0 3) + 1 else if m < nmV b n (M 7 0 3) then 8 * nmI b n (M 7 0 3) + 2 else M 7 0 4) := by
  have h1 := h.1
  refine vX7_readNumber ((c_X7_skipBlanks h hp).mono ?_)
  rintro M1 ⟨f1, e1⟩
  have hI : sk isB b n (M 7 0 3) = nmI b n (M 7 0 3) := rfl
  rw [hI] at e1
  have hQ : nmQ b n (M 7 0 3) = sk isD b n (nmI b n (M 7 0 3)) := rfl
  have bI := sk_b (p := isB) (b := b) (n := n) _ (M 7 0 3) rfl hp.2
  rw [hI] at bI
  have bQ := sk_b (p := isD) (b := b) (n := n) _ (nmI b n (M 7 0 3)) rfl bI.2.1
  rw [← hQ] at bQ
  have hV : nmV b n (M 7 0 3) = dv b (nmI b n (M 7 0 3)) (nmQ b n (M 7 0 3) - nmI b n (M 7 0 3)).toNat := rfl
  rw [e1]
  generalize nmV b n (M 7 0 3) = V at *
  generalize nmQ b n (M 7 0 3) = q at *
  generalize nmI b n (M 7 0 3) = i at *
  have e4 : ∀ M', tF M M' → M' 7 0 4 = M 7 0 4 := fun M' f => f.2 4 (by decide)
  have nt : ∀ (M' : zM) (k : Int), tF M M' → M' 7 0 3 = q → CV l m_X7_note [zr 7 0, zi i, zi k] M' (fun M2 => nF M M2 ∧ M2 7 0 3 = q ∧ M2 7 0 4 = 8 * i + k) := by
    intro M' k f e
    refine c_X7_note.mono ?_
    rintro M2 e2
    refine ⟨f.n.tr ⟨fun k' i' hk => by rw [e2, zu_k hk], fun j h3 h4 => by rw [e2, zu_at, if_neg h4]⟩, by rw [e2, zu_at, if_neg (by decide)]; exact e, by rw [e2, zu_at, if_pos rfl]⟩
  have loop : ∀ (f : Nat) (M' : zM) (v : Int), (n - M' 7 0 3).toNat = f → i ≤ M' 7 0 3 ∧ M' 7 0 3 ≤ n → tF M M' → sk isD b n (M' 7 0 3) = q → v = min (dv b i (M' 7 0 3 - i).toNat) 10000 → 0 ≤ dv b i (M' 7 0 3 - i).toNat → LX7_readNumber_11 l (fun x M' => x = min V 10000 ∧ nF M M' ∧ M' 7 0 3 = q ∧ M' 7 0 4 = if q = i then 8 * i + 1 else if m < V then 8 * i + 2 else M 7 0 4) m i v M' := by
    intro f
    induction f with
    | zero =>
      intro M' v hf hr fr eq ev dn
      have hx := h.f fr
      have h' := hx.1
      rw [sk_e (by omega)] at eq
      rw [eq, ← hV] at ev dn
      refine vX7_readNumber_11 ⟨by omega, by omega, fun _ => ⟨by omega, fun c => ⟨by omega, by omega, fun d => ⟨ev, fr.n, eq, ?_⟩, fun d => ?_⟩, fun c => ?_⟩, fun c => by omega⟩
      · rw [e4 M' fr, if_neg (by omega), if_neg (by omega)]
      · refine (nt M' 2 fr eq).mono ?_
        rintro M2 ⟨a1, a2, a3⟩
        exact ⟨ev, a1, a2, by rw [a3, if_neg (by omega), if_pos (by omega)]⟩
      · refine (nt M' 1 fr eq).mono ?_
        rintro M2 ⟨a1, a2, a3⟩
        exact ⟨ev, a1, a2, by rw [a3, if_pos (by omega)]⟩
    | succ f ih =>
      intro M' v hf hr fr eq ev dn
      have hx := h.f fr
      have h' := hx.1
      refine vX7_readNumber_11 ⟨by omega, by omega, fun c => by omega, fun _ => (c_X7_byteAt hx (by omega)).mono ?_⟩
      rintro x M2 ⟨ex, rfl⟩
      have eb : x = b (M2 7 0 3) := by rw [ex]; unfold bt; rw [if_pos (by omega)]
      have bb := (hx.2 (M2 7 0 3) (by omega)).2
      refine (c_X7_isDigit (by omega)).mono ?_
      rintro y M4 ⟨ey, rfl⟩
      rw [eb] at ey
      refine ⟨by rw [ey]; exact zb_I, fun c => ?_, fun c => ?_⟩
      · rw [ey] at c
        have nd := zb_0 c
        rw [sk_e (fun w => nd w.2)] at eq
        rw [eq, ← hV] at ev dn
        refine ⟨by omega, by omega, fun c => ⟨by omega, by omega, fun d => ⟨ev, fr.n, eq, ?_⟩, fun d => ?_⟩, fun c => ?_⟩
        · rw [e4 M4 fr, if_neg (by omega), if_neg (by omega)]
        · refine (nt M4 2 fr eq).mono ?_
          rintro M2 ⟨a1, a2, a3⟩
          exact ⟨ev, a1, a2, by rw [a3, if_neg (by omega), if_pos (by omega)]⟩
        · refine (nt M4 1 fr eq).mono ?_
          rintro M2 ⟨a1, a2, a3⟩
          exact ⟨ev, a1, a2, by rw [a3, if_pos (by omega)]⟩
      · rw [ey] at c
        have yd := zb_n0 c
        have yd' : 48 ≤ b (M4 7 0 3) ∧ b (M4 7 0 3) ≤ 57 := by
          unfold isD at yd
          rw [decide_eq_true_eq] at yd
          exact yd
        refine (c_X7_byteAt hx (by omega)).mono ?_
        rintro z M5 ⟨ez, rfl⟩
        have ez' : z = b (M5 7 0 3) := ez.trans (ex.symm.trans eb)
        refine ⟨by omega, ?_⟩
        intro M6 q6
        have e63 : M6 7 0 3 = M5 7 0 3 + 1 := by rw [q6, zu_at, if_pos rfl]
        have dv1 : dv b i (M6 7 0 3 - i).toNat = 10 * dv b i (M5 7 0 3 - i).toNat + (b (M5 7 0 3) - 48) := by
          rw [e63, show (M5 7 0 3 + 1 - i).toNat = (M5 7 0 3 - i).toNat + 1 by omega, dv, show i + (((M5 7 0 3 - i).toNat : Nat) : Int) = M5 7 0 3 by omega]
        refine ih M6 _ (by omega) (by omega) (fr.tr (tF.pl q6)) ?_ ?_ ?_
        · rw [e63, ← sk_s (i := M5 7 0 3) (by omega) yd]
          exact eq
        · rw [dv1]
          omega
        · rw [dv1]
          omega
  exact loop _ M1 0 rfl (by rw [e1]; omega) f1 (by rw [e1]; exact hQ.symm) (by rw [e1, show (i - i).toNat = 0 by omega, dv]; rfl) (by rw [e1, show (i - i).toNat = 0 by omega, dv]; omega)
end

