/-! ===== the reference: a market laid, traders' bits ===== -/
abbrev rS (M : zM) : zS := mV M 27 0
def rV (M : zM) (t u : Int) : Int := if hb (M 9 0 6) t = true then zhold (qsy (rS M) t u + M 9 0 7) else qsy (rS M) t u
def RC (M : zM) : Prop := mW M 27 0 ∧ okM (rS M) (qsy (rS M)) ∧ (∀ t, 0 ≤ t ∧ t < qn (rS M) → 0 ≤ qgr (rS M) t ∧ qgr (rS M) t < 4) ∧ (0 ≤ qfee (rS M) ∧ qfee (rS M) ≤ 500) ∧ (0 ≤ qlaw (rS M) ∧ qlaw (rS M) ≤ 3) ∧ (-1000 ≤ M 9 0 7 ∧ M 9 0 7 ≤ 1000)
def mFr (M M' : zM) : Prop := (∀ k i, k ≠ 9 → ¬ (31 ≤ k ∧ k ≤ 36) → M' k i = M k i) ∧ (∀ i j, ¬ (i = 0 ∧ (j = 11 ∨ (15 ≤ j ∧ j ≤ 17))) → M' 9 i j = M 9 i j)
theorem mFr.rf {M : zM} : mFr M M := ⟨fun _ _ _ _ => rfl, fun _ _ _ => rfl⟩
theorem mFr.tr {M M1 M2 : zM} (a : mFr M M1) (b : mFr M1 M2) : mFr M M2 := ⟨fun k i h1 h2 => (b.1 k i h1 h2).trans (a.1 k i h1 h2), fun i j h => (b.2 i j h).trans (a.2 i j h)⟩
theorem mFr.fld {M M' : zM} {j x : Int} (e : M' = zu M 9 0 j x) (h : j = 11 ∨ (15 ≤ j ∧ j ≤ 17)) : mFr M M' := by
  refine ⟨fun k i h1 _ => by rw [e, zu_k h1], fun i j' h2 => ?_⟩
  rw [e]
  unfold zu
  rw [if_neg]
  rintro ⟨-, a, b⟩
  exact h2 ⟨a, by omega⟩
theorem rS_congr {M M' : zM} (e : M' 27 0 = M 27 0) : rS M' = rS M := by
  show mV M' 27 0 = mV M 27 0
  unfold mV
  rw [e]
theorem mFr.F {M M' : zM} (f : mFr M M') (j : Int) (h : ¬ (j = 11 ∨ (15 ≤ j ∧ j ≤ 17))) : M' 9 0 j = M 9 0 j := f.2 0 j (fun q => h q.2)
theorem mW_27 {M M' : zM} (e : M' 27 0 = M 27 0) (h : mW M 27 0) : mW M' 27 0 := by
  unfold mW at h ⊢
  rw [e]
  exact h
theorem zhold_b (x : Int) : 0 ≤ zhold x ∧ zhold x ≤ 9999 := by unfold zhold; omega
theorem okM_hold {S : zS} {v v' : Int → Int → Int} (h : okM S v) (L : Int → Bool) (d : Int) (hv : ∀ t u, qU S t u → v' t u = if L t = true then zhold (v t u + d) else v t u) : okM S v' := by
  refine ⟨h.1, h.2.1, fun t u q => ?_, fun t u q q2 => ?_⟩
  · rw [hv t u q]
    have := h.2.2.1 t u q
    have := zhold_b (v t u + d)
    split <;> assumption
  · rw [hv t u q, hv t (u + 1) q2]
    have := h.2.2.2 t u q q2
    by_cases c : L t = true
    · rw [if_pos c, if_pos c]
      unfold zhold
      refine ⟨fun e => ?_, fun e => ?_⟩
      · have := this.1 e; omega
      · have := this.2 e; omega
    · rw [if_neg c, if_neg c]; exact this
theorem RC.ok {M : zM} (rc : RC M) : okM (rS M) (rV M) := okM_hold rc.2.1 (fun t => hb (M 9 0 6) t) (M 9 0 7) (fun _ _ _ => rfl)
theorem RC.n {M : zM} (rc : RC M) : 0 ≤ M 27 0 180 ∧ M 27 0 180 ≤ 20 := rc.2.1.1
theorem mRB.of {M M' : zM} {B : List Int} (h : mRB M B) (e : M' 9 0 11 = M 9 0 11) (e1 : M' 33 0 = M 33 0) (e2 : M' 31 0 = M 31 0) (e3 : M' 32 0 = M 32 0) : mRB M' B := by
  unfold mRB at h ⊢
  rw [e, e1, e2, e3]
  exact h
theorem mRA.of {M M' : zM} {A : List Int} {f : Int} (h : mRA M f A) (e : M' 9 0 15 = M 9 0 15) (e1 : M' 36 0 = M 36 0) (e2 : M' 34 0 = M 34 0) (e3 : M' 35 0 = M 35 0) : mRA M' f A := by
  unfold mRA at h ⊢
  rw [e, e1, e2, e3]
  exact h
section
variable {l : Launch} {M : zM}
end

