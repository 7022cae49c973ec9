/-! ===== acts: the reference's tape ===== -/
section
variable {l : Launch} {M : zM} {A : zY} {kk : Int}
end
/-! ===== what the acts leave is a system again ===== -/
theorem wfS.up {k k' : Int} {S : zS} (h : wfS k S) (hk : k ≤ k') : wfS k' S := by
  obtain ⟨h1, h2, h3, h4, h5, h6, h7, h8⟩ := h
  exact ⟨h1, h2, h3, ⟨h4.1, by omega⟩, h5, h6, h7, h8⟩
theorem wfY.up {k k' : Int} {A : zY} (h : wfY k A) (hk : k ≤ k') : wfY k' A := by
  obtain ⟨h1, h2, h3, h4, h5⟩ := h
  exact ⟨h1.up hk, h2, fun i hi => (h3 i hi).up hk, fun s hs => (h4 s hs).imp id fun q => ⟨q.1, q.2.up hk⟩, h5⟩
theorem wf_put {k : Int} {A : zY} {S : zS} (h : wfY k A) (s : wfS k S) : wfY k (yPut A S) := by
  obtain ⟨h1, h2, h3, h4, h5⟩ := h
  have n : yhc (yPut A S) = min (yhc A + 1) 10 := rfl
  refine ⟨s, by rw [n]; omega, fun i hi => ?_, h4, h5⟩
  rw [n] at hi
  show wfS k (if i = 0 then yS A else yhf A (i - 1))
  by_cases z : i = 0
  · rw [if_pos z]
    exact h1
  · rw [if_neg z]
    exact h3 (i - 1) (by omega)
theorem wf_come {k : Int} {S : zS} {s g : Int} (h : wfS k S) (z : zo S) (hn : qn S < 20) (hs : s = 0 ∨ s = 1) (hg : 0 ≤ g ∧ g < 4) : wfS k (sCome S s g) := by
  obtain ⟨h1, h2, h3, h4, h5, h6, h7, h8⟩ := h
  have n : qn (sCome S s g) = qn S + 1 := rfl
  have zn := z.2.1 (qn S) (by omega)
  have c5 : qsc (sCome S s g) 5 = qsc S 5 := rfl
  refine ⟨by rw [n]; omega, h2, h3, h4, h5, fun t ht => ?_, fun t u ht hu => ?_, fun t u ht hu => ?_⟩
  · rw [n] at ht
    rw [c5]
    show (upf (qsl S) (qn S) s t = 0 ∨ upf (qsl S) (qn S) s t = 1) ∧ (0 ≤ upf (qgr S) (qn S) g t ∧ upf (qgr S) (qn S) g t < 4) ∧ (0 ≤ qun S t ∧ qun S t ≤ 4) ∧ (-1000000 * qsc S 5 ≤ qpu S t ∧ qpu S t ≤ 1000000 * qsc S 5)
    unfold upf
    by_cases c : t = qn S
    · rw [if_pos c, if_pos c, c, zn.2.2.1, zn.2.2.2.1]
      refine ⟨hs, hg, by omega, by omega⟩
    · rw [if_neg c, if_neg c]
      exact h6 t (by omega)
  · rw [n] at ht
    have hu' : 0 ≤ u ∧ u < qun S t := hu
    have c : t ≠ qn S := fun c => by rw [c, zn.2.2.1] at hu'; omega
    exact h7 t u (by omega) hu'
  · rw [n] at ht
    have hu' : 0 ≤ u ∧ u + 1 < qun S t := hu
    have c : t ≠ qn S := fun c => by rw [c, zn.2.2.1] at hu'; omega
    have k := h8 t u (by omega) hu'
    have e : qsl (sCome S s g) t = qsl S t := by
      show upf (qsl S) (qn S) s t = _
      unfold upf
      rw [if_neg c]
    rw [e]
    exact k
theorem wf_add {k : Int} {S : zS} {t v : Int} (h : wfS k S) (ht : 0 ≤ t ∧ t < qn S) (hv : 0 ≤ v ∧ v ≤ 9999) (hu : qun S t < 4) (f : fitP S t (qun S t) v) : wfS k (sAdd S t v) := by
  obtain ⟨h1, h2, h3, h4, h5, h6, h7, h8⟩ := h
  have su : ∀ t', qun (sAdd S t v) t' = if t' = t then qun S t + 1 else qun S t' := fun _ => rfl
  have sy : ∀ t' u, qsy (sAdd S t v) t' u = if t' = t ∧ u = qun S t then v else qsy S t' u := fun _ _ => rfl
  refine ⟨h1, h2, h3, h4, h5, fun t' ht' => ?_, fun t' u ht' hu' => ?_, fun t' u ht' hu' => ?_⟩
  · have k := h6 t' ht'
    refine ⟨k.1, k.2.1, ?_, k.2.2.2⟩
    rw [su]
    by_cases c : t' = t
    · rw [if_pos c]
      subst c
      omega
    · rw [if_neg c]
      exact k.2.2.1
  · rw [su] at hu'
    rw [sy]
    by_cases c : t' = t ∧ u = qun S t
    · rw [if_pos c]
      exact hv
    · rw [if_neg c]
      refine h7 t' u ht' ?_
      by_cases d : t' = t
      · rw [if_pos d] at hu'
        subst d
        omega
      · rw [if_neg d] at hu'
        exact hu'
  · rw [su] at hu'
    rw [sy, sy]
    show (qsl S t' = 0 → _) ∧ (qsl S t' = 1 → _)
    by_cases d : t' = t
    · subst d
      rw [if_pos rfl] at hu'
      rw [if_neg (show ¬ (t' = t' ∧ u = qun S t') by omega)]
      by_cases c : u + 1 = qun S t'
      · rw [if_pos ⟨rfl, c⟩]
        have g := f.1 ⟨ht.1, ht.2, by omega, by omega⟩
        rw [show qun S t' - 1 = u by omega] at g
        exact ⟨fun q => g.2 (by omega), fun q => g.1 q⟩
      · rw [if_neg (by omega)]
        exact h8 t' u ht' (by omega)
    · rw [if_neg d] at hu'
      rw [if_neg (fun q => d q.1), if_neg (fun q => d q.1)]
      exact h8 t' u ht' hu'
theorem wf_say {k : Int} {S : zS} {t u v : Int} (h : wfS k S) (q : qU S t u) (hv : 0 ≤ v ∧ v ≤ 9999) (f : fitP S t u v) : wfS k (sSay S t u v) := by
  obtain ⟨h1, h2, h3, h4, h5, h6, h7, h8⟩ := h
  have sy : ∀ t' u', qsy (sSay S t u v) t' u' = if t' = t ∧ u' = u then v else qsy S t' u' := fun _ _ => rfl
  refine ⟨h1, h2, h3, h4, h5, h6, fun t' u' ht' hu' => ?_, fun t' u' ht' hu' => ?_⟩
  · rw [sy]
    by_cases c : t' = t ∧ u' = u
    · rw [if_pos c]
      exact hv
    · rw [if_neg c]
      exact h7 t' u' ht' hu'
  · have hu2 : 0 ≤ u' ∧ u' + 1 < qun S t' := hu'
    have ht2 : 0 ≤ t' ∧ t' < qn S := ht'
    rw [sy, sy]
    show (qsl S t' = 0 → _) ∧ (qsl S t' = 1 → _)
    by_cases d : t' = t
    · subst d
      by_cases c : u' = u
      · subst c
        rw [if_neg (show ¬ (t' = t' ∧ u' + 1 = u') by omega), if_pos ⟨rfl, rfl⟩]
        have g := f.2 ⟨ht2.1, ht2.2, by omega, hu2.2⟩
        exact ⟨fun p => g.2 (by omega), fun p => g.1 p⟩
      · rw [if_neg (show ¬ (t' = t' ∧ u' = u) from fun p => c p.2)]
        by_cases c2 : u' + 1 = u
        · rw [if_pos ⟨rfl, c2⟩]
          have g := f.1 ⟨ht2.1, ht2.2, by omega, by omega⟩
          rw [show u - 1 = u' by omega] at g
          exact ⟨fun p => g.2 (by omega), fun p => g.1 p⟩
        · rw [if_neg (show ¬ (t' = t' ∧ u' + 1 = u) from fun p => c2 p.2)]
          exact h8 t' u' ht' hu'
    · rw [if_neg (fun p => d p.1), if_neg (fun p => d p.1)]
      exact h8 t' u' ht' hu'
theorem wf_drop {k : Int} {S : zS} {t c : Int} (h : wfS k S) (ht : 0 ≤ t ∧ t < qn S) (hc : 0 ≤ c ∧ c ≤ qun S t) : wfS k (sDrop S t c) := by
  obtain ⟨h1, h2, h3, h4, h5, h6, h7, h8⟩ := h
  have su : ∀ t', qun (sDrop S t c) t' = if t' = t then qun S t - c else qun S t' := fun _ => rfl
  have sy : ∀ t' u, qsy (sDrop S t c) t' u = if t' = t then (if 0 ≤ u ∧ u + c < qun S t then qsy S t (u + c) else 0) else qsy S t' u := fun _ _ => rfl
  refine ⟨h1, h2, h3, h4, h5, fun t' ht' => ?_, fun t' u ht' hu' => ?_, fun t' u ht' hu' => ?_⟩
  · have k := h6 t' ht'
    refine ⟨k.1, k.2.1, ?_, k.2.2.2⟩
    rw [su]
    by_cases d : t' = t
    · rw [if_pos d]
      subst d
      omega
    · rw [if_neg d]
      exact k.2.2.1
  · rw [su] at hu'
    rw [sy]
    by_cases d : t' = t
    · rw [if_pos d] at hu'
      rw [if_pos d, if_pos (by omega)]
      exact h7 t (u + c) ht (by omega)
    · rw [if_neg d] at hu' ⊢
      exact h7 t' u ht' hu'
  · rw [su] at hu'
    rw [sy, sy]
    show (qsl S t' = 0 → _) ∧ (qsl S t' = 1 → _)
    by_cases d : t' = t
    · rw [if_pos d] at hu'
      rw [if_pos d, if_pos d, if_pos (by omega), if_pos (by omega), show u + 1 + c = u + c + 1 by omega, d]
      exact h8 t (u + c) ht (by omega)
    · rw [if_neg d] at hu'
      rw [if_neg d, if_neg d]
      exact h8 t' u ht' hu'
theorem wf_fee {k : Int} {S : zS} {p : Int} (h : wfS k S) (hp : 0 ≤ p ∧ p ≤ 500) : wfS k (sSc S 1 p) := by
  obtain ⟨h1, h2, h3, h4, h5, h6, h7, h8⟩ := h
  exact ⟨h1, hp, h3, h4, h5, h6, h7, h8⟩
theorem wf_law {k : Int} {S : zS} {p : Int} (h : wfS k S) (hp : 0 ≤ p ∧ p ≤ 3) : wfS k (sSc S 2 p) := by
  obtain ⟨h1, h2, h3, h4, h5, h6, h7, h8⟩ := h
  exact ⟨h1, h2, hp, h4, h5, h6, h7, h8⟩

