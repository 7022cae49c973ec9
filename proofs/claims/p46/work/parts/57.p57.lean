/-! ===== acts: the reference's hall ===== -/
def zo (S : zS) : Prop := (∀ j, ¬ (0 ≤ j ∧ j < 7) → qsc S j = 0) ∧ (∀ t, ¬ (0 ≤ t ∧ t < qn S) → qsl S t = 0 ∧ qgr S t = 0 ∧ qun S t = 0 ∧ qpu S t = 0 ∧ qtr S t = 0) ∧ (∀ t u, ¬ qU S t u → qsy S t u = 0)
theorem zo_come {S : zS} {s g : Int} (z : zo S) (hn : 0 ≤ qn S) : zo (sCome S s g) := by
  have n : qn (sCome S s g) = qn S + 1 := rfl
  refine ⟨fun j h => ?_, fun t h => ?_, fun t u h => ?_⟩
  · show upf (qsc S) 0 (qn S + 1) j = 0
    unfold upf
    rw [if_neg (by omega)]
    exact z.1 j h
  · rw [n] at h
    have k := z.2.1 t (by omega)
    refine ⟨?_, ?_, k.2.2⟩
    · show upf (qsl S) (qn S) s t = 0
      unfold upf
      rw [if_neg (by omega)]
      exact k.1
    · show upf (qgr S) (qn S) g t = 0
      unfold upf
      rw [if_neg (by omega)]
      exact k.2.1
  · refine z.2.2 t u fun q => h ⟨q.1, ?_, q.2.2.1, q.2.2.2⟩
    rw [n]
    have := q.2.1
    omega
theorem zo_add {S : zS} {t v : Int} (z : zo S) (ht : 0 ≤ t ∧ t < qn S) (hu : 0 ≤ qun S t) : zo (sAdd S t v) := by
  have nu : ∀ t', qun (sAdd S t v) t' = if t' = t then qun S t + 1 else qun S t' := fun _ => rfl
  refine ⟨z.1, fun t' h => ?_, fun t' u h => ?_⟩
  · have k := z.2.1 t' h
    refine ⟨k.1, k.2.1, ?_, k.2.2.2⟩
    rw [nu, if_neg (show ¬ t' = t from fun q => h (q ▸ ht))]
    exact k.2.2.1
  · show (if t' = t ∧ u = qun S t then v else qsy S t' u) = 0
    rw [if_neg]
    · refine z.2.2 t' u fun q => h ⟨q.1, q.2.1, q.2.2.1, ?_⟩
      rw [nu]
      have := q.2.2.2
      by_cases c : t' = t
      · rw [if_pos c]
        rw [c] at this
        omega
      · rw [if_neg c]
        exact this
    · rintro ⟨rfl, rfl⟩
      exact h ⟨ht.1, ht.2, hu, by rw [nu, if_pos rfl]; omega⟩
theorem zo_sc {S : zS} {j x : Int} (z : zo S) (hj : 1 ≤ j ∧ j < 7) : zo (sSc S j x) := by
  have n : qn (sSc S j x) = qn S := by
    show upf (qsc S) j x 0 = _
    unfold upf
    rw [if_neg (by omega)]
  refine ⟨fun k h => ?_, fun t h => z.2.1 t (by rw [n] at h; exact h), fun t u h => z.2.2 t u fun q => h ⟨q.1, by rw [n]; exact q.2.1, q.2.2⟩⟩
  show upf (qsc S) j x k = 0
  unfold upf
  rw [if_neg (by omega)]
  exact z.1 k h
