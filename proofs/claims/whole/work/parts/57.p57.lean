/-! ===== acts: the reference's hall ===== -/
def zo (S : zS) : Prop := (∀ j, ¬ (0 ≤ j ∧ j < 7) → qsc S j = 0) ∧ (∀ t, ¬ (0 ≤ t ∧ t < qn S) → qsl S t = 0 ∧ qgr S t = 0 ∧ qun S t = 0 ∧ qpu S t = 0 ∧ qtr S t = 0) ∧ (∀ t u, ¬ qU S t u → qsy S t u = 0)
theorem zo_mV {M : zM} {k : Nat} {o : Int} : zo (mV M k o) := by
  have n : qn (mV M k o) = M k 0 (o + 180) := by
    show (if (0 : Int) ≤ 0 ∧ (0 : Int) < 7 then M k 0 (o + 180 + 0) else 0) = _
    rw [if_pos (by decide), Int.add_zero]
  refine ⟨fun j h => if_neg h, fun t h => ?_, fun t u h => ?_⟩
  · rw [n] at h
    exact ⟨if_neg h, if_neg h, if_neg h, if_neg h, if_neg h⟩
  · refine if_neg fun q => h ⟨q.1, by rw [n]; exact q.2.1, q.2.2.1, ?_⟩
    show u < if 0 ≤ t ∧ t < M k 0 (o + 180) then M k 0 (o + 9 * t + 2) else 0
    rw [if_pos ⟨q.1, q.2.1⟩]
    exact q.2.2.2
theorem zo_hS {M : zM} {h : Nat} : zo (hS M h) := by
  have n : qn (hS M h) = M 1 h 6 := (hS_n M h)
  refine ⟨fun j h => if_neg h, fun t h => ?_, fun t u h => ?_⟩
  · rw [n] at h
    exact ⟨if_neg h, if_neg h, if_neg h, if_neg h, if_neg h⟩
  · exact if_neg fun q => h (hU_q.mp q)
theorem zo_come {S : zS} {s g : Int} (z : zo S) (hn : 0 ≤ qn S) : zo (sCome S s g) := by
  have n : qn (sCome S s g) = qn S + 1 := rfl
  refine ⟨fun j h => ?_, fun t h => ?_, fun t u h => ?_⟩
  · show upf (qsc S) 0 (qn S + 1) j = 0
    unfold upf
    rw [if_neg (by omega)]
    exact z.1 j h
  · rw [n] at h
    have k := z.2.1 t (by omega)
    refine ⟨?_, ?_, k.2.2⟩
    · show upf (qsl S) (qn S) s t = 0
      unfold upf
      rw [if_neg (by omega)]
      exact k.1
    · show upf (qgr S) (qn S) g t = 0
      unfold upf
      rw [if_neg (by omega)]
      exact k.2.1
  · refine z.2.2 t u fun q => h ⟨q.1, ?_, q.2.2.1, q.2.2.2⟩
    rw [n]
    have := q.2.1
    omega
theorem zo_add {S : zS} {t v : Int} (z : zo S) (ht : 0 ≤ t ∧ t < qn S) (hu : 0 ≤ qun S t) : zo (sAdd S t v) := by
  have nu : ∀ t', qun (sAdd S t v) t' = if t' = t then qun S t + 1 else qun S t' := fun _ => rfl
  refine ⟨z.1, fun t' h => ?_, fun t' u h => ?_⟩
  · have k := z.2.1 t' h
    refine ⟨k.1, k.2.1, ?_, k.2.2.2⟩
    rw [nu, if_neg (show ¬ t' = t from fun q => h (q ▸ ht))]
    exact k.2.2.1
  · show (if t' = t ∧ u = qun S t then v else qsy S t' u) = 0
    rw [if_neg]
    · refine z.2.2 t' u fun q => h ⟨q.1, q.2.1, q.2.2.1, ?_⟩
      rw [nu]
      have := q.2.2.2
      by_cases c : t' = t
      · rw [if_pos c]
        rw [c] at this
        omega
      · rw [if_neg c]
        exact this
    · rintro ⟨rfl, rfl⟩
      exact h ⟨ht.1, ht.2, hu, by rw [nu, if_pos rfl]; omega⟩
theorem zo_say {S : zS} {t u v : Int} (z : zo S) (q : qU S t u) : zo (sSay S t u v) := by
  refine ⟨z.1, z.2.1, fun t' u' h => ?_⟩
  show (if t' = t ∧ u' = u then v else qsy S t' u') = 0
  rw [if_neg]
  · exact z.2.2 t' u' h
  · rintro ⟨rfl, rfl⟩
    exact h q
theorem zo_drop {S : zS} {t c : Int} (z : zo S) (ht : 0 ≤ t ∧ t < qn S) : zo (sDrop S t c) := by
  have nu : ∀ t', qun (sDrop S t c) t' = if t' = t then qun S t - c else qun S t' := fun _ => rfl
  refine ⟨z.1, fun t' h => ?_, fun t' u h => ?_⟩
  · have k := z.2.1 t' h
    refine ⟨k.1, k.2.1, ?_, k.2.2.2⟩
    rw [nu, if_neg (show ¬ t' = t from fun q => h (q ▸ ht))]
    exact k.2.2.1
  · show (if t' = t then (if 0 ≤ u ∧ u + c < qun S t then qsy S t (u + c) else 0) else qsy S t' u) = 0
    by_cases d : t' = t
    · subst d
      rw [if_pos rfl, if_neg]
      rintro ⟨a, b⟩
      exact h ⟨ht.1, ht.2, a, by rw [nu, if_pos rfl]; omega⟩
    · rw [if_neg d]
      refine z.2.2 t' u fun q => h ⟨q.1, q.2.1, q.2.2.1, ?_⟩
      rw [nu, if_neg d]
      exact q.2.2.2
theorem zo_trade {S : zS} {t c m : Int} (z : zo S) (ht : 0 ≤ t ∧ t < qn S) : zo (sTrade S t c m) := by
  have k := zo_drop (c := c) z ht
  refine ⟨k.1, fun t' h => ?_, k.2.2⟩
  have a := k.2.1 t' h
  have d : t' ≠ t := fun q => h (q ▸ ht)
  refine ⟨a.1, a.2.1, a.2.2.1, ?_, ?_⟩
  · show upf (qpu S) t _ t' = 0
    unfold upf
    rw [if_neg d]
    exact a.2.2.2.1
  · show upf (qtr S) t _ t' = 0
    unfold upf
    rw [if_neg d]
    exact a.2.2.2.2
theorem zo_sc {S : zS} {j x : Int} (z : zo S) (hj : 1 ≤ j ∧ j < 7) : zo (sSc S j x) := by
  have n : qn (sSc S j x) = qn S := by
    show upf (qsc S) j x 0 = _
    unfold upf
    rw [if_neg (by omega)]
  refine ⟨fun k h => ?_, fun t h => z.2.1 t (by rw [n] at h; exact h), fun t u h => z.2.2 t u fun q => h ⟨q.1, by rw [n]; exact q.2.1, q.2.2⟩⟩
  show upf (qsc S) j x k = 0
  unfold upf
  rw [if_neg (by omega)]
  exact z.1 k h
theorem zo_note {S : zS} {d k : Int} (z : zo S) : zo (sNote S d k) := by
  have e : ∀ j, ¬ (3 ≤ j ∧ j ≤ 6) → qsc (sNote S d k) j = qsc S j := by
    intro j hj
    show upf (upf (upf (upf (qsc S) 6 _) 3 _) 4 _) 5 _ j = _
    unfold upf
    rw [if_neg (by omega), if_neg (by omega), if_neg (by omega), if_neg (by omega)]
  have n : qn (sNote S d k) = qn S := e 0 (by omega)
  exact ⟨fun j h => (e j (by omega)).trans (z.1 j h), fun t h => z.2.1 t (by rw [n] at h; exact h), fun t u h => z.2.2 t u fun q => h ⟨q.1, by rw [n]; exact q.2.1, q.2.2⟩⟩
/-- a hall by what stands in its row -/
theorem mv_eq {M : zM} {S : zS} (z : zo S) (hn : 0 ≤ qn S ∧ qn S ≤ 20) (h0 : ∀ j, 0 ≤ j ∧ j < 7 → M 27 0 (180 + j) = qsc S j)
    (h1 : ∀ t, 0 ≤ t ∧ t < qn S → (qsl S t = 0 ∨ qsl S t = 1) ∧ (0 ≤ qun S t ∧ qun S t ≤ 4) ∧ M 27 0 (9 * t) = qsl S t ∧ M 27 0 (9 * t + 1) = qgr S t ∧ M 27 0 (9 * t + 2) = qun S t ∧ M 27 0 (9 * t + 7) = qpu S t ∧ M 27 0 (9 * t + 8) = qtr S t)
    (h3 : ∀ t u, qU S t u → M 27 0 (9 * t + (3 + u)) = qsy S t u) : mW M 27 0 ∧ mV M 27 0 = S := by
  have n : M 27 0 (0 + 180) = qn S := h0 0 (by omega)
  have e : ∀ t c : Int, M 27 0 (0 + 9 * t + c) = M 27 0 (9 * t + c) := fun t c => by rw [Int.zero_add]
  have e0 : ∀ t : Int, M 27 0 (0 + 9 * t) = M 27 0 (9 * t) := fun t => by rw [Int.zero_add]
  refine ⟨⟨by rw [n]; exact hn, fun t ht => ?_⟩, ?_⟩
  · rw [n] at ht
    have k := h1 t ht
    rw [e0, e, k.2.2.1, k.2.2.2.2.1]
    exact ⟨k.1, k.2.1⟩
  · unfold mV
    rw [n]
    refine Prod.ext ?_ (Prod.ext ?_ (Prod.ext ?_ (Prod.ext ?_ (Prod.ext ?_ (Prod.ext ?_ ?_)))))
    · funext j
      dsimp only
      by_cases c : 0 ≤ j ∧ j < 7
      · rw [if_pos c]
        exact h0 j c
      · rw [if_neg c]
        exact (z.1 j c).symm
    · funext t
      dsimp only
      by_cases c : 0 ≤ t ∧ t < qn S
      · rw [if_pos c, e0]
        exact (h1 t c).2.2.1
      · rw [if_neg c]
        exact (z.2.1 t c).1.symm
    · funext t
      dsimp only
      by_cases c : 0 ≤ t ∧ t < qn S
      · rw [if_pos c, e]
        exact (h1 t c).2.2.2.1
      · rw [if_neg c]
        exact (z.2.1 t c).2.1.symm
    · funext t
      dsimp only
      by_cases c : 0 ≤ t ∧ t < qn S
      · rw [if_pos c, e]
        exact (h1 t c).2.2.2.2.1
      · rw [if_neg c]
        exact (z.2.1 t c).2.2.1.symm
    · funext t u
      dsimp only
      by_cases c : qU S t u
      · rw [e, (h1 t ⟨c.1, c.2.1⟩).2.2.2.2.1, if_pos c, Int.zero_add, Int.add_assoc]
        exact h3 t u c
      · have zz : S.2.2.2.2.1 t u = 0 := z.2.2 t u c
        rw [zz]
        by_cases d : 0 ≤ t ∧ t < qn S
        · rw [e, (h1 t d).2.2.2.2.1, if_neg c]
        · rw [if_neg (by rintro ⟨a, b, -⟩; exact d ⟨a, b⟩)]
    · funext t
      dsimp only
      by_cases c : 0 ≤ t ∧ t < qn S
      · rw [if_pos c, e]
        exact (h1 t c).2.2.2.2.2.1
      · rw [if_neg c]
        exact (z.2.1 t c).2.2.2.1.symm
    · funext t
      dsimp only
      by_cases c : 0 ≤ t ∧ t < qn S
      · rw [if_pos c, e]
        exact (h1 t c).2.2.2.2.2.2
      · rw [if_neg c]
        exact (z.2.1 t c).2.2.2.2.symm
/-- and back: what stands in a hall's row -/
theorem mv_at {M : zM} {S : zS} (w : mW M 27 0) (e : mV M 27 0 = S) : zo S ∧ (0 ≤ qn S ∧ qn S ≤ 20) ∧ (∀ j, 0 ≤ j ∧ j < 7 → M 27 0 (180 + j) = qsc S j) ∧
    (∀ t, 0 ≤ t ∧ t < qn S → (qsl S t = 0 ∨ qsl S t = 1) ∧ (0 ≤ qun S t ∧ qun S t ≤ 4) ∧ M 27 0 (9 * t) = qsl S t ∧ M 27 0 (9 * t + 1) = qgr S t ∧ M 27 0 (9 * t + 2) = qun S t ∧ M 27 0 (9 * t + 7) = qpu S t ∧ M 27 0 (9 * t + 8) = qtr S t) ∧
    (∀ t u, qU S t u → M 27 0 (9 * t + (3 + u)) = qsy S t u) := by
  subst e
  refine ⟨zo_mV, w.1, fun j hj => ?_, fun t ht => ?_, fun t u h => (rS_sy h).symm⟩
  · exact (if_pos (c := 0 ≤ j ∧ j < 7) hj).symm
  · have a := w.2 t ht
    rw [show (0 : Int) + 9 * t = 9 * t by omega] at a
    rw [rS_sl ht, rS_gr ht, rS_un ht, rS_pu ht, rS_tr ht]
    exact ⟨a.1, a.2, rfl, rfl, rfl, rfl, rfl⟩
