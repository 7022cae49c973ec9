/-! ===== what a close changes ===== -/
theorem sTrd_v {S : zS} {g : Int} : ∀ k : Nat, (∀ t, (k : Int) ≤ t → qpu (sTrd S g k) t = qpu S t ∧ qtr (sTrd S g k) t = qtr S t ∧ ∀ u, qsy (sTrd S g k) t u = qsy S t u) ∧
    ∀ t, 0 ≤ t → t < (k : Int) → qpu (sTrd S g k) t = qpu S t + (if qsl S t = 1 then mT S g t else -(mT S g t)) ∧ qtr (sTrd S g k) t = qtr S t + cT S g t ∧ qun (sTrd S g k) t = qun S t - cT S g t ∧ ∀ u, qsy (sTrd S g k) t u = if 0 ≤ u ∧ u + cT S g t < qun S t then qsy S t (u + cT S g t) else 0
  | 0 => ⟨fun _ _ => ⟨rfl, rfl, fun _ => rfl⟩, fun t h1 h2 => by omega⟩
  | k + 1 => by
    obtain ⟨a, b⟩ := sTrd_v (S := S) (g := g) k
    have st := sTrd_s (S := S) (g := g) k
    have e : sTrd S g (k + 1) = sTrade (sTrd S g k) (k : Int) (cT S g (k : Int)) (mT S g (k : Int)) := rfl
    have e1 : ∀ t, qpu (sTrd S g (k + 1)) t = if t = (k : Int) then qpu (sTrd S g k) k + (if qsl (sTrd S g k) k = 1 then mT S g k else -(mT S g k)) else qpu (sTrd S g k) t := fun t => rfl
    have e2 : ∀ t, qtr (sTrd S g (k + 1)) t = if t = (k : Int) then qtr (sTrd S g k) k + cT S g k else qtr (sTrd S g k) t := fun t => rfl
    have e3 : ∀ t, qun (sTrd S g (k + 1)) t = if t = (k : Int) then qun (sTrd S g k) k - cT S g k else qun (sTrd S g k) t := fun t => rfl
    have e4 : ∀ t u, qsy (sTrd S g (k + 1)) t u = if t = (k : Int) then (if 0 ≤ u ∧ u + cT S g k < qun (sTrd S g k) k then qsy (sTrd S g k) k (u + cT S g k) else 0) else qsy (sTrd S g k) t u := fun t u => rfl
    refine ⟨fun t ht => ?_, fun t h1 h2 => ?_⟩
    · have q := a t (by omega)
      rw [e1, e2, if_neg (by omega), if_neg (by omega)]
      exact ⟨q.1, q.2.1, fun u => by rw [e4, if_neg (by omega)]; exact q.2.2 u⟩
    · by_cases c : t = (k : Int)
      · have q := a (k : Int) (by omega)
        rw [e1, e2, e3, if_pos c, if_pos c, if_pos c, q.1, q.2.1, st.2.1, st.2.2.2 (k : Int) (by omega), c]
        exact ⟨rfl, rfl, rfl, fun u => by rw [e4, if_pos rfl, st.2.2.2 (k : Int) (by omega), q.2.2]⟩
      · have q := b t h1 (by omega)
        rw [e1, e2, e3, if_neg c, if_neg c, if_neg c]
        exact ⟨q.1, q.2.1, q.2.2.1, fun u => by rw [e4, if_neg c]; exact q.2.2.2 u⟩
