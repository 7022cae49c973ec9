/-! ===== what the acts leave is a system again: all of them ===== -/
def nopu (S : zS) : zS := (qsc S, qsl S, qgr S, qun S, qsy S, fun _ => 0, qtr S)
theorem wf_nopu {k : Int} {S : zS} (h : wfS k S) : wfS k (nopu S) := by
  obtain ⟨h1, h2, h3, h4, h5, h6, h7, h8⟩ := h
  refine ⟨h1, h2, h3, h4, h5, fun t ht => ?_, h7, h8⟩
  have a := h6 t ht
  refine ⟨a.1, a.2.1, a.2.2.1, ?_⟩
  have h4' : 0 ≤ qsc S 5 := h4.1
  show -1000000 * qsc S 5 ≤ 0 ∧ 0 ≤ 1000000 * qsc S 5
  omega
theorem wf_trd {k : Int} {S : zS} {g : Int} (h : wfS k S) : ∀ n : Nat, (n : Int) ≤ qn S → wfS k (nopu (sTrd S g n)) ∧ (∀ t, (n : Int) ≤ t → qpu (sTrd S g n) t = qpu S t) ∧ (∀ t, -1000000 ≤ qpu (sTrd S g n) t - qpu S t ∧ qpu (sTrd S g n) t - qpu S t ≤ 1000000)
  | 0, _ => ⟨wf_nopu h, fun _ _ => rfl, fun t => by
    show -1000000 ≤ qpu S t - qpu S t ∧ qpu S t - qpu S t ≤ 1000000
    omega⟩
  | n + 1, hn => by
    obtain ⟨w, e, b⟩ := wf_trd (g := g) h n (by omega)
    have ok := h.ok
    have st := sTrd_s (S := S) (g := g) n
    have cb := cT_b ok (g := g) (t := (n : Int)) (by omega)
    have mb := mny_c ok (g := g) (t := (n : Int)) (z := zb (qsl S (n : Int) = 1)) zb_01
    have mb' : -1000000 ≤ mT S g (n : Int) ∧ mT S g (n : Int) ≤ 1000000 := mb
    have nq : qn (nopu (sTrd S g n)) = qn S := congrFun st.1 0
    have uq : qun (nopu (sTrd S g n)) (n : Int) = qun S (n : Int) := st.2.2.2 _ (Int.le_refl _)
    have wd := wf_drop (t := (n : Int)) (c := cT S g (n : Int)) w (by rw [nq]; omega) (by rw [uq]; exact cb)
    have pe : ∀ t, qpu (sTrd S g (n + 1)) t = if t = (n : Int) then qpu (sTrd S g n) n + (if qsl (sTrd S g n) n = 1 then mT S g n else -(mT S g n)) else qpu (sTrd S g n) t := fun _ => rfl
    refine ⟨wd, fun t ht => ?_, fun t => ?_⟩
    · rw [pe, if_neg (by omega)]
      exact e t (by omega)
    · rw [pe]
      by_cases c : t = (n : Int)
      · rw [if_pos c, c, e _ (Int.le_refl _)]
        split <;> omega
      · rw [if_neg c]
        exact b t
theorem wf_close {k : Int} {S : zS} {g d x : Int} (h : wfS k S) (hx : -160000000 ≤ x ∧ x ≤ 160000000) : wfS (k + 1) (sNote (sTrd S g (qn S).toNat) d x) := by
  have hn := h.1
  obtain ⟨w, e, b⟩ := wf_trd (g := g) h (qn S).toNat (by omega)
  have st := sTrd_s (S := S) (g := g) (qn S).toNat
  obtain ⟨h1, h2, h3, h4, h5, h6, h7, h8⟩ := w
  have c0 : qsc (sTrd S g (qn S).toNat) = qsc S := st.1
  have h4' := h.2.2.2.1
  have h5' := h.2.2.2.2.1
  have h6' := h.2.2.2.2.2.1
  have nn : qn (sNote (sTrd S g (qn S).toNat) d x) = qn S := congrFun c0 0
  have n5 : qsc (sNote (sTrd S g (qn S).toNat) d x) 5 = qsc S 5 + 1 := by
    show qsc (sTrd S g (qn S).toNat) 5 + 1 = _
    rw [c0]
  have n6 : qsc (sNote (sTrd S g (qn S).toNat) d x) 6 = if qsc S 5 = 0 then x else max (qsc S 6) x := by
    show (if qsc (sTrd S g (qn S).toNat) 5 = 0 then x else max (qsc (sTrd S g (qn S).toNat) 6) x) = _
    rw [c0]
  refine ⟨h1, h2, h3, by rw [n5]; omega, by rw [n6]; split <;> omega, fun t ht => ?_, h7, h8⟩
  rw [nn] at ht
  have a := h6 t (by
    have e0 : qn (nopu (sTrd S g (qn S).toNat)) = qn S := congrFun c0 0
    rw [e0]
    exact ht)
  refine ⟨a.1, a.2.1, a.2.2.1, ?_⟩
  rw [n5]
  have bb := b t
  have pp := (h6' t ht).2.2.2
  show -1000000 * (qsc S 5 + 1) ≤ qpu (sTrd S g (qn S).toNat) t ∧ qpu (sTrd S g (qn S).toNat) t ≤ 1000000 * (qsc S 5 + 1)
  omega
section
variable {A : zY} {k : Int}
theorem wf_take (h : wfY k A) (hc : 0 < yhc A) : wfY k (yTake A) := by
  obtain ⟨h1, h2, h3, h4, h5⟩ := h
  have n : yhc (yTake A) = yhc A - 1 := rfl
  refine ⟨h3 0 (by omega), by rw [n]; omega, fun i hi => ?_, h4, h5⟩
  rw [n] at hi
  exact h3 (i + 1) (by omega)
theorem wf_no {S : zS} (h : wfY k A) (s : wfS k S) : wfY k (yNo A S) := by
  obtain ⟨h1, h2, h3, h4, h5⟩ := h
  have n : yhc (yNo A S) = 0 := rfl
  refine ⟨s, by rw [n]; omega, fun i hi => ?_, h4, h5⟩
  rw [n] at hi
  omega
theorem wf_keep {s : Int} (h : wfY k A) : wfY k (yKeep A s) := by
  obtain ⟨h1, h2, h3, h4, h5⟩ := h
  refine ⟨h1, h2, h3, fun j hj => ?_, h5⟩
  show (if j = s then 1 else ykf A j) = 0 ∨ ((if j = s then 1 else ykf A j) = 1 ∧ wfS k (if j = s then yS A else ykh A j))
  by_cases c : j = s
  · rw [if_pos c, if_pos c]
    exact .inr ⟨rfl, h1⟩
  · rw [if_neg c, if_neg c]
    exact h4 j hj
theorem wf_tape {n : Int} {b : Int → Int} (h : wfY k A) (hn : 0 ≤ n ∧ n ≤ 400) (hb : ∀ i, 0 ≤ i ∧ i < n → 0 ≤ b i ∧ b i < 256) : wfY k (yTape A n b) := by
  obtain ⟨h1, h2, h3, h4, h5⟩ := h
  exact ⟨h1, h2, h3, h4, hn, hb⟩
theorem zand_255 {x : Int} : 0 ≤ zand x 255 ∧ zand x 255 < 256 := by
  have e : (zand x 255 : Int) = (((Int32.ofInt x).toBitVec &&& 255#32).toNat : Int) := by
    unfold zand
    have lt : ((Int32.ofInt x).toBitVec &&& 255#32).toNat ≤ 255 := by
      rw [BitVec.toNat_and]
      exact Nat.and_le_right
    show ((Int32.ofInt x &&& Int32.ofInt 255).toBitVec).toInt = _
    rw [Int32.toBitVec_and]
    exact BitVec.toInt_eq_toNat_of_lt (x := (Int32.ofInt x).toBitVec &&& 255#32) (by omega)
  have lt : ((Int32.ofInt x).toBitVec &&& 255#32).toNat ≤ 255 := by
    rw [BitVec.toNat_and]
    exact Nat.and_le_right
  omega
theorem wf_yB {v : Int} (h : wfY k A) (hn : ytn A + 4 ≤ 400) : wfY k (yB A v) := by
  have h5 := h.2.2.2.2
  refine wf_tape h (by omega) fun i hi => ?_
  split
  · exact zand_255
  · split
    · exact zand_255
    · split
      · exact zand_255
      · split
        · exact zand_255
        · exact h5.2 i (by omega)
theorem w_come {s g : Int} (h : wfY k A) (z : zo (yS A)) (hs : s = 0 ∨ s = 1) : wfY k (aCome A s g).2 := by
  unfold aCome
  split
  · exact h
  · split
    · exact h
    · exact wf_put h (wf_come h.1 z (by omega) hs (by omega))
theorem w_add {t v : Int} (h : wfY k A) : wfY k (aAdd A t v).2 := by
  unfold aAdd
  split
  · exact h
  · next a =>
    split
    · exact h
    · next b =>
      split
      · exact h
      · next c =>
        split
        · exact h
        · next d => exact wf_put h (wf_add h.1 (Decidable.not_not.mp a) (Decidable.not_not.mp b) (by omega) (Decidable.not_not.mp d))
theorem w_say {t u v : Int} (h : wfY k A) : wfY k (aSay A t u v).2 := by
  unfold aSay
  split
  · exact h
  · next a =>
    split
    · exact h
    · next b =>
      split
      · exact h
      · split
        · exact h
        · next d => exact wf_put h (wf_say h.1 (Decidable.not_not.mp a) (Decidable.not_not.mp b) (Decidable.not_not.mp d))
theorem w_leave {t : Int} (h : wfY k A) (z : zo (yS A)) : wfY k (aLeave A t).2 := by
  unfold aLeave
  split
  · exact h
  · next a =>
    have ht : 0 ≤ t ∧ t < qn (yS A) := by
      by_cases c : 0 ≤ t ∧ t < qn (yS A)
      · exact c
      · exact absurd (z.2.1 t c).2.2.1 a
    have u := (h.1.2.2.2.2.2.1 t ht).2.2.1
    exact wf_put h (wf_drop h.1 ht (by omega))
theorem w_fee {p : Int} (h : wfY k A) : wfY k (aFeeA A p).2 := by
  unfold aFeeA
  split
  · exact h
  · next a =>
    split
    · exact h
    · exact wf_put h (wf_fee h.1 (Decidable.not_not.mp a))
theorem w_law {p : Int} (h : wfY k A) : wfY k (aLawA A p).2 := by
  unfold aLawA
  split
  · exact h
  · next a =>
    split
    · exact h
    · exact wf_put h (wf_law h.1 (Decidable.not_not.mp a))
theorem w_undo (h : wfY k A) : wfY k (aUndo A).2 := by
  unfold aUndo
  split
  · next a => exact wf_take h a
  · exact h
theorem w_keep {s : Int} (h : wfY k A) : wfY k (aKeep A s).2 := by
  unfold aKeep
  split
  · exact h
  · exact wf_keep h
theorem w_back {s : Int} (h : wfY k A) : wfY k (aBack A s).2 := by
  unfold aBack
  split
  · exact h
  · next a =>
    split
    · exact h
    · next b =>
      have q := (h.2.2.2.1 s (Decidable.not_not.mp a)).resolve_left b
      exact wf_no h q.2
theorem w_end {n : Int} (h : wfY k A) : wfY k (aEnd A n).2 := by
  unfold aEnd
  split
  · exact h
  · next a =>
    have h5 := h.2.2.2.2
    exact wf_tape h (by omega) fun i hi => h5.2 i (by omega)
theorem w_feed {a b c d e : Int} (h : wfY k A) : wfY k (aFeed A a b c d e).2 := by
  have nx : ∀ (A : zY) (v : Int), ytn (yB A v) = ytn A + 4 := fun _ _ => rfl
  unfold aFeed
  split
  · exact h
  · have n1 := nx A a
    have n2 := nx (yB A a) b
    have n3 := nx (yB (yB A a) b) c
    have n4 := nx (yB (yB (yB A a) b) c) d
    exact wf_yB (wf_yB (wf_yB (wf_yB (wf_yB h (by omega)) (by omega)) (by omega)) (by omega)) (by omega)
theorem w_close {g : Int} (h : wfY k A) : wfY (k + 1) (aClose A g).2 := by
  unfold aClose
  split
  · exact h.up (by omega)
  · split
    · exact h.up (by omega)
    · exact wf_put (h.up (by omega)) (wf_close h.1 (tkg_b (w := qlaw (yS A)) (gd_m (E := fun t => qgr (yS A) t = g) h.1.ok.1) h.1.ok.2.2.1))
end

