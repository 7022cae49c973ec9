/-! ===== pure facts of the markets ===== -/
/-- what a trader pays, has, as the reference reckons it -/
theorem mny_ref {S : zS} {E : Int → Prop} {v : Int → Int → Int} {t f w : Int} (ok : okM S v) (ht : 0 ≤ t ∧ t < qn S) (hE : E t) :
    (¬ qsl S t = 1 → mny (mB S E v) (mA S E v) f w 0 t = if w = 3 then mWo (mB S E v) (mA S E v) f t - tW f (mB S E v) (mA S E v) + zsum (v t) (cnt (mB S E v) t (dN (mB S E v) (mA S E v) f w)) else cnt (mB S E v) t (dN (mB S E v) (mA S E v) f w) * dP (mB S E v) (mA S E v) f w) ∧
    (qsl S t = 1 → mny (mB S E v) (mA S E v) f w 1 t = if w = 3 then tW f (mB S E v) (mA S E v) + zsum (v t) (cnt (mA S E v) t (dN (mB S E v) (mA S E v) f w)) - mWo (mB S E v) (mA S E v) f t else cnt (mA S E v) t (dN (mB S E v) (mA S E v) f w) * dG (mB S E v) (mA S E v) f w) := by
  have hd := dN_b (B := mB S E v) (A := mA S E v) (f := f) (w := w)
  have hl := dN_l (B := mB S E v) (A := mA S E v) (f := f) (w := w)
  refine ⟨fun c => ?_, fun c => ?_⟩
  · rw [mny_0]
    by_cases e : cnt (mB S E v) t (dN (mB S E v) (mA S E v) f w) = 0
    · rw [if_pos e, e]
      by_cases e3 : w = 3
      · subst e3
        rw [dN_3] at e
        rw [if_pos rfl, mWo_none ok (fun _ => e) (fun q => absurd q c), zsum_0]
        omega
      · rw [if_neg e3, Int.zero_mul]
    · rw [if_neg e]
      by_cases e3 : w = 3
      · rw [if_pos e3, if_pos e3, (ownB ok ht hE c ⟨hd.1, hl.1⟩).1]
        omega
      · rw [if_neg e3, if_neg e3]
  · rw [mny_1]
    by_cases e : cnt (mA S E v) t (dN (mB S E v) (mA S E v) f w) = 0
    · rw [if_pos e, e]
      by_cases e3 : w = 3
      · subst e3
        rw [dN_3] at e
        rw [if_pos rfl, mWo_none ok (fun q => absurd c q) (fun _ => e), zsum_0]
        omega
      · rw [if_neg e3, Int.zero_mul]
    · rw [if_neg e]
      by_cases e3 : w = 3
      · rw [if_pos e3, if_pos e3, (ownA ok ht hE c ⟨hd.1, hl.2⟩).1]
        omega
      · rw [if_neg e3, if_neg e3]
theorem mny_none {S : zS} {E : Int → Prop} {v : Int → Int → Int} {t f w : Int} (ok : okM S v) :
    (¬ ((0 ≤ t ∧ t < qn S) ∧ E t ∧ ¬ qsl S t = 1) → mny (mB S E v) (mA S E v) f w 0 t = 0) ∧ (¬ ((0 ≤ t ∧ t < qn S) ∧ E t ∧ qsl S t = 1) → mny (mB S E v) (mA S E v) f w 1 t = 0) := by
  have hd := dN_b (B := mB S E v) (A := mA S E v) (f := f) (w := w)
  have hl := dN_l (B := mB S E v) (A := mA S E v) (f := f) (w := w)
  refine ⟨fun c => ?_, fun c => ?_⟩
  · rw [mny_0, if_pos (cnt_none (noB ok c) ⟨hd.1, hl.1⟩)]
  · rw [mny_1, if_pos (cnt_none (noA ok c) ⟨hd.1, hl.2⟩)]
def cnt2 (B A : List Int) (t n : Int) : Int := zsum (fun k => if ktr (B.getD k.toNat 0) = t ∨ ktr (A.getD k.toNat 0) = t then 1 else 0) n
theorem cnt2_B {B A : List Int} {t n : Int} (h : ∀ x ∈ A, ktr x ≠ t) (hn : n ≤ (A.length : Int)) : cnt2 B A t n = cnt B t n := by
  refine zsum_congr fun k hk => ?_
  have := h _ (at_mem (j := k) (by omega))
  by_cases c : ktr (B.getD k.toNat 0) = t
  · rw [if_pos (.inl c), if_pos c]
  · rw [if_neg (by rintro (q | q); exact c q; exact this q), if_neg c]
theorem cnt2_A {B A : List Int} {t n : Int} (h : ∀ x ∈ B, ktr x ≠ t) (hn : n ≤ (B.length : Int)) : cnt2 B A t n = cnt A t n := by
  refine zsum_congr fun k hk => ?_
  have := h _ (at_mem (j := k) (by omega))
  by_cases c : ktr (A.getD k.toNat 0) = t
  · rw [if_pos (.inr c), if_pos c]
  · rw [if_neg (by rintro (q | q); exact this q; exact c q), if_neg c]
section
variable {l : Launch} {M : zM} {B A : List Int} {f : Int}
end

section
variable {l : Launch} {M : zM}
/-- what the hall takes: the class's sum is the reference's -/
theorem tkg_ref {S : zS} {E : Int → Prop} {v : Int → Int → Int} {f : Int} (ok : okM S v) (D : Int → Bool) (hD : ∀ t, 0 ≤ t ∧ t < qn S → (D t = true ↔ E t)) :
    tkg (mB S E v) (mA S E v) f 3 = zsum (fun t => if D t = true then (if qsl S t = 1 then -(mny (mB S E v) (mA S E v) f 3 1 t) else mny (mB S E v) (mA S E v) f 3 0 t) else 0) (qn S) := by
  have hn := ok.1
  unfold tkg
  rw [if_pos rfl, zsum_stop (j := qn S) (n := 20) hn (fun t ht => by
    rw [(mny_none ok).1 (by omega), (mny_none ok).2 (by omega)]
    omega)]
  refine zsum_congr fun t ht => ?_
  by_cases c : D t = true
  · have hE := (hD t ht).mp c
    rw [if_pos c]
    by_cases s : qsl S t = 1
    · rw [if_pos s, (mny_none ok).1 (fun q => q.2.2 s)]; omega
    · rw [if_neg s, (mny_none ok).2 (fun q => s q.2.2)]; omega
  · rw [if_neg c, (mny_none ok).1 (fun q => c ((hD t ht).mpr q.2.1)), (mny_none ok).2 (fun q => c ((hD t ht).mpr q.2.1))]
    omega
end

