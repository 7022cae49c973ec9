/-! ===== the law's loop: somebody comes ===== -/
theorem sCome_e {S : zS} {s g : Int} {f : Int → Int} (z : zo S) (hn : 0 ≤ qn S) : sCm S s g 0 f = sCome S s g := by
  have q := z.2.1 (qn S) (by omega)
  unfold sCm sCome
  refine Prod.ext rfl (Prod.ext rfl (Prod.ext rfl (Prod.ext ?_ (Prod.ext ?_ (Prod.ext ?_ ?_)))))
  · funext t
    show (if t = qn S then 0 else qun S t) = qun S t
    by_cases c : t = qn S
    · rw [if_pos c, c, q.2.2.1]
    · rw [if_neg c]
  · funext t u
    show (if t = qn S then (if 0 ≤ u ∧ u < 0 then f u else 0) else qsy S t u) = qsy S t u
    by_cases c : t = qn S
    · rw [if_pos c, if_neg (by omega)]
      exact (z.2.2 t u (fun y => by have := y.2.1; omega)).symm
    · rw [if_neg c]
  · funext t
    show (if t = qn S then 0 else qpu S t) = qpu S t
    by_cases c : t = qn S
    · rw [if_pos c, c, q.2.2.2.1]
    · rw [if_neg c]
  · funext t
    show (if t = qn S then 0 else qtr S t) = qtr S t
    by_cases c : t = qn S
    · rw [if_pos c, c, q.2.2.2.2]
    · rw [if_neg c]
theorem gH.come {S : zS} {i s g : Int} (h : gH S i) (z : zo S) (hn : 0 ≤ qn S) (h5 : 0 ≤ qsc S 5) : gH (sCome S s g) (i + 1) := by
  have q := z.2.1 (qn S) (by omega)
  obtain ⟨⟨x1, x2, x3⟩, h2, h3, h4⟩ := h
  have n1 : qn (sCome S s g) = qn S + 1 := show (if (0 : Int) = 0 then qn S + 1 else qsc S 0) = qn S + 1 from if_pos rfl
  have e : ∀ k, k ≠ 0 → qsc (sCome S s g) k = qsc S k := fun k hk => if_neg hk
  refine ⟨⟨?_, ?_, ?_⟩, ?_, ?_, ?_⟩
  · rw [n1, e 3 (by decide), show qpu (sCome S s g) = qpu S from rfl, zsum_s hn, q.2.2.2.1]; omega
  · rw [e 4 (by decide), e 5 (by decide)]; exact x2
  · rw [n1, e 5 (by decide)]
    intro t ht
    show 0 ≤ qtr S t ∧ qtr S t ≤ 4 * qsc S 5
    by_cases c : t = qn S
    · rw [c, q.2.2.2.2]; omega
    · exact x3 t (by omega)
  · rw [show qfee (sCome S s g) = qfee S from e 1 (by decide)]; exact h2
  · rw [n1]
    intro t u ht hu
    have hu' : 0 ≤ u ∧ u < qun S t := hu
    by_cases c : t = qn S
    · rw [c, q.2.2.1] at hu'; omega
    · exact h3 t u (by omega) hu
  · unfold pot at h4 ⊢
    rw [n1, show qun (sCome S s g) = qun S from rfl, zsum_s hn, q.2.2.1]
    omega
section
variable {l : Launch} {P : lwG} {M : zM} {A : zY} {h r : Nat} {v3 i kk v6 : Int} {c n : Nat}
theorem law_319 {C N : Nat} (nx : goOn l P i C N) (hC : C ≤ 400000 ∧ N ≤ 4000000) (hi : 0 ≤ i ∧ i < 26) (B : lwB M A h r v3 i kk) (hc : c + 9 ≤ C) (hn : n + 1616 ≤ N) : LL_law_319 l P c n h v3 i v6 r M := by
  have w := B.1.2.1.1
  have wf := B.1.1.2.1
  have zo' := w.zo
  have hn20 := w.n20
  have kb := B.1.1.2.2
  have h5 := wf.1.2.2.2.1.1
  have vg := tmod_b (x := zushr v6 9) (m := 4) (zus_nn (k := 9) (by decide)) (by decide)
  have bad : ∀ B : zY, aCome B 1 4 = (-1, B) := fun B => if_pos (by decide)
  -- the sign s is the same in both places
  have no : ∀ s : Int, s = 0 ∨ s = 1 → 20 ≤ qn (yS A) → CI l m_X8_come [zr 8 0, zi s, zi (Int.tmod (zushr v6 9) 4)] M (fun x M1 => x = -2 ∧ CI l m_X8_come [zr 8 0, zi 1, zi 4] M1 (fun x M2 => x = -1 ∧ LL_law_396 l P c n h v3 1 i v6 r 0 M2)) := by
    intro s hs hq
    refine (a8_come B.1.1.1 wf hs (by omega)).mono ?_
    rintro x M1 ⟨hx, C1, f1⟩
    have e : aCome A s (Int.tmod (zushr v6 9) 4) = (-2, A) := by unfold aCome; rw [if_neg (by omega), if_pos hq]
    rw [e] at hx C1
    refine ⟨hx, (a8_come C1 wf (.inr rfl) (by decide)).mono ?_⟩
    rintro x M2 ⟨hx, C2, f2⟩
    rw [bad] at hx C2
    have L := B.l (N := M2) (fun k i hk => (f2 k i hk).trans (f1 k i hk))
    exact ⟨hx, vL_law_396 ⟨by decide, fun _ => law_1191 nx hC hi (L.no C2 Hx.rf L.2.2.1 L.2.1.1) (by omega) (by omega), fun z => absurd rfl z⟩⟩
  have yes : ∀ s : Int, s = 0 ∨ s = 1 → qn (yS A) < 20 → CI l m_X8_come [zr 8 0, zi s, zi (Int.tmod (zushr v6 9) 4)] M (fun x M1 => x = qn (yS A) ∧ M1 64 h 0 = qn (yS A) ∧ CI l m_X8_come [zr 8 0, zi 1, zi 4] M1 (fun x M2 => x = -1 ∧ lwL M2 A h r v3 i kk ∧ cSt M2 (yPut A (sCome (yS A) s (Int.tmod (zushr v6 9) 4))))) := by
    intro s hs hq
    refine (a8_come B.1.1.1 wf hs (by omega)).mono ?_
    rintro x M1 ⟨hx, C1, f1⟩
    have wc := w_come (s := s) (g := Int.tmod (zushr v6 9) 4) wf zo' hs
    have e : aCome A s (Int.tmod (zushr v6 9) 4) = (qn (yS A), yPut A (sCome (yS A) s (Int.tmod (zushr v6 9) 4))) := by unfold aCome; rw [if_neg (by omega), if_neg (by omega)]
    rw [e] at hx C1 wc
    refine ⟨hx, (B.l f1).2.1.1.n, (a8_come C1 wc (.inr rfl) (by decide)).mono ?_⟩
    rintro x M2 ⟨hx, C2, f2⟩
    rw [bad] at hx C2
    exact ⟨hx, B.l (N := M2) (fun k i hk => (f2 k i hk).trans (f1 k i hk)), C2⟩
  have comes : ∀ (s : Int) (M2 : zM), s = 0 ∨ s = 1 → qn (yS A) < 20 → lwL M2 A h r v3 i kk → cSt M2 (yPut A (sCome (yS A) s (Int.tmod (zushr v6 9) 4))) → (((c + 1) ≤ 668211 ∧ (n + 0) ≤ 7097614) ∧ ∀ y : Nat, (y : Int) = M2 97 0 75 → ∀ M3 : zM, M3 = zmk M2 75 y 0 → (CV l m_X9_comes [zr 64 h, zi s, zi (Int.tmod (zushr v6 9) 4), zr 75 y] M3 (fun M4 => LL_law_1191 l P (c + 1) (n + 0) h v3 1 i v6 r 1 M4))) := by
    intro s M2 hs hq L C2
    have w2 := L.2.1.1
    refine ⟨by omega, fun y hy M3 e3 => ?_⟩
    have G : Gr [75] M2 M3 := by rw [e3]; exact Gr.mk (by decide) (by decide) hy
    have w3 := w2.ke G.ke
    have c3 : M3 97 0 75 = (y : Int) + 1 := by rw [e3]; exact zmk_c
    have l3 : M3 75 y (-1) = 0 := by rw [e3]; exact zmk_l (by decide)
    refine (c_comes w3 hq hs (by omega) (by omega)).mono ?_
    rintro M4 ⟨X, e11, w4⟩
    rw [l3, sCome_e zo' hn20.1] at w4
    have X4 : Hx M2 M4 h := (G.hx w2.1.1.1).tr (X.hx e11)
    have wc := w_come (s := s) (g := Int.tmod (zushr v6 9) 4) wf zo' hs
    have e : aCome A s (Int.tmod (zushr v6 9) 4) = (qn (yS A), yPut A (sCome (yS A) s (Int.tmod (zushr v6 9) 4))) := by unfold aCome; rw [if_neg (by omega), if_neg (by omega)]
    rw [e] at wc
    exact law_1191 nx hC hi (L.put (C2.lw fun k i hk => X4.1 k i (by omega) (by omega)) X4 ((L.2.2.1.gr G (by decide)).of (X 97 0 (by omega) (by omega))) w4 (L.2.1.2.come zo' hn20.1 h5) wc (by omega)) (by omega) (by omega)
  refine vL_law_319 ?_
  rw [w.n]
  refine ⟨by omega, fun q => vL_law_335 ⟨fun sg => (no 0 (.inl rfl) q).mono ?_, fun sg => (no 1 (.inr rfl) q).mono ?_⟩, fun q => vL_law_335 ⟨fun sg => (yes 0 (.inl rfl) q).mono ?_, fun sg => (yes 1 (.inr rfl) q).mono ?_⟩⟩
  · rintro x M1 ⟨hx, k⟩
    rw [hx]
    refine ⟨by decide, fun _ => ⟨by decide, fun z => absurd rfl z, fun _ => k.mono ?_⟩, fun z => absurd rfl z⟩
    rintro x M2 ⟨hx, k2⟩
    rw [hx]
    exact ⟨by decide, fun z => absurd rfl z, fun _ => k2⟩
  · rintro x M1 ⟨hx, k⟩
    rw [hx]
    refine ⟨by decide, fun _ => ⟨by decide, fun z => absurd rfl z, fun _ => k.mono ?_⟩, fun z => absurd rfl z⟩
    rintro x M2 ⟨hx, k2⟩
    rw [hx]
    exact ⟨by decide, fun z => absurd rfl z, fun _ => k2⟩
  · rintro x M1 ⟨hx, en, k⟩
    rw [hx, en]
    refine ⟨by decide, fun z => absurd z (by decide), fun _ => ⟨by omega, by omega, fun z => absurd rfl z, fun _ => k.mono ?_⟩⟩
    rintro x M2 ⟨hx, L, C2⟩
    rw [hx]
    exact ⟨by decide, fun z => absurd rfl z, fun _ => vL_law_396 ⟨by decide, fun z => absurd z (by decide), fun _ => ⟨fun _ => comes 0 M2 (.inl rfl) q L C2, fun z => absurd z sg⟩⟩⟩
  · rintro x M1 ⟨hx, en, k⟩
    rw [hx, en]
    refine ⟨by decide, fun z => absurd z (by decide), fun _ => ⟨by omega, by omega, fun z => absurd rfl z, fun _ => k.mono ?_⟩⟩
    rintro x M2 ⟨hx, L, C2⟩
    rw [hx]
    exact ⟨by decide, fun z => absurd rfl z, fun _ => vL_law_396 ⟨by decide, fun z => absurd z (by decide), fun _ => ⟨fun z => absurd sg z, fun _ => comes 1 M2 (.inr rfl) q L C2⟩⟩⟩
end
