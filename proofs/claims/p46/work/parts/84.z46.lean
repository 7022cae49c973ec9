/-! ===== the law's loop: said otherwise ===== -/
theorem zu_c {M : zM} {k i k' i' : Nat} {j j' x x' : Int} (h : k ≠ k') : zu (zu M k i j x) k' i' j' x' = zu (zu M k' i' j' x') k i j x := by
  funext a b d
  unfold zu
  by_cases c : a = k ∧ b = i ∧ d = j
  · rw [if_pos c, if_pos c, if_neg (fun q => h (c.1.symm.trans q.1))]
  · rw [if_neg c, if_neg c]
theorem sSay_e {S : zS} {t u v : Int} {f : Int → Int} (z : zo S) (hf : ∀ x, 0 ≤ x ∧ x < qun S t → f x = if x = u then v else qsy S t x) (hu : 0 ≤ u ∧ u < qun S t) : sPu S t (qun S t) f = sSay S t u v := by
  unfold sPu sSay
  refine Prod.ext rfl (Prod.ext rfl (Prod.ext rfl (Prod.ext ?_ (Prod.ext ?_ rfl))))
  · funext t'
    show (if t' = t then qun S t else qun S t') = qun S t'
    by_cases c : t' = t
    · rw [if_pos c, c]
    · rw [if_neg c]
  · funext t' x
    show (if t' = t then (if 0 ≤ x ∧ x < qun S t then f x else 0) else qsy S t' x) = if t' = t ∧ x = u then v else qsy S t' x
    by_cases c : t' = t
    · rw [if_pos c]
      by_cases d : 0 ≤ x ∧ x < qun S t
      · rw [if_pos d, hf x d]
        by_cases e : x = u
        · rw [if_pos e, if_pos ⟨c, e⟩]
        · rw [if_neg e, if_neg (fun q => e q.2), c]
      · rw [if_neg d, if_neg (fun q => d (by rw [q.2]; exact hu)), c]
        exact (z.2.2 t x (fun q => d q.2.2)).symm
    · rw [if_neg c, if_neg (fun q => c q.1)]
abbrev gP (s a v : Int) : Prop := (s = 1 → a ≤ v) ∧ (¬ s = 1 → v ≤ a)
section
variable {l : Launch} {P : lwG} {M : zM} {A : zY} {h r : Nat} {v3 i kk v6 t u is nn vv : Int} {c n : Nat}
theorem c_goes {s a v : Int} (hs : s = 0 ∨ s = 1) (ha : zI a) (hv : zI v) : CI l m_L_goesOn [zi s, zi a, zi v] M (fun x M' => ((x = 0 ∧ ¬ gP s a v) ∨ (x = 1 ∧ gP s a v)) ∧ M' = M) := by
  refine (c_goesOn hs ha hv).mono ?_
  rintro x M' ⟨hx, eM⟩
  refine ⟨?_, eM⟩
  rw [hx]
  by_cases q : s = 0
  · rw [if_pos q]
    by_cases d : v ≤ a
    · rw [zb_1 d]; exact .inr ⟨rfl, fun z => by omega, fun _ => d⟩
    · rw [zb_f d]; exact .inl ⟨rfl, fun z => d (z.2 (by omega))⟩
  · rw [if_neg q]
    by_cases d : a ≤ v
    · rw [zb_1 d]; exact .inr ⟨rfl, fun _ => d, fun z => by omega⟩
    · rw [zb_f d]; exact .inl ⟨rfl, fun z => d (z.1 (by omega))⟩
theorem law_816 {C N : Nat} (nx : goOn l P i C N) (hC : C ≤ 400000 ∧ N ≤ 4000000) (hi : 0 ≤ i ∧ i < 26) (L : lwL M A h r v3 i kk) (C2 : cSt M (yPut A (sSay (yS A) t u vv))) (wc : wfY kk (yPut A (sSay (yS A) t u vv))) (hT : 0 ≤ t ∧ t < qn (yS A)) (hu : 0 ≤ u ∧ u < qun (yS A) t) (hv : 0 ≤ vv ∧ vv < 60) (hc : c + 9 ≤ C) (hn : n + 1620 ≤ N) :
    LL_law_816 l P c n h v3 1 i v6 r t vv 1 u M := by
  have w := L.2.1.1
  have zo' := w.zo
  have h4 := w.un4 hT
  have hn20 := w.n20
  refine vL_law_816 ⟨by decide, fun _ => ⟨w.r11.1, fun U qU_ => ?_⟩, fun z => absurd z (by decide)⟩
  obtain rfl := w.r11.2 U qU_
  refine ⟨w.t21 hT, (w.rr hT).1, fun x qx => ?_⟩
  obtain rfl := (w.rr hT).2 x qx
  rw [w.un hT]
  refine ⟨by omega, fun y hy M2 e2 M3 e3 => ?_⟩
  have G2 : Gr [75] M M2 := by rw [e2]; exact Gr.mg (by decide) (by decide) hy
  obtain ⟨w2, eU2, eR2⟩ := G2.hl w
  have l2 : M2 75 y (-1) = qun (yS A) t := by rw [e2, zcl_s (by decide)]; exact w.un hT
  have c2 : M2 97 0 75 = (y : Int) + 1 := by rw [e2]; exact zcl_c
  have f2 : ∀ j, 0 ≤ j ∧ j < qun (yS A) t → M2 75 y j = qsy (yS A) t j := fun j hj => by rw [e2, zcl_s (by decide)]; exact w.sy hT hj
  have e3' : M3 = zu M2 74 (lU M2 h) t (y : Int) := by rw [eU2]; exact e3
  have p3 := w2.put (M' := M3) hT (r := y) (by omega) (by omega) e3'
  have w3 := p3.1
  have eU3 : lU M3 h = lU M2 h := by unfold lU; rw [p3.2]
  have n3 : M3 97 0 = M2 97 0 := by rw [e3]; exact zu_o 97 0 (nk (by decide))
  refine ⟨w3.r11.1, fun U2 qU2 => ?_⟩
  obtain rfl := w3.r11.2 U2 qU2
  have v3' : M3 74 (lU M3 h) t = (y : Int) := by rw [eU3, e3', zu_w, if_pos rfl]
  rw [v3', n3]
  refine ⟨by omega, fun y2 hy2 => ?_⟩
  obtain rfl : y2 = y := by omega
  have l3 : M3 75 y2 (-1) = qun (yS A) t := by rw [e3, zu_o _ _ (nk (by decide))]; exact l2
  rw [l3]
  refine ⟨by omega, fun M5 e5 => ?_⟩
  have o4 : ∀ k i, ¬ (k = 75 ∧ i = y2) → zu M2 75 y2 u vv k i = M2 k i := zu_o
  generalize e4 : zu M2 75 y2 u vv = M4 at o4
  have e5' : M5 = zu M4 74 (lU M4 h) t (y2 : Int) := by
    have : lU M4 h = lU M2 h := by unfold lU; rw [o4 64 h (nk (by decide))]
    rw [e5, e3', zu_c (by decide), this, e4]
  have G4 : Gr [75] M M4 := G2.st (k := 75) (i := y2) (by decide) (Int.le_of_eq hy.symm) o4
  obtain ⟨w4, eU4, eR4⟩ := G4.hl w
  have l4 : M4 75 y2 (-1) = qun (yS A) t := by rw [← e4, zu_w, if_neg (by omega)]; exact l2
  have c4 : M4 97 0 75 = (y2 : Int) + 1 := by rw [o4 97 0 (nk (by decide))]; exact c2
  have f4 : ∀ j, 0 ≤ j ∧ j < qun (yS A) t → M4 75 y2 j = if j = u then vv else qsy (yS A) t j := fun j hj => by
    rw [← e4, zu_w, f2 j hj]
  have p := w4.put (M' := M5) hT (r := y2) (by omega) (by omega) e5'
  rw [l4, sSay_e zo' f4 hu] at p
  have X4 : Hx M M4 h := G4.hx w.1.1.1
  have X5 : Hx M M5 h := X4.zu e5' (.inr (.inr ⟨rfl, X4.u⟩))
  have o5 : ∀ k i, k ≠ 74 → M5 k i = M4 k i := fun k i z => by rw [e5']; exact zu_o k i (fun q => z q.1)
  have g : gH (sSay (yS A) t u vv) (i + 1) := by
    rw [← sSay_e zo' f4 hu]
    refine L.2.1.2.pu hn20.1 hT (by omega) (fun j hj => ?_)
    rw [f4 j hj]
    by_cases e : j = u
    · rw [if_pos e]; omega
    · rw [if_neg e]
      exact L.2.1.2.2.2.1 t j hT hj
  exact law_1191 nx hC hi (L.put (C2.lw fun k i hk => X5.1 k i (by omega) (by omega)) X5 ((L.2.2.1.gr G4 (by decide)).of (o5 97 0 (by decide))) p.1 g wc (by have := L.1; omega)) (by omega) (by omega)
theorem say_bad (B : zY) (t u : Int) : aSay B t u (-1) = (-1, B) := by
  unfold aSay
  by_cases c : ¬ qU (yS B) t u
  · rw [if_pos c]
  · rw [if_neg c, if_pos (by decide)]
theorem law_744n {a b : Int} {C N : Nat} (nx : goOn l P i C N) (hC : C ≤ 400000 ∧ N ≤ 4000000) (hi : 0 ≤ i ∧ i < 26) (B : lwB M A h r v3 i kk) (ht : 0 ≤ t ∧ t ≤ 20) (hu : 0 ≤ u ∧ u < 4) (hv : 0 ≤ vv ∧ vv < 60) (ha : a = 0 ∨ a = 1) (hb : b = 0 ∨ b = 1) (hx0 : aSay A t u vv = ((if a = 0 then -1 else if b = 0 then -3 else -2 : Int), A)) (hc : c + 9 ≤ C) (hn : n + 1620 ≤ N) : LL_law_744 l P c n h v3 i v6 r t vv 0 u a b M := by
  have wf := B.1.1.2.1
  refine vL_law_744 ((a8_say B.1.1.1 wf (by omega) (by omega) (by omega)).mono ?_)
  rintro x M1 ⟨hx, C1, f1⟩
  rw [hx0] at hx C1
  have hx : x = (if a = 0 then -1 else if b = 0 then -3 else -2 : Int) := hx
  have bad : CI l m_X8_say [zr 8 0, zi t, zi u, zi (-1)] M1 (fun y M2 => zI y ∧ ((y ≠ (-1) → LL_law_813 l P c n h v3 i v6 r t vv 0 u M2) ∧ (y = (-1) → LL_law_816 l P c n h v3 1 i v6 r t vv 0 u M2))) := by
    refine (a8_say C1 wf (by omega) (by omega) (by decide)).mono ?_
    rintro y M2 ⟨hy, C2, f2⟩
    rw [say_bad] at hy C2
    have hy : y = -1 := hy
    rw [hy]
    refine ⟨by decide, fun z => absurd rfl z, fun _ => vL_law_816 ⟨by decide, fun z => absurd rfl z, fun _ => ?_⟩⟩
    have L := B.l (N := M2) (fun k i hk => (f2 k i hk).trans (f1 k i hk))
    exact law_1191 nx hC hi (L.no C2 Hx.rf L.2.2.1 L.2.1.1) (by omega) (by omega)
  refine ⟨by omega, fun a0 => ⟨by omega, fun b0 => ⟨by decide, fun _ => ?_, fun z => absurd rfl z⟩, fun b0 => ?_⟩, fun a0 => ?_⟩
  · rw [if_neg a0, if_pos b0] at hx
    rw [hx]
    exact ⟨by decide, fun z => absurd rfl z, fun _ => bad⟩
  · rw [if_neg a0, if_neg b0] at hx
    rw [hx]
    exact ⟨by decide, fun z => absurd rfl z, fun _ => bad⟩
  · rw [if_pos a0] at hx
    rw [hx]
    exact ⟨by decide, fun z => absurd rfl z, fun _ => bad⟩
theorem law_744y {C N : Nat} (nx : goOn l P i C N) (hC : C ≤ 400000 ∧ N ≤ 4000000) (hi : 0 ≤ i ∧ i < 26) (B : lwB M A h r v3 i kk) (hT : 0 ≤ t ∧ t < qn (yS A)) (hu : 0 ≤ u ∧ u < qun (yS A) t) (hv : 0 ≤ vv ∧ vv < 60) (ne : qsy (yS A) t u ≠ vv) (fit : fitP (yS A) t u vv) (hc : c + 9 ≤ C) (hn : n + 1620 ≤ N) : LL_law_744 l P c n h v3 i v6 r t vv 1 u 1 0 M := by
  have wf := B.1.1.2.1
  have hn20 := B.1.2.1.1.n20
  have h4 := B.1.2.1.1.un4 hT
  have hs := B.1.2.1.2.2.2.1 t u hT hu
  have e : aSay A t u vv = (qsy (yS A) t u, yPut A (sSay (yS A) t u vv)) := by
    unfold aSay
    rw [if_neg (fun z => z ⟨hT.1, hT.2, hu⟩), if_neg (by omega), if_neg ne, if_neg (fun z => z fit)]
  have wa := w_say (t := t) (u := u) (v := vv) wf
  refine vL_law_744 ((a8_say B.1.1.1 wf (by omega) (by omega) (by omega)).mono ?_)
  rintro x M1 ⟨hx, C1, f1⟩
  rw [e] at hx C1 wa
  have hx : x = qsy (yS A) t u := hx
  have w1 := (B.l f1).2.1.1
  refine ⟨by decide, fun _ => ⟨by decide, fun _ => ⟨by decide, fun z => absurd z (by decide), fun _ => ⟨w1.r11.1, fun U qU_ => ?_⟩⟩, fun z => absurd rfl z⟩, fun z => absurd z (by decide)⟩
  obtain rfl := w1.r11.2 U qU_
  refine ⟨w1.t21 hT, (w1.rr hT).1, fun y qy => ?_⟩
  obtain rfl := (w1.rr hT).2 y qy
  rw [w1.un hT, w1.sy hT hu, hx]
  refine ⟨by omega, by omega, by omega, fun z => absurd rfl z, fun _ => (a8_say C1 wa (by omega) (by omega) (by decide)).mono ?_⟩
  rintro y M2 ⟨hy, C2, f2⟩
  rw [say_bad] at hy C2
  have hy : y = -1 := hy
  rw [hy]
  exact ⟨by decide, fun z => absurd rfl z, fun _ => law_816 nx hC hi (B.l (N := M2) (fun k i hk => (f2 k i hk).trans (f1 k i hk))) C2 wa hT hu hv hc hn⟩
theorem law_659 {C N : Nat} (nx : goOn l P i C N) (hC : C ≤ 400000 ∧ N ≤ 4000000) (hi : 0 ≤ i ∧ i < 26) (B : lwB M A h r v3 i kk) (hT : 0 ≤ t ∧ t < qn (yS A)) (hu : 0 ≤ u ∧ u < qun (yS A) t) (hu4 : u < 4) (hv : 0 ≤ vv ∧ vv < 60) (ne : qsy (yS A) t u ≠ vv) (hc : c + 9 ≤ C) (hn : n + 1620 ≤ N) : LL_law_659 l P c n h v3 i v6 r t (qun (yS A) t) vv u 1 0 M := by
  have w := B.1.2.1.1
  have hn20 := w.n20
  have h4 := w.un4 hT
  have h01 := w.s01 hT
  have sy : ∀ j, 0 ≤ j ∧ j < qun (yS A) t → 0 ≤ qsy (yS A) t j ∧ qsy (yS A) t j < 100 := fun j hj => B.1.2.1.2.2.2.1 t j hT hj
  have yes : fitP (yS A) t u vv → LL_law_744 l P c n h v3 i v6 r t vv 1 u 1 0 M := fun f => law_744y nx hC hi B hT hu hv ne f hc hn
  have no : ¬ fitP (yS A) t u vv → LL_law_741 l P c n h v3 i v6 r t vv u 1 0 M := fun f => vL_law_741 (law_744n nx hC hi B (by omega) (by omega) hv (.inr rfl) (.inl rfl) (by
    unfold aSay
    rw [if_neg (fun z => z ⟨hT.1, hT.2, hu⟩), if_neg (by omega), if_neg ne, if_pos f, if_neg (by decide), if_pos rfl]) hc hn)
  have q1 : qU (yS A) t (u - 1) ↔ u ≠ 0 := ⟨fun q => by have := q.2.2.1; omega, fun q => ⟨hT.1, hT.2, by omega, by omega⟩⟩
  have q2 : qU (yS A) t (u + 1) ↔ u + 1 ≠ qun (yS A) t := ⟨fun q => by have := q.2.2.2; omega, fun q => ⟨hT.1, hT.2, by omega, by omega⟩⟩
  have gn : (u ≠ 0 → gP (qsl (yS A) t) (qsy (yS A) t (u - 1)) vv) → u + 1 ≠ qun (yS A) t → CI l m_L_goesOn [zi (qsl (yS A) t), zi vv, zi (qsy (yS A) t (u + 1))] M (fun x M' => (zI x ∧ ((x = 0 → LL_law_741 l P c n h v3 i v6 r t vv u 1 0 M') ∧ (x ≠ 0 → LL_law_744 l P c n h v3 i v6 r t vv 1 u 1 0 M')))) := by
    intro p1 p2
    have := sy (u + 1) (by omega)
    refine (c_goes h01 (by omega) (by omega)).mono ?_
    rintro x M' ⟨hx, eM⟩
    rw [eM]
    rcases hx with ⟨hx, k⟩ | ⟨hx, k⟩
    · rw [hx]
      exact ⟨by decide, fun _ => no fun f => k (f.2 (q2.mpr p2)), fun z => absurd rfl z⟩
    · rw [hx]
      exact ⟨by decide, fun z => absurd z (by decide), fun _ => yes ⟨fun q => p1 (q1.mp q), fun _ => k⟩⟩
  refine vL_law_659 ⟨by decide, fun z => absurd z (by decide), fun _ => ⟨by decide, fun z => absurd rfl z, fun _ => ⟨by omega, fun u0 => ⟨by omega, by omega, fun ue => ?_, fun ue => ?_⟩, fun u0 => ⟨w.r7.1, fun x7 q7 => ?_⟩⟩⟩⟩
  · exact yes ⟨fun q => absurd u0 (q1.mp q), fun q => absurd ue (q2.mp q)⟩
  · refine ⟨w.r7.1, fun x7 q7 => ?_⟩
    obtain rfl := w.r7.2 x7 q7
    refine ⟨w.t21 hT, w.r11.1, fun U qU_ => ?_⟩
    obtain rfl := w.r11.2 U qU_
    refine ⟨(w.rr hT).1, fun x qx => ?_⟩
    obtain rfl := (w.rr hT).2 x qx
    rw [w.un hT, w.sl hT, w.sy hT (u := u + 1) (by omega)]
    exact ⟨by omega, gn (fun z => absurd u0 z) ue⟩
  · obtain rfl := w.r7.2 x7 q7
    refine ⟨w.t21 hT, w.r11.1, fun U qU_ => ?_⟩
    obtain rfl := w.r11.2 U qU_
    refine ⟨(w.rr hT).1, fun x qx => ?_⟩
    obtain rfl := (w.rr hT).2 x qx
    rw [w.un hT, w.sl hT, w.sy hT (u := u - 1) (by omega)]
    have := sy (u - 1) (by omega)
    refine ⟨by omega, (c_goes h01 (by omega) (by omega)).mono ?_⟩
    rintro x M' ⟨hx, eM⟩
    rw [eM]
    rcases hx with ⟨hx, k⟩ | ⟨hx, k⟩
    · rw [hx]
      exact ⟨by decide, fun _ => no fun f => k (f.1 (q1.mpr u0)), fun z => absurd rfl z⟩
    · rw [hx]
      refine ⟨by decide, fun z => absurd z (by decide), fun _ => ⟨by omega, by omega, fun ue => yes ⟨fun _ => k, fun q => absurd ue (q2.mp q)⟩, fun ue => ⟨w.r7.1, fun x7 q7 => ?_⟩⟩⟩
      obtain rfl := w.r7.2 x7 q7
      refine ⟨w.r11.1, fun U qU_ => ?_⟩
      obtain rfl := w.r11.2 U qU_
      refine ⟨(w.rr hT).1, fun x qx => ?_⟩
      obtain rfl := (w.rr hT).2 x qx
      rw [w.un hT, w.sl hT, w.sy hT (u := u + 1) (by omega)]
      exact ⟨by omega, gn (fun _ => k) ue⟩
theorem law_632n {C N : Nat} (nx : goOn l P i C N) (hC : C ≤ 400000 ∧ N ≤ 4000000) (hi : 0 ≤ i ∧ i < 26) (B : lwB M A h r v3 i kk) (ht : 0 ≤ t ∧ t ≤ 20) (hu : 0 ≤ u ∧ u < 4) (hv : 0 ≤ vv ∧ vv < 60) (q : ¬ qU (yS A) t u) (hc : c + 9 ≤ C) (hn : n + 1620 ≤ N) : LL_law_632 l P c n h v3 i v6 r t nn vv u 0 M := by
  refine vL_law_632 ⟨by decide, fun _ => vL_law_659 ⟨by decide, fun _ => vL_law_741 (law_744n nx hC hi B ht hu hv (.inl rfl) (.inl rfl) ?_ hc hn), fun z => absurd rfl z⟩, fun z => absurd rfl z⟩
  unfold aSay
  rw [if_pos q, if_pos rfl]
theorem law_604 {C N : Nat} (nx : goOn l P i C N) (hC : C ≤ 400000 ∧ N ≤ 4000000) (hi : 0 ≤ i ∧ i < 26) (B : lwB M A h r v3 i kk) (T : tqS (yS A) t is nn vv) (hc : c + 9 ≤ C) (hn : n + 1620 ≤ N) : LL_law_604 l P c n h v3 i v6 r t is nn vv M := by
  have w := B.1.2.1.1
  have hn20 := w.n20
  have hv := T.2.1
  have ht := T.1
  have hu := tmod_b (x := zushr v6 14) (m := 4) (zus_nn (k := 14) (by decide)) (by decide)
  refine vL_law_604 ?_
  generalize eu : Int.tmod (zushr v6 14) 4 = u at hu
  rcases T.2.2 with ⟨e1, hq, e2⟩ | ⟨e1, hq, e2⟩
  · subst e1
    subst e2
    have hT : 0 ≤ t ∧ t < qn (yS A) := ⟨ht.1, hq⟩
    have h4 := w.un4 hT
    refine ⟨by decide, fun z => absurd z (by decide), fun _ => ⟨by omega, by omega, fun q => law_632n nx hC hi B ht (by omega) hv (fun z => by have := z.2.2.2; omega) hc hn, fun q => ?_⟩⟩
    have hU : 0 ≤ u ∧ u < qun (yS A) t := ⟨hu.1, q⟩
    have hs := B.1.2.1.2.2.2.1 t u hT hU
    refine vL_law_632 ⟨by decide, fun z => absurd z (by decide), fun _ => ⟨w.r11.1, fun U qU_ => ?_⟩⟩
    obtain rfl := w.r11.2 U qU_
    refine ⟨w.t21 hT, (w.rr hT).1, fun x qx => ?_⟩
    obtain rfl := (w.rr hT).2 x qx
    rw [w.un hT, w.sy hT hU]
    refine ⟨by omega, by omega, by omega, fun ne => law_659 nx hC hi B hT hU (by omega) hv ne hc hn, fun eq => ?_⟩
    refine vL_law_659 ⟨by decide, fun z => absurd z (by decide), fun _ => ⟨by decide, fun _ => vL_law_741 (law_744n nx hC hi B ht (by omega) hv (.inr rfl) (.inr rfl) ?_ hc hn), fun z => absurd z (by decide)⟩⟩
    unfold aSay
    rw [if_neg (fun z => z ⟨hT.1, hT.2, hU⟩), if_neg (by omega), if_pos eq, if_neg (by decide), if_neg (by decide)]
  · subst e1
    exact ⟨by decide, fun _ => law_632n nx hC hi B ht (by omega) hv (fun z => by have := z.2.1; omega) hc hn, fun z => absurd rfl z⟩
end
