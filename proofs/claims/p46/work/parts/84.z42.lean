/-! ===== the law's loop: a unit more ===== -/
theorem sAdd_e {S : zS} {t v : Int} {f : Int → Int} (z : zo S) (h0 : 0 ≤ qun S t) (hf : ∀ u, 0 ≤ u ∧ u < qun S t → f u = qsy S t u) (hv : f (qun S t) = v) : sPu S t (qun S t + 1) f = sAdd S t v := by
  unfold sPu sAdd
  refine Prod.ext rfl (Prod.ext rfl (Prod.ext rfl (Prod.ext rfl (Prod.ext ?_ rfl))))
  funext t' u
  show (if t' = t then (if 0 ≤ u ∧ u < qun S t + 1 then f u else 0) else qsy S t' u) = if t' = t ∧ u = qun S t then v else qsy S t' u
  by_cases c : t' = t
  · rw [if_pos c]
    by_cases d : u = qun S t
    · rw [if_pos (by omega), if_pos ⟨c, d⟩, d, hv]
    · rw [if_neg (show ¬ (t' = t ∧ u = qun S t) from fun q => d q.2), c]
      by_cases e : 0 ≤ u ∧ u < qun S t
      · rw [if_pos (by omega), hf u e]
      · rw [if_neg (by omega)]
        exact (z.2.2 t u (fun q => e q.2.2)).symm
  · rw [if_neg c, if_neg (fun q => c q.1)]
section
variable {l : Launch} {P : lwG} {M : zM} {A : zY} {h r : Nat} {v3 i kk v6 t vv : Int} {c n : Nat}
theorem law_553 {C N : Nat} (nx : goOn l P i C N) (hC : C ≤ 400000 ∧ N ≤ 4000000) (hi : 0 ≤ i ∧ i < 26) (L : lwL M A h r v3 i kk) (C2 : cSt M (yPut A (sAdd (yS A) t vv))) (wc : wfY kk (yPut A (sAdd (yS A) t vv))) (hT : 0 ≤ t ∧ t < qn (yS A)) (h3 : qun (yS A) t < 4) (hv : 0 ≤ vv ∧ vv < 60) (hc : c + 9 ≤ C) (hn : n + 1620 ≤ N) :
    LL_law_553 l P c n h v3 1 i v6 r t (qun (yS A) t) vv 1 1 M := by
  have w := L.2.1.1
  have zo' := w.zo
  have h4 := w.un4 hT
  have hn20 := w.n20
  refine vL_law_553 ⟨by decide, fun _ => ⟨by omega, by omega, fun y hy M2 e2 => ?_⟩, fun z => absurd z (by decide)⟩
  have G2 : Gr [75] M M2 := by rw [e2]; exact Gr.mk (by decide) (by decide) hy
  obtain ⟨w2, eU2, eR2⟩ := G2.hl w
  refine ⟨w2.r11.1, fun U qU_ => ?_⟩
  obtain rfl := w2.r11.2 U qU_
  refine ⟨w2.t21 hT, (w2.rr hT).1, fun x qx => ?_⟩
  obtain rfl := (w2.rr hT).2 x qx
  have l2 : M2 75 y (-1) = qun (yS A) t + 1 := by rw [e2]; exact zmk_l (by decide)
  have z1 : zln M2 75 (lR M2 h t) = (qun (yS A) t).toNat := by rw [zln_d rfl, w2.un hT]
  have z2 : zln M2 75 y = (qun (yS A) t + 1).toNat := by rw [zln_d rfl, l2]
  have c2 : M2 97 0 75 = (y : Int) + 1 := by rw [e2]; exact zmk_c
  rw [z1, z2]
  refine ⟨by omega, by omega, by omega, fun M3 e3 => ?_⟩
  have o3 : ∀ k i, ¬ (k = 75 ∧ i = y) → M3 k i = M2 k i := fun k i z => by rw [e3]; exact zcq_o k i z
  have l3 : M3 75 y (-1) = qun (yS A) t + 1 := by
    rw [e3]
    exact (if_neg (by omega)).trans l2
  have G3 : Gr [75] M M3 := G2.st (k := 75) (i := y) (by decide) (Int.le_of_eq hy.symm) o3
  rw [l3]
  refine ⟨by omega, fun M4 e4 => ?_⟩
  have G4 : Gr [75] M M4 := by rw [e4]; exact G3.zu (by decide) (Int.le_of_eq hy.symm)
  obtain ⟨w4, eU4, eR4⟩ := G4.hl w
  have l4 : M4 75 y (-1) = qun (yS A) t + 1 := by rw [e4, zu_w, if_neg (by omega)]; exact l3
  have c4 : M4 97 0 75 = (y : Int) + 1 := by rw [e4, zu_o _ _ (nk (by decide)), o3 97 0 (nk (by decide))]; exact c2
  have f4 : ∀ u, 0 ≤ u ∧ u < qun (yS A) t → M4 75 y u = qsy (yS A) t u := fun u hu => by
    rw [e4, zu_w, if_neg (by omega), e3]
    refine (if_pos ⟨rfl, rfl, hu.1, by omega⟩).trans ?_
    rw [show (0 : Int) + (u - 0) = u by omega]
    exact w2.sy hT hu
  have g4 : M4 75 y (qun (yS A) t) = vv := by rw [e4, zu_w, if_pos rfl]
  refine ⟨w4.r11.1, fun U qU2 M5 e5 => ?_⟩
  obtain rfl := w4.r11.2 U qU2
  have p := w4.put (M' := M5) hT (r := y) (by omega) (by omega) e5
  rw [l4, sAdd_e zo' h4.1 f4 g4] at p
  have X4 : Hx M M4 h := G4.hx w.1.1.1
  have X5 : Hx M M5 h := X4.zu e5 (.inr (.inr ⟨rfl, X4.u⟩))
  have o5 : ∀ k i, k ≠ 74 → M5 k i = M4 k i := fun k i z => by rw [e5]; exact zu_o k i (fun q => z q.1)
  have g : gH (sAdd (yS A) t vv) (i + 1) := by
    rw [← sAdd_e zo' h4.1 f4 g4]
    refine L.2.1.2.pu hn20.1 hT (by omega) (fun u hu => ?_)
    by_cases e : u = qun (yS A) t
    · rw [e, g4]; omega
    · rw [f4 u (by omega)]
      exact L.2.1.2.2.2.1 t u hT (by omega)
  exact law_1191 nx hC hi (L.put (C2.lw fun k i hk => X5.1 k i (by omega) (by omega)) X5 ((L.2.2.1.gr G4 (by decide)).of (o5 97 0 (by decide))) p.1 g wc (by have := L.1; omega)) (by omega) (by omega)
end
