/-! ===== the law's loop: somebody leaves ===== -/
theorem zsum_upf {f : Int → Int} {t x : Int} (ht : 0 ≤ t) : ∀ n : Nat, zsum (upf f t x) (n : Int) = zsum f (n : Int) + (if t < (n : Int) then x - f t else 0)
  | 0 => by
    rw [show ((0 : Nat) : Int) = 0 from rfl, zsum_0, zsum_0, if_neg (by omega)]
    rfl
  | n + 1 => by
    rw [show ((n + 1 : Nat) : Int) = (n : Int) + 1 by omega, zsum_s (by omega), zsum_s (by omega), zsum_upf ht n]
    have e : upf f t x (n : Int) = if (n : Int) = t then x else f n := rfl
    rw [e]
    by_cases c : (n : Int) = t
    · rw [if_pos c, if_neg (by omega), if_pos (by omega), c]; omega
    · rw [if_neg c]
      by_cases d : t < (n : Int)
      · rw [if_pos d, if_pos (by omega)]; omega
      · rw [if_neg d, if_neg (by omega)]; omega
/-- a trader's units put anew: the hall stays small -/
theorem gH.pu {S : zS} {i t N : Int} {f : Int → Int} (h : gH S i) (hn : 0 ≤ qn S) (ht : 0 ≤ t ∧ t < qn S) (hN : N ≤ qun S t + 3) (hv : ∀ u, 0 ≤ u ∧ u < N → 0 ≤ f u ∧ f u < 100) : gH (sPu S t N f) (i + 1) := by
  obtain ⟨h1, h2, h3, h4⟩ := h
  refine ⟨h1, h2, fun t' u ht' hu => ?_, ?_⟩
  · have hu' : 0 ≤ u ∧ u < (if t' = t then N else qun S t') := hu
    show 0 ≤ (if t' = t then (if 0 ≤ u ∧ u < N then f u else 0) else qsy S t' u) ∧ (if t' = t then (if 0 ≤ u ∧ u < N then f u else 0) else qsy S t' u) < 100
    by_cases c : t' = t
    · rw [if_pos c] at hu' ⊢
      rw [if_pos hu']
      exact hv u hu'
    · rw [if_neg c] at hu' ⊢
      exact h3 t' u ht' hu'
  · unfold pot at h4 ⊢
    obtain ⟨n, en⟩ := Int.eq_ofNat_of_zero_le hn
    have e1 : qn (sPu S t N f) = qn S := rfl
    have e2 : qun (sPu S t N f) = upf (qun S) t N := rfl
    rw [e1, e2, en, zsum_upf ht.1, if_pos (by omega)]
    rw [en] at h4
    omega
theorem sDrop_e {S : zS} {t : Int} {f : Int → Int} : sPu S t 0 f = sDrop S t (qun S t) := by
  unfold sPu sDrop
  refine Prod.ext rfl (Prod.ext rfl (Prod.ext rfl (Prod.ext ?_ (Prod.ext ?_ rfl))))
  · show upf (qun S) t 0 = upf (qun S) t (qun S t - qun S t)
    rw [Int.sub_self]
  · funext t' u
    show (if t' = t then (if 0 ≤ u ∧ u < 0 then f u else 0) else qsy S t' u) = if t' = t then (if 0 ≤ u ∧ u + qun S t < qun S t then qsy S t (u + qun S t) else 0) else qsy S t' u
    by_cases c : t' = t
    · rw [if_pos c, if_pos c, if_neg (by omega), if_neg (by omega)]
    · rw [if_neg c, if_neg c]
section
variable {l : Launch} {P : lwG} {M : zM} {A : zY} {h r : Nat} {v3 i kk v6 t is nn vv : Int} {c n : Nat}
theorem tqS.un {S : zS} (T : tqS S t is nn vv) (z : zo S) : nn = qun S t := by
  rcases T.2.2 with ⟨_, _, q⟩ | ⟨_, q, q2⟩
  · exact q
  · rw [q2, (z.2.1 t (by omega)).2.2.1]
theorem law_859 {C N : Nat} (nx : goOn l P i C N) (hC : C ≤ 400000 ∧ N ≤ 4000000) (hi : 0 ≤ i ∧ i < 26) (B : lwB M A h r v3 i kk) (T : tqS (yS A) t is nn vv) (hc : c + 9 ≤ C) (hn : n + 1616 ≤ N) : LL_law_859 l P c n h v3 i v6 r t nn M := by
  have w := B.1.2.1.1
  have wf := B.1.1.2.1
  have zo' := w.zo
  have en := T.un zo'
  have hnn : 0 ≤ nn ∧ nn ≤ 4 := by
    rcases T.2.2 with ⟨_, q, q2⟩ | ⟨_, _, q⟩
    · rw [q2]; exact w.un4 ⟨T.1.1, q⟩
    · omega
  have ht := T.1
  refine vL_law_859 ⟨by omega, fun q => vL_law_871 ((a8_leave B.1.1.1 wf (by omega)).mono ?_), fun q => vL_law_871 ((a8_leave B.1.1.1 wf (by omega)).mono ?_)⟩
  · rintro x M1 ⟨hx, C1, f1⟩
    have e : aLeave A t = (-1, A) := if_pos (by omega)
    rw [e] at hx C1
    have hx : x = -1 := hx
    rw [hx]
    refine ⟨by decide, fun _ => ⟨by decide, fun z => absurd rfl z, fun _ => vL_law_898 ⟨by decide, fun _ => ?_, fun z => absurd rfl z⟩⟩, fun z => absurd rfl z⟩
    have L := B.l f1
    exact law_1191 nx hC hi (L.no C1 Hx.rf L.2.2.1 L.2.1.1) (by omega) (by omega)
  · rintro x M1 ⟨hx, C1, f1⟩
    have e : aLeave A t = (qun (yS A) t, yPut A (sDrop (yS A) t (qun (yS A) t))) := if_neg (by omega)
    have wl := w_leave (t := t) wf zo'
    rw [e] at hx C1 wl
    have hx : x = qun (yS A) t := hx
    have L := B.l f1
    have w1 := L.2.1.1
    have hT : 0 ≤ t ∧ t < qn (yS A) := by
      rcases T.2.2 with ⟨_, q', _⟩ | ⟨_, _, q'⟩
      · omega
      · omega
    rw [hx, ← en]
    refine ⟨by decide, fun z => absurd z (by decide), fun _ => ⟨by omega, by omega, fun z => absurd rfl z, fun _ => vL_law_898 ⟨by decide, fun z => absurd z (by decide), fun _ => ⟨w1.r11.1, fun U qU_ => ?_⟩⟩⟩⟩
    obtain rfl := w1.r11.2 U qU_
    refine ⟨by omega, fun y hy M2 e2 => ⟨w1.t21 hT, fun M3 e3 => ?_⟩⟩
    have G : Gr [75] M1 M2 := by rw [e2]; exact Gr.mk (by decide) (by decide) hy
    obtain ⟨w2, eU, -⟩ := G.hl w1
    have c2 : M2 97 0 75 = (y : Int) + 1 := by rw [e2]; exact zmk_c
    have l2 : M2 75 y (-1) = 0 := by rw [e2]; exact zmk_l (by decide)
    have p := w2.put (M' := M3) hT (r := y) (by omega) (by omega) (by rw [eU]; exact e3)
    rw [l2, sDrop_e] at p
    have X2 : Hx M1 M2 h := G.hx w1.1.1.1
    have X3 : Hx M1 M3 h := X2.zu e3 (.inr (.inr ⟨rfl, rfl⟩))
    have o3 : ∀ k i, k ≠ 74 → M3 k i = M2 k i := fun k i z => by rw [e3]; exact zu_o k i (fun q => z q.1)
    have g : gH (sDrop (yS A) t (qun (yS A) t)) (i + 1) := by
      rw [← sDrop_e (f := fun _ => 0)]
      exact L.2.1.2.pu wf.1.1.1 hT (by omega) (fun u hu => absurd hu (by omega))
    exact law_1191 nx hC hi (L.put (C1.lw fun k i hk => X3.1 k i (by omega) (by omega)) X3 ((L.2.2.1.gr G (by decide)).of (o3 97 0 (by decide))) p.1 g wl (by have := L.1; omega)) (by omega) (by omega)
end
