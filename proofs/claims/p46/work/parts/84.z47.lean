/-! ===== the law's loop: a grade closed ===== -/
theorem clS_sc {S : zS} {g : Int} (j : Int) : qsc (clS S g) j = if j = 5 then qsc S 5 + 1 else if j = 4 then qsc S 4 + clD S g else if j = 3 then qsc S 3 + clT S g else if j = 6 then (if qsc S 5 = 0 then clT S g else max (qsc S 6) (clT S g)) else qsc S j := by
  have e : qsc (sTrd S g (qn S).toNat) = qsc S := (sTrd_s (S := S) (g := g) (qn S).toNat).1
  show (if j = 5 then qsc (sTrd S g (qn S).toNat) 5 + 1 else if j = 4 then qsc (sTrd S g (qn S).toNat) 4 + clD S g else if j = 3 then qsc (sTrd S g (qn S).toNat) 3 + clT S g else if j = 6 then (if qsc (sTrd S g (qn S).toNat) 5 = 0 then clT S g else max (qsc (sTrd S g (qn S).toNat) 6) (clT S g)) else qsc (sTrd S g (qn S).toNat) j) = _
  rw [e]
theorem clS_o {S : zS} {g j : Int} (h5 : j ≠ 5) (h4 : j ≠ 4) (h3 : j ≠ 3) (h6 : j ≠ 6) : qsc (clS S g) j = qsc S j := by
  rw [clS_sc, if_neg h5, if_neg h4, if_neg h3, if_neg h6]
theorem clS_pu {S : zS} {g : Int} (ok : okS S) : zsum (qpu (clS S g)) (qn S) = zsum (qpu S) (qn S) - clT S g := by
  have hn := ok.1.1
  obtain ⟨n, en⟩ := Int.eq_ofNat_of_zero_le hn.1
  obtain ⟨-, sv⟩ := sTrd_v (S := S) (g := g) (qn S).toNat
  have e : ∀ t, 0 ≤ t ∧ t < qn S → qpu (clS S g) t = (fun t => qpu S t - tkS S g (qlaw S) t) t := fun t ht => by
    have q := (sv t ht.1 (by omega)).1
    have q' : qpu (clS S g) t = qpu S t + (if qsl S t = 1 then mT S g t else -(mT S g t)) := q
    rw [q']
    show _ = qpu S t - tkS S g (qlaw S) t
    unfold tkS
    by_cases c : qgr S t = g
    · rw [if_pos c]
      unfold mT
      by_cases s : qsl S t = 1
      · rw [if_pos s, if_pos s, zb_1 s]; omega
      · rw [if_neg s, if_neg s, zb_f s]; omega
    · rw [if_neg c, (mT_0 ok c).1]
      split <;> omega
  have k : zsum (tkS S g (qlaw S)) (qn S) = clT S g := tkg_sum ok
  rw [zsum_congr e, ← k, en, zsum_sub]
theorem gH.close {S : zS} {i g : Int} (h : gH S i) (ok : okS S) : gH (clS S g) (i + 1) := by
  obtain ⟨⟨x1, x2, x3⟩, h2, h3, h4⟩ := h
  have hn := ok.1.1
  have hd : 0 ≤ clD S g ∧ _ := dN_b (B := qB S g) (A := qA S g) (f := qfee S) (w := qlaw S)
  have hl : clD S g ≤ ((qB S g).length : Int) ∧ _ := dN_l (B := qB S g) (A := qA S g) (f := qfee S) (w := qlaw S)
  have hB : (qB S g).length ≤ 80 := (gd_m (E := fun t => qgr S t = g) ok.1).1.1
  obtain ⟨-, sv⟩ := sTrd_v (S := S) (g := g) (qn S).toNat
  have cb : ∀ t, 0 ≤ t ∧ t < qn S → 0 ≤ cT S g t ∧ cT S g t ≤ qun S t := fun t ht => cT_b ok ht
  have n0 : qn (clS S g) = qn S := clS_o (by decide) (by decide) (by decide) (by decide)
  have s3 : qsc (clS S g) 3 = qsc S 3 + clT S g := by rw [clS_sc, if_neg (by decide), if_neg (by decide), if_pos rfl]
  have s4 : qsc (clS S g) 4 = qsc S 4 + clD S g := by rw [clS_sc, if_neg (by decide), if_pos rfl]
  have s5 : qsc (clS S g) 5 = qsc S 5 + 1 := by rw [clS_sc, if_pos rfl]
  have un : ∀ t, 0 ≤ t ∧ t < qn S → qun (clS S g) t = qun S t - cT S g t := fun t ht => (sv t ht.1 (by omega)).2.2.1
  refine ⟨⟨?_, ?_, ?_⟩, ?_, ?_, ?_⟩
  · rw [n0, clS_pu ok, s3]; omega
  · rw [s4, s5]; omega
  · rw [n0, s5]
    intro t ht
    have e : qtr (clS S g) t = qtr S t + cT S g t := (sv t ht.1 (by omega)).2.1
    have := cb t ht
    have := x3 t ht
    have := ok.1.2.1 t ht
    rw [e]; omega
  · rw [show qfee (clS S g) = qfee S from clS_o (by decide) (by decide) (by decide) (by decide)]; exact h2
  · rw [n0]
    intro t u ht hu
    have e : qsy (clS S g) t u = if 0 ≤ u ∧ u + cT S g t < qun S t then qsy S t (u + cT S g t) else 0 := (sv t ht.1 (by omega)).2.2.2 u
    have := cb t ht
    rw [un t ht] at hu
    rw [e, if_pos (by omega)]
    exact h3 t (u + cT S g t) ht (by omega)
  · unfold pot at h4 ⊢
    obtain ⟨n, en⟩ := Int.eq_ofNat_of_zero_le hn.1
    have z : zsum (qun (clS S g)) (qn S) = zsum (qun S) (qn S) - zsum (cT S g) (qn S) := by
      rw [zsum_congr (g := fun t => qun S t - cT S g t) (fun t ht => un t ht), en, zsum_sub]
    have p := zsum_bd (f := cT S g) (n := qn S) (c := 0) (d := 4) hn.1 (fun t ht => by have := cb t ht; have := ok.1.2.1 t ht; omega)
    rw [n0, z]
    omega
/-- the class's side of the last memory beside the law's side of the first -/
def nM (M M2 : zM) : zM := fun k i => if k = 9 ∨ 27 ≤ k then M k i else M2 k i
theorem nM_e {M M2 : zM} {k i : Nat} (h : isMd k) : nM M M2 k i = M k i := if_pos h
theorem Hx.nm {M M1 M2 : zM} {h : Nat} (X : Hx M M1 h) (f : ∀ k i, isMd k → M2 k i = M1 k i) : Hx (nM M M2) M2 h := by
  have m97 : isMd 97 := Or.inr (by decide)
  have m64 : isMd 64 := Or.inr (by decide)
  have e97 : nM M M2 97 0 = M 97 0 := nM_e m97
  refine ⟨fun k i h1 h2 => ?_, fun k i h1 h2 h3 h4 => ?_, fun q => by rw [e97, f 97 0 m97]; exact X.2.2.1 q, by rw [nM_e m64, f 64 h m64]; exact X.2.2.2⟩
  · by_cases c : k = 9 ∨ 27 ≤ k
    · rw [nM_e c, f k i c]; exact X.1 k i h1 h2
    · exact (if_neg c).symm
  · have c : isMd k := Or.inr (by omega)
    have e : lU (nM M M2) h = lU M h := by unfold lU; rw [nM_e m64]
    rw [e97] at h2
    rw [e] at h4
    rw [nM_e c, f k i c]
    exact X.2.1 k i h1 h2 h3 h4
section
variable {l : Launch} {P : lwG} {M : zM} {A : zY} {h r : Nat} {v3 i kk v6 : Int} {c n : Nat}
theorem law_1064 {C N : Nat} (nx : goOn l P i C N) (hC : C ≤ 400000 ∧ N ≤ 4000000) (hi : 0 ≤ i ∧ i < 26) (B : lwB M A h r v3 i kk) (hc : c + 7065 + 8 ≤ C) (hn : n + 38933 + 1616 ≤ N) : LL_law_1064 l P c n h v3 i v6 r M := by
  have w := B.1.2.1.1
  have wf := B.1.1.2.1
  have kb := B.1.1.2.2
  have ok := wf.1.ok
  have vg := tmod_b (x := zushr v6 8) (m := 2) (zus_nn (k := 8) (by decide)) (by decide)
  refine vL_law_1064 ⟨by omega, (c_closes wf.1 (by omega) w B.1.2.2.1 (by omega)).mono ?_⟩
  rintro x M1 ⟨⟨X, y⟩, k0, k1⟩
  have C1 : cSt M1 A := B.1.1.1.lw fun k i hk => X.1 k i (by omega) (by omega)
  have L : ∀ M2 : zM, lwL (nM M M2) A h r v3 i kk := fun M2 => B.l (fun k i hk => nM_e hk)
  by_cases hd : clD (yS A) (Int.tmod (zushr v6 8) 2) = 0
  · obtain ⟨hx, w1⟩ := k0 hd
    rw [hx]
    refine ⟨by decide, fun _ => vL_law_1089 ((a8_close C1 wf (by omega) (by omega)).mono ?_), fun z => absurd z (by decide)⟩
    rintro x' M2 ⟨hx', C2, f2⟩
    have e : aClose A (Int.tmod (zushr v6 8) 2) = (-2, A) := by unfold aClose; rw [if_neg (by omega), if_pos hd]
    rw [e] at hx' C2
    have hx' : x' = -2 := hx'
    rw [hx']
    exact ⟨by decide, by decide, fun z => absurd rfl z, fun _ => vL_law_1112 (law_1191 nx hC hi ((L M2).no C2 (X.nm f2) (y.md f2) (w1.ke (Lr.md (K := []) f2).ke)) hc hn)⟩
  · obtain ⟨hx, w1⟩ := k1 hd
    have hb : 0 ≤ clD (yS A) (Int.tmod (zushr v6 8) 2) ∧ _ := dN_b (B := qB (yS A) (Int.tmod (zushr v6 8) 2)) (A := qA (yS A) (Int.tmod (zushr v6 8) 2)) (f := qfee (yS A)) (w := qlaw (yS A))
    have hl : clD (yS A) (Int.tmod (zushr v6 8) 2) ≤ ((qB (yS A) (Int.tmod (zushr v6 8) 2)).length : Int) ∧ _ := dN_l (B := qB (yS A) (Int.tmod (zushr v6 8) 2)) (A := qA (yS A) (Int.tmod (zushr v6 8) 2)) (f := qfee (yS A)) (w := qlaw (yS A))
    have hB : (qB (yS A) (Int.tmod (zushr v6 8) 2)).length ≤ 80 := (gd_m (E := fun t => qgr (yS A) t = Int.tmod (zushr v6 8) 2) ok.1).1.1
    have zd_ : zI (clD (yS A) (Int.tmod (zushr v6 8) 2)) := by omega
    have pd : 0 < clD (yS A) (Int.tmod (zushr v6 8) 2) := by omega
    rw [hx]
    refine ⟨zd_, fun z => absurd z (by omega), fun _ => vL_law_1089 ((a8_close C1 wf (by omega) (by omega)).mono ?_)⟩
    rintro x' M2 ⟨hx', C2, f2⟩
    have e : aClose A (Int.tmod (zushr v6 8) 2) = (clD (yS A) (Int.tmod (zushr v6 8) 2), yPut A (clS (yS A) (Int.tmod (zushr v6 8) 2))) := by unfold aClose; rw [if_neg (by omega), if_neg hd]
    have wc := w_close (g := Int.tmod (zushr v6 8) 2) wf
    rw [e] at hx' C2 wc
    have hx' : x' = clD (yS A) (Int.tmod (zushr v6 8) 2) := hx'
    rw [hx']
    exact ⟨zd_, zd_, fun z => absurd rfl z, fun _ => vL_law_1112 (law_1191 nx hC hi ((L M2).put C2 (X.nm f2) (y.md f2) (w1.ke (Lr.md (K := []) f2).ke) (B.1.2.1.2.close ok) wc (by omega)) hc hn)⟩
end
