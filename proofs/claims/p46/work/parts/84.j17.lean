/-! ===== a hall of the law's read; a cell of the script; the hall told ===== -/
section
variable {M : zM} {S : zS} {h : Nat} {t u : Int}
theorem lH.sc {k : Int} (w : lH M h S) (hk : 0 ≤ k ∧ k < 7) : M 64 h k = qsc S k := by
  rw [← w.2]
  exact (if_pos hk).symm
theorem lH.n (w : lH M h S) : M 64 h 0 = qn S := w.sc (by decide)
theorem lH.n20 (w : lH M h S) : 0 ≤ qn S ∧ qn S ≤ 20 := by rw [← w.n]; exact w.1.2.2.2.1
theorem lH.tt (w : lH M h S) (ht : 0 ≤ t ∧ t < qn S) : 0 ≤ t ∧ t < M 64 h 0 := by rw [w.n]; exact ht
theorem lH.t21 (w : lH M h S) (ht : 0 ≤ t ∧ t < qn S) : 0 ≤ t ∧ t < 21 := by have := w.n20; omega
theorem lH.sl (w : lH M h S) (ht : 0 ≤ t ∧ t < qn S) : M 70 h t = qsl S t := by
  have := w.tt ht
  rw [← w.2]
  exact (if_pos this).symm
theorem lH.gr (w : lH M h S) (ht : 0 ≤ t ∧ t < qn S) : M 71 h t = qgr S t := by
  have := w.tt ht
  rw [← w.2]
  exact (if_pos this).symm
theorem lH.un (w : lH M h S) (ht : 0 ≤ t ∧ t < qn S) : M 75 (lR M h t) (-1) = qun S t := by
  have := w.tt ht
  rw [← w.2]
  exact (if_pos this).symm
theorem lH.sy (w : lH M h S) (ht : 0 ≤ t ∧ t < qn S) (hu : 0 ≤ u ∧ u < qun S t) : M 75 (lR M h t) u = qsy S t u := by
  rw [← w.un ht] at hu
  have := w.tt ht
  rw [← w.2]
  exact (if_pos ⟨this.1, this.2, hu⟩).symm
theorem lH.pu (w : lH M h S) (ht : 0 ≤ t ∧ t < qn S) : M 72 h t = qpu S t := by
  have := w.tt ht
  rw [← w.2]
  exact (if_pos this).symm
theorem lH.td (w : lH M h S) (ht : 0 ≤ t ∧ t < qn S) : M 73 h t = qtr S t := by
  have := w.tt ht
  rw [← w.2]
  exact (if_pos this).symm
theorem lH.un4 (w : lH M h S) (ht : 0 ≤ t ∧ t < qn S) : 0 ≤ qun S t ∧ qun S t ≤ 4 := by rw [← w.un ht]; exact (w.1.2.2.2.2.2 t (w.tt ht)).2
theorem lH.r7 (w : lH M h S) : (0 ≤ M 64 h 7 ∧ M 64 h 7 < M 97 0 70) ∧ ∀ r : Nat, (r : Int) = M 64 h 7 → r = h := ⟨rb2 w.1.2.1.1 w.1.1.2.1, fun _ q => nc2 q w.1.2.1.1⟩
theorem lH.r8 (w : lH M h S) : (0 ≤ M 64 h 8 ∧ M 64 h 8 < M 97 0 71) ∧ ∀ r : Nat, (r : Int) = M 64 h 8 → r = h := ⟨rb2 w.1.2.1.2.1 w.1.1.2.2.1, fun _ q => nc2 q w.1.2.1.2.1⟩
theorem lH.r9 (w : lH M h S) : (0 ≤ M 64 h 9 ∧ M 64 h 9 < M 97 0 72) ∧ ∀ r : Nat, (r : Int) = M 64 h 9 → r = h := ⟨rb2 w.1.2.1.2.2.1 w.1.1.2.2.2.1, fun _ q => nc2 q w.1.2.1.2.2.1⟩
theorem lH.r10 (w : lH M h S) : (0 ≤ M 64 h 10 ∧ M 64 h 10 < M 97 0 73) ∧ ∀ r : Nat, (r : Int) = M 64 h 10 → r = h := ⟨rb2 w.1.2.1.2.2.2 w.1.1.2.2.2.2, fun _ q => nc2 q w.1.2.1.2.2.2⟩
theorem lH.r11 (w : lH M h S) : (0 ≤ M 64 h 11 ∧ M 64 h 11 < M 97 0 74) ∧ ∀ r : Nat, (r : Int) = M 64 h 11 → r = lU M h := ⟨w.1.2.2.1, fun _ q => nc2 q (lU_v w.1).symm⟩
theorem lH.rr (w : lH M h S) (ht : 0 ≤ t ∧ t < qn S) : (0 ≤ M 74 (lU M h) t ∧ M 74 (lU M h) t < M 97 0 75) ∧ ∀ r : Nat, (r : Int) = M 74 (lU M h) t → r = lR M h t := ⟨(w.1.2.2.2.2.2 t (w.tt ht)).1, fun _ q => nc2 q (lR_v w.1 (w.tt ht)).symm⟩
theorem lH.s01 (w : lH M h S) (ht : 0 ≤ t ∧ t < qn S) : qsl S t = 0 ∨ qsl S t = 1 := by rw [← w.sl ht]; exact w.1.2.2.2.2.1 t (w.t21 ht)
end
section
variable {l : Launch} {X : zD} {T : zT} {pc : Nat} {lv : List (Nat × zV)} {st : List zV} {M : zM}
theorem i32n (L : Nat) : (Int32.ofNat L).toInt ≤ (L : Int) := by
  rw [← Int32.ofInt_eq_ofNat, Int32.toInt_ofInt]
  simp only [Int.bmod_def]
  have : (4294967296 : Nat) = Int32.size := rfl
  rw [← this]
  omega
theorem aw_xcell {off i : Int} {tgt : Nat} {f0 f1 : Fin 4} (h1 : dec X pc = .ok (.arraylength, 1)) (h2 : dec X (pc + 1) = .ok (.if_icmp .ge off, 3)) (ht : ((pc + 1 : Nat) : Int) + off = (tgt : Int)) (h3 : dec X (pc + 4) = .ok (.aload_n f0, 1)) (hf0 : (f0 : Nat) = 0)
    (h4 : dec X (pc + 5) = .ok (.iload_n f1, 1)) (hf1 : (f1 : Nat) = 1) (h5 : dec X (pc + 6) = .ok (.iaload, 1)) (hl0 : lv[0]? = some (0, zr 60 0)) (hl1 : lv[1]? = some (1, zi i)) (hi : 0 ≤ i ∧ i < 2000)
    (kt : AW l X T tgt lv st M) (kk : ∀ z, zI z → AW l X T (pc + 7) lv (zi z :: st) M) : AW l X T pc lv (zr 60 0 :: zi i :: st) M := by
  intro g p e s m args below meth c H locs ls hC hW hS hlv hol host
  obtain ⟨hx, hb, hml, hown, hts, hr, hlo, hK, hnm, hcl1, hsl1⟩ := id hC
  rw [List.map_cons, List.map_cons, zcv_r (by decide)]
  refine va_slen hx hb hK.2.2.2.2.2.1 hK.2.2.2.2.2.2.2.1 hK.2.2.2.2.2.2.2.2.1 hS h1 ?_
  refine lv_icmp_ge hx hb h2 ht (fun _ => kt g p e s m args below meth c H locs ls hC hW hS hlv hol (zokt (zokt host))) (fun hn => ?_)
  refine lv_aload_n hx hb h3 hf0 (lv_at hlv 0 ((zlv_at hl0).trans (by rw [zcv_r (by decide)]))) ?_
  refine lv_iload_n hx hb h4 hf1 (lv_at hlv 1 (zlv_at hl1)) ?_
  have hin : vp_in (Int32.ofInt i) g.2.2.2.1 := by
    rw [vp_in_iff, Int32.toInt_ofInt_of_le (by omega) (by omega)]
    rw [Int32.le_iff_toInt_le, Int32.toInt_ofInt_of_le (by omega) (by omega)] at hn
    have := i32n g.2.2.2.1
    omega
  refine va_sld hx hb hK.2.2.2.2.2.1 hK.2.2.2.2.2.2.2.1 hK.2.2.2.2.2.2.2.2.1 hS hin h5 ?_
  have k := kk (g.2.2.2.2.1 (Int32.ofInt i).toNatClampNeg).toInt (zI_of _) g p e s m args below meth c H locs ls hC hW hS hlv hol (zok1i (zokt (zokt host)))
  rw [List.map_cons] at k
  have e2 : zcv g (zi (g.2.2.2.2.1 (Int32.ofInt i).toNatClampNeg).toInt) = .int (g.2.2.2.2.1 (Int32.ofInt i).toNatClampNeg) := by
    show Value.int (Int32.ofInt _) = _
    rw [Int32.ofInt_toInt]
  rw [e2] at k
  exact k
theorem c_L_cell {i : Int} (h : 0 ≤ i ∧ i < 2000) : CI l m_L_cell [zr 60 0, zi i] M (fun x M' => zI x ∧ M' = M) :=
  aw_iload_n d_L_cell_0 rfl rfl 1 rfl (aw_aload_n d_L_cell_1 rfl rfl 0 rfl (by decide) (aw_xcell d_L_cell_2 d_L_cell_3 rfl d_L_cell_6 rfl d_L_cell_7 rfl d_L_cell_8 rfl rfl h
    (aw_sipush d_L_cell_12 rfl rfl (aw_iload_n d_L_cell_15 rfl rfl 1 rfl (aw_imul d_L_cell_16 rfl (aw_ldc d_L_cell_17 rfl ciL_7 (aw_iadd d_L_cell_19 rfl (aw_ri d_L_cell_20 rfl ⟨by omega, rfl⟩))))))
    (fun z hz => aw_goto d_L_cell_9 rfl (aw_ri d_L_cell_20 rfl ⟨hz, rfl⟩))))
end
/-- told, what is said stays short -/
def tV (S : zS) : Prop := (0 ≤ qfee S ∧ qfee S < 100) ∧ (0 ≤ qlaw S ∧ qlaw S ≤ 3) ∧ (∀ t, 0 ≤ t ∧ t < qn S → 0 ≤ qgr S t ∧ qgr S t < 4) ∧ (∀ t u, 0 ≤ t ∧ t < qn S → 0 ≤ u ∧ u < qun S t → 0 ≤ qsy S t u ∧ qsy S t u < 100) ∧ (tAll S).length < 400
def tI (M M' : zM) (b v : Nat) (L : List Int) : Prop := Gr [66, 67, 80] M M' ∧ sbt M' b v L ∧ (M 97 0 67 ≤ (b : Int) ∧ (b : Int) < M' 97 0 67) ∧ M 97 0 80 ≤ (v : Int)
theorem Gr.bx {K : List Nat} {M M1 M2 : zM} {b v : Nat} (h : Gr K M M1) (hb : M 97 0 67 ≤ (b : Int)) (hv : M 97 0 80 ≤ (v : Int)) (e : bX M1 M2 b v) : Gr K M M2 := by
  have e97 : M2 97 0 = M1 97 0 := e 97 0 (nk (by decide)) (nk (by decide))
  refine ⟨fun k i h1 h2 => (e k i (by rintro ⟨rfl, -⟩; exact h1 (by decide)) (by rintro ⟨rfl, -⟩; exact h1 (by decide))).trans (h.1 k i h1 h2), fun k i h1 h2 => (e k i ?_ ?_).trans (h.2.1 k i h1 h2), fun q => by rw [e97]; exact h.2.2.1 q, fun q hq => by rw [e97]; exact h.2.2.2 q hq⟩
  · rintro ⟨rfl, rfl⟩
    exact absurd h2 (Int.not_lt.mpr hb)
  · rintro ⟨rfl, rfl⟩
    exact absurd h2 (Int.not_lt.mpr hv)
theorem tI.nx {M M1 M2 : zM} {b v : Nat} {L L2 : List Int} (h : tI M M1 b v L) (x : bX M1 M2 b v) (s : sbt M2 b v L2) : tI M M2 b v L2 := ⟨h.1.bx h.2.2.1.1 h.2.2.2 x, s, ⟨h.2.2.1.1, by rw [x 97 0 (nk (by decide)) (nk (by decide))]; exact h.2.2.1.2⟩, h.2.2.2⟩
theorem tTs_mon {S : zS} {m : Nat} : ∀ n, m ≤ n → (tTs S m).length ≤ (tTs S n).length
  | 0, h => by rw [show m = 0 by omega]; exact Nat.le_refl _
  | n + 1, h => by
    by_cases c : m = n + 1
    · rw [c]; exact Nat.le_refl _
    · have := tTs_mon (S := S) (m := m) n (by omega)
      rw [tTs.eq_2 S n]
      simp only [List.length_append]
      omega
theorem tUn_mon {S : zS} {t : Int} {m : Nat} : ∀ n, m ≤ n → (tUn S t m).length ≤ (tUn S t n).length
  | 0, h => by rw [show m = 0 by omega]; exact Nat.le_refl _
  | n + 1, h => by
    by_cases c : m = n + 1
    · rw [c]; exact Nat.le_refl _
    · have := tUn_mon (S := S) (t := t) (m := m) n (by omega)
      rw [tUn.eq_2 S t n]
      simp only [List.length_append]
      omega
theorem tFe_ge (S : zS) : (tTs S (qn S).toNat).length ≤ (tFe S).length := by
  unfold tFe
  split
  · exact Nat.le_refl _
  · simp only [List.length_append]; omega
theorem tAll_ge (S : zS) : (tFe S).length ≤ (tAll S).length := by
  unfold tAll
  split
  · exact Nat.le_refl _
  · simp only [List.length_append]; omega
theorem zw_2 : zw 8 = zw 0 ++ [32] ∧ zw 9 = zw 1 ++ [32] ∧ zw 10 = zw 2 ++ [32] ∧ zw 11 = zw 3 ++ [32] := by decide +kernel
theorem zw_3 : zw 12 = [59] ∧ zw 13 = [] ∧ zw 14 = [59] ++ zw 10 ∧ zw 15 = [59] ++ zw 11 := by decide +kernel
theorem tAll_e {S : zS} (c : 0 < qlaw S) : tAll S = tFe S ++ (sep (tFe S) ++ zw 11) ++ zw (zlw (qlaw S)) := by
  unfold tAll
  rw [if_neg (by omega), zw_2.2.2.2]
  simp only [List.append_assoc]
theorem tFe_e {S : zS} (c : 0 < qfee S) : tFe S = tTs S (qn S).toNat ++ (sep (tTs S (qn S).toNat) ++ zw 10) ++ dgF (qfee S) (top (qfee S)) := by
  unfold tFe
  rw [if_neg (by omega), zw_2.2.2.1, tnum]
  simp only [List.append_assoc, List.singleton_append]
theorem sep_0 {L : List Int} (h : L.length = 0) : sep L = [] := if_pos (List.length_eq_zero_iff.mp h)
theorem sep_1 {L : List Int} (h : 0 < L.length) : sep L = [59] := if_neg (fun e => by rw [e] at h; exact Nat.lt_irrefl _ h)
theorem tTs_e {S : zS} {t : Nat} (h : qsl S t = 0 ∨ qsl S t = 1) : tTs S (t + 1) = tTs S t ++ sep (tTs S t) ++ zw (if qsl S t = 0 then 8 else 9) ++ dgF (qgr S t) (top (qgr S t)) ++ tUn S t (qun S t).toNat := by
  rw [tTs, tnum]
  rcases h with h | h
  · rw [if_neg (by omega), if_pos h, zw_2.1]
    simp only [List.append_assoc, List.singleton_append, List.cons_append, List.nil_append]
  · rw [if_pos h, if_neg (by omega), zw_2.2.1]
    simp only [List.append_assoc, List.singleton_append, List.cons_append, List.nil_append]
theorem tTs_pos {S : zS} {t : Nat} : 0 < (tTs S (t + 1)).length := by
  rw [tTs]
  simp only [List.length_append, tnum, List.length_cons]
  omega
abbrev tP (M : zM) (S : zS) : Nat → zM → Prop := fun s M' => Gr [66, 67, 80] M M' ∧ M 97 0 66 ≤ (s : Int) ∧ (s : Int) < M' 97 0 66 ∧ stT M' s (tAll S)
section
variable {l : Launch} {M M1 : zM} {S : zS} {h b v : Nat}
def LX9_told_13 (l : Launch) (P : Nat → zM → Prop) (c n : Nat) (h : Nat) (r1 : Nat) (v2 : Int) (M : zM) : Prop := AW l m_X9_told (zTrn m_X9_told 66 4 808 c n P) 13 [(0, zr 64 h), (1, zr 67 r1), (2, zi v2)] [] M
def LX9_told_116 (l : Launch) (P : Nat → zM → Prop) (c n : Nat) (h : Nat) (r1 : Nat) (M : zM) : Prop := AW l m_X9_told (zTrn m_X9_told 66 4 808 c n P) 116 [(0, zr 64 h), (1, zr 67 r1)] [] M
def LX9_told_79 (l : Launch) (P : Nat → zM → Prop) (c n : Nat) (h : Nat) (r1 : Nat) (v2 : Int) (r3 : Nat) (v4 : Int) (v5 : Int) (M : zM) : Prop := AW l m_X9_told (zTrn m_X9_told 66 4 808 c n P) 79 [(0, zr 64 h), (1, zr 67 r1), (2, zi v2), (3, zr 75 r3), (4, zi v4), (5, zi v5)] [] M
def LX9_told_149 (l : Launch) (P : Nat → zM → Prop) (c n : Nat) (h : Nat) (r1 : Nat) (M : zM) : Prop := AW l m_X9_told (zTrn m_X9_told 66 4 808 c n P) 149 [(0, zr 64 h), (1, zr 67 r1)] [] M
def LX9_told_206 (l : Launch) (P : Nat → zM → Prop) (c n : Nat) (h : Nat) (r1 : Nat) (M : zM) : Prop := AW l m_X9_told (zTrn m_X9_told 66 4 808 c n P) 206 [(1, zr 67 r1)] [] M
theorem vX9_told_13 {l : Launch} {P : Nat → zM → Prop} {c n : Nat} {h : Nat} {r1 : Nat} {v2 : Int} {M : zM}
    (H0 : (zI v2 ∧ zI (M 64 h 0) ∧ (((M 64 h 0) ≤ v2 → LX9_told_116 l P c n h r1 M) ∧ (v2 < (M 64 h 0) → ((v2 ≤ 0 → (CR l m_J4_append_15ec4 67 [zr 67 r1, zr 61 13] M (fun (x19 : Nat) M17 => ((0 ≤ M17 64 h 7 ∧ M17 64 h 7 < M17 97 0 70) ∧ ∀ r21 : Nat, (r21 : Int) = M17 64 h 7 → ((0 ≤ v2 ∧ v2 < 21) ∧ (zI (M17 70 r21 v2) ∧ (((M17 70 r21 v2) = 0 → (CR l m_J4_append_15ec4 67 [zr 67 x19, zr 61 8] M17 (fun (x33 : Nat) M31 => ((0 ≤ M31 64 h 8 ∧ M31 64 h 8 < M31 97 0 71) ∧ ∀ r35 : Nat, (r35 : Int) = M31 64 h 8 → (CR l m_J4_append_bf812 67 [zr 67 x33, zi (M31 71 r35 v2)] M31 (fun (x39 : Nat) M37 => ((0 ≤ M37 64 h 11 ∧ M37 64 h 11 < M37 97 0 74) ∧ ∀ r41 : Nat, (r41 : Int) = M37 64 h 11 → ((0 ≤ M37 74 r41 v2 ∧ M37 74 r41 v2 < M37 97 0 75) ∧ ∀ r44 : Nat, (r44 : Int) = M37 74 r41 v2 → (0 ≤ M37 75 r44 (-1) ∧ LX9_told_79 l P c n h r1 v2 r44 (M37 75 r44 (-1)) 0 M37))))))))) ∧ ((M17 70 r21 v2) ≠ 0 → (CR l m_J4_append_15ec4 67 [zr 67 x19, zr 61 9] M17 (fun (x50 : Nat) M48 => ((0 ≤ M48 64 h 8 ∧ M48 64 h 8 < M48 97 0 71) ∧ ∀ r52 : Nat, (r52 : Int) = M48 64 h 8 → (CR l m_J4_append_bf812 67 [zr 67 x50, zi (M48 71 r52 v2)] M48 (fun (x56 : Nat) M54 => ((0 ≤ M54 64 h 11 ∧ M54 64 h 11 < M54 97 0 74) ∧ ∀ r58 : Nat, (r58 : Int) = M54 64 h 11 → ((0 ≤ M54 74 r58 v2 ∧ M54 74 r58 v2 < M54 97 0 75) ∧ ∀ r61 : Nat, (r61 : Int) = M54 74 r58 v2 → (0 ≤ M54 75 r61 (-1) ∧ LX9_told_79 l P c n h r1 v2 r61 (M54 75 r61 (-1)) 0 M54)))))))))))))))) ∧ (0 < v2 → (CR l m_J4_append_15ec4 67 [zr 67 r1, zr 61 12] M (fun (x67 : Nat) M65 => ((0 ≤ M65 64 h 7 ∧ M65 64 h 7 < M65 97 0 70) ∧ ∀ r69 : Nat, (r69 : Int) = M65 64 h 7 → ((0 ≤ v2 ∧ v2 < 21) ∧ (zI (M65 70 r69 v2) ∧ (((M65 70 r69 v2) = 0 → (CR l m_J4_append_15ec4 67 [zr 67 x67, zr 61 8] M65 (fun (x81 : Nat) M79 => ((0 ≤ M79 64 h 8 ∧ M79 64 h 8 < M79 97 0 71) ∧ ∀ r83 : Nat, (r83 : Int) = M79 64 h 8 → (CR l m_J4_append_bf812 67 [zr 67 x81, zi (M79 71 r83 v2)] M79 (fun (x87 : Nat) M85 => ((0 ≤ M85 64 h 11 ∧ M85 64 h 11 < M85 97 0 74) ∧ ∀ r89 : Nat, (r89 : Int) = M85 64 h 11 → ((0 ≤ M85 74 r89 v2 ∧ M85 74 r89 v2 < M85 97 0 75) ∧ ∀ r92 : Nat, (r92 : Int) = M85 74 r89 v2 → (0 ≤ M85 75 r92 (-1) ∧ LX9_told_79 l P c n h r1 v2 r92 (M85 75 r92 (-1)) 0 M85))))))))) ∧ ((M65 70 r69 v2) ≠ 0 → (CR l m_J4_append_15ec4 67 [zr 67 x67, zr 61 9] M65 (fun (x98 : Nat) M96 => ((0 ≤ M96 64 h 8 ∧ M96 64 h 8 < M96 97 0 71) ∧ ∀ r100 : Nat, (r100 : Int) = M96 64 h 8 → (CR l m_J4_append_bf812 67 [zr 67 x98, zi (M96 71 r100 v2)] M96 (fun (x104 : Nat) M102 => ((0 ≤ M102 64 h 11 ∧ M102 64 h 11 < M102 97 0 74) ∧ ∀ r106 : Nat, (r106 : Int) = M102 64 h 11 → ((0 ≤ M102 74 r106 v2 ∧ M102 74 r106 v2 < M102 97 0 75) ∧ ∀ r109 : Nat, (r109 : Int) = M102 74 r106 v2 → (0 ≤ M102 75 r109 (-1) ∧ LX9_told_79 l P c n h r1 v2 r109 (M102 75 r109 (-1)) 0 M102))))))))))))))))))))) :
    LX9_told_13 l P c n h r1 v2 M :=
(aw_iload_n d_X9_told_13 rfl rfl 2 rfl
(aw_aload_n d_X9_told_14 rfl rfl 0 rfl (by decide)
(aw_getI (kc := 0) d_X9_told_15 rfl fl9_29 rfl rfl
(have z6 := H0.1; have z7 := H0.2.1; have e8 := H0.2.2; aw_icmp_ge d_X9_told_18 rfl rfl z6 z7 (fun c9 => have e11 := e8.1 c9; (aw_sub [0, 1] rfl e11)) (fun c10 => have e12 := e8.2 c10; (aw_aload_n d_X9_told_21 rfl rfl 1 rfl (by decide)
(aw_iload_n d_X9_told_22 rfl rfl 2 rfl
(aw_if_le d_X9_told_23 rfl rfl z6 (fun c13 => have e15 := e12.1 c13; (aw_ldcS (i := 13) (tx := "") d_X9_told_31 rfl (by decide +kernel) (by decide)
(aw_VR (As := [zr 61 13]) (st := []) d_X9_told_33 rfl cv9_71 ⟨Nat.le_of_ble_eq_true rfl, Nat.le_of_ble_eq_true rfl⟩ rfl rfl (Nat.le_of_ble_eq_true rfl) (Nat.le_of_ble_eq_true rfl) e15 (fun x19 M17 e18 => (aw_aload_n d_X9_told_36 rfl rfl 0 rfl (by decide)
(have z20 := e18.1; aw_getE (kc := 7) d_X9_told_37 rfl fl9_7 rfl rfl (by decide) z20
(fun r21 hqr21 => (have e22 := e18.2 r21 hqr21; (aw_iload_n d_X9_told_40 rfl rfl 2 rfl
(have z23 := e22.1; aw_zaldG d_X9_told_41 rfl zd70.G (zix_s z23)
(have e24 := e22.2; (have z25 := e24.1; have e26 := e24.2; aw_if_eq d_X9_told_42 rfl rfl z25 (fun c27 => have e29 := e26.1 c27; (aw_ldcS (i := 8) (tx := "buyer ") d_X9_told_50 rfl (by decide +kernel) (by decide)
(aw_VR (As := [zr 61 8]) (st := []) d_X9_told_52 rfl cv9_71 ⟨Nat.le_of_ble_eq_true rfl, Nat.le_of_ble_eq_true rfl⟩ rfl rfl (Nat.le_of_ble_eq_true rfl) (Nat.le_of_ble_eq_true rfl) e29 (fun x33 M31 e32 => (aw_aload_n d_X9_told_55 rfl rfl 0 rfl (by decide)
(have z34 := e32.1; aw_getE (kc := 8) d_X9_told_56 rfl fl9_13 rfl rfl (by decide) z34
(fun r35 hqr35 => (have e36 := e32.2 r35 hqr35; (aw_iload_n d_X9_told_59 rfl rfl 2 rfl
(aw_ialdG d_X9_told_60 rfl zd71.G (zix_s z23)
(aw_VR (As := [zi (M31 71 r35 v2)]) (st := []) d_X9_told_61 rfl cv9_79 ⟨Nat.le_of_ble_eq_true rfl, Nat.le_of_ble_eq_true rfl⟩ rfl rfl (Nat.le_of_ble_eq_true rfl) (Nat.le_of_ble_eq_true rfl) e36 (fun x39 M37 e38 => (aw_pop d_X9_told_64 rfl rfl
(aw_aload_n d_X9_told_65 rfl rfl 0 rfl (by decide)
(have z40 := e38.1; aw_getE (kc := 11) d_X9_told_66 rfl fl9_24 rfl rfl (by decide) z40
(fun r41 hqr41 => (have e42 := e38.2 r41 hqr41; (aw_iload_n d_X9_told_69 rfl rfl 2 rfl
(have z43 := e42.1; aw_rale d_X9_told_70 rfl zd74.G (by decide) (zix_s z23) z43
(fun r44 hqr44 => (have e45 := e42.2 r44 hqr44; (aw_astore_n (lv' := [(3, zr 75 r44), (0, zr 64 h), (1, zr 67 r1), (2, zi v2)]) (by decide) d_X9_told_71 rfl rfl (by decide) rfl
(aw_aload_n d_X9_told_72 rfl rfl 0 rfl (by decide)
(have z46 := e45.1; aw_alenD d_X9_told_73 rfl (by decide) z46
(have e47 := e45.2; (aw_istore (lv' := [(4, zi (M37 75 r44 (-1))), (3, zr 75 r44), (0, zr 64 h), (1, zr 67 r1), (2, zi v2)]) d_X9_told_74 rfl (by decide) rfl
(aw_iconst d_X9_told_76 rfl
(aw_istore (lv' := [(5, zi 0), (4, zi (M37 75 r44 (-1))), (3, zr 75 r44), (0, zr 64 h), (1, zr 67 r1), (2, zi v2)]) d_X9_told_77 rfl (by decide) rfl
(aw_sub [3, 4, 5, 2, 1, 0] rfl e47))))))))))))))))))))))))))))) (fun c28 => have e30 := e26.2 c28; (aw_ldcS (i := 9) (tx := "seller ") d_X9_told_45 rfl (by decide +kernel) (by decide)
(aw_goto d_X9_told_47 rfl
(aw_VR (As := [zr 61 9]) (st := []) d_X9_told_52 rfl cv9_71 ⟨Nat.le_of_ble_eq_true rfl, Nat.le_of_ble_eq_true rfl⟩ rfl rfl (Nat.le_of_ble_eq_true rfl) (Nat.le_of_ble_eq_true rfl) e30 (fun x50 M48 e49 => (aw_aload_n d_X9_told_55 rfl rfl 0 rfl (by decide)
(have z51 := e49.1; aw_getE (kc := 8) d_X9_told_56 rfl fl9_13 rfl rfl (by decide) z51
(fun r52 hqr52 => (have e53 := e49.2 r52 hqr52; (aw_iload_n d_X9_told_59 rfl rfl 2 rfl
(aw_ialdG d_X9_told_60 rfl zd71.G (zix_s z23)
(aw_VR (As := [zi (M48 71 r52 v2)]) (st := []) d_X9_told_61 rfl cv9_79 ⟨Nat.le_of_ble_eq_true rfl, Nat.le_of_ble_eq_true rfl⟩ rfl rfl (Nat.le_of_ble_eq_true rfl) (Nat.le_of_ble_eq_true rfl) e53 (fun x56 M54 e55 => (aw_pop d_X9_told_64 rfl rfl
(aw_aload_n d_X9_told_65 rfl rfl 0 rfl (by decide)
(have z57 := e55.1; aw_getE (kc := 11) d_X9_told_66 rfl fl9_24 rfl rfl (by decide) z57
(fun r58 hqr58 => (have e59 := e55.2 r58 hqr58; (aw_iload_n d_X9_told_69 rfl rfl 2 rfl
(have z60 := e59.1; aw_rale d_X9_told_70 rfl zd74.G (by decide) (zix_s z23) z60
(fun r61 hqr61 => (have e62 := e59.2 r61 hqr61; (aw_astore_n (lv' := [(3, zr 75 r61), (0, zr 64 h), (1, zr 67 r1), (2, zi v2)]) (by decide) d_X9_told_71 rfl rfl (by decide) rfl
(aw_aload_n d_X9_told_72 rfl rfl 0 rfl (by decide)
(have z63 := e62.1; aw_alenD d_X9_told_73 rfl (by decide) z63
(have e64 := e62.2; (aw_istore (lv' := [(4, zi (M54 75 r61 (-1))), (3, zr 75 r61), (0, zr 64 h), (1, zr 67 r1), (2, zi v2)]) d_X9_told_74 rfl (by decide) rfl
(aw_iconst d_X9_told_76 rfl
(aw_istore (lv' := [(5, zi 0), (4, zi (M54 75 r61 (-1))), (3, zr 75 r61), (0, zr 64 h), (1, zr 67 r1), (2, zi v2)]) d_X9_told_77 rfl (by decide) rfl
(aw_sub [3, 4, 5, 2, 1, 0] rfl e64)))))))))))))))))))))))))))))))))))))))))) (fun c14 => have e16 := e12.2 c14; (aw_ldcS (i := 12) (tx := ";") d_X9_told_26 rfl (by decide +kernel) (by decide)
(aw_goto d_X9_told_28 rfl
(aw_VR (As := [zr 61 12]) (st := []) d_X9_told_33 rfl cv9_71 ⟨Nat.le_of_ble_eq_true rfl, Nat.le_of_ble_eq_true rfl⟩ rfl rfl (Nat.le_of_ble_eq_true rfl) (Nat.le_of_ble_eq_true rfl) e16 (fun x67 M65 e66 => (aw_aload_n d_X9_told_36 rfl rfl 0 rfl (by decide)
(have z68 := e66.1; aw_getE (kc := 7) d_X9_told_37 rfl fl9_7 rfl rfl (by decide) z68
(fun r69 hqr69 => (have e70 := e66.2 r69 hqr69; (aw_iload_n d_X9_told_40 rfl rfl 2 rfl
(have z71 := e70.1; aw_zaldG d_X9_told_41 rfl zd70.G (zix_s z71)
(have e72 := e70.2; (have z73 := e72.1; have e74 := e72.2; aw_if_eq d_X9_told_42 rfl rfl z73 (fun c75 => have e77 := e74.1 c75; (aw_ldcS (i := 8) (tx := "buyer ") d_X9_told_50 rfl (by decide +kernel) (by decide)
(aw_VR (As := [zr 61 8]) (st := []) d_X9_told_52 rfl cv9_71 ⟨Nat.le_of_ble_eq_true rfl, Nat.le_of_ble_eq_true rfl⟩ rfl rfl (Nat.le_of_ble_eq_true rfl) (Nat.le_of_ble_eq_true rfl) e77 (fun x81 M79 e80 => (aw_aload_n d_X9_told_55 rfl rfl 0 rfl (by decide)
(have z82 := e80.1; aw_getE (kc := 8) d_X9_told_56 rfl fl9_13 rfl rfl (by decide) z82
(fun r83 hqr83 => (have e84 := e80.2 r83 hqr83; (aw_iload_n d_X9_told_59 rfl rfl 2 rfl
(aw_ialdG d_X9_told_60 rfl zd71.G (zix_s z71)
(aw_VR (As := [zi (M79 71 r83 v2)]) (st := []) d_X9_told_61 rfl cv9_79 ⟨Nat.le_of_ble_eq_true rfl, Nat.le_of_ble_eq_true rfl⟩ rfl rfl (Nat.le_of_ble_eq_true rfl) (Nat.le_of_ble_eq_true rfl) e84 (fun x87 M85 e86 => (aw_pop d_X9_told_64 rfl rfl
(aw_aload_n d_X9_told_65 rfl rfl 0 rfl (by decide)
(have z88 := e86.1; aw_getE (kc := 11) d_X9_told_66 rfl fl9_24 rfl rfl (by decide) z88
(fun r89 hqr89 => (have e90 := e86.2 r89 hqr89; (aw_iload_n d_X9_told_69 rfl rfl 2 rfl
(have z91 := e90.1; aw_rale d_X9_told_70 rfl zd74.G (by decide) (zix_s z71) z91
(fun r92 hqr92 => (have e93 := e90.2 r92 hqr92; (aw_astore_n (lv' := [(3, zr 75 r92), (0, zr 64 h), (1, zr 67 r1), (2, zi v2)]) (by decide) d_X9_told_71 rfl rfl (by decide) rfl
(aw_aload_n d_X9_told_72 rfl rfl 0 rfl (by decide)
(have z94 := e93.1; aw_alenD d_X9_told_73 rfl (by decide) z94
(have e95 := e93.2; (aw_istore (lv' := [(4, zi (M85 75 r92 (-1))), (3, zr 75 r92), (0, zr 64 h), (1, zr 67 r1), (2, zi v2)]) d_X9_told_74 rfl (by decide) rfl
(aw_iconst d_X9_told_76 rfl
(aw_istore (lv' := [(5, zi 0), (4, zi (M85 75 r92 (-1))), (3, zr 75 r92), (0, zr 64 h), (1, zr 67 r1), (2, zi v2)]) d_X9_told_77 rfl (by decide) rfl
(aw_sub [3, 4, 5, 2, 1, 0] rfl e95))))))))))))))))))))))))))))) (fun c76 => have e78 := e74.2 c76; (aw_ldcS (i := 9) (tx := "seller ") d_X9_told_45 rfl (by decide +kernel) (by decide)
(aw_goto d_X9_told_47 rfl
(aw_VR (As := [zr 61 9]) (st := []) d_X9_told_52 rfl cv9_71 ⟨Nat.le_of_ble_eq_true rfl, Nat.le_of_ble_eq_true rfl⟩ rfl rfl (Nat.le_of_ble_eq_true rfl) (Nat.le_of_ble_eq_true rfl) e78 (fun x98 M96 e97 => (aw_aload_n d_X9_told_55 rfl rfl 0 rfl (by decide)
(have z99 := e97.1; aw_getE (kc := 8) d_X9_told_56 rfl fl9_13 rfl rfl (by decide) z99
(fun r100 hqr100 => (have e101 := e97.2 r100 hqr100; (aw_iload_n d_X9_told_59 rfl rfl 2 rfl
(aw_ialdG d_X9_told_60 rfl zd71.G (zix_s z71)
(aw_VR (As := [zi (M96 71 r100 v2)]) (st := []) d_X9_told_61 rfl cv9_79 ⟨Nat.le_of_ble_eq_true rfl, Nat.le_of_ble_eq_true rfl⟩ rfl rfl (Nat.le_of_ble_eq_true rfl) (Nat.le_of_ble_eq_true rfl) e101 (fun x104 M102 e103 => (aw_pop d_X9_told_64 rfl rfl
(aw_aload_n d_X9_told_65 rfl rfl 0 rfl (by decide)
(have z105 := e103.1; aw_getE (kc := 11) d_X9_told_66 rfl fl9_24 rfl rfl (by decide) z105
(fun r106 hqr106 => (have e107 := e103.2 r106 hqr106; (aw_iload_n d_X9_told_69 rfl rfl 2 rfl
(have z108 := e107.1; aw_rale d_X9_told_70 rfl zd74.G (by decide) (zix_s z71) z108
(fun r109 hqr109 => (have e110 := e107.2 r109 hqr109; (aw_astore_n (lv' := [(3, zr 75 r109), (0, zr 64 h), (1, zr 67 r1), (2, zi v2)]) (by decide) d_X9_told_71 rfl rfl (by decide) rfl
(aw_aload_n d_X9_told_72 rfl rfl 0 rfl (by decide)
(have z111 := e110.1; aw_alenD d_X9_told_73 rfl (by decide) z111
(have e112 := e110.2; (aw_istore (lv' := [(4, zi (M102 75 r109 (-1))), (3, zr 75 r109), (0, zr 64 h), (1, zr 67 r1), (2, zi v2)]) d_X9_told_74 rfl (by decide) rfl
(aw_iconst d_X9_told_76 rfl
(aw_istore (lv' := [(5, zi 0), (4, zi (M102 75 r109 (-1))), (3, zr 75 r109), (0, zr 64 h), (1, zr 67 r1), (2, zi v2)]) d_X9_told_77 rfl (by decide) rfl
(aw_sub [3, 4, 5, 2, 1, 0] rfl e112)))))))))))))))))))))))))))))))))))))))))))))))))))
theorem vX9_told_116 {l : Launch} {P : Nat → zM → Prop} {c n : Nat} {h : Nat} {r1 : Nat} {M : zM}
    (H0 : (zI (M 64 h 1) ∧ (((M 64 h 1) ≤ 0 → LX9_told_149 l P c n h r1 M) ∧ (0 < (M 64 h 1) → (zI (M 67 r1 3) ∧ (((M 67 r1 3) ≤ 0 → (CR l m_J4_append_15ec4 67 [zr 67 r1, zr 61 10] M (fun (x127 : Nat) M125 => (CR l m_J4_append_bf812 67 [zr 67 x127, zi (M125 64 h 1)] M125 (fun (x130 : Nat) M128 => LX9_told_149 l P c n h r1 M128))))) ∧ (0 < (M 67 r1 3) → (CR l m_J4_append_15ec4 67 [zr 67 r1, zr 61 14] M (fun (x133 : Nat) M131 => (CR l m_J4_append_bf812 67 [zr 67 x133, zi (M131 64 h 1)] M131 (fun (x136 : Nat) M134 => LX9_told_149 l P c n h r1 M134))))))))))) :
    LX9_told_116 l P c n h r1 M :=
(aw_aload_n d_X9_told_116 rfl rfl 0 rfl (by decide)
(aw_getI (kc := 1) d_X9_told_117 rfl fl9_33 rfl rfl
(have z113 := H0.1; have e114 := H0.2; aw_if_le d_X9_told_120 rfl rfl z113 (fun c115 => have e117 := e114.1 c115; e117) (fun c116 => have e118 := e114.2 c116; (aw_aload_n d_X9_told_123 rfl rfl 1 rfl (by decide)
(aw_aload_n d_X9_told_124 rfl rfl 1 rfl (by decide)
(aw_VI (As := []) (st := [zr 67 r1]) d_X9_told_125 rfl cv9_85 ⟨Nat.le_of_ble_eq_true rfl, Nat.le_of_ble_eq_true rfl⟩ rfl rfl (Nat.le_of_ble_eq_true rfl) (Nat.le_of_ble_eq_true rfl) (s_J4_length_8abf5) (fun _ _ hq => aw_eqs hq
(have z119 := e118.1; have e120 := e118.2; aw_if_le d_X9_told_128 rfl rfl z119 (fun c121 => have e123 := e120.1 c121; (aw_ldcS (i := 10) (tx := "fee ") d_X9_told_136 rfl (by decide +kernel) (by decide)
(aw_VR (As := [zr 61 10]) (st := []) d_X9_told_138 rfl cv9_71 ⟨Nat.le_of_ble_eq_true rfl, Nat.le_of_ble_eq_true rfl⟩ rfl rfl (Nat.le_of_ble_eq_true rfl) (Nat.le_of_ble_eq_true rfl) e123 (fun x127 M125 e126 => (aw_aload_n d_X9_told_141 rfl rfl 0 rfl (by decide)
(aw_getI (kc := 1) d_X9_told_142 rfl fl9_33 rfl rfl
(aw_VR (As := [zi (M125 64 h 1)]) (st := []) d_X9_told_145 rfl cv9_79 ⟨Nat.le_of_ble_eq_true rfl, Nat.le_of_ble_eq_true rfl⟩ rfl rfl (Nat.le_of_ble_eq_true rfl) (Nat.le_of_ble_eq_true rfl) e126 (fun x130 M128 e129 => (aw_pop d_X9_told_148 rfl rfl
e129))))))))) (fun c122 => have e124 := e120.2 c122; (aw_ldcS (i := 14) (tx := ";fee ") d_X9_told_131 rfl (by decide +kernel) (by decide)
(aw_goto d_X9_told_133 rfl
(aw_VR (As := [zr 61 14]) (st := []) d_X9_told_138 rfl cv9_71 ⟨Nat.le_of_ble_eq_true rfl, Nat.le_of_ble_eq_true rfl⟩ rfl rfl (Nat.le_of_ble_eq_true rfl) (Nat.le_of_ble_eq_true rfl) e124 (fun x133 M131 e132 => (aw_aload_n d_X9_told_141 rfl rfl 0 rfl (by decide)
(aw_getI (kc := 1) d_X9_told_142 rfl fl9_33 rfl rfl
(aw_VR (As := [zi (M131 64 h 1)]) (st := []) d_X9_told_145 rfl cv9_79 ⟨Nat.le_of_ble_eq_true rfl, Nat.le_of_ble_eq_true rfl⟩ rfl rfl (Nat.le_of_ble_eq_true rfl) (Nat.le_of_ble_eq_true rfl) e132 (fun x136 M134 e135 => (aw_pop d_X9_told_148 rfl rfl
e135)))))))))))))))))))
theorem vX9_told_79 {l : Launch} {P : Nat → zM → Prop} {c n : Nat} {h : Nat} {r1 : Nat} {v2 : Int} {r3 : Nat} {v4 : Int} {v5 : Int} {M : zM}
    (H0 : (zI v5 ∧ zI v4 ∧ ((v4 ≤ v5 → LX9_told_13 l P c n h r1 (v2 + 1) M) ∧ (v5 < v4 → ((0 ≤ v5 ∧ v5 < M 75 r3 (-1) ∧ M 75 r3 (-1) ≤ 1000000) ∧ (CR l m_J4_append_cf468 67 [zr 67 r1, zi 32] M (fun (x148 : Nat) M146 => (CR l m_J4_append_bf812 67 [zr 67 x148, zi (M 75 r3 v5)] M146 (fun (x151 : Nat) M149 => LX9_told_79 l P c n h r1 v2 r3 v4 (v5 + 1) M149))))))))) :
    LX9_told_79 l P c n h r1 v2 r3 v4 v5 M :=
(aw_iload d_X9_told_79 rfl 5 rfl
(aw_iload d_X9_told_81 rfl 4 rfl
(have z137 := H0.1; have z138 := H0.2.1; have e139 := H0.2.2; aw_icmp_ge d_X9_told_83 rfl rfl z137 z138 (fun c140 => have e142 := e139.1 c140; (aw_iinc (lv' := [(2, zi (v2 + 1)), (0, zr 64 h), (1, zr 67 r1), (3, zr 75 r3), (4, zi v4), (5, zi v5)]) (y := (v2 + 1)) d_X9_told_110 rfl 2 rfl (by decide) rfl rfl
(aw_goto d_X9_told_113 rfl
(aw_sub [1, 2, 0] rfl e142)))) (fun c141 => have e143 := e139.2 c141; (aw_aload_n d_X9_told_86 rfl rfl 3 rfl (by decide)
(aw_iload d_X9_told_87 rfl 5 rfl
(have z144 := e143.1; aw_ialdG d_X9_told_89 rfl zd75.G (zix_d rfl z144)
(have e145 := e143.2; (aw_istore (lv' := [(6, zi (M 75 r3 v5)), (0, zr 64 h), (1, zr 67 r1), (2, zi v2), (3, zr 75 r3), (4, zi v4), (5, zi v5)]) d_X9_told_90 rfl (by decide) rfl
(aw_aload_n d_X9_told_92 rfl rfl 2 rfl (by decide)
(aw_bipush d_X9_told_93 rfl (by decide)
(aw_VR (As := [zi 32]) (st := []) d_X9_told_95 rfl cv9_82 ⟨Nat.le_of_ble_eq_true rfl, Nat.le_of_ble_eq_true rfl⟩ rfl rfl (Nat.le_of_ble_eq_true rfl) (Nat.le_of_ble_eq_true rfl) e145 (fun x148 M146 e147 => (aw_iload d_X9_told_98 rfl 0 rfl
(aw_VR (As := [zi (M 75 r3 v5)]) (st := []) d_X9_told_100 rfl cv9_79 ⟨Nat.le_of_ble_eq_true rfl, Nat.le_of_ble_eq_true rfl⟩ rfl rfl (Nat.le_of_ble_eq_true rfl) (Nat.le_of_ble_eq_true rfl) e147 (fun x151 M149 e150 => (aw_pop d_X9_told_103 rfl rfl
(aw_iinc (lv' := [(5, zi (v5 + 1)), (6, zi (M 75 r3 v5)), (0, zr 64 h), (1, zr 67 r1), (2, zi v2), (3, zr 75 r3), (4, zi v4)]) (y := (v5 + 1)) d_X9_told_104 rfl 6 rfl (by decide) rfl rfl
(aw_goto d_X9_told_107 rfl
(aw_sub [2, 3, 4, 5, 6, 0] rfl e150))))))))))))))))))))
theorem vX9_told_149 {l : Launch} {P : Nat → zM → Prop} {c n : Nat} {h : Nat} {r1 : Nat} {M : zM}
    (H0 : (zI (M 64 h 2) ∧ (((M 64 h 2) ≤ 0 → LX9_told_206 l P c n h r1 M) ∧ (0 < (M 64 h 2) → (zI (M 67 r1 3) ∧ (((M 67 r1 3) ≤ 0 → (CR l m_J4_append_15ec4 67 [zr 67 r1, zr 61 11] M (fun (x166 : Nat) M164 => (zI (M164 64 h 2) ∧ (((M164 64 h 2) ≠ 1 → (((M164 64 h 2) ≠ 2 → (CR l m_J4_append_15ec4 67 [zr 67 x166, zr 61 7] M164 (fun (x179 : Nat) M177 => LX9_told_206 l P c n h r1 M177))) ∧ ((M164 64 h 2) = 2 → (CR l m_J4_append_15ec4 67 [zr 67 x166, zr 61 6] M164 (fun (x182 : Nat) M180 => LX9_told_206 l P c n h r1 M180))))) ∧ ((M164 64 h 2) = 1 → (CR l m_J4_append_15ec4 67 [zr 67 x166, zr 61 5] M164 (fun (x185 : Nat) M183 => LX9_told_206 l P c n h r1 M183)))))))) ∧ (0 < (M 67 r1 3) → (CR l m_J4_append_15ec4 67 [zr 67 r1, zr 61 15] M (fun (x188 : Nat) M186 => (zI (M186 64 h 2) ∧ (((M186 64 h 2) ≠ 1 → (((M186 64 h 2) ≠ 2 → (CR l m_J4_append_15ec4 67 [zr 67 x188, zr 61 7] M186 (fun (x201 : Nat) M199 => LX9_told_206 l P c n h r1 M199))) ∧ ((M186 64 h 2) = 2 → (CR l m_J4_append_15ec4 67 [zr 67 x188, zr 61 6] M186 (fun (x204 : Nat) M202 => LX9_told_206 l P c n h r1 M202))))) ∧ ((M186 64 h 2) = 1 → (CR l m_J4_append_15ec4 67 [zr 67 x188, zr 61 5] M186 (fun (x207 : Nat) M205 => LX9_told_206 l P c n h r1 M205)))))))))))))) :
    LX9_told_149 l P c n h r1 M :=
(aw_aload_n d_X9_told_149 rfl rfl 0 rfl (by decide)
(aw_getI (kc := 2) d_X9_told_150 rfl fl9_36 rfl rfl
(have z152 := H0.1; have e153 := H0.2; aw_if_le d_X9_told_153 rfl rfl z152 (fun c154 => have e156 := e153.1 c154; (aw_sub [1] rfl e156)) (fun c155 => have e157 := e153.2 c155; (aw_aload_n d_X9_told_156 rfl rfl 1 rfl (by decide)
(aw_aload_n d_X9_told_157 rfl rfl 1 rfl (by decide)
(aw_VI (As := []) (st := [zr 67 r1]) d_X9_told_158 rfl cv9_85 ⟨Nat.le_of_ble_eq_true rfl, Nat.le_of_ble_eq_true rfl⟩ rfl rfl (Nat.le_of_ble_eq_true rfl) (Nat.le_of_ble_eq_true rfl) (s_J4_length_8abf5) (fun _ _ hq => aw_eqs hq
(have z158 := e157.1; have e159 := e157.2; aw_if_le d_X9_told_161 rfl rfl z158 (fun c160 => have e162 := e159.1 c160; (aw_ldcS (i := 11) (tx := "law ") d_X9_told_169 rfl (by decide +kernel) (by decide)
(aw_VR (As := [zr 61 11]) (st := []) d_X9_told_171 rfl cv9_71 ⟨Nat.le_of_ble_eq_true rfl, Nat.le_of_ble_eq_true rfl⟩ rfl rfl (Nat.le_of_ble_eq_true rfl) (Nat.le_of_ble_eq_true rfl) e162 (fun x166 M164 e165 => (aw_aload_n d_X9_told_174 rfl rfl 0 rfl (by decide)
(aw_getI (kc := 2) d_X9_told_175 rfl fl9_36 rfl rfl
(aw_iconst d_X9_told_178 rfl
(have z167 := e165.1; have e168 := e165.2; aw_icmp_ne d_X9_told_179 rfl rfl z167 (by decide) (fun c169 => have e171 := e168.1 c169; (aw_aload_n d_X9_told_187 rfl rfl 0 rfl (by decide)
(aw_getI (kc := 2) d_X9_told_188 rfl fl9_36 rfl rfl
(aw_iconst d_X9_told_191 rfl
(aw_icmp_ne d_X9_told_192 rfl rfl z167 (by decide) (fun c173 => have e175 := e171.1 c173; (aw_ldcS (i := 7) (tx := "apart") d_X9_told_200 rfl (by decide +kernel) (by decide)
(aw_VR (As := [zr 61 7]) (st := []) d_X9_told_202 rfl cv9_71 ⟨Nat.le_of_ble_eq_true rfl, Nat.le_of_ble_eq_true rfl⟩ rfl rfl (Nat.le_of_ble_eq_true rfl) (Nat.le_of_ble_eq_true rfl) e175 (fun x179 M177 e178 => (aw_pop d_X9_told_205 rfl rfl
(aw_sub [1] rfl e178)))))) (fun c174 => have e176 := e171.2 c174; (aw_ldcS (i := 6) (tx := "less") d_X9_told_195 rfl (by decide +kernel) (by decide)
(aw_goto d_X9_told_197 rfl
(aw_VR (As := [zr 61 6]) (st := []) d_X9_told_202 rfl cv9_71 ⟨Nat.le_of_ble_eq_true rfl, Nat.le_of_ble_eq_true rfl⟩ rfl rfl (Nat.le_of_ble_eq_true rfl) (Nat.le_of_ble_eq_true rfl) e176 (fun x182 M180 e181 => (aw_pop d_X9_told_205 rfl rfl
(aw_sub [1] rfl e181)))))))))))) (fun c170 => have e172 := e168.2 c170; (aw_ldcS (i := 5) (tx := "middle") d_X9_told_182 rfl (by decide +kernel) (by decide)
(aw_goto d_X9_told_184 rfl
(aw_VR (As := [zr 61 5]) (st := []) d_X9_told_202 rfl cv9_71 ⟨Nat.le_of_ble_eq_true rfl, Nat.le_of_ble_eq_true rfl⟩ rfl rfl (Nat.le_of_ble_eq_true rfl) (Nat.le_of_ble_eq_true rfl) e172 (fun x185 M183 e184 => (aw_pop d_X9_told_205 rfl rfl
(aw_sub [1] rfl e184))))))))))))))) (fun c161 => have e163 := e159.2 c161; (aw_ldcS (i := 15) (tx := ";law ") d_X9_told_164 rfl (by decide +kernel) (by decide)
(aw_goto d_X9_told_166 rfl
(aw_VR (As := [zr 61 15]) (st := []) d_X9_told_171 rfl cv9_71 ⟨Nat.le_of_ble_eq_true rfl, Nat.le_of_ble_eq_true rfl⟩ rfl rfl (Nat.le_of_ble_eq_true rfl) (Nat.le_of_ble_eq_true rfl) e163 (fun x188 M186 e187 => (aw_aload_n d_X9_told_174 rfl rfl 0 rfl (by decide)
(aw_getI (kc := 2) d_X9_told_175 rfl fl9_36 rfl rfl
(aw_iconst d_X9_told_178 rfl
(have z189 := e187.1; have e190 := e187.2; aw_icmp_ne d_X9_told_179 rfl rfl z189 (by decide) (fun c191 => have e193 := e190.1 c191; (aw_aload_n d_X9_told_187 rfl rfl 0 rfl (by decide)
(aw_getI (kc := 2) d_X9_told_188 rfl fl9_36 rfl rfl
(aw_iconst d_X9_told_191 rfl
(aw_icmp_ne d_X9_told_192 rfl rfl z189 (by decide) (fun c195 => have e197 := e193.1 c195; (aw_ldcS (i := 7) (tx := "apart") d_X9_told_200 rfl (by decide +kernel) (by decide)
(aw_VR (As := [zr 61 7]) (st := []) d_X9_told_202 rfl cv9_71 ⟨Nat.le_of_ble_eq_true rfl, Nat.le_of_ble_eq_true rfl⟩ rfl rfl (Nat.le_of_ble_eq_true rfl) (Nat.le_of_ble_eq_true rfl) e197 (fun x201 M199 e200 => (aw_pop d_X9_told_205 rfl rfl
(aw_sub [1] rfl e200)))))) (fun c196 => have e198 := e193.2 c196; (aw_ldcS (i := 6) (tx := "less") d_X9_told_195 rfl (by decide +kernel) (by decide)
(aw_goto d_X9_told_197 rfl
(aw_VR (As := [zr 61 6]) (st := []) d_X9_told_202 rfl cv9_71 ⟨Nat.le_of_ble_eq_true rfl, Nat.le_of_ble_eq_true rfl⟩ rfl rfl (Nat.le_of_ble_eq_true rfl) (Nat.le_of_ble_eq_true rfl) e198 (fun x204 M202 e203 => (aw_pop d_X9_told_205 rfl rfl
(aw_sub [1] rfl e203)))))))))))) (fun c192 => have e194 := e190.2 c192; (aw_ldcS (i := 5) (tx := "middle") d_X9_told_182 rfl (by decide +kernel) (by decide)
(aw_goto d_X9_told_184 rfl
(aw_VR (As := [zr 61 5]) (st := []) d_X9_told_202 rfl cv9_71 ⟨Nat.le_of_ble_eq_true rfl, Nat.le_of_ble_eq_true rfl⟩ rfl rfl (Nat.le_of_ble_eq_true rfl) (Nat.le_of_ble_eq_true rfl) e194 (fun x207 M205 e206 => (aw_pop d_X9_told_205 rfl rfl
(aw_sub [1] rfl e206)))))))))))))))))))))))))
theorem vX9_told_206 {l : Launch} {P : Nat → zM → Prop} {c n : Nat} {h : Nat} {r1 : Nat} {M : zM}
    (H0 : (((c + 2) ≤ 4 ∧ (n + 404) ≤ 808) ∧ (CRn l m_J4_toString_0e30d 66 2 404 [zr 67 r1] M (fun (x212 : Nat) M209 => P x212 M209)))) :
    LX9_told_206 l P c n h r1 M :=
(aw_aload_n d_X9_told_206 rfl rfl 0 rfl (by decide)
(have z208 := H0.1; have e210 := H0.2; aw_VRn (As := []) (st := []) d_X9_told_207 rfl cv9_103 ⟨Nat.le_of_ble_eq_true rfl, Nat.le_of_ble_eq_true rfl⟩ z208 rfl rfl (Nat.le_of_ble_eq_true rfl) (Nat.le_of_ble_eq_true rfl) e210 (fun x212 M209 e211 => (aw_rrn d_X9_told_210 rfl (Or.inl ⟨_, rfl⟩) (by decide) e211))))
theorem vX9_told {l : Launch} {P : Nat → zM → Prop} {h : Nat} {M : zM}
    (H0 : (∀ n1 : Nat, (n1 : Int) = M 97 0 67 → ∀ M3 : zM, M3 = zmk M 67 n1 0 → (CVn l m_J4_init_d00df 1 400 [zr 67 n1, zi 400] M3 (fun M4 => LX9_told_13 l P ((0 + 1) + 1) ((0 + 4) + 400) h n1 0 M4)))) :
    CRn l m_X9_told 66 4 808 [zr 64 h] M P :=
(aw_new (k := 67) (n := 4) d_X9_told_0 rfl nw9_62 ⟨Nat.le_of_ble_eq_true rfl, Nat.le_of_ble_eq_true rfl⟩
(fun n1 hqn1 => (aw_nm fun M3 hqM3 => have e2 := H0 n1 hqn1 M3 hqM3; (aw_dup d_X9_told_3 rfl rfl
(aw_sipush d_X9_told_4 rfl (by decide)
(aw_NVn (As := [zi 400]) (st := [zr 67 n1]) d_X9_told_7 rfl cn9_64 ⟨Nat.le_of_ble_eq_true rfl, Nat.le_of_ble_eq_true rfl⟩ ⟨Nat.le_of_ble_eq_true rfl, Nat.le_of_ble_eq_true rfl⟩ rfl rfl (Nat.le_of_ble_eq_true rfl) (Nat.le_of_ble_eq_true rfl) e2 (fun M4 e5 => (aw_astore_n (lv' := [(1, zr 67 n1), (0, zr 64 h)]) (by decide) d_X9_told_10 rfl rfl (by decide) rfl
(aw_iconst d_X9_told_11 rfl
(aw_istore_n (lv' := [(2, zi 0), (1, zr 67 n1), (0, zr 64 h)]) d_X9_told_12 rfl rfl (by decide) rfl
(aw_sub [2, 1, 0] rfl e5)))))))))))
theorem told_206 (hV : tV S) (I : tI M M1 b v (tAll S)) : LX9_told_206 l (tP M S) ((0 + 1) + 1) ((0 + 4) + 400) h b M1 :=
  vX9_told_206 ⟨by decide, (c_toString I.2.1 I.2.2.1.2 hV.2.2.2.2).mono (fun _ _ q => ⟨I.1.tr (q.1.mono (by decide)), Int.le_trans (I.1.2.2.1 66) q.2.1, q.2.2⟩)⟩
theorem told_149 (w : lH M h S) (hV : tV S) (I : tI M M1 b v (tFe S)) : LX9_told_149 l (tP M S) ((0 + 1) + 1) ((0 + 4) + 400) h b M1 := by
  have e2 : M1 64 h 2 = qlaw S := (w.ke I.1.ke).sc (by decide)
  have hl := hV.2.2.2.2
  have hw := hV.2.1
  have e3 := I.2.1.2.2.1
  refine vX9_told_149 ?_
  rw [e2, e3]
  refine ⟨by omega, fun c => ?_, fun c => ⟨?_, ?_⟩⟩
  · refine told_206 (v := v) hV ?_
    unfold tAll
    rw [if_pos (by omega)]
    exact I
  · have := tAll_ge S
    omega
  have eA := tAll_e c
  have lA : (tAll S).length = (tFe S).length + ((sep (tFe S)).length + (zw 11).length) + (zw (zlw (qlaw S))).length := by rw [eA]; simp only [List.length_append]
  have nxt : ∀ (M2 : zM), tI M M2 b v (tFe S ++ (sep (tFe S) ++ zw 11)) → (zI (M2 64 h 2) ∧ (((M2 64 h 2) ≠ 1 → (((M2 64 h 2) ≠ 2 → (CR l m_J4_append_15ec4 67 [zr 67 b, zr 61 7] M2 (fun (_ : Nat) M177 => LX9_told_206 l (tP M S) ((0 + 1) + 1) ((0 + 4) + 400) h b M177))) ∧ ((M2 64 h 2) = 2 → (CR l m_J4_append_15ec4 67 [zr 67 b, zr 61 6] M2 (fun (_ : Nat) M180 => LX9_told_206 l (tP M S) ((0 + 1) + 1) ((0 + 4) + 400) h b M180))))) ∧ ((M2 64 h 2) = 1 → (CR l m_J4_append_15ec4 67 [zr 67 b, zr 61 5] M2 (fun (_ : Nat) M183 => LX9_told_206 l (tP M S) ((0 + 1) + 1) ((0 + 4) + 400) h b M183))))) := by
    intro M2 I2
    have e2' : M2 64 h 2 = qlaw S := (w.ke I2.1.ke).sc (by decide)
    rw [e2']
    have fin : ∀ s, s < 16 → zlw (qlaw S) = s → CR l m_J4_append_15ec4 67 [zr 67 b, zr 61 s] M2 (fun (_ : Nat) M177 => LX9_told_206 l (tP M S) ((0 + 1) + 1) ((0 + 4) + 400) h b M177) := by
      intro s hs es
      refine (c_append I2.2.1 hs ?_).mono ?_
      · rw [es] at lA
        simp only [List.length_append]
        omega
      · rintro x M3 ⟨-, bx, sb⟩
        refine told_206 (v := v) hV ?_
        rw [eA, es]
        exact I2.nx bx sb
    refine ⟨by omega, fun c1 => ⟨fun c2 => fin 7 (by decide) ?_, fun c2 => fin 6 (by decide) ?_⟩, fun c2 => fin 5 (by decide) ?_⟩
    · rw [show qlaw S = 3 by omega]; decide
    · rw [c2]; decide
    · rw [c2]; decide
  refine ⟨fun c1 => (c_append (s := 11) I.2.1 (by decide) ?_).mono ?_, fun c1 => (c_append (s := 15) I.2.1 (by decide) ?_).mono ?_⟩
  · omega
  · rintro x M2 ⟨rfl, bx, sb⟩
    refine nxt M2 ?_
    have := I.nx bx sb
    rw [sep_0 (by omega)]
    exact this
  · rw [zw_3.2.2.2]
    rw [sep_1 (by omega)] at lA
    simp only [List.length_append] at lA ⊢
    omega
  · rintro x M2 ⟨rfl, bx, sb⟩
    refine nxt M2 ?_
    have := I.nx bx sb
    rw [sep_1 (by omega), ← zw_3.2.2.2]
    exact this
theorem told_116 (w : lH M h S) (hV : tV S) (I : tI M M1 b v (tTs S (qn S).toNat)) : LX9_told_116 l (tP M S) ((0 + 1) + 1) ((0 + 4) + 400) h b M1 := by
  have e2 : M1 64 h 1 = qfee S := (w.ke I.1.ke).sc (by decide)
  have hl := hV.2.2.2.2
  have hw := hV.1
  have e3 := I.2.1.2.2.1
  have g1 := tAll_ge S
  have g2 := tFe_ge S
  refine vX9_told_116 ?_
  rw [e2, e3]
  refine ⟨by omega, fun c => ?_, fun c => ⟨by omega, ?_⟩⟩
  · refine told_149 (v := v) w hV ?_
    unfold tFe
    rw [if_pos (by omega)]
    exact I
  have eA := tFe_e c
  have lA : (tFe S).length = (tTs S (qn S).toNat).length + ((sep (tTs S (qn S).toNat)).length + (zw 10).length) + (dgF (qfee S) (top (qfee S))).length := by rw [eA]; simp only [List.length_append]
  have l1 : 1 ≤ (dgF (qfee S) (top (qfee S))).length := by rw [dgF_len]; omega
  have nxt : ∀ (M2 : zM), tI M M2 b v (tTs S (qn S).toNat ++ (sep (tTs S (qn S).toNat) ++ zw 10)) → CR l m_J4_append_bf812 67 [zr 67 b, zi (M2 64 h 1)] M2 (fun (_ : Nat) M128 => LX9_told_149 l (tP M S) ((0 + 1) + 1) ((0 + 4) + 400) h b M128) := by
    intro M2 I2
    have e2' : M2 64 h 1 = qfee S := (w.ke I2.1.ke).sc (by decide)
    rw [e2']
    refine (c_appendI I2.2.1 hw ?_).mono ?_
    · simp only [List.length_append]
      omega
    · rintro x M3 ⟨-, bx, sb⟩
      refine told_149 (v := v) w hV ?_
      rw [eA]
      exact I2.nx bx sb
  refine ⟨fun c1 => (c_append (s := 10) I.2.1 (by decide) ?_).mono ?_, fun c1 => (c_append (s := 14) I.2.1 (by decide) ?_).mono ?_⟩
  · omega
  · rintro x M2 ⟨rfl, bx, sb⟩
    refine nxt M2 ?_
    have := I.nx bx sb
    rw [sep_0 (by omega)]
    exact this
  · rw [zw_3.2.2.1]
    rw [sep_1 (by omega)] at lA
    simp only [List.length_append] at lA ⊢
    omega
  · rintro x M2 ⟨rfl, bx, sb⟩
    refine nxt M2 ?_
    have := I.nx bx sb
    rw [sep_1 (by omega), ← zw_3.2.2.1]
    exact this
/-- a trader's text up to its unit u -/
def tUp (S : zS) (t : Nat) (u : Nat) : List Int := tTs S t ++ sep (tTs S t) ++ zw (if qsl S t = 0 then 8 else 9) ++ dgF (qgr S t) (top (qgr S t)) ++ tUn S t u
theorem told_79 (w : lH M h S) (hV : tV S) {t : Nat} (ht : (t : Int) < qn S) (nx : ∀ M2, tI M M2 b v (tTs S (t + 1)) → LX9_told_13 l (tP M S) ((0 + 1) + 1) ((0 + 4) + 400) h b ((t : Int) + 1) M2) :
    ∀ (f u : Nat) (M1 : zM), u + f = (qun S t).toNat → tI M M1 b v (tUp S t u) → LX9_told_79 l (tP M S) ((0 + 1) + 1) ((0 + 4) + 400) h b t (lR M h t) (qun S t) u M1 := by
  have hT : 0 ≤ (t : Int) ∧ (t : Int) < qn S := ⟨by omega, ht⟩
  have h4 := w.un4 hT
  have hl := hV.2.2.2.2
  have g1 := tAll_ge S
  have g2 := tFe_ge S
  have g3 := tTs_mon (S := S) (m := t + 1) (qn S).toNat (by omega)
  have eT := tTs_e (S := S) (t := t) (w.s01 hT)
  intro f
  induction f with
  | zero =>
    intro u M1 hu I
    refine vX9_told_79 ⟨by omega, by omega, fun _ => nx M1 ?_, fun c => absurd c (by omega)⟩
    rw [eT, ← show u = (qun S t).toNat by omega]
    exact I
  | succ f ih =>
    intro u M1 hu I
    have hu' : 0 ≤ (u : Int) ∧ (u : Int) < qun S t := by omega
    have w1 := w.ke I.1.ke
    have eR : M1 75 (lR M h t) = M 75 (lR M h t) := I.1.2.1 75 _ (by decide) (by rw [lR_v w.1 (w.tt hT)]; exact (w.rr hT).1.2)
    have eu : M1 75 (lR M h t) u = qsy S t u := by rw [eR]; exact w.sy hT hu'
    have el : M1 75 (lR M h t) (-1) = qun S t := by rw [eR]; exact w.un hT
    have lL : (tUp S t u).length + (tnum (qsy S t u)).length ≤ (tTs S (t + 1)).length := by
      have := tUn_mon (S := S) (t := (t : Int)) (m := u + 1) (qun S t).toNat (by omega)
      rw [tUn] at this
      rw [eT]
      unfold tUp
      simp only [List.length_append] at this ⊢
      omega
    have l2 : 2 ≤ (tnum (qsy S t u)).length := by rw [tnum, List.length_cons, dgF_len]; omega
    refine vX9_told_79 ⟨by omega, by omega, fun c => absurd c (by omega), fun _ => ⟨by rw [el]; omega, ?_⟩⟩
    rw [eu]
    refine (c_appendC I.2.1 (by decide) (by omega)).mono ?_
    rintro x M2 ⟨rfl, bx, sb⟩
    have I2 := I.nx bx sb
    refine (c_appendI I2.2.1 (hV.2.2.2.1 _ _ hT hu') ?_).mono ?_
    · simp only [List.length_append, List.length_singleton]
      omega
    · rintro y M3 ⟨-, bx, sb⟩
      have I3 := I2.nx bx sb
      refine ih (u + 1) M3 (by omega) ?_
      unfold tUp at I3 ⊢
      rw [tUn, tnum]
      simp only [List.append_assoc, List.singleton_append] at I3 ⊢
      exact I3
theorem told_13 (w : lH M h S) (hV : tV S) : ∀ (f t : Nat) (M1 : zM), t + f = (qn S).toNat → tI M M1 b v (tTs S t) → LX9_told_13 l (tP M S) ((0 + 1) + 1) ((0 + 4) + 400) h b t M1 := by
  have hn := w.n20
  intro f
  induction f with
  | zero =>
    intro t M1 ht I
    have e0 := (w.ke I.1.ke).n
    refine vX9_told_13 ?_
    rw [e0]
    refine ⟨by omega, by omega, fun _ => told_116 (v := v) w hV ?_, fun c => absurd c (by omega)⟩
    rw [← show t = (qn S).toNat by omega]
    exact I
  | succ f ih =>
    intro t M1 ht I
    have hT : 0 ≤ (t : Int) ∧ (t : Int) < qn S := by omega
    have h4 := w.un4 hT
    have hl := hV.2.2.2.2
    have g1 := tAll_ge S
    have g2 := tFe_ge S
    have g3 := tTs_mon (S := S) (m := t + 1) (qn S).toNat (by omega)
    have eT := tTs_e (S := S) (t := t) (w.s01 hT)
    have lT := congrArg List.length eT
    simp only [List.length_append] at lT
    have l2 : (dgF (qgr S t) (top (qgr S t))).length = 1 := by
      have := hV.2.2.1 t hT
      rw [dgF_len, show top (qgr S t) = 0 from if_pos (by omega)]
    have e0 := (w.ke I.1.ke).n
    refine vX9_told_13 ?_
    rw [e0]
    refine ⟨by omega, by omega, fun c => absurd c (by omega), fun _ => ?_⟩
    refine ⟨fun c => (c_append (s := 13) I.2.1 (by decide) ?_).mono ?_, fun c => (c_append (s := 12) I.2.1 (by decide) ?_).mono ?_⟩
    · rw [zw_3.2.1]; simp only [List.length_nil]; omega
    rotate_left
    · rw [zw_3.1]; simp only [List.length_singleton]; omega
    all_goals
      rintro x M2 ⟨rfl, bx, sb⟩
      have I2 : tI M M2 x v (tTs S t ++ sep (tTs S t)) := by
        have I2 := I.nx bx sb
        first
        | (rw [zw_3.2.1] at I2
           obtain rfl : t = 0 := by omega
           exact I2)
        | (rw [zw_3.1] at I2
           obtain ⟨k, rfl⟩ : ∃ k, t = k + 1 := ⟨t - 1, by omega⟩
           rw [sep_1 tTs_pos]
           exact I2)
      have w2 := w.ke I2.1.ke
      refine ⟨w2.r7.1, fun r hr => ⟨w.t21 hT, ?_⟩⟩
      obtain rfl := w2.r7.2 r hr
      rw [w2.sl hT]
      have fin : ∀ s, s < 16 → s = (if qsl S t = 0 then 8 else 9) → CR l m_J4_append_15ec4 67 [zr 67 x, zr 61 s] M2 (fun (x33 : Nat) M31 => ((0 ≤ M31 64 r 8 ∧ M31 64 r 8 < M31 97 0 71) ∧ ∀ r35 : Nat, (r35 : Int) = M31 64 r 8 → (CR l m_J4_append_bf812 67 [zr 67 x33, zi (M31 71 r35 t)] M31 (fun (_ : Nat) M37 => ((0 ≤ M37 64 r 11 ∧ M37 64 r 11 < M37 97 0 74) ∧ ∀ r41 : Nat, (r41 : Int) = M37 64 r 11 → ((0 ≤ M37 74 r41 t ∧ M37 74 r41 t < M37 97 0 75) ∧ ∀ r44 : Nat, (r44 : Int) = M37 74 r41 t → (0 ≤ M37 75 r44 (-1) ∧ LX9_told_79 l (tP M S) ((0 + 1) + 1) ((0 + 4) + 400) r x t r44 (M37 75 r44 (-1)) 0 M37))))))) := by
        intro s hs es
        refine (c_append I2.2.1 hs ?_).mono ?_
        · rw [es]
          simp only [List.length_append]
          omega
        rintro y M3 ⟨rfl, bx, sb⟩
        have I3 := I2.nx bx sb
        have w3 := w.ke I3.1.ke
        refine ⟨w3.r8.1, fun r2 hr2 => ?_⟩
        obtain rfl := w3.r8.2 r2 hr2
        rw [w3.gr hT]
        have hg := hV.2.2.1 t hT
        refine (c_appendI I3.2.1 (by omega) ?_).mono ?_
        · rw [es]
          simp only [List.length_append]
          omega
        rintro z M4 ⟨-, bx, sb⟩
        have I4 := I3.nx bx sb
        have w4 := w.ke I4.1.ke
        refine ⟨w4.r11.1, fun r3 hr3 => ?_⟩
        obtain rfl := w4.r11.2 r3 hr3
        refine ⟨(w4.rr hT).1, fun r4 hr4 => ?_⟩
        obtain rfl := (w4.rr hT).2 r4 hr4
        rw [w4.un hT]
        refine ⟨h4.1, ?_⟩
        have eR : lR M4 r2 t = lR M r2 t := by
          have h64 := I4.1.2.1 64 r2 (by decide) w.1.1.1
          have eU : lU M4 r2 = lU M r2 := by unfold lU; rw [h64]
          unfold lR
          rw [eU, I4.1.2.1 74 (lU M r2) (by decide) (by rw [lU_v w.1]; exact w.1.2.2.1.2)]
        rw [eR]
        refine told_79 w hV hT.2 (fun M5 I5 => ih (t + 1) M5 (by omega) I5) (qun S t).toNat 0 M4 (by omega) ?_
        unfold tUp
        rw [tUn, List.append_nil, ← es]
        exact I4
      have h01 := w.s01 hT
      refine ⟨by omega, fun c2 => fin 8 (by decide) (by rw [if_pos c2]), fun c2 => fin 9 (by decide) (by rw [if_neg c2])⟩
theorem c_told (w : lH M h S) (hV : tV S) : CRn l m_X9_told 66 4 808 [zr 64 h] M (tP M S) := by
  refine vX9_told fun b hb M1 e1 => ?_
  have g1 : Gr [66, 67, 80] M M1 := by rw [e1]; exact Gr.mk (by decide) (by decide) hb
  have c80 : M1 97 0 80 = M 97 0 80 := by rw [e1]; exact zmk_n (by decide) (by decide)
  have c67 : M1 97 0 67 = (b : Int) + 1 := by rw [e1]; exact zmk_c
  refine (c_J4_init ?_).mono ?_
  · rw [e1, zmk_v (by decide) (by decide)]
    rfl
  rintro M2 ⟨⟨v, hv, sb, c2⟩, hc, ho⟩
  have hv0 : M 97 0 80 = (v : Int) := by rw [hv, c80]
  refine told_13 (b := b) (v := v) w hV (qn S).toNat 0 M2 (by omega) ⟨⟨fun k i h1 h2 => ?_, fun k i h1 h2 => ?_, fun q => ?_, fun q hq => ?_⟩, sb, ⟨Int.le_of_eq hb.symm, ?_⟩, Int.le_of_eq hv0⟩
  · exact (ho k i h2 (by rintro ⟨rfl, -⟩; exact h1 (by decide)) (by rintro ⟨rfl, -⟩; exact h1 (by decide))).trans (g1.1 k i h1 h2)
  · refine (ho k i (by omega) ?_ ?_).trans (g1.2.1 k i h1 h2)
    · rintro ⟨rfl, rfl⟩
      exact absurd h2 (Int.not_lt.mpr (Int.le_of_eq hb.symm))
    · rintro ⟨rfl, z⟩
      rw [c80] at z
      exact absurd h2 (Int.not_lt.mpr (Int.le_of_eq z.symm))
  · by_cases c : q = 80
    · subst c; rw [c2, c80]; exact Int.le_of_lt (Int.lt_succ _)
    · rw [hc q c]; exact g1.2.2.1 q
  · rw [hc q (fun z => hq (by rw [show q = 80 by omega]; decide))]
    exact g1.2.2.2 q hq
  · rw [hc 67 (by decide), c67]
    exact Int.lt_succ _
end
