/-! ===== a trader comes to the law's hall; some hall ===== -/
/-- what a trader's coming writes -/
def Kx (M M' : zM) (h : Nat) : Prop := ∀ k i, ¬ ((k = 64 ∨ (70 ≤ k ∧ k ≤ 73)) ∧ i = h) → ¬ (k = 74 ∧ i = lU M h) → M' k i = M k i
def sCm (S : zS) (s g N : Int) (f : Int → Int) : zS :=
  (upf (qsc S) 0 (qn S + 1), upf (qsl S) (qn S) s, upf (qgr S) (qn S) g, upf (qun S) (qn S) N, (fun t u => if t = qn S then (if 0 ≤ u ∧ u < N then f u else 0) else qsy S t u), upf (qpu S) (qn S) 0, upf (qtr S) (qn S) 0)
theorem Kx.lr {K : List Nat} {M M1 M2 : zM} {h : Nat} (g : Lr K M M1) (x : Kx M1 M2 h) (h0 : M 97 0 64 ≤ (h : Int) ∧ M 97 0 70 ≤ (h : Int) ∧ M 97 0 71 ≤ (h : Int) ∧ M 97 0 72 ≤ (h : Int) ∧ M 97 0 73 ≤ (h : Int)) (hu : M 97 0 74 ≤ (lU M1 h : Int)) : Lr K M M2 := by
  have e97 : M2 97 0 = M1 97 0 := x 97 0 (by omega) (by omega)
  refine ⟨fun k i h1 h2 => (x k i ?_ ?_).trans (g.1 k i h1 h2), fun q => by rw [e97]; exact g.2.1 q, fun q hq => by rw [e97]; exact g.2.2 q hq⟩
  · rintro ⟨c, rfl⟩
    have : k = 64 ∨ k = 70 ∨ k = 71 ∨ k = 72 ∨ k = 73 := by omega
    rcases this with rfl | rfl | rfl | rfl | rfl
    · exact absurd h2 (Int.not_lt.mpr h0.1)
    · exact absurd h2 (Int.not_lt.mpr h0.2.1)
    · exact absurd h2 (Int.not_lt.mpr h0.2.2.1)
    · exact absurd h2 (Int.not_lt.mpr h0.2.2.2.1)
    · exact absurd h2 (Int.not_lt.mpr h0.2.2.2.2)
  · rintro ⟨rfl, rfl⟩
    exact absurd h2 (Int.not_lt.mpr hu)
/-- another hall stays -/
theorem lH.kx {M M' : zM} {b h : Nat} {S : zS} (w : lH M b S) (x : Kx M M' h) (n1 : b ≠ h) (n2 : lU M b ≠ lU M h) : lH M' b S := by
  obtain ⟨w0, wS⟩ := w
  obtain ⟨⟨a1, a2, a3, a4, a5⟩, b1, c, d, e, f⟩ := id w0
  have e97 : M' 97 0 = M 97 0 := x 97 0 (by omega) (by omega)
  have h64 : M' 64 b = M 64 b := x 64 b (by omega) (by omega)
  have h70 : M' 70 b = M 70 b := x 70 b (by omega) (by omega)
  have h71 : M' 71 b = M 71 b := x 71 b (by omega) (by omega)
  have h72 : M' 72 b = M 72 b := x 72 b (by omega) (by omega)
  have h73 : M' 73 b = M 73 b := x 73 b (by omega) (by omega)
  have eU : lU M' b = lU M b := by unfold lU; rw [h64]
  have h74 : M' 74 (lU M b) = M 74 (lU M b) := x 74 _ (by omega) (by omega)
  have eR : ∀ t, lR M' b t = lR M b t := fun t => by unfold lR; rw [eU, h74]
  have h75 : ∀ i, M' 75 i = M 75 i := fun i => x 75 i (by omega) (by omega)
  refine ⟨⟨by rw [e97]; exact ⟨a1, a2, a3, a4, a5⟩, by rw [h64]; exact b1, by rw [h64, e97]; exact c, by rw [h64]; exact d, by rw [h70]; exact e, fun t ht => ?_⟩, ?_⟩
  · rw [h64] at ht
    rw [eU, h74, e97, eR, h75]
    exact f t ht
  · rw [← wS]
    exact lS_ext (fun _ _ => by rw [h64]) (fun _ _ => by rw [h70]) (fun _ _ => by rw [h71]) (fun _ _ => by rw [h72]) (fun _ _ => by rw [h73]) (fun t _ => by rw [eR, h75])
theorem cmF {n v : Int} {F G : Int → Int} (hn : 0 ≤ n) (e : ∀ t, F t = if t = n then v else G t) : (fun t => if 0 ≤ t ∧ t < n + 1 then F t else 0) = upf (fun t => if 0 ≤ t ∧ t < n then G t else 0) n v := by
  funext t
  show _ = if t = n then v else (if 0 ≤ t ∧ t < n then G t else 0)
  rw [e]
  by_cases c : t = n
  · rw [if_pos (by omega), if_pos c, if_pos c]
  · rw [if_neg c, if_neg c]
    by_cases d : 0 ≤ t ∧ t < n
    · rw [if_pos (by omega), if_pos d]
    · rw [if_neg (by omega), if_neg d]
section
variable {l : Launch} {M : zM} {S : zS}
theorem vL_goesOn {l : Launch} {P : Int → zM → Prop} {v0 : Int} {v1 : Int} {v2 : Int} {M : zM}
    (H0 : (zI v0 ∧ ((v0 = 0 → (zI v2 ∧ zI v1 ∧ ((v1 < v2 → P 0 M) ∧ (v2 ≤ v1 → P 1 M)))) ∧ (v0 ≠ 0 → (zI v2 ∧ zI v1 ∧ ((v2 < v1 → P 0 M) ∧ (v1 ≤ v2 → P 1 M))))))) :
    CI l m_L_goesOn [zi v0, zi v1, zi v2] M P :=
(aw_iload_n d_L_goesOn_0 rfl rfl 0 rfl
(have z1 := H0.1; have e2 := H0.2; aw_if_eq d_L_goesOn_1 rfl rfl z1 (fun c3 => have e5 := e2.1 c3; (aw_iload_n d_L_goesOn_17 rfl rfl 2 rfl
(aw_iload_n d_L_goesOn_18 rfl rfl 1 rfl
(have z7 := e5.1; have z8 := e5.2.1; have e9 := e5.2.2; aw_icmp_gt d_L_goesOn_19 rfl rfl z7 z8 (fun c10 => have e12 := e9.1 c10; (aw_iconst d_L_goesOn_26 rfl
(aw_rz d_L_goesOn_27 rfl (by decide) e12))) (fun c11 => have e13 := e9.2 c11; (aw_iconst d_L_goesOn_22 rfl
(aw_goto d_L_goesOn_23 rfl
(aw_rz d_L_goesOn_27 rfl (by decide) e13)))))))) (fun c4 => have e6 := e2.2 c4; (aw_iload_n d_L_goesOn_4 rfl rfl 2 rfl
(aw_iload_n d_L_goesOn_5 rfl rfl 1 rfl
(have z14 := e6.1; have z15 := e6.2.1; have e16 := e6.2.2; aw_icmp_lt d_L_goesOn_6 rfl rfl z14 z15 (fun c17 => have e19 := e16.1 c17; (aw_iconst d_L_goesOn_13 rfl
(aw_goto d_L_goesOn_14 rfl
(aw_rz d_L_goesOn_27 rfl (by decide) e19)))) (fun c18 => have e20 := e16.2 c18; (aw_iconst d_L_goesOn_9 rfl
(aw_goto d_L_goesOn_10 rfl
(aw_rz d_L_goesOn_27 rfl (by decide) e20))))))))))
theorem c_goesOn {s a v : Int} (hs : s = 0 ∨ s = 1) (ha : zI a) (hv : zI v) : CI l m_L_goesOn [zi s, zi a, zi v] M (fun x M' => x = (if s = 0 then zb (v ≤ a) else zb (a ≤ v)) ∧ M' = M) := by
  refine vL_goesOn ⟨by omega, fun c => ⟨hv, ha, fun d => ⟨?_, rfl⟩, fun d => ⟨?_, rfl⟩⟩, fun c => ⟨hv, ha, fun d => ⟨?_, rfl⟩, fun d => ⟨?_, rfl⟩⟩⟩
  · rw [if_pos c]; exact (if_neg (by omega)).symm
  · rw [if_pos c]; exact (if_pos d).symm
  · rw [if_neg c]; exact (if_neg (by omega)).symm
  · rw [if_neg c]; exact (if_pos d).symm
theorem vX9_comes {l : Launch} {P : zM → Prop} {h : Nat} {s3 : Nat} {v1 : Int} {v2 : Int} {M : zM}
    (H0 : ((0 ≤ M 64 h 7 ∧ M 64 h 7 < M 97 0 70) ∧ ∀ r2 : Nat, (r2 : Int) = M 64 h 7 → ((0 ≤ (M 64 h 0) ∧ (M 64 h 0) < 21) ∧ (v1 = 0 ∨ v1 = 1) ∧ ∀ M7 : zM, M7 = zu M 70 r2 (M 64 h 0) v1 → ((0 ≤ M7 64 h 8 ∧ M7 64 h 8 < M7 97 0 71) ∧ ∀ r9 : Nat, (r9 : Int) = M7 64 h 8 → ((0 ≤ (M7 64 h 0) ∧ (M7 64 h 0) < 21) ∧ ∀ M13 : zM, M13 = zu M7 71 r9 (M7 64 h 0) v2 → ((0 ≤ M13 64 h 11 ∧ M13 64 h 11 < M13 97 0 74) ∧ ∀ r15 : Nat, (r15 : Int) = M13 64 h 11 → ((0 ≤ (M13 64 h 0) ∧ (M13 64 h 0) < 21) ∧ ∀ M19 : zM, M19 = zu M13 74 r15 (M13 64 h 0) (s3 : Int) → ((0 ≤ M19 64 h 9 ∧ M19 64 h 9 < M19 97 0 72) ∧ ∀ r21 : Nat, (r21 : Int) = M19 64 h 9 → ((0 ≤ (M19 64 h 0) ∧ (M19 64 h 0) < 21) ∧ ∀ M25 : zM, M25 = zu M19 72 r21 (M19 64 h 0) 0 → ((0 ≤ M25 64 h 10 ∧ M25 64 h 10 < M25 97 0 73) ∧ ∀ r27 : Nat, (r27 : Int) = M25 64 h 10 → ((0 ≤ (M25 64 h 0) ∧ (M25 64 h 0) < 21) ∧ ∀ M31 : zM, M31 = zu M25 73 r27 (M25 64 h 0) 0 → (∀ M33 : zM, M33 = zu M31 64 h 0 ((M31 64 h 0) + 1) → P M33)))))))))))) :
    CV l m_X9_comes [zr 64 h, zi v1, zi v2, zr 75 s3] M P :=
(aw_aload_n d_X9_comes_0 rfl rfl 0 rfl (by decide)
(have z1 := H0.1; aw_getE (kc := 7) d_X9_comes_1 rfl fl9_7 rfl rfl (by decide) z1
(fun r2 hqr2 => (have e3 := H0.2 r2 hqr2; (aw_aload_n d_X9_comes_4 rfl rfl 0 rfl (by decide)
(aw_getI (kc := 0) d_X9_comes_5 rfl fl9_29 rfl rfl
(aw_iload_n d_X9_comes_8 rfl rfl 1 rfl
(have z4 := e3.1; have z5 := e3.2.1; aw_zastG d_X9_comes_9 rfl zd70.G (zix_s z4) z5
(aw_nm fun M7 hqM7 => have e6 := e3.2.2 M7 hqM7; (aw_aload_n d_X9_comes_10 rfl rfl 0 rfl (by decide)
(have z8 := e6.1; aw_getE (kc := 8) d_X9_comes_11 rfl fl9_13 rfl rfl (by decide) z8
(fun r9 hqr9 => (have e10 := e6.2 r9 hqr9; (aw_aload_n d_X9_comes_14 rfl rfl 0 rfl (by decide)
(aw_getI (kc := 0) d_X9_comes_15 rfl fl9_29 rfl rfl
(aw_iload_n d_X9_comes_18 rfl rfl 2 rfl
(have z11 := e10.1; aw_iastG d_X9_comes_19 rfl zd71.G (zix_s z11)
(aw_nm fun M13 hqM13 => have e12 := e10.2 M13 hqM13; (aw_aload_n d_X9_comes_20 rfl rfl 0 rfl (by decide)
(have z14 := e12.1; aw_getE (kc := 11) d_X9_comes_21 rfl fl9_24 rfl rfl (by decide) z14
(fun r15 hqr15 => (have e16 := e12.2 r15 hqr15; (aw_aload_n d_X9_comes_24 rfl rfl 0 rfl (by decide)
(aw_getI (kc := 0) d_X9_comes_25 rfl fl9_29 rfl rfl
(aw_aload_n d_X9_comes_28 rfl rfl 3 rfl (by decide)
(have z17 := e16.1; aw_rast d_X9_comes_29 rfl zd74.G zd75.G (by decide) (zix_s z17)
(aw_nm fun M19 hqM19 => have e18 := e16.2 M19 hqM19; (aw_aload_n d_X9_comes_30 rfl rfl 0 rfl (by decide)
(have z20 := e18.1; aw_getE (kc := 9) d_X9_comes_31 rfl fl9_17 rfl rfl (by decide) z20
(fun r21 hqr21 => (have e22 := e18.2 r21 hqr21; (aw_aload_n d_X9_comes_34 rfl rfl 0 rfl (by decide)
(aw_getI (kc := 0) d_X9_comes_35 rfl fl9_29 rfl rfl
(aw_iconst d_X9_comes_38 rfl
(have z23 := e22.1; aw_iastG d_X9_comes_39 rfl zd72.G (zix_s z23)
(aw_nm fun M25 hqM25 => have e24 := e22.2 M25 hqM25; (aw_aload_n d_X9_comes_40 rfl rfl 0 rfl (by decide)
(have z26 := e24.1; aw_getE (kc := 10) d_X9_comes_41 rfl fl9_20 rfl rfl (by decide) z26
(fun r27 hqr27 => (have e28 := e24.2 r27 hqr27; (aw_aload_n d_X9_comes_44 rfl rfl 0 rfl (by decide)
(aw_getI (kc := 0) d_X9_comes_45 rfl fl9_29 rfl rfl
(aw_iconst d_X9_comes_48 rfl
(have z29 := e28.1; aw_iastG d_X9_comes_49 rfl zd73.G (zix_s z29)
(aw_nm fun M31 hqM31 => have e30 := e28.2 M31 hqM31; (aw_aload_n d_X9_comes_50 rfl rfl 0 rfl (by decide)
(aw_dup d_X9_comes_51 rfl rfl
(aw_getI (kc := 0) d_X9_comes_52 rfl fl9_29 rfl rfl
(aw_iconst d_X9_comes_55 rfl
(aw_iadd d_X9_comes_56 rfl
(aw_put (kc := 0) d_X9_comes_57 rfl fp9_29 rfl rfl rfl rfl
(aw_nm fun M33 hqM33 => have e32 := e30 M33 hqM33; (aw_rv d_X9_comes_60 rfl e32)))))))))))))))))))))))))))))))))))))))))))))))))))))
theorem c_comes {h r : Nat} {s g : Int} (w : lH M h S) (hn : qn S < 20) (hs : s = 0 ∨ s = 1) (hr : (r : Int) < M 97 0 75) (h4 : 0 ≤ M 75 r (-1) ∧ M 75 r (-1) ≤ 4) :
    CV l m_X9_comes [zr 64 h, zi s, zi g, zr 75 r] M (fun M' => Kx M M' h ∧ M' 64 h 11 = M 64 h 11 ∧ lH M' h (sCm S s g (M 75 r (-1)) (M 75 r))) := by
  have hn0 := w.n20
  have en := w.n
  have b21 : 0 ≤ qn S ∧ qn S < 21 := by omega
  obtain ⟨w0, wS⟩ := id w
  refine vX9_comes ⟨w.r7.1, fun x1 q1 => ?_⟩
  obtain rfl := w.r7.2 x1 q1
  rw [en]
  refine ⟨b21, hs, fun M1 e1 => ?_⟩
  have o1 : ∀ k i, ¬ (k = 70 ∧ i = x1) → M1 k i = M k i := fun k i z => by rw [e1]; exact zu_o k i z
  rw [o1 64 x1 (nk (by decide)), o1 97 0 (nk (by decide)), en]
  refine ⟨w.r8.1, fun x2 q2 => ⟨b21, fun M2 e2 => ?_⟩⟩
  obtain rfl := w.r8.2 x2 q2
  have o2 : ∀ k i, ¬ (k = 71 ∧ i = x2) → M2 k i = M1 k i := fun k i z => by rw [e2]; exact zu_o k i z
  rw [o2 64 x2 (nk (by decide)), o2 97 0 (nk (by decide)), o1 64 x2 (nk (by decide)), o1 97 0 (nk (by decide)), en]
  refine ⟨w.r11.1, fun U qU => ⟨b21, fun M3 e3 => ?_⟩⟩
  obtain rfl := w.r11.2 U qU
  have o3 : ∀ k i, ¬ (k = 74 ∧ i = lU M x2) → M3 k i = M2 k i := fun k i z => by rw [e3]; exact zu_o k i z
  rw [o3 64 x2 (nk (by decide)), o3 97 0 (nk (by decide)), o2 64 x2 (nk (by decide)), o2 97 0 (nk (by decide)), o1 64 x2 (nk (by decide)), o1 97 0 (nk (by decide)), en]
  refine ⟨w.r9.1, fun x3 q3 => ⟨b21, fun M4 e4 => ?_⟩⟩
  obtain rfl := w.r9.2 x3 q3
  have o4 : ∀ k i, ¬ (k = 72 ∧ i = x3) → M4 k i = M3 k i := fun k i z => by rw [e4]; exact zu_o k i z
  rw [o4 64 x3 (nk (by decide)), o4 97 0 (nk (by decide)), o3 64 x3 (nk (by decide)), o3 97 0 (nk (by decide)), o2 64 x3 (nk (by decide)), o2 97 0 (nk (by decide)), o1 64 x3 (nk (by decide)), o1 97 0 (nk (by decide)), en]
  refine ⟨w.r10.1, fun x4 q4 => ⟨b21, fun M5 e5 M6 e6 => ?_⟩⟩
  obtain rfl := w.r10.2 x4 q4
  have o5 : ∀ k i, ¬ (k = 73 ∧ i = x4) → M5 k i = M4 k i := fun k i z => by rw [e5]; exact zu_o k i z
  have o6 : ∀ k i, ¬ (k = 64 ∧ i = x4) → M6 k i = M5 k i := fun k i z => by rw [e6]; exact zu_o k i z
  have X : Kx M M6 x4 := fun k i z1 z2 => by rw [o6 k i (by omega), o5 k i (by omega), o4 k i (by omega), o3 k i z2, o2 k i (by omega), o1 k i (by omega)]
  have e97 : M6 97 0 = M 97 0 := X 97 0 (by omega) (by omega)
  have k64 : M5 64 x4 = M 64 x4 := by rw [o5 64 x4 (nk (by decide)), o4 64 x4 (nk (by decide)), o3 64 x4 (nk (by decide)), o2 64 x4 (nk (by decide)), o1 64 x4 (nk (by decide))]
  have f64 : ∀ j, M6 64 x4 j = if j = 0 then qn S + 1 else M 64 x4 j := fun j => by rw [e6, zu_w, k64, en]
  have f70 : ∀ t, M6 70 x4 t = if t = qn S then s else M 70 x4 t := fun t => by
    rw [o6 70 x4 (nk (by decide)), o5 70 x4 (nk (by decide)), o4 70 x4 (nk (by decide)), o3 70 x4 (nk (by decide)), o2 70 x4 (nk (by decide)), e1, zu_w]
  have f71 : ∀ t, M6 71 x4 t = if t = qn S then g else M 71 x4 t := fun t => by
    rw [o6 71 x4 (nk (by decide)), o5 71 x4 (nk (by decide)), o4 71 x4 (nk (by decide)), o3 71 x4 (nk (by decide)), e2, zu_w, o1 71 x4 (nk (by decide))]
  have f74 : ∀ t, M6 74 (lU M x4) t = if t = qn S then (r : Int) else M 74 (lU M x4) t := fun t => by
    rw [o6 74 _ (nk (by decide)), o5 74 _ (nk (by decide)), o4 74 _ (nk (by decide)), e3, zu_w, o2 74 _ (nk (by decide)), o1 74 _ (nk (by decide))]
  have f72 : ∀ t, M6 72 x4 t = if t = qn S then 0 else M 72 x4 t := fun t => by
    rw [o6 72 x4 (nk (by decide)), o5 72 x4 (nk (by decide)), e4, zu_w, o3 72 x4 (nk (by decide)), o2 72 x4 (nk (by decide)), o1 72 x4 (nk (by decide))]
  have f73 : ∀ t, M6 73 x4 t = if t = qn S then 0 else M 73 x4 t := fun t => by
    rw [o6 73 x4 (nk (by decide)), e5, zu_w, o4 73 x4 (nk (by decide)), o3 73 x4 (nk (by decide)), o2 73 x4 (nk (by decide)), o1 73 x4 (nk (by decide))]
  have f75 : ∀ i, M6 75 i = M 75 i := fun i => X 75 i (by omega) (by omega)
  have g0 : M6 64 x4 0 = qn S + 1 := by rw [f64, if_pos rfl]
  have gj : ∀ j, j ≠ 0 → M6 64 x4 j = M 64 x4 j := fun j hj => by rw [f64, if_neg hj]
  have eU : lU M6 x4 = lU M x4 := by unfold lU; rw [gj 11 (by decide)]
  have rN : lR M6 x4 (qn S) = r := by unfold lR; rw [eU, f74, if_pos rfl, Int.toNat_natCast]
  have rO : ∀ t, t ≠ qn S → lR M6 x4 t = lR M x4 t := fun t ht => by unfold lR; rw [eU, f74, if_neg ht]
  clear e1 e2 e3 e4 e5 e6 o1 o2 o3 o4 o5 o6
  refine ⟨X, gj 11 (by decide), ⟨by rw [e97]; exact w0.1, by rw [gj 7 (by decide), gj 8 (by decide), gj 9 (by decide), gj 10 (by decide)]; exact w0.2.1, by rw [gj 11 (by decide), e97]; exact w0.2.2.1, by rw [g0]; omega, fun t ht => ?_, fun t ht => ?_⟩, ?_⟩
  · rw [f70]
    split
    · exact hs
    · exact w0.2.2.2.2.1 t ht
  · rw [g0] at ht
    rw [eU, f74, e97, f75]
    by_cases c : t = qn S
    · subst c
      rw [if_pos rfl, rN]
      exact ⟨⟨Int.natCast_nonneg _, hr⟩, h4⟩
    · rw [if_neg c, rO t c]
      exact w0.2.2.2.2.2 t (by rw [en]; omega)
  · rw [← wS]
    have en' : qn (lS M x4) = qn S := by rw [wS]
    unfold sCm
    rw [en']
    have z0 : M 64 x4 0 = qn S := en
    unfold lS
    rw [g0, z0]
    refine Prod.ext ?_ (Prod.ext (cmF hn0.1 f70) (Prod.ext (cmF hn0.1 f71) (Prod.ext ?_ (Prod.ext ?_ (Prod.ext (cmF hn0.1 f72) (cmF hn0.1 f73))))))
    · funext k
      show (if 0 ≤ k ∧ k < 7 then M6 64 x4 k else 0) = if k = 0 then qn S + 1 else if 0 ≤ k ∧ k < 7 then M 64 x4 k else 0
      by_cases c : k = 0
      · subst c; rw [if_pos (by decide), if_pos rfl, g0]
      · rw [if_neg c, gj k c]
    · refine cmF hn0.1 fun t => ?_
      by_cases c : t = qn S
      · rw [if_pos c, c, rN, f75]
      · rw [if_neg c, rO t c, f75]
    · funext t u
      show (if 0 ≤ t ∧ t < qn S + 1 ∧ 0 ≤ u ∧ u < M6 75 (lR M6 x4 t) (-1) then M6 75 (lR M6 x4 t) u else 0) = if t = qn S then (if 0 ≤ u ∧ u < M 75 r (-1) then M 75 r u else 0) else if 0 ≤ t ∧ t < qn S ∧ 0 ≤ u ∧ u < M 75 (lR M x4 t) (-1) then M 75 (lR M x4 t) u else 0
      by_cases c : t = qn S
      · subst c
        rw [if_pos rfl, rN, f75]
        by_cases d : 0 ≤ u ∧ u < M 75 r (-1)
        · rw [if_pos d, if_pos ⟨hn0.1, by omega, d⟩]
        · rw [if_neg d, if_neg (fun z => d z.2.2)]
      · rw [if_neg c, rO t c, f75]
        by_cases d : 0 ≤ t ∧ t < qn S
        · by_cases d2 : 0 ≤ u ∧ u < M 75 (lR M x4 t) (-1)
          · rw [if_pos ⟨d.1, by omega, d2⟩, if_pos ⟨d.1, d.2, d2⟩]
          · rw [if_neg (fun z => d2 z.2.2), if_neg (fun z => d2 z.2.2)]
        · rw [if_neg (by omega), if_neg (by omega)]
end
/-! some hall -/
/-- small units, in their side's order -/
def sG (S : zS) (n : Int) : Prop :=
  qn S = n ∧ (∀ j, 3 ≤ j ∧ j < 7 → qsc S j = 0) ∧ (∀ t, 0 ≤ t ∧ t < n → (qsl S t = 0 ∨ qsl S t = 1) ∧ (qgr S t = 0 ∨ qgr S t = 1) ∧ (0 ≤ qun S t ∧ qun S t ≤ 3) ∧ qpu S t = 0 ∧ qtr S t = 0) ∧
  (∀ t u, 0 ≤ t ∧ t < n → 0 ≤ u ∧ u < qun S t → 0 ≤ qsy S t u ∧ qsy S t u ≤ 60) ∧
  (∀ t u, 0 ≤ t ∧ t < n → 0 ≤ u ∧ u + 1 < qun S t → (qsl S t = 0 → qsy S t (u + 1) ≤ qsy S t u) ∧ (qsl S t = 1 → qsy S t u ≤ qsy S t (u + 1)))
theorem sG.cm {S : zS} {n s g N : Int} {f : Int → Int} (h : sG S n) (hn : 0 ≤ n) (hs : s = 0 ∨ s = 1) (hg : g = 0 ∨ g = 1) (hN : 0 ≤ N ∧ N ≤ 3) (hf : ∀ u, 0 ≤ u ∧ u < N → 0 ≤ f u ∧ f u ≤ 60) (ho : ∀ u, 0 ≤ u ∧ u + 1 < N → (s = 0 → f (u + 1) ≤ f u) ∧ (s = 1 → f u ≤ f (u + 1))) : sG (sCm S s g N f) (n + 1) := by
  obtain ⟨h1, h2, h3, h4, h5⟩ := h
  have v1 : ∀ t, t ≠ n → qsl (sCm S s g N f) t = qsl S t ∧ qgr (sCm S s g N f) t = qgr S t ∧ qun (sCm S s g N f) t = qun S t ∧ qpu (sCm S s g N f) t = qpu S t ∧ qtr (sCm S s g N f) t = qtr S t ∧ ∀ u, qsy (sCm S s g N f) t u = qsy S t u := by
    intro t ht
    rw [← h1] at ht
    exact ⟨if_neg ht, if_neg ht, if_neg ht, if_neg ht, if_neg ht, fun u => if_neg ht⟩
  have v2 : qsl (sCm S s g N f) n = s ∧ qgr (sCm S s g N f) n = g ∧ qun (sCm S s g N f) n = N ∧ qpu (sCm S s g N f) n = 0 ∧ qtr (sCm S s g N f) n = 0 ∧ ∀ u, 0 ≤ u ∧ u < N → qsy (sCm S s g N f) n u = f u := by
    rw [← h1]
    exact ⟨if_pos rfl, if_pos rfl, if_pos rfl, if_pos rfl, if_pos rfl, fun u hu => (if_pos rfl).trans (if_pos hu)⟩
  refine ⟨?_, fun j hj => ?_, fun t ht => ?_, fun t u ht hu => ?_, fun t u ht hu => ?_⟩
  · show (if (0 : Int) = 0 then qn S + 1 else qsc S 0) = n + 1
    rw [if_pos rfl, h1]
  · show (if j = 0 then qn S + 1 else qsc S j) = 0
    rw [if_neg (by omega)]
    exact h2 j hj
  · by_cases c : t = n
    · subst c
      rw [v2.1, v2.2.1, v2.2.2.1, v2.2.2.2.1, v2.2.2.2.2.1]
      exact ⟨hs, hg, hN, rfl, rfl⟩
    · obtain ⟨a1, a2, a3, a4, a5, -⟩ := v1 t c
      rw [a1, a2, a3, a4, a5]
      exact h3 t (by omega)
  · by_cases c : t = n
    · subst c
      rw [v2.2.2.1] at hu
      rw [v2.2.2.2.2.2 u hu]
      exact hf u hu
    · obtain ⟨a1, a2, a3, a4, a5, a6⟩ := v1 t c
      rw [a3] at hu
      rw [a6]
      exact h4 t u (by omega) hu
  · by_cases c : t = n
    · subst c
      rw [v2.2.2.1] at hu
      rw [v2.1, v2.2.2.2.2.2 u (by omega), v2.2.2.2.2.2 (u + 1) (by omega)]
      exact ho u hu
    · obtain ⟨a1, a2, a3, a4, a5, a6⟩ := v1 t c
      rw [a3] at hu
      rw [a1, a6, a6]
      exact h5 t u (by omega) hu
theorem sG.sc {S : zS} {n j x : Int} (h : sG S n) (hj : j = 1 ∨ j = 2) : sG (sSc S j x) n := by
  obtain ⟨h1, h2, h3, h4, h5⟩ := h
  refine ⟨?_, fun k hk => ?_, h3, h4, h5⟩
  · show (if (0 : Int) = j then x else qsc S 0) = n
    rw [if_neg (by omega)]
    exact h1
  · show (if k = j then x else qsc S k) = 0
    rw [if_neg (by omega)]
    exact h2 k hk
theorem tmod_b {x m : Int} (hx : 0 ≤ x) (hm : 0 < m) : 0 ≤ Int.tmod x m ∧ Int.tmod x m < m := by
  rw [Int.tmod_eq_emod_of_nonneg hx]
  exact ⟨Int.emod_nonneg _ (by omega), Int.emod_lt_of_pos _ hm⟩
theorem zus_nn {x : Int} {k : Nat} (hk : 1 ≤ k ∧ k < 32) : 0 ≤ zushr x k := by
  have key : ∀ k : Fin 32, (((Int32.ofInt (k.val : Int)).toUInt32 &&& Int32.toUInt32 31).toBitVec % 32).toNat = k.val := by decide +kernel
  have h := pk_ushr (Int32.ofInt x) (Int32.ofInt (k : Int)) k (key ⟨k, hk.2⟩)
  have hlt : (Int32.ofInt x).toBitVec.toNat / 2 ^ k < 2147483648 := by
    have h2 := (Int32.ofInt x).toBitVec.isLt
    have : 2 ^ 1 ≤ 2 ^ k := Nat.pow_le_pow_right (by decide) hk.1
    refine Nat.div_lt_of_lt_mul ?_
    omega
  unfold zushr
  generalize ((Int32.ofInt x).toUInt32 >>> ((Int32.ofInt (k : Int)).toUInt32 &&& Int32.toUInt32 31)).toInt32 = y at h
  rw [← h] at hlt
  show 0 ≤ y.toBitVec.toInt
  rw [BitVec.toInt_eq_toNat_cond]
  split
  · omega
  · omega
theorem Kx.gr {K : List Nat} {M M1 M2 : zM} {h : Nat} (g : Gr K M M1) (x : Kx M1 M2 h) (h0 : M 97 0 64 ≤ (h : Int) ∧ M 97 0 70 ≤ (h : Int) ∧ M 97 0 71 ≤ (h : Int) ∧ M 97 0 72 ≤ (h : Int) ∧ M 97 0 73 ≤ (h : Int)) (hu : M 97 0 74 ≤ (lU M1 h : Int)) : Gr K M M2 := by
  have l := x.lr g.lr h0 hu
  exact ⟨fun k i h1 h2 => (x k i (by omega) (by omega)).trans (g.1 k i h1 h2), l.1, l.2.1, l.2.2⟩
theorem zSy.le {M : zM} {a : Nat} (y : zSy M) (h : M 97 0 64 ≤ (a : Int)) : M 97 0 64 ≤ (a : Int) ∧ M 97 0 70 ≤ (a : Int) ∧ M 97 0 71 ≤ (a : Int) ∧ M 97 0 72 ≤ (a : Int) ∧ M 97 0 73 ≤ (a : Int) := ⟨h, by rw [y.1]; exact h, by rw [y.2.1]; exact h, by rw [y.2.2.1]; exact h, by rw [y.2.2.2]; exact h⟩
/-- a number of the hall written -/
theorem lH.fld {M M' : zM} {h : Nat} {S : zS} {j x : Int} (w : lH M h S) (hj : 1 ≤ j ∧ j < 7) (e : M' = zu M 64 h j x) : lH M' h (sSc S j x) ∧ M' 64 h 11 = M 64 h 11 := by
  obtain ⟨w0, wS⟩ := w
  have o : ∀ k i, ¬ (k = 64 ∧ i = h) → M' k i = M k i := fun k i z => by rw [e]; exact zu_o k i z
  have f : ∀ i, i ≠ j → M' 64 h i = M 64 h i := fun i hi => by rw [e, zu_w, if_neg hi]
  have fj : M' 64 h j = x := by rw [e, zu_w, if_pos rfl]
  have e97 : M' 97 0 = M 97 0 := o 97 0 (nk (by decide))
  have eU : lU M' h = lU M h := by unfold lU; rw [f 11 (by omega)]
  have eR : ∀ t, lR M' h t = lR M h t := fun t => by unfold lR; rw [eU, o 74 _ (nk (by decide))]
  have r : ∀ k i, k ≠ 64 → M' k i = M k i := fun k i hk => o k i (fun z => hk z.1)
  refine ⟨⟨⟨by rw [e97]; exact w0.1, by rw [f 7 (by omega), f 8 (by omega), f 9 (by omega), f 10 (by omega)]; exact w0.2.1, by rw [f 11 (by omega), e97]; exact w0.2.2.1, by rw [f 0 (by omega)]; exact w0.2.2.2.1, by rw [r 70 h (by decide)]; exact w0.2.2.2.2.1, fun t ht => ?_⟩, ?_⟩, f 11 (by omega)⟩
  · rw [f 0 (by omega)] at ht
    rw [eU, r 74 _ (by decide), e97, eR, r 75 _ (by decide)]
    exact w0.2.2.2.2.2 t ht
  · rw [← wS]
    unfold sSc lS
    simp only [eR, r 70 h (by decide), r 71 h (by decide), r 72 h (by decide), r 73 h (by decide), r 75 _ (by decide), f 0 (by omega)]
    refine Prod.ext ?_ rfl
    funext k
    show (if 0 ≤ k ∧ k < 7 then M' 64 h k else 0) = if k = j then x else if 0 ≤ k ∧ k < 7 then M 64 h k else 0
    by_cases c : k = j
    · rw [if_pos c, c, if_pos (by omega), fj]
    · rw [if_neg c, f k c]
abbrev sK : List Nat := [64, 70, 71, 72, 73, 74, 75]
/-- a hall that was made since -/
def sI (M M1 : zM) (a : Nat) (S : zS) : Prop := Gr sK M M1 ∧ zSy M1 ∧ (a : Int) = M 97 0 64 ∧ M 97 0 74 ≤ M1 64 a 11 ∧ lH M1 a S
theorem hall_0 {M M1 M2 : zM} {a : Nat} (y : zSy M) (ha : (a : Int) = M 97 0 64) (e1 : M1 = zmk M 64 a 0) (hi : hI M1 M2 a) : Gr hK M M2 ∧ zSy M2 ∧ M 97 0 74 ≤ M2 64 a 11 ∧ lH M2 a zE := by
  have hge : M 97 0 64 ≤ (a : Int) := Int.le_of_eq ha.symm
  have g1 : Gr hK M M1 := by rw [e1]; exact Gr.mk (by decide) (by decide) ha
  have n1 : ∀ q : Int, q ≠ 64 → M1 97 0 q = M 97 0 q := fun q hq => by rw [e1]; exact zmk_n (by decide) hq
  have n64 : M1 97 0 64 = (a : Int) + 1 := by rw [e1]; exact zmk_c
  have B : M1 97 0 70 = (a : Int) ∧ M1 97 0 71 = (a : Int) ∧ M1 97 0 72 = (a : Int) ∧ M1 97 0 73 = (a : Int) := ⟨(n1 70 (by decide)).trans (y.1.trans ha.symm), (n1 71 (by decide)).trans (y.2.1.trans ha.symm), (n1 72 (by decide)).trans (y.2.2.1.trans ha.symm), (n1 73 (by decide)).trans (y.2.2.2.trans ha.symm)⟩
  have g2 := hi.gr g1 hge B
  obtain ⟨i1, i2, i3, ⟨j7, j8, j9, j10, j11⟩, ⟨k70, k71, k72, k73, k74⟩, i6, i7, i8⟩ := hi
  have c64 : M2 97 0 64 = (a : Int) + 1 := (i6 64 (by decide) (by decide) (by decide) (by decide) (by decide)).trans n64
  have z : ∀ j, 0 ≤ j ∧ j < 7 → M2 64 a j = 0 := fun j hj => by
    rw [i3 j hj.2, e1, zmk_v (by decide) hj.1]
    have : j = 0 ∨ j = 1 ∨ j = 2 ∨ j = 3 ∨ j = 4 ∨ j = 5 ∨ j = 6 := by omega
    rcases this with rfl | rfl | rfl | rfl | rfl | rfl | rfl <;> rfl
  have z0 := z 0 (by decide)
  have al : (a : Int) < (a : Int) + 1 := Int.lt_succ _
  have n74 := n1 74 (by decide)
  refine ⟨g2, ⟨k70.trans c64.symm, k71.trans c64.symm, k72.trans c64.symm, k73.trans c64.symm⟩, by rw [j11, n74]; exact Int.le_refl _, ⟨⟨lt1 al c64, lt1 al k70, lt1 al k71, lt1 al k72, lt1 al k73⟩, ⟨j7, j8, j9, j10⟩, ?_, by rw [z0]; decide, fun t ht => Or.inl (i7 t ht.1), fun t ht => absurd ht (by rw [z0]; omega)⟩, ?_⟩
  · rw [j11, k74]
    exact ⟨i8, Int.lt_succ _⟩
  · unfold lS zE
    rw [z0]
    refine Prod.ext ?_ (Prod.ext ?_ (Prod.ext ?_ (Prod.ext ?_ (Prod.ext ?_ (Prod.ext ?_ ?_)))))
    · funext k
      show (if 0 ≤ k ∧ k < 7 then M2 64 a k else 0) = 0
      split
      · next c => exact z k c
      · rfl
    · funext t; exact if_neg (by omega)
    · funext t; exact if_neg (by omega)
    · funext t; exact if_neg (by omega)
    · funext t u; exact if_neg (by omega)
    · funext t; exact if_neg (by omega)
    · funext t; exact if_neg (by omega)
theorem sG_0 : sG zE 0 := ⟨rfl, fun _ _ => rfl, fun t ht => absurd ht (by omega), fun t _ ht => absurd ht (by omega), fun t _ ht => absurd ht (by omega)⟩
section
variable {l : Launch} {M : zM}
abbrev someP (M : zM) : Nat → zM → Prop := fun a M' => ∃ S n, sI M M' a S ∧ (2 ≤ n ∧ n ≤ 7) ∧ sG S n ∧ (0 ≤ qfee S ∧ qfee S ≤ 5) ∧ (0 ≤ qlaw S ∧ qlaw S ≤ 3)
def LX9_some_25 (l : Launch) (P : Nat → zM → Prop) (c n : Nat) (v1 : Int) (v3 : Int) (r4 : Nat) (v5 : Int) (v6 : Int) (M : zM) : Prop := AW l m_X9_some (zTrn m_X9_some 64 13 138 c n P) 25 [(0, zr 60 0), (1, zi v1), (3, zi v3), (4, zr 64 r4), (5, zi v5), (6, zi v6)] [] M
def LX9_some_112 (l : Launch) (P : Nat → zM → Prop) (c n : Nat) (v1 : Int) (v3 : Int) (r4 : Nat) (v5 : Int) (v6 : Int) (v7 : Int) (v8 : Int) (r9 : Nat) (v10 : Int) (v11 : Int) (v12 : Int) (M : zM) : Prop := AW l m_X9_some (zTrn m_X9_some 64 13 138 c n P) 112 [(0, zr 60 0), (1, zi v1), (3, zi v3), (4, zr 64 r4), (5, zi v5), (6, zi v6), (7, zi v7), (8, zi v8), (9, zr 75 r9), (10, zi v10), (11, zi v11), (12, zi v12)] [] M
theorem vX9_some_25 {l : Launch} {P : Nat → zM → Prop} {c n : Nat} {v1 : Int} {v3 : Int} {r4 : Nat} {v5 : Int} {v6 : Int} {M : zM}
    (H0 : (zI v6 ∧ zI v5 ∧ ((v5 ≤ v6 → (CI l m_L_cell [zr 60 0, zi (v1 + 20)] M (fun x21 M19 => (zI (Int.tmod (zushr x21 1) 3) ∧ (((Int.tmod (zushr x21 1) 3) ≠ 0 → (∀ M29 : zM, M29 = zu M19 64 r4 1 0 → (CI l m_L_cell [zr 60 0, zi (v1 + 21)] M29 (fun x32 M30 => (∀ M34 : zM, M34 = zu M30 64 r4 2 (Int.tmod (zushr x32 1) 4) → P r4 M34))))) ∧ ((Int.tmod (zushr x21 1) 3) = 0 → (CI l m_L_cell [zr 60 0, zi (v1 + 20)] M19 (fun x37 M35 => (∀ M39 : zM, M39 = zu M35 64 r4 1 (Int.tmod (zushr x37 4) 6) → (CI l m_L_cell [zr 60 0, zi (v1 + 21)] M39 (fun x42 M40 => (∀ M44 : zM, M44 = zu M40 64 r4 2 (Int.tmod (zushr x42 1) 4) → P r4 M44)))))))))))) ∧ (v6 < v5 → (CI l m_L_cell [zr 60 0, zi ((v1 + 1) + v6)] M (fun x47 M45 => (zI (v3 + 1) ∧ (v3 + 1) ≠ 0 ∧ ((0 ≤ (Int.tmod (zushr (zushr x47 1) 3) (v3 + 1)) ∧ (Int.tmod (zushr (zushr x47 1) 3) (v3 + 1)) ≤ 1000000) ∧ ((c + 1) ≤ 13 ∧ (n + (Int.tmod (zushr (zushr x47 1) 3) (v3 + 1)).toNat) ≤ 138) ∧ ∀ n51 : Nat, (n51 : Int) = M45 97 0 75 → ∀ M55 : zM, M55 = zmk M45 75 n51 (Int.tmod (zushr (zushr x47 1) 3) (v3 + 1)) → (zI (Int.tmod (zushr x47 1) 2) ∧ (((Int.tmod (zushr x47 1) 2) ≠ 1 → LX9_some_112 l P (c + 1) (n + (Int.tmod (zushr (zushr x47 1) 3) (v3 + 1)).toNat) v1 v3 r4 v5 v6 (zushr x47 1) (Int.tmod (zushr (zushr x47 1) 3) (v3 + 1)) n51 0 (20 + (Int.tmod (zushr (zushr x47 1) 6) 25)) 0 M55) ∧ ((Int.tmod (zushr x47 1) 2) = 1 → LX9_some_112 l P (c + 1) (n + (Int.tmod (zushr (zushr x47 1) 3) (v3 + 1)).toNat) v1 v3 r4 v5 v6 (zushr x47 1) (Int.tmod (zushr (zushr x47 1) 3) (v3 + 1)) n51 1 (10 + (Int.tmod (zushr (zushr x47 1) 6) 20)) 0 M55))))))))))) :
    LX9_some_25 l P c n v1 v3 r4 v5 v6 M :=
(aw_iload d_X9_some_25 rfl 5 rfl
(aw_iload d_X9_some_27 rfl 4 rfl
(have z12 := H0.1; have z13 := H0.2.1; have e14 := H0.2.2; aw_icmp_ge d_X9_some_29 rfl rfl z12 z13 (fun c15 => have e17 := e14.1 c15; (aw_aload d_X9_some_194 rfl 3 rfl (by decide)
(aw_aload_n d_X9_some_196 rfl rfl 0 rfl (by decide)
(aw_iload_n d_X9_some_197 rfl rfl 1 rfl
(aw_bipush d_X9_some_198 rfl (by decide)
(aw_iadd d_X9_some_200 rfl
(aw_SI (As := [zr 60 0, zi (v1 + 20)]) (st := [zr 64 r4]) d_X9_some_201 rfl cs9_107 ⟨Nat.le_of_ble_eq_true rfl, Nat.le_of_ble_eq_true rfl⟩ rfl rfl (Nat.le_of_ble_eq_true rfl) (Nat.le_of_ble_eq_true rfl) e17 (fun x21 M19 e20 => (aw_iconst d_X9_some_204 rfl
(aw_iushr d_X9_some_205 rfl zushr_h
(aw_iconst d_X9_some_206 rfl
(aw_irem d_X9_some_207 rfl zI_ushr (by decide) (by decide)
(have z22 := e20.1; have e23 := e20.2; aw_if_ne d_X9_some_208 rfl rfl z22 (fun c24 => have e26 := e23.1 c24; (aw_iconst d_X9_some_227 rfl
(aw_put (kc := 1) d_X9_some_228 rfl fp9_33 rfl rfl rfl rfl
(aw_nm fun M29 hqM29 => have e28 := e26 M29 hqM29; (aw_aload d_X9_some_231 rfl 3 rfl (by decide)
(aw_aload_n d_X9_some_233 rfl rfl 0 rfl (by decide)
(aw_iload_n d_X9_some_234 rfl rfl 1 rfl
(aw_bipush d_X9_some_235 rfl (by decide)
(aw_iadd d_X9_some_237 rfl
(aw_SI (As := [zr 60 0, zi (v1 + 21)]) (st := [zr 64 r4]) d_X9_some_238 rfl cs9_107 ⟨Nat.le_of_ble_eq_true rfl, Nat.le_of_ble_eq_true rfl⟩ rfl rfl (Nat.le_of_ble_eq_true rfl) (Nat.le_of_ble_eq_true rfl) e28 (fun x32 M30 e31 => (aw_iconst d_X9_some_241 rfl
(aw_iushr d_X9_some_242 rfl zushr_h
(aw_iconst d_X9_some_243 rfl
(aw_irem d_X9_some_244 rfl zI_ushr (by decide) (by decide)
(aw_put (kc := 2) d_X9_some_245 rfl fp9_36 rfl rfl rfl rfl
(aw_nm fun M34 hqM34 => have e33 := e31 M34 hqM34; (aw_aload d_X9_some_248 rfl 3 rfl (by decide)
(aw_rrn d_X9_some_250 rfl (Or.inl ⟨_, rfl⟩) (by decide) e33))))))))))))))))))) (fun c25 => have e27 := e23.2 c25; (aw_aload_n d_X9_some_211 rfl rfl 0 rfl (by decide)
(aw_iload_n d_X9_some_212 rfl rfl 1 rfl
(aw_bipush d_X9_some_213 rfl (by decide)
(aw_iadd d_X9_some_215 rfl
(aw_SI (As := [zr 60 0, zi (v1 + 20)]) (st := [zr 64 r4]) d_X9_some_216 rfl cs9_107 ⟨Nat.le_of_ble_eq_true rfl, Nat.le_of_ble_eq_true rfl⟩ rfl rfl (Nat.le_of_ble_eq_true rfl) (Nat.le_of_ble_eq_true rfl) e27 (fun x37 M35 e36 => (aw_iconst d_X9_some_219 rfl
(aw_iushr d_X9_some_220 rfl zushr_h
(aw_bipush d_X9_some_221 rfl (by decide)
(aw_irem d_X9_some_223 rfl zI_ushr (by decide) (by decide)
(aw_goto d_X9_some_224 rfl
(aw_put (kc := 1) d_X9_some_228 rfl fp9_33 rfl rfl rfl rfl
(aw_nm fun M39 hqM39 => have e38 := e36 M39 hqM39; (aw_aload d_X9_some_231 rfl 3 rfl (by decide)
(aw_aload_n d_X9_some_233 rfl rfl 0 rfl (by decide)
(aw_iload_n d_X9_some_234 rfl rfl 1 rfl
(aw_bipush d_X9_some_235 rfl (by decide)
(aw_iadd d_X9_some_237 rfl
(aw_SI (As := [zr 60 0, zi (v1 + 21)]) (st := [zr 64 r4]) d_X9_some_238 rfl cs9_107 ⟨Nat.le_of_ble_eq_true rfl, Nat.le_of_ble_eq_true rfl⟩ rfl rfl (Nat.le_of_ble_eq_true rfl) (Nat.le_of_ble_eq_true rfl) e38 (fun x42 M40 e41 => (aw_iconst d_X9_some_241 rfl
(aw_iushr d_X9_some_242 rfl zushr_h
(aw_iconst d_X9_some_243 rfl
(aw_irem d_X9_some_244 rfl zI_ushr (by decide) (by decide)
(aw_put (kc := 2) d_X9_some_245 rfl fp9_36 rfl rfl rfl rfl
(aw_nm fun M44 hqM44 => have e43 := e41 M44 hqM44; (aw_aload d_X9_some_248 rfl 3 rfl (by decide)
(aw_rrn d_X9_some_250 rfl (Or.inl ⟨_, rfl⟩) (by decide) e43)))))))))))))))))))))))))))))))))))))))))) (fun c16 => have e18 := e14.2 c16; (aw_aload_n d_X9_some_32 rfl rfl 0 rfl (by decide)
(aw_iload_n d_X9_some_33 rfl rfl 1 rfl
(aw_iconst d_X9_some_34 rfl
(aw_iadd d_X9_some_35 rfl
(aw_iload d_X9_some_36 rfl 5 rfl
(aw_iadd d_X9_some_38 rfl
(aw_SI (As := [zr 60 0, zi ((v1 + 1) + v6)]) (st := []) d_X9_some_39 rfl cs9_107 ⟨Nat.le_of_ble_eq_true rfl, Nat.le_of_ble_eq_true rfl⟩ rfl rfl (Nat.le_of_ble_eq_true rfl) (Nat.le_of_ble_eq_true rfl) e18 (fun x47 M45 e46 => (aw_iconst d_X9_some_42 rfl
(aw_iushr d_X9_some_43 rfl zushr_h
(aw_istore (lv' := [(7, zi (zushr x47 1)), (0, zr 60 0), (1, zi v1), (3, zi v3), (4, zr 64 r4), (5, zi v5), (6, zi v6)]) d_X9_some_44 rfl (by decide) rfl
(aw_iload d_X9_some_46 rfl 0 rfl
(aw_iconst d_X9_some_48 rfl
(aw_iushr d_X9_some_49 rfl zushr_h
(aw_iload_n d_X9_some_50 rfl rfl 3 rfl
(aw_iconst d_X9_some_51 rfl
(aw_iadd d_X9_some_52 rfl
(have z48 := e46.1; have z49 := e46.2.1; aw_irem d_X9_some_53 rfl zI_ushr z48 z49
(have e50 := e46.2.2; (aw_istore (lv' := [(8, zi (Int.tmod (zushr (zushr x47 1) 3) (v3 + 1))), (7, zi (zushr x47 1)), (0, zr 60 0), (1, zi v1), (3, zi v3), (4, zr 64 r4), (5, zi v5), (6, zi v6)]) d_X9_some_54 rfl (by decide) rfl
(aw_iload d_X9_some_56 rfl 0 rfl
(have z52 := e50.1; have z53 := e50.2.1; aw_newa (k := 75) d_X9_some_58 rfl zd75 (Or.inl ⟨rfl, rfl⟩) ac_int z52 (Or.inl rfl) z53
(fun n51 hqn51 => (aw_nm fun M55 hqM55 => have e54 := e50.2.2 n51 hqn51 M55 hqM55; (aw_astore (lv' := [(9, zr 75 n51), (8, zi (Int.tmod (zushr (zushr x47 1) 3) (v3 + 1))), (7, zi (zushr x47 1)), (0, zr 60 0), (1, zi v1), (3, zi v3), (4, zr 64 r4), (5, zi v5), (6, zi v6)]) (by decide) d_X9_some_60 rfl (by decide) rfl
(aw_iload d_X9_some_62 rfl 2 rfl
(aw_iconst d_X9_some_64 rfl
(aw_irem d_X9_some_65 rfl zI_ushr (by decide) (by decide)
(aw_iconst d_X9_some_66 rfl
(have z56 := e54.1; have e57 := e54.2; aw_icmp_ne d_X9_some_67 rfl rfl z56 (by decide) (fun c58 => have e60 := e57.1 c58; (aw_iconst d_X9_some_74 rfl
(aw_istore (lv' := [(10, zi 0), (9, zr 75 n51), (8, zi (Int.tmod (zushr (zushr x47 1) 3) (v3 + 1))), (7, zi (zushr x47 1)), (0, zr 60 0), (1, zi v1), (3, zi v3), (4, zr 64 r4), (5, zi v5), (6, zi v6)]) d_X9_some_75 rfl (by decide) rfl
(aw_iload d_X9_some_77 rfl 0 rfl
(aw_if_eq d_X9_some_79 rfl rfl (by decide) (fun _ => (aw_bipush d_X9_some_96 rfl (by decide)
(aw_iload d_X9_some_98 rfl 3 rfl
(aw_bipush d_X9_some_100 rfl (by decide)
(aw_iushr d_X9_some_102 rfl zushr_h
(aw_bipush d_X9_some_103 rfl (by decide)
(aw_irem d_X9_some_105 rfl zI_ushr (by decide) (by decide)
(aw_iadd d_X9_some_106 rfl
(aw_istore (lv' := [(11, zi (20 + (Int.tmod (zushr (zushr x47 1) 6) 25))), (10, zi 0), (9, zr 75 n51), (8, zi (Int.tmod (zushr (zushr x47 1) 3) (v3 + 1))), (7, zi (zushr x47 1)), (0, zr 60 0), (1, zi v1), (3, zi v3), (4, zr 64 r4), (5, zi v5), (6, zi v6)]) d_X9_some_107 rfl (by decide) rfl
(aw_iconst d_X9_some_109 rfl
(aw_istore (lv' := [(12, zi 0), (11, zi (20 + (Int.tmod (zushr (zushr x47 1) 6) 25))), (10, zi 0), (9, zr 75 n51), (8, zi (Int.tmod (zushr (zushr x47 1) 3) (v3 + 1))), (7, zi (zushr x47 1)), (0, zr 60 0), (1, zi v1), (3, zi v3), (4, zr 64 r4), (5, zi v5), (6, zi v6)]) d_X9_some_110 rfl (by decide) rfl
(aw_sub [6, 7, 8, 9, 10, 11, 5, 4, 3, 2, 1, 0] rfl e60)))))))))))) (fun c62 => absurd c62 (by decide))))))) (fun c59 => have e61 := e57.2 c59; (aw_iconst d_X9_some_70 rfl
(aw_goto d_X9_some_71 rfl
(aw_istore (lv' := [(10, zi 1), (9, zr 75 n51), (8, zi (Int.tmod (zushr (zushr x47 1) 3) (v3 + 1))), (7, zi (zushr x47 1)), (0, zr 60 0), (1, zi v1), (3, zi v3), (4, zr 64 r4), (5, zi v5), (6, zi v6)]) d_X9_some_75 rfl (by decide) rfl
(aw_iload d_X9_some_77 rfl 0 rfl
(aw_if_eq d_X9_some_79 rfl rfl (by decide) (fun c63 => absurd c63 (by decide)) (fun _ => (aw_bipush d_X9_some_82 rfl (by decide)
(aw_iload d_X9_some_84 rfl 3 rfl
(aw_bipush d_X9_some_86 rfl (by decide)
(aw_iushr d_X9_some_88 rfl zushr_h
(aw_bipush d_X9_some_89 rfl (by decide)
(aw_irem d_X9_some_91 rfl zI_ushr (by decide) (by decide)
(aw_iadd d_X9_some_92 rfl
(aw_goto d_X9_some_93 rfl
(aw_istore (lv' := [(11, zi (10 + (Int.tmod (zushr (zushr x47 1) 6) 20))), (10, zi 1), (9, zr 75 n51), (8, zi (Int.tmod (zushr (zushr x47 1) 3) (v3 + 1))), (7, zi (zushr x47 1)), (0, zr 60 0), (1, zi v1), (3, zi v3), (4, zr 64 r4), (5, zi v5), (6, zi v6)]) d_X9_some_107 rfl (by decide) rfl
(aw_iconst d_X9_some_109 rfl
(aw_istore (lv' := [(12, zi 0), (11, zi (10 + (Int.tmod (zushr (zushr x47 1) 6) 20))), (10, zi 1), (9, zr 75 n51), (8, zi (Int.tmod (zushr (zushr x47 1) 3) (v3 + 1))), (7, zi (zushr x47 1)), (0, zr 60 0), (1, zi v1), (3, zi v3), (4, zr 64 r4), (5, zi v5), (6, zi v6)]) d_X9_some_110 rfl (by decide) rfl
(aw_sub [6, 7, 8, 9, 10, 11, 5, 4, 3, 2, 1, 0] rfl e61)))))))))))))))))))))))))))))))))))))))))))))))))))))
theorem vX9_some_112 {l : Launch} {P : Nat → zM → Prop} {c n : Nat} {v1 : Int} {v3 : Int} {r4 : Nat} {v5 : Int} {v6 : Int} {v7 : Int} {v8 : Int} {r9 : Nat} {v10 : Int} {v11 : Int} {v12 : Int} {M : zM}
    (H0 : (zI v12 ∧ zI v8 ∧ ((v8 ≤ v12 → (zI (Int.tmod (zushr v7 1) 4) ∧ (((Int.tmod (zushr v7 1) 4) ≠ 0 → (CV l m_X9_comes [zr 64 r4, zi v10, zi 0, zr 75 r9] M (fun M77 => LX9_some_25 l P c n v1 v3 r4 v5 (v6 + 1) M77))) ∧ ((Int.tmod (zushr v7 1) 4) = 0 → (CV l m_X9_comes [zr 64 r4, zi v10, zi 1, zr 75 r9] M (fun M79 => LX9_some_25 l P c n v1 v3 r4 v5 (v6 + 1) M79)))))) ∧ (v12 < v8 → ((0 ≤ v12 ∧ v12 < M 75 r9 (-1) ∧ M 75 r9 (-1) ≤ 1000000) ∧ ∀ M83 : zM, M83 = zu M 75 r9 v12 v11 → (zI v10 ∧ ((v10 = 0 → (zI (v11 + ((-1) * (Int.tmod (zushr v7 (12 + (3 * v12))) 6))) ∧ LX9_some_112 l P c n v1 v3 r4 v5 v6 v7 v8 r9 v10 (max 0 (v11 + ((-1) * (Int.tmod (zushr v7 (12 + (3 * v12))) 6)))) (v12 + 1) M83)) ∧ (v10 ≠ 0 → (zI (v11 + (1 * (Int.tmod (zushr v7 (12 + (3 * v12))) 6))) ∧ LX9_some_112 l P c n v1 v3 r4 v5 v6 v7 v8 r9 v10 (max 0 (v11 + (1 * (Int.tmod (zushr v7 (12 + (3 * v12))) 6)))) (v12 + 1) M83))))))))) :
    LX9_some_112 l P c n v1 v3 r4 v5 v6 v7 v8 r9 v10 v11 v12 M :=
(aw_iload d_X9_some_112 rfl 11 rfl
(aw_iload d_X9_some_114 rfl 7 rfl
(have z64 := H0.1; have z65 := H0.2.1; have e66 := H0.2.2; aw_icmp_ge d_X9_some_116 rfl rfl z64 z65 (fun c67 => have e69 := e66.1 c67; (aw_aload d_X9_some_165 rfl 3 rfl (by decide)
(aw_iload d_X9_some_167 rfl 9 rfl
(aw_iload d_X9_some_169 rfl 6 rfl
(aw_iconst d_X9_some_171 rfl
(aw_iushr d_X9_some_172 rfl zushr_h
(aw_iconst d_X9_some_173 rfl
(aw_irem d_X9_some_174 rfl zI_ushr (by decide) (by decide)
(have z71 := e69.1; have e72 := e69.2; aw_if_ne d_X9_some_175 rfl rfl z71 (fun c73 => have e75 := e72.1 c73; (aw_iconst d_X9_some_182 rfl
(aw_aload d_X9_some_183 rfl 8 rfl (by decide)
(aw_VV (As := [zi v10, zi 0, zr 75 r9]) (st := []) d_X9_some_185 rfl cv9_119 ⟨Nat.le_of_ble_eq_true rfl, Nat.le_of_ble_eq_true rfl⟩ rfl rfl (Nat.le_of_ble_eq_true rfl) (Nat.le_of_ble_eq_true rfl) e75 (fun M77 e78 => (aw_iinc (lv' := [(6, zi (v6 + 1)), (0, zr 60 0), (1, zi v1), (3, zi v3), (4, zr 64 r4), (5, zi v5), (7, zi v7), (8, zi v8), (9, zr 75 r9), (10, zi v10), (11, zi v11), (12, zi v12)]) (y := (v6 + 1)) d_X9_some_188 rfl 5 rfl (by decide) rfl rfl
(aw_goto d_X9_some_191 rfl
(aw_sub [1, 2, 3, 4, 5, 0] rfl e78)))))))) (fun c74 => have e76 := e72.2 c74; (aw_iconst d_X9_some_178 rfl
(aw_goto d_X9_some_179 rfl
(aw_aload d_X9_some_183 rfl 8 rfl (by decide)
(aw_VV (As := [zi v10, zi 1, zr 75 r9]) (st := []) d_X9_some_185 rfl cv9_119 ⟨Nat.le_of_ble_eq_true rfl, Nat.le_of_ble_eq_true rfl⟩ rfl rfl (Nat.le_of_ble_eq_true rfl) (Nat.le_of_ble_eq_true rfl) e76 (fun M79 e80 => (aw_iinc (lv' := [(6, zi (v6 + 1)), (0, zr 60 0), (1, zi v1), (3, zi v3), (4, zr 64 r4), (5, zi v5), (7, zi v7), (8, zi v8), (9, zr 75 r9), (10, zi v10), (11, zi v11), (12, zi v12)]) (y := (v6 + 1)) d_X9_some_188 rfl 5 rfl (by decide) rfl rfl
(aw_goto d_X9_some_191 rfl
(aw_sub [1, 2, 3, 4, 5, 0] rfl e80)))))))))))))))))) (fun c68 => have e70 := e66.2 c68; (aw_aload d_X9_some_119 rfl 8 rfl (by decide)
(aw_iload d_X9_some_121 rfl 11 rfl
(aw_iload d_X9_some_123 rfl 10 rfl
(have z81 := e70.1; aw_iastG d_X9_some_125 rfl zd75.G (zix_d rfl z81)
(aw_nm fun M83 hqM83 => have e82 := e70.2 M83 hqM83; (aw_iconst d_X9_some_126 rfl
(aw_iload d_X9_some_127 rfl 10 rfl
(aw_iload d_X9_some_129 rfl 9 rfl
(have z84 := e82.1; have e85 := e82.2; aw_if_eq d_X9_some_131 rfl rfl z84 (fun c86 => have e88 := e85.1 c86; (aw_iconst d_X9_some_138 rfl
(aw_iload d_X9_some_139 rfl 6 rfl
(aw_bipush d_X9_some_141 rfl (by decide)
(aw_iconst d_X9_some_143 rfl
(aw_iload d_X9_some_144 rfl 11 rfl
(aw_imul d_X9_some_146 rfl
(aw_iadd d_X9_some_147 rfl
(aw_iushr d_X9_some_148 rfl zushr_h
(aw_bipush d_X9_some_149 rfl (by decide)
(aw_irem d_X9_some_151 rfl zI_ushr (by decide) (by decide)
(aw_imul d_X9_some_152 rfl
(aw_iadd d_X9_some_153 rfl
(have z90 := e88.1; aw_max d_X9_some_154 rfl cm9_113 ⟨Nat.le_of_ble_eq_true rfl, Nat.le_of_ble_eq_true rfl⟩ (by decide) z90
(have e91 := e88.2; (aw_istore (lv' := [(11, zi (max 0 (v11 + ((-1) * (Int.tmod (zushr v7 (12 + (3 * v12))) 6))))), (0, zr 60 0), (1, zi v1), (3, zi v3), (4, zr 64 r4), (5, zi v5), (6, zi v6), (7, zi v7), (8, zi v8), (9, zr 75 r9), (10, zi v10), (12, zi v12)]) d_X9_some_157 rfl (by decide) rfl
(aw_iinc (lv' := [(12, zi (v12 + 1)), (11, zi (max 0 (v11 + ((-1) * (Int.tmod (zushr v7 (12 + (3 * v12))) 6))))), (0, zr 60 0), (1, zi v1), (3, zi v3), (4, zr 64 r4), (5, zi v5), (6, zi v6), (7, zi v7), (8, zi v8), (9, zr 75 r9), (10, zi v10)]) (y := (v12 + 1)) d_X9_some_159 rfl 11 rfl (by decide) rfl rfl
(aw_goto d_X9_some_162 rfl
(aw_sub [2, 3, 4, 5, 6, 7, 8, 9, 10, 11, 1, 0] rfl e91))))))))))))))))))) (fun c87 => have e89 := e85.2 c87; (aw_iconst d_X9_some_134 rfl
(aw_goto d_X9_some_135 rfl
(aw_iload d_X9_some_139 rfl 6 rfl
(aw_bipush d_X9_some_141 rfl (by decide)
(aw_iconst d_X9_some_143 rfl
(aw_iload d_X9_some_144 rfl 11 rfl
(aw_imul d_X9_some_146 rfl
(aw_iadd d_X9_some_147 rfl
(aw_iushr d_X9_some_148 rfl zushr_h
(aw_bipush d_X9_some_149 rfl (by decide)
(aw_irem d_X9_some_151 rfl zI_ushr (by decide) (by decide)
(aw_imul d_X9_some_152 rfl
(aw_iadd d_X9_some_153 rfl
(have z92 := e89.1; aw_max d_X9_some_154 rfl cm9_113 ⟨Nat.le_of_ble_eq_true rfl, Nat.le_of_ble_eq_true rfl⟩ (by decide) z92
(have e93 := e89.2; (aw_istore (lv' := [(11, zi (max 0 (v11 + (1 * (Int.tmod (zushr v7 (12 + (3 * v12))) 6))))), (0, zr 60 0), (1, zi v1), (3, zi v3), (4, zr 64 r4), (5, zi v5), (6, zi v6), (7, zi v7), (8, zi v8), (9, zr 75 r9), (10, zi v10), (12, zi v12)]) d_X9_some_157 rfl (by decide) rfl
(aw_iinc (lv' := [(12, zi (v12 + 1)), (11, zi (max 0 (v11 + (1 * (Int.tmod (zushr v7 (12 + (3 * v12))) 6))))), (0, zr 60 0), (1, zi v1), (3, zi v3), (4, zr 64 r4), (5, zi v5), (6, zi v6), (7, zi v7), (8, zi v8), (9, zr 75 r9), (10, zi v10)]) (y := (v12 + 1)) d_X9_some_159 rfl 11 rfl (by decide) rfl rfl
(aw_goto d_X9_some_162 rfl
(aw_sub [2, 3, 4, 5, 6, 7, 8, 9, 10, 11, 1, 0] rfl e93)))))))))))))))))))))))))))))))))
theorem vX9_some {l : Launch} {P : Nat → zM → Prop} {v1 : Int} {v2 : Int} {v3 : Int} {M : zM}
    (H0 : (∀ n1 : Nat, (n1 : Int) = M 97 0 64 → ∀ M3 : zM, M3 = zmk M 64 n1 0 → (CVn l m_X9_init 5 105 [zr 64 n1] M3 (fun M4 => (CI l m_L_cell [zr 60 0, zi v1] M4 (fun x8 M6 => (zI v2 ∧ v2 ≠ 0 ∧ LX9_some_25 l P ((0 + 1) + 5) ((0 + 12) + 105) v1 v3 n1 (2 + (Int.tmod (zushr x8 1) v2)) 0 M6))))))) :
    CRn l m_X9_some 64 13 138 [zr 60 0, zi v1, zi v2, zi v3] M P :=
(aw_new (k := 64) (n := 12) d_X9_some_0 rfl nw9_8 ⟨Nat.le_of_ble_eq_true rfl, Nat.le_of_ble_eq_true rfl⟩
(fun n1 hqn1 => (aw_nm fun M3 hqM3 => have e2 := H0 n1 hqn1 M3 hqM3; (aw_dup d_X9_some_3 rfl rfl
(aw_NVn (As := []) (st := [zr 64 n1]) d_X9_some_4 rfl cn9_28 ⟨Nat.le_of_ble_eq_true rfl, Nat.le_of_ble_eq_true rfl⟩ ⟨Nat.le_of_ble_eq_true rfl, Nat.le_of_ble_eq_true rfl⟩ rfl rfl (Nat.le_of_ble_eq_true rfl) (Nat.le_of_ble_eq_true rfl) e2 (fun M4 e5 => (aw_astore (lv' := [(4, zr 64 n1), (0, zr 60 0), (1, zi v1), (2, zi v2), (3, zi v3)]) (by decide) d_X9_some_7 rfl (by decide) rfl
(aw_iconst d_X9_some_9 rfl
(aw_aload_n d_X9_some_10 rfl rfl 1 rfl (by decide)
(aw_iload_n d_X9_some_11 rfl rfl 2 rfl
(aw_SI (As := [zr 60 0, zi v1]) (st := [zi 2]) d_X9_some_12 rfl cs9_107 ⟨Nat.le_of_ble_eq_true rfl, Nat.le_of_ble_eq_true rfl⟩ rfl rfl (Nat.le_of_ble_eq_true rfl) (Nat.le_of_ble_eq_true rfl) e5 (fun x8 M6 e7 => (aw_iconst d_X9_some_15 rfl
(aw_iushr d_X9_some_16 rfl zushr_h
(aw_iload_n d_X9_some_17 rfl rfl 3 rfl
(have z9 := e7.1; have z10 := e7.2.1; aw_irem d_X9_some_18 rfl zI_ushr z9 z10
(have e11 := e7.2.2; (aw_iadd d_X9_some_19 rfl
(aw_istore (lv' := [(5, zi (2 + (Int.tmod (zushr x8 1) v2))), (4, zr 64 n1), (0, zr 60 0), (1, zi v1), (2, zi v2), (3, zi v3)]) d_X9_some_20 rfl (by decide) rfl
(aw_iconst d_X9_some_22 rfl
(aw_istore (lv' := [(6, zi 0), (5, zi (2 + (Int.tmod (zushr x8 1) v2))), (4, zr 64 n1), (0, zr 60 0), (1, zi v1), (2, zi v2), (3, zi v3)]) d_X9_some_23 rfl (by decide) rfl
(aw_sub [3, 4, 6, 2, 1, 0] rfl e11))))))))))))))))))))))
/-- how far a trader's units are -/
def sU (s k : Int) (F : Int → Int) (u v : Int) : Prop := (∀ i, 0 ≤ i ∧ i < u → 0 ≤ F i ∧ F i ≤ 60) ∧ (∀ i, 0 ≤ i ∧ i + 1 < u → (s = 0 → F (i + 1) ≤ F i) ∧ (s = 1 → F i ≤ F (i + 1))) ∧ (0 < u → (s = 0 → v ≤ F (u - 1)) ∧ (s = 1 → F (u - 1) ≤ v)) ∧ (0 ≤ v ∧ v ≤ 44 + 5 * u) ∧ (s = 1 → v ≤ 29 + 5 * u) ∧ (s = 0 → v ≤ 44) ∧ (u ≤ k ∧ 0 ≤ k ∧ k ≤ 3)
theorem sU.nx {s k v v' : Int} {F F' : Int → Int} {u : Int} (h : sU s k F u v) (hs : s = 0 ∨ s = 1) (hu : 0 ≤ u ∧ u < k) (e : ∀ i, F' i = if i = u then v else F i) (h0 : 0 ≤ v') (h1 : s = 0 → v' ≤ v) (h2 : s = 1 → v ≤ v' ∧ v' ≤ v + 5) : sU s k F' (u + 1) v' := by
  obtain ⟨a1, a2, a3, a4, a5, a6, a7⟩ := h
  have en : F' u = v := by rw [e, if_pos rfl]
  have eo : ∀ i, i ≠ u → F' i = F i := fun i hi => by rw [e, if_neg hi]
  refine ⟨fun i hi => ?_, fun i hi => ?_, fun _ => ?_, ?_, fun c => ?_, fun c => ?_, by omega⟩
  · by_cases c : i = u
    · rw [c, en]
      rcases hs with q | q
      · have := a6 q; omega
      · have := a5 q; omega
    · rw [eo i c]; exact a1 i (by omega)
  · by_cases c : i + 1 = u
    · rw [c, en, eo i (by omega)]
      have := a3 (by omega)
      rw [show u - 1 = i by omega] at this
      exact this
    · rw [eo i (by omega), eo (i + 1) c]; exact a2 i (by omega)
  · rw [show u + 1 - 1 = u by omega, en]
    exact ⟨h1, fun c => (h2 c).1⟩
  · rcases hs with q | q
    · have := h1 q; omega
    · have := h2 q; omega
  · have := h2 c; have := a5 c; omega
  · have := h1 c; have := a6 c; omega
theorem some_112 {c n t : Nat} {B : zM} {v1 v7 k s : Int} {a r : Nat} {N : Int} {S : zS} (y : zSy M) (I : sI M B a S) (G : sG S t) (ht : (t : Int) < N ∧ N ≤ 7) (hr : (r : Int) = B 97 0 75) (hs : s = 0 ∨ s = 1)
    (nx : ∀ M2 S2, sI M M2 a S2 → sG S2 (t + 1) → qfee S2 = qfee S → LX9_some_25 l (someP M) c n v1 3 a N ((t : Int) + 1) M2) :
    ∀ (f u : Nat) (v : Int) (M1 : zM), u + f = k.toNat → Gr [75] B M1 → (r : Int) < M1 97 0 75 → M1 75 r (-1) = k → sU s k (M1 75 r) u v → LX9_some_112 l (someP M) c n v1 3 a N t v7 k r s v u M1 := by
  intro f
  induction f with
  | zero =>
    intro u v M1 hu g hr1 hl U
    have hk := U.2.2.2.2.2.2
    have hu' : (u : Int) = k := by omega
    have w1 := I.2.2.2.2.ke g.ke
    have h0 := tmod_b (x := zushr v7 1) (m := 4) (zus_nn (k := 1) (by decide)) (by decide)
    have I1 : sI M M1 a S := by
      refine ⟨I.1.tr (g.mono (by decide)), ⟨?_, ?_, ?_, ?_⟩, I.2.2.1, ?_, w1⟩
      · exact (g.2.2.2 70 (by decide)).trans (I.2.1.1.trans (g.2.2.2 64 (by decide)).symm)
      · exact (g.2.2.2 71 (by decide)).trans (I.2.1.2.1.trans (g.2.2.2 64 (by decide)).symm)
      · exact (g.2.2.2 72 (by decide)).trans (I.2.1.2.2.1.trans (g.2.2.2 64 (by decide)).symm)
      · exact (g.2.2.2 73 (by decide)).trans (I.2.1.2.2.2.trans (g.2.2.2 64 (by decide)).symm)
      · rw [g.2.1 64 a (by decide) I.2.2.2.2.1.1.1]; exact I.2.2.2.1
    have fin : ∀ gg : Int, gg = 0 ∨ gg = 1 → CV l m_X9_comes [zr 64 a, zi s, zi gg, zr 75 r] M1 (fun M79 => LX9_some_25 l (someP M) c n v1 3 a N ((t : Int) + 1) M79) := by
      intro gg hg
      refine (c_comes w1 (by rw [G.1]; omega) hs hr1 (by rw [hl]; omega)).mono ?_
      rintro M2 ⟨X, e11, w2⟩
      have hge : M 97 0 64 ≤ (a : Int) := Int.le_of_eq I.2.2.1.symm
      have e97 : M2 97 0 = M1 97 0 := X 97 0 (by omega) (by omega)
      refine nx M2 _ ⟨X.gr I1.1 (y.le hge) (by rw [lU_v w1.1]; exact I1.2.2.2.1), by unfold zSy; rw [e97]; exact I1.2.1, I.2.2.1, by rw [e11]; exact I1.2.2.2.1, w2⟩ (G.cm (by omega) hs hg (by rw [hl]; omega) (fun i hi => U.1 i (by omega)) (fun i hi => U.2.1 i (by omega))) (show (if (1 : Int) = 0 then qn S + 1 else qsc S 1) = qsc S 1 from if_neg (by decide))
    refine vX9_some_112 ⟨by omega, by omega, fun _ => ⟨by omega, fun _ => fin 0 (Or.inl rfl), fun _ => fin 1 (Or.inr rfl)⟩, fun q => absurd q (by omega)⟩
  | succ f ih =>
    intro u v M1 hu g hr1 hl U
    have hk := U.2.2.2.2.2.2
    have hv := U.2.2.2.1
    have hq : 0 ≤ Int.tmod (zushr v7 (12 + (3 * (u : Int)))) 6 ∧ Int.tmod (zushr v7 (12 + (3 * (u : Int)))) 6 < 6 := by
      refine tmod_b ?_ (by decide)
      have := zus_nn (x := v7) (k := 12 + 3 * u) (by omega)
      rwa [show ((12 + 3 * u : Nat) : Int) = 12 + 3 * (u : Int) by omega] at this
    refine vX9_some_112 ⟨by omega, by omega, fun q => absurd q (by omega), fun _ => ⟨by rw [hl]; omega, fun M2 e2 => ⟨by omega, fun q => ⟨by omega, ?_⟩, fun q => ⟨by omega, ?_⟩⟩⟩⟩
    · have := ih (u + 1) (max 0 (v + (-1) * Int.tmod (zushr v7 (12 + (3 * (u : Int)))) 6)) M2 (by omega) (by rw [e2]; exact g.zu (by decide) (Int.le_of_eq hr.symm)) (by rw [e2, zu_n (by omega)]; exact hr1) (by rw [e2, zu_n (by omega)]; exact hl)
        (U.nx hs (by omega) (fun i => by rw [e2, zu_w]) (by omega) (fun _ => by omega) (fun z => by omega))
      exact this
    · have := ih (u + 1) (max 0 (v + 1 * Int.tmod (zushr v7 (12 + (3 * (u : Int)))) 6)) M2 (by omega) (by rw [e2]; exact g.zu (by decide) (Int.le_of_eq hr.symm)) (by rw [e2, zu_n (by omega)]; exact hr1) (by rw [e2, zu_n (by omega)]; exact hl)
        (U.nx hs (by omega) (fun i => by rw [e2, zu_w]) (by omega) (fun z => absurd z q) (fun z => by omega))
      exact this
theorem sI.fld {M1 M2 : zM} {a : Nat} {S : zS} {j x : Int} (I : sI M M1 a S) (hj : 1 ≤ j ∧ j < 7) (e : M2 = zu M1 64 a j x) : sI M M2 a (sSc S j x) := by
  have w := I.2.2.2.2.fld hj e
  have e97 : M2 97 0 = M1 97 0 := by rw [e]; exact zu_o _ _ (nk (by decide))
  exact ⟨by rw [e]; exact I.1.zu (by decide) (Int.le_of_eq I.2.2.1.symm), by unfold zSy; rw [e97]; exact I.2.1, I.2.2.1, by rw [w.2]; exact I.2.2.2.1, w.1⟩
theorem some_25 {v1 N : Int} {a : Nat} (y : zSy M) (h1 : 0 ≤ v1 ∧ v1 ≤ 1000) (hN : 2 ≤ N ∧ N ≤ 7) : ∀ (f t n : Nat) (M1 : zM) (S : zS), t + f = N.toNat → n ≤ 117 + 3 * t → sI M M1 a S → sG S t → qfee S = 0 → LX9_some_25 l (someP M) (6 + t) n v1 3 a N t M1 := by
  intro f
  induction f with
  | zero =>
    intro t n M1 S ht hn I G hF
    have last : ∀ M2 x, sI M M2 a (sSc S 1 x) → 0 ≤ x ∧ x ≤ 5 → CI l m_L_cell [zr 60 0, zi (v1 + 21)] M2 (fun x32 M30 => (∀ M34 : zM, M34 = zu M30 64 a 2 (Int.tmod (zushr x32 1) 4) → someP M a M34)) := by
      intro M2 x I2 hx
      refine (c_L_cell (by omega)).mono ?_
      rintro z _ ⟨hz, rfl⟩ M4 e4
      have h0 := tmod_b (x := zushr z 1) (m := 4) (zus_nn (k := 1) (by decide)) (by decide)
      exact ⟨_, N, I2.fld (by decide) e4, hN, (show (t : Int) = N by omega) ▸ (G.sc (.inl rfl)).sc (.inr rfl), ⟨hx.1, hx.2⟩, ⟨h0.1, by show Int.tmod (zushr z 1) 4 ≤ 3; omega⟩⟩
    refine vX9_some_25 ⟨by omega, by omega, fun _ => ?_, fun q => absurd q (by omega)⟩
    refine (c_L_cell (by omega)).mono ?_
    rintro x _ ⟨hx, rfl⟩
    have h0 := tmod_b (x := zushr x 1) (m := 3) (zus_nn (k := 1) (by decide)) (by decide)
    refine ⟨by omega, fun _ M2 e2 => last M2 0 (I.fld (by decide) e2) (by decide), fun _ => (c_L_cell (by omega)).mono ?_⟩
    rintro x2 M3 ⟨hx2, rfl⟩ M2 e2
    have h2 := tmod_b (x := zushr x2 4) (m := 6) (zus_nn (k := 4) (by decide)) (by decide)
    exact last M2 _ (I.fld (by decide) e2) (by omega)
  | succ f ih =>
    intro t n M1 S ht hn I G hF
    refine vX9_some_25 ⟨by omega, by omega, fun q => absurd q (by omega), fun _ => ?_⟩
    refine (c_L_cell (by omega)).mono ?_
    rintro x M2 ⟨hx, rfl⟩
    have k0 := tmod_b (x := zushr (zushr x 1) 3) (m := 3 + 1) (zus_nn (k := 3) (by decide)) (by decide)
    have h2 := tmod_b (x := zushr x 1) (m := 2) (zus_nn (k := 1) (by decide)) (by decide)
    have h25 := tmod_b (x := zushr (zushr x 1) 6) (m := 25) (zus_nn (k := 6) (by decide)) (by decide)
    have h20 := tmod_b (x := zushr (zushr x 1) 6) (m := 20) (zus_nn (k := 6) (by decide)) (by decide)
    refine ⟨by omega, by omega, by omega, by omega, fun r hr M3 e3 => ⟨by omega, ?_⟩⟩
    have g : Gr [75] M2 M3 := by rw [e3]; exact Gr.mk (by decide) (by decide) hr
    have hr1 : (r : Int) < M3 97 0 75 := by
      have : M3 97 0 75 = (r : Int) + 1 := by rw [e3]; exact zmk_c
      omega
    have hl : M3 75 r (-1) = Int.tmod (zushr (zushr x 1) 3) (3 + 1) := by rw [e3]; exact zmk_l (by decide)
    have go : ∀ s v : Int, s = 0 ∨ s = 1 → sU s (Int.tmod (zushr (zushr x 1) 3) (3 + 1)) (M3 75 r) ((0 : Nat) : Int) v → LX9_some_112 l (someP M) (6 + t + 1) (n + (Int.tmod (zushr (zushr x 1) 3) (3 + 1)).toNat) v1 3 a N t (zushr x 1) (Int.tmod (zushr (zushr x 1) 3) (3 + 1)) r s v ((0 : Nat) : Int) M3 := fun s v hs U =>
      some_112 y I G (by omega) hr hs (fun M4 S4 I4 G4 F4 => by
        have := ih (t + 1) (n + (Int.tmod (zushr (zushr x 1) 3) (3 + 1)).toNat) M4 S4 (by omega) (by omega) I4 (by rw [show ((t + 1 : Nat) : Int) = (t : Int) + 1 by omega]; exact G4) (F4.trans hF)
        rw [show ((t + 1 : Nat) : Int) = (t : Int) + 1 by omega] at this
        exact this) (Int.tmod (zushr (zushr x 1) 3) (3 + 1)).toNat 0 v M3 (by omega) g hr1 hl U
    refine ⟨fun _ => go 0 _ (.inl rfl) ?_, fun _ => go 1 _ (.inr rfl) ?_⟩
    · exact ⟨fun i hi => by omega, fun i hi => by omega, fun z => by omega, by omega, fun z => by omega, fun _ => by omega, by omega⟩
    · exact ⟨fun i hi => by omega, fun i hi => by omega, fun z => by omega, by omega, fun z => by omega, fun _ => by omega, by omega⟩
theorem c_some {v1 : Int} (y : zSy M) (h1 : 0 ≤ v1 ∧ v1 ≤ 1000) : CRn l m_X9_some 64 13 138 [zr 60 0, zi v1, zi 6, zi 3] M (someP M) := by
  refine vX9_some fun a ha M1 e1 => ?_
  have n1 : ∀ q : Int, q ≠ 64 → M1 97 0 q = M 97 0 q := fun q hq => by rw [e1]; exact zmk_n (by decide) hq
  refine (c_X9_init (h := a) ((n1 70 (by decide)).trans (y.1.trans ha.symm)) ((n1 71 (by decide)).trans (y.2.1.trans ha.symm)) ((n1 72 (by decide)).trans (y.2.2.1.trans ha.symm)) ((n1 73 (by decide)).trans (y.2.2.2.trans ha.symm))).mono ?_
  intro M2 hi
  obtain ⟨g2, y2, u2, w2⟩ := hall_0 y ha e1 hi
  refine (c_L_cell (by omega)).mono ?_
  rintro x _ ⟨hx, rfl⟩
  have h6 := tmod_b (x := zushr x 1) (m := 6) (zus_nn (k := 1) (by decide)) (by decide)
  exact ⟨by omega, by decide, some_25 y h1 (by omega) (2 + Int.tmod (zushr x 1) 6).toNat 0 117 _ zE (by omega) (by omega) ⟨g2.mono (by decide), y2, ha, u2, w2⟩ sG_0 rfl⟩
end
