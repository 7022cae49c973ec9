/-! ===== the law's hall changes: frames; closes ===== -/
def Hx (M M' : zM) (h : Nat) : Prop := (∀ k i, ¬ (64 ≤ k ∧ k < 96) → k ≠ 97 → M' k i = M k i) ∧ (∀ (k i : Nat), (64 ≤ k ∧ k < 96) → (i : Int) < M 97 0 k → ¬ ((k = 64 ∨ (70 ≤ k ∧ k ≤ 73)) ∧ i = h) → ¬ (k = 74 ∧ i = lU M h) → M' k i = M k i) ∧ (∀ q : Int, M 97 0 q ≤ M' 97 0 q) ∧ M' 64 h 11 = M 64 h 11
theorem Hx.rf {M : zM} {h : Nat} : Hx M M h := ⟨fun _ _ _ _ => rfl, fun _ _ _ _ _ _ => rfl, fun _ => Int.le_refl _, rfl⟩
theorem Hx.u {M M' : zM} {h : Nat} (x : Hx M M' h) : lU M' h = lU M h := by unfold lU; rw [x.2.2.2]
theorem Hx.tr {M M1 M2 : zM} {h : Nat} (a : Hx M M1 h) (b : Hx M1 M2 h) : Hx M M2 h :=
  ⟨fun k i h1 h2 => (b.1 k i h1 h2).trans (a.1 k i h1 h2), fun k i h1 h2 h3 h4 => (b.2.1 k i h1 (Int.lt_of_lt_of_le h2 (a.2.2.1 _)) h3 (by rw [a.u]; exact h4)).trans (a.2.1 k i h1 h2 h3 h4), fun q => Int.le_trans (a.2.2.1 q) (b.2.2.1 q), b.2.2.2.trans a.2.2.2⟩
theorem Gr.hx {K : List Nat} {M M' : zM} {h : Nat} (g : Gr K M M') (hh : (h : Int) < M 97 0 64) : Hx M M' h := ⟨g.1, fun k i h1 h2 _ _ => g.2.1 k i h1 h2, g.2.2.1, by rw [g.2.1 64 h (by decide) hh]⟩
theorem Kx.hx {M M' : zM} {h : Nat} (x : Kx M M' h) (e : M' 64 h 11 = M 64 h 11) : Hx M M' h := by
  have e97 : M' 97 0 = M 97 0 := x 97 0 (by omega) (by omega)
  exact ⟨fun k i h1 h2 => x k i (by omega) (by omega), fun k i h1 h2 h3 h4 => x k i h3 h4, fun q => by rw [e97]; exact Int.le_refl _, e⟩
theorem Hx.zu {M M1 M2 : zM} {h k i : Nat} {j x : Int} (a : Hx M M1 h) (e : M2 = zu M1 k i j x) (hk : (k = 64 ∧ i = h ∧ j ≠ 11) ∨ ((70 ≤ k ∧ k ≤ 73) ∧ i = h) ∨ (k = 74 ∧ i = lU M h)) : Hx M M2 h := by
  have o : ∀ k' i', ¬ (k' = k ∧ i' = i) → M2 k' i' = M1 k' i' := fun k' i' z => by rw [e]; exact zu_o k' i' z
  have e97 : M2 97 0 = M1 97 0 := o 97 0 (by omega)
  refine ⟨fun k' i' h1 h2 => (o k' i' (by omega)).trans (a.1 k' i' h1 h2), fun k' i' h1 h2 h3 h4 => (o k' i' ?_).trans (a.2.1 k' i' h1 h2 h3 h4), fun q => by rw [e97]; exact a.2.2.1 q, ?_⟩
  · rintro ⟨rfl, rfl⟩
    rcases hk with ⟨q1, q2, -⟩ | ⟨q1, q2⟩ | q
    · exact h3 ⟨.inl q1, q2⟩
    · exact h3 ⟨.inr q1, q2⟩
    · exact h4 q
  · rw [e, zu_n, a.2.2.2]
    omega
theorem lH.cells {M M' : zM} {b : Nat} {S : zS} (w : lH M b S) (h64 : M' 64 b = M 64 b) (h70 : M' 70 b = M 70 b) (h71 : M' 71 b = M 71 b) (h72 : M' 72 b = M 72 b) (h73 : M' 73 b = M 73 b) (h74 : M' 74 (lU M b) = M 74 (lU M b)) (h75 : ∀ t, 0 ≤ t ∧ t < qn S → M' 75 (lR M b t) = M 75 (lR M b t)) (c : ∀ q : Int, M 97 0 q ≤ M' 97 0 q) : lH M' b S := by
  have en := w.n
  obtain ⟨w0, wS⟩ := w
  obtain ⟨⟨a1, a2, a3, a4, a5⟩, b1, c1, d, e, f⟩ := id w0
  have eU : lU M' b = lU M b := by unfold lU; rw [h64]
  have eR : ∀ t, lR M' b t = lR M b t := fun t => by unfold lR; rw [eU, h74]
  refine ⟨⟨⟨Int.lt_of_lt_of_le a1 (c _), Int.lt_of_lt_of_le a2 (c _), Int.lt_of_lt_of_le a3 (c _), Int.lt_of_lt_of_le a4 (c _), Int.lt_of_lt_of_le a5 (c _)⟩, by rw [h64]; exact b1, ⟨by rw [h64]; exact c1.1, by rw [h64]; exact Int.lt_of_lt_of_le c1.2 (c _)⟩, by rw [h64]; exact d, by rw [h70]; exact e, fun t ht => ?_⟩, ?_⟩
  · rw [h64] at ht
    rw [eU, h74, eR, h75 t (by rw [← en]; exact ht)]
    exact ⟨⟨(f t ht).1.1, Int.lt_of_lt_of_le (f t ht).1.2 (c _)⟩, (f t ht).2⟩
  · rw [← wS]
    exact lS_ext (fun _ _ => by rw [h64]) (fun _ _ => by rw [h70]) (fun _ _ => by rw [h71]) (fun _ _ => by rw [h72]) (fun _ _ => by rw [h73]) (fun t ht => by rw [eR, h75 t (by rw [← en]; exact ht)])
theorem lH.hx {M M' : zM} {b h : Nat} {S : zS} (w : lH M b S) (x : Hx M M' h) (n1 : b ≠ h) (n2 : lU M b ≠ lU M h) : lH M' b S := by
  have a := w.1.1
  refine w.cells (x.2.1 64 b (by decide) a.1 (by omega) (by omega)) (x.2.1 70 b (by decide) a.2.1 (by omega) (by omega)) (x.2.1 71 b (by decide) a.2.2.1 (by omega) (by omega)) (x.2.1 72 b (by decide) a.2.2.2.1 (by omega) (by omega)) (x.2.1 73 b (by decide) a.2.2.2.2 (by omega) (by omega)) (x.2.1 74 (lU M b) (by decide) (by rw [lU_v w.1]; exact w.1.2.2.1.2) (by omega) (by omega)) (fun t ht => x.2.1 75 _ (by decide) (by rw [lR_v w.1 (w.tt ht)]; exact (w.rr ht).1.2) (by omega) (by omega)) x.2.2.1
def sQu (S : zS) (t x : Int) : zS := (qsc S, qsl S, qgr S, qun S, qsy S, upf (qpu S) t x, qtr S)
def sQt (S : zS) (t x : Int) : zS := (qsc S, qsl S, qgr S, qun S, qsy S, qpu S, upf (qtr S) t x)
theorem lH.qu {M M' : zM} {h : Nat} {S : zS} {t x : Int} (w : lH M h S) (ht : 0 ≤ t ∧ t < qn S) (e : M' = zu M 72 h t x) : lH M' h (sQu S t x) := by
  have ht' := w.tt ht
  obtain ⟨w0, wS⟩ := w
  have r : ∀ k i, k ≠ 72 → M' k i = M k i := fun k i hk => by rw [e]; exact zu_o k i (fun z => hk z.1)
  have f : ∀ t', M' 72 h t' = if t' = t then x else M 72 h t' := fun t' => by rw [e, zu_w]
  have eU : lU M' h = lU M h := by unfold lU; rw [r 64 h (by decide)]
  have eR : ∀ t', lR M' h t' = lR M h t' := fun t' => by unfold lR; rw [eU, r 74 _ (by decide)]
  refine ⟨⟨by rw [r 97 0 (by decide)]; exact w0.1, by rw [r 64 h (by decide)]; exact w0.2.1, by rw [r 64 h (by decide), r 97 0 (by decide)]; exact w0.2.2.1, by rw [r 64 h (by decide)]; exact w0.2.2.2.1, by rw [r 70 h (by decide)]; exact w0.2.2.2.2.1, fun t' h' => ?_⟩, ?_⟩
  · rw [r 64 h (by decide)] at h'
    rw [eU, r 74 _ (by decide), r 97 0 (by decide), eR, r 75 _ (by decide)]
    exact w0.2.2.2.2.2 t' h'
  · rw [← wS]
    unfold sQu lS
    simp only [eR, r 64 h (by decide), r 70 h (by decide), r 71 h (by decide), r 73 h (by decide), r 75 _ (by decide)]
    refine Prod.ext rfl (Prod.ext rfl (Prod.ext rfl (Prod.ext rfl (Prod.ext rfl (Prod.ext ?_ rfl)))))
    funext t'
    show (if 0 ≤ t' ∧ t' < M 64 h 0 then M' 72 h t' else 0) = if t' = t then x else if 0 ≤ t' ∧ t' < M 64 h 0 then M 72 h t' else 0
    rw [f]
    by_cases c : t' = t
    · rw [if_pos c, if_pos c, c, if_pos ht']
    · rw [if_neg c, if_neg c]
theorem lH.qt {M M' : zM} {h : Nat} {S : zS} {t x : Int} (w : lH M h S) (ht : 0 ≤ t ∧ t < qn S) (e : M' = zu M 73 h t x) : lH M' h (sQt S t x) := by
  have ht' := w.tt ht
  obtain ⟨w0, wS⟩ := w
  have r : ∀ k i, k ≠ 73 → M' k i = M k i := fun k i hk => by rw [e]; exact zu_o k i (fun z => hk z.1)
  have f : ∀ t', M' 73 h t' = if t' = t then x else M 73 h t' := fun t' => by rw [e, zu_w]
  have eU : lU M' h = lU M h := by unfold lU; rw [r 64 h (by decide)]
  have eR : ∀ t', lR M' h t' = lR M h t' := fun t' => by unfold lR; rw [eU, r 74 _ (by decide)]
  refine ⟨⟨by rw [r 97 0 (by decide)]; exact w0.1, by rw [r 64 h (by decide)]; exact w0.2.1, by rw [r 64 h (by decide), r 97 0 (by decide)]; exact w0.2.2.1, by rw [r 64 h (by decide)]; exact w0.2.2.2.1, by rw [r 70 h (by decide)]; exact w0.2.2.2.2.1, fun t' h' => ?_⟩, ?_⟩
  · rw [r 64 h (by decide)] at h'
    rw [eU, r 74 _ (by decide), r 97 0 (by decide), eR, r 75 _ (by decide)]
    exact w0.2.2.2.2.2 t' h'
  · rw [← wS]
    unfold sQt lS
    simp only [eR, r 64 h (by decide), r 70 h (by decide), r 71 h (by decide), r 72 h (by decide), r 75 _ (by decide)]
    refine Prod.ext rfl (Prod.ext rfl (Prod.ext rfl (Prod.ext rfl (Prod.ext rfl (Prod.ext rfl ?_)))))
    funext t'
    show (if 0 ≤ t' ∧ t' < M 64 h 0 then M' 73 h t' else 0) = if t' = t then x else if 0 ≤ t' ∧ t' < M 64 h 0 then M 73 h t' else 0
    rw [f]
    by_cases c : t' = t
    · rw [if_pos c, if_pos c, c, if_pos ht']
    · rw [if_neg c, if_neg c]
/-- a trade as three changes -/
theorem sTrade_e {S : zS} {t c m p : Int} {f : Int → Int} (hc : 0 ≤ c ∧ c ≤ qun S t) (hp : p = qpu S t + (if qsl S t = 1 then m else -m)) (hf : ∀ u, 0 ≤ u ∧ u < qun S t - c → f u = qsy S t (u + c)) : sPu (sQt (sQu S t p) t (qtr S t + c)) t (qun S t - c) f = sTrade S t c m := by
  unfold sPu sQt sQu sTrade sDrop
  refine Prod.ext rfl (Prod.ext rfl (Prod.ext rfl (Prod.ext rfl (Prod.ext ?_ (Prod.ext ?_ rfl)))))
  · funext t' u
    show (if t' = t then (if 0 ≤ u ∧ u < qun S t - c then f u else 0) else qsy S t' u) = if t' = t then (if 0 ≤ u ∧ u + c < qun S t then qsy S t (u + c) else 0) else qsy S t' u
    by_cases e : t' = t
    · rw [if_pos e, if_pos e]
      by_cases d : 0 ≤ u ∧ u < qun S t - c
      · rw [if_pos d, if_pos (by omega), hf u d]
      · rw [if_neg d, if_neg (by omega)]
    · rw [if_neg e, if_neg e]
  · show upf (qpu S) t p = upf (qpu S) t (qpu S t + (if qsl S t = 1 then m else -m))
    rw [hp]
theorem sNote_e {S : zS} {d k x : Int} (hx : x = if qsc S 5 = 0 then k else max (qsc S 6) k) : sSc (sSc (sSc (sSc S 3 (qsc S 3 + k)) 6 x) 5 (qsc S 5 + 1)) 4 (qsc S 4 + d) = sNote S d k := by
  unfold sSc sNote
  refine Prod.ext ?_ rfl
  funext j
  show (if j = 4 then qsc S 4 + d else if j = 5 then qsc S 5 + 1 else if j = 6 then x else if j = 3 then qsc S 3 + k else qsc S j) = if j = 5 then qsc S 5 + 1 else if j = 4 then qsc S 4 + d else if j = 3 then qsc S 3 + k else if j = 6 then (if qsc S 5 = 0 then k else max (qsc S 6) k) else qsc S j
  rw [hx]
  by_cases c4 : j = 4
  · rw [if_pos c4, if_neg (by omega), if_pos c4]
  · rw [if_neg c4]
    by_cases c5 : j = 5
    · rw [if_pos c5, if_pos c5]
    · rw [if_neg c5, if_neg c5, if_neg c4]
      by_cases c6 : j = 6
      · have c3 : ¬ j = 3 := by omega
        rw [if_pos c6, if_neg c3, if_pos c6]
      · rw [if_neg c6]
        by_cases c3 : j = 3
        · rw [if_pos c3, if_pos c3]
        · rw [if_neg c3, if_neg c3, if_neg c6]
theorem sSc_o {S : zS} {i j x : Int} (h : i ≠ j) : qsc (sSc S j x) i = qsc S i := if_neg h
abbrev clK : List Nat := [64, 65, 70, 71, 72, 73, 74, 75, 76, 77, 78]
section
variable {l : Launch} {M : zM} {S : zS} {h : Nat} {g kk : Int}
def LL_closes_59 (l : Launch) (P : Int → zM → Prop) (c n : Nat) (s0 : Nat) (v1 : Int) (r2 : Nat) (v3 : Int) (r4 : Nat) (r5 : Nat) (v6 : Int) (M : zM) : Prop := AW l m_L_closes (zTin m_L_closes 7065 38933 c n P) 59 [(0, zr 64 s0), (1, zi v1), (2, zr 65 r2), (3, zi v3), (4, zr 78 r4), (5, zr 78 r5), (6, zi v6)] [] M
def LL_closes_134 (l : Launch) (P : Int → zM → Prop) (c n : Nat) (s0 : Nat) (r2 : Nat) (v3 : Int) (r4 : Nat) (r5 : Nat) (v6 : Int) (M : zM) : Prop := AW l m_L_closes (zTin m_L_closes 7065 38933 c n P) 134 [(0, zr 64 s0), (2, zr 65 r2), (3, zi v3), (4, zr 78 r4), (5, zr 78 r5), (6, zi v6)] [] M
theorem vL_closes_59 {l : Launch} {P : Int → zM → Prop} {c n : Nat} {s0 : Nat} {v1 : Int} {r2 : Nat} {v3 : Int} {r4 : Nat} {r5 : Nat} {v6 : Int} {M : zM}
    (H0 : (zI v6 ∧ zI (M 64 s0 0) ∧ (((M 64 s0 0) ≤ v6 → LL_closes_134 l P c n s0 r2 v3 r4 r5 0 M) ∧ (v6 < (M 64 s0 0) → ((0 ≤ M 64 s0 8 ∧ M 64 s0 8 < M 97 0 71) ∧ ∀ r32 : Nat, (r32 : Int) = M 64 s0 8 → ((0 ≤ v6 ∧ v6 < 21) ∧ (zI (M 71 r32 v6) ∧ zI v1 ∧ (((M 71 r32 v6) ≠ v1 → (∀ M44 : zM, M44 = zu M 78 r4 v6 0 → ((0 ≤ M44 64 s0 8 ∧ M44 64 s0 8 < M44 97 0 71) ∧ ∀ r46 : Nat, (r46 : Int) = M44 64 s0 8 → (zI (M44 71 r46 v6) ∧ (((M44 71 r46 v6) ≠ v1 → (∀ M55 : zM, M55 = zu M44 78 r5 v6 0 → LL_closes_59 l P c n s0 v1 r2 v3 r4 r5 (v6 + 1) M55)) ∧ ((M44 71 r46 v6) = v1 → (CI l m_X10_doneOf [zr 65 r2, zi v6] M44 (fun x58 M56 => (∀ M60 : zM, M60 = zu M56 78 r5 v6 x58 → LL_closes_59 l P c n s0 v1 r2 v3 r4 r5 (v6 + 1) M60))))))))) ∧ ((M 71 r32 v6) = v1 → (((c + 174) ≤ 7065 ∧ (n + 960) ≤ 38933) ∧ (CIn l m_L_deal 174 960 [zr 64 s0, zi v6, zi (M 64 s0 2), zi (-1)] M (fun x65 M62 => (∀ M67 : zM, M67 = zu M62 78 r4 v6 x65 → ((0 ≤ M67 64 s0 8 ∧ M67 64 s0 8 < M67 97 0 71) ∧ ∀ r69 : Nat, (r69 : Int) = M67 64 s0 8 → (zI (M67 71 r69 v6) ∧ (((M67 71 r69 v6) ≠ v1 → (∀ M78 : zM, M78 = zu M67 78 r5 v6 0 → LL_closes_59 l P (c + 174) (n + 960) s0 v1 r2 v3 r4 r5 (v6 + 1) M78)) ∧ ((M67 71 r69 v6) = v1 → (CI l m_X10_doneOf [zr 65 r2, zi v6] M67 (fun x81 M79 => (∀ M83 : zM, M83 = zu M79 78 r5 v6 x81 → LL_closes_59 l P (c + 174) (n + 960) s0 v1 r2 v3 r4 r5 (v6 + 1) M83)))))))))))))))))))) :
    LL_closes_59 l P c n s0 v1 r2 v3 r4 r5 v6 M :=
(aw_iload d_L_closes_59 rfl 6 rfl
(aw_aload_n d_L_closes_61 rfl rfl 0 rfl (by decide)
(aw_getI (kc := 0) d_L_closes_62 rfl flL_80 rfl rfl
(have z24 := H0.1; have z25 := H0.2.1; have e26 := H0.2.2; aw_icmp_ge d_L_closes_65 rfl rfl z24 z25 (fun c27 => have e29 := e26.1 c27; (aw_iconst d_L_closes_131 rfl
(aw_istore (lv' := [(6, zi 0), (0, zr 64 s0), (1, zi v1), (2, zr 65 r2), (3, zi v3), (4, zr 78 r4), (5, zr 78 r5)]) d_L_closes_132 rfl (by decide) rfl
(aw_sub [1, 3, 4, 5, 6, 0] rfl e29)))) (fun c28 => have e30 := e26.2 c28; (aw_aload d_L_closes_68 rfl 4 rfl (by decide)
(aw_iload d_L_closes_70 rfl 6 rfl
(aw_aload_n d_L_closes_72 rfl rfl 0 rfl (by decide)
(have z31 := e30.1; aw_getE (kc := 8) d_L_closes_73 rfl flL_30 rfl rfl (by decide) z31
(fun r32 hqr32 => (have e33 := e30.2 r32 hqr32; (aw_iload d_L_closes_76 rfl 6 rfl
(have z34 := e33.1; aw_ialdG d_L_closes_78 rfl zd71.G (zix_s z34)
(have e35 := e33.2; (aw_iload_n d_L_closes_79 rfl rfl 1 rfl
(have z36 := e35.1; have z37 := e35.2.1; have e38 := e35.2.2; aw_icmp_ne d_L_closes_80 rfl rfl z36 z37 (fun c39 => have e41 := e38.1 c39; (aw_iconst d_L_closes_97 rfl
(aw_iastG d_L_closes_98 rfl zd78.G (zix_s z34)
(aw_nm fun M44 hqM44 => have e43 := e41 M44 hqM44; (aw_aload d_L_closes_99 rfl 5 rfl (by decide)
(aw_iload d_L_closes_101 rfl 6 rfl
(aw_aload_n d_L_closes_103 rfl rfl 0 rfl (by decide)
(have z45 := e43.1; aw_getE (kc := 8) d_L_closes_104 rfl flL_30 rfl rfl (by decide) z45
(fun r46 hqr46 => (have e47 := e43.2 r46 hqr46; (aw_iload d_L_closes_107 rfl 6 rfl
(aw_ialdG d_L_closes_109 rfl zd71.G (zix_s z34)
(aw_iload_n d_L_closes_110 rfl rfl 1 rfl
(have z48 := e47.1; have e49 := e47.2; aw_icmp_ne d_L_closes_111 rfl rfl z48 z37 (fun c50 => have e52 := e49.1 c50; (aw_iconst d_L_closes_123 rfl
(aw_iastG d_L_closes_124 rfl zd78.G (zix_s z34)
(aw_nm fun M55 hqM55 => have e54 := e52 M55 hqM55; (aw_iinc (lv' := [(6, zi (v6 + 1)), (0, zr 64 s0), (1, zi v1), (2, zr 65 r2), (3, zi v3), (4, zr 78 r4), (5, zr 78 r5)]) (y := (v6 + 1)) d_L_closes_125 rfl 6 rfl (by decide) rfl rfl
(aw_goto d_L_closes_128 rfl
(aw_sub [1, 2, 3, 4, 5, 6, 0] rfl e54))))))) (fun c51 => have e53 := e49.2 c51; (aw_aload_n d_L_closes_114 rfl rfl 2 rfl (by decide)
(aw_iload d_L_closes_115 rfl 6 rfl
(aw_VI (As := [zi v6]) (st := [zi v6, zr 78 r5]) d_L_closes_117 rfl cvL_47 ⟨Nat.le_of_ble_eq_true rfl, Nat.le_of_ble_eq_true rfl⟩ rfl rfl (Nat.le_of_ble_eq_true rfl) (Nat.le_of_ble_eq_true rfl) e53 (fun x58 M56 e57 => (aw_goto d_L_closes_120 rfl
(aw_iastG d_L_closes_124 rfl zd78.G (zix_s z34)
(aw_nm fun M60 hqM60 => have e59 := e57 M60 hqM60; (aw_iinc (lv' := [(6, zi (v6 + 1)), (0, zr 64 s0), (1, zi v1), (2, zr 65 r2), (3, zi v3), (4, zr 78 r4), (5, zr 78 r5)]) (y := (v6 + 1)) d_L_closes_125 rfl 6 rfl (by decide) rfl rfl
(aw_goto d_L_closes_128 rfl
(aw_sub [1, 2, 3, 4, 5, 6, 0] rfl e59))))))))))))))))))))))))) (fun c40 => have e42 := e38.2 c40; (aw_aload_n d_L_closes_83 rfl rfl 0 rfl (by decide)
(aw_iload d_L_closes_84 rfl 6 rfl
(aw_aload_n d_L_closes_86 rfl rfl 0 rfl (by decide)
(aw_getI (kc := 2) d_L_closes_87 rfl flL_71 rfl rfl
(aw_iconst d_L_closes_90 rfl
(have z61 := e42.1; have e63 := e42.2; aw_SIn (As := [zr 64 s0, zi v6, zi (M 64 s0 2), zi (-1)]) (st := [zi v6, zr 78 r4]) d_L_closes_91 rfl csL_74 ⟨Nat.le_of_ble_eq_true rfl, Nat.le_of_ble_eq_true rfl⟩ z61 rfl rfl (Nat.le_of_ble_eq_true rfl) (Nat.le_of_ble_eq_true rfl) e63 (fun x65 M62 e64 => (aw_goto d_L_closes_94 rfl
(aw_iastG d_L_closes_98 rfl zd78.G (zix_s z34)
(aw_nm fun M67 hqM67 => have e66 := e64 M67 hqM67; (aw_aload d_L_closes_99 rfl 5 rfl (by decide)
(aw_iload d_L_closes_101 rfl 6 rfl
(aw_aload_n d_L_closes_103 rfl rfl 0 rfl (by decide)
(have z68 := e66.1; aw_getE (kc := 8) d_L_closes_104 rfl flL_30 rfl rfl (by decide) z68
(fun r69 hqr69 => (have e70 := e66.2 r69 hqr69; (aw_iload d_L_closes_107 rfl 6 rfl
(aw_ialdG d_L_closes_109 rfl zd71.G (zix_s z34)
(aw_iload_n d_L_closes_110 rfl rfl 1 rfl
(have z71 := e70.1; have e72 := e70.2; aw_icmp_ne d_L_closes_111 rfl rfl z71 z37 (fun c73 => have e75 := e72.1 c73; (aw_iconst d_L_closes_123 rfl
(aw_iastG d_L_closes_124 rfl zd78.G (zix_s z34)
(aw_nm fun M78 hqM78 => have e77 := e75 M78 hqM78; (aw_iinc (lv' := [(6, zi (v6 + 1)), (0, zr 64 s0), (1, zi v1), (2, zr 65 r2), (3, zi v3), (4, zr 78 r4), (5, zr 78 r5)]) (y := (v6 + 1)) d_L_closes_125 rfl 6 rfl (by decide) rfl rfl
(aw_goto d_L_closes_128 rfl
(aw_sub [1, 2, 3, 4, 5, 6, 0] rfl e77))))))) (fun c74 => have e76 := e72.2 c74; (aw_aload_n d_L_closes_114 rfl rfl 2 rfl (by decide)
(aw_iload d_L_closes_115 rfl 6 rfl
(aw_VI (As := [zi v6]) (st := [zi v6, zr 78 r5]) d_L_closes_117 rfl cvL_47 ⟨Nat.le_of_ble_eq_true rfl, Nat.le_of_ble_eq_true rfl⟩ rfl rfl (Nat.le_of_ble_eq_true rfl) (Nat.le_of_ble_eq_true rfl) e76 (fun x81 M79 e80 => (aw_goto d_L_closes_120 rfl
(aw_iastG d_L_closes_124 rfl zd78.G (zix_s z34)
(aw_nm fun M83 hqM83 => have e82 := e80 M83 hqM83; (aw_iinc (lv' := [(6, zi (v6 + 1)), (0, zr 64 s0), (1, zi v1), (2, zr 65 r2), (3, zi v3), (4, zr 78 r4), (5, zr 78 r5)]) (y := (v6 + 1)) d_L_closes_125 rfl 6 rfl (by decide) rfl rfl
(aw_goto d_L_closes_128 rfl
(aw_sub [1, 2, 3, 4, 5, 6, 0] rfl e82))))))))))))))))))))))))))))))))))))))))))))))))
theorem vL_closes_134 {l : Launch} {P : Int → zM → Prop} {c n : Nat} {s0 : Nat} {r2 : Nat} {v3 : Int} {r4 : Nat} {r5 : Nat} {v6 : Int} {M : zM}
    (H0 : (zI v6 ∧ zI (M 64 s0 0) ∧ (((M 64 s0 0) ≤ v6 → (∀ M92 : zM, M92 = zu M 64 s0 3 ((M 64 s0 3) + v3) → (zI (M92 64 s0 5) ∧ (((M92 64 s0 5) ≠ 0 → (zI (M92 64 s0 6) ∧ zI v3 ∧ (∀ M103 : zM, M103 = zu M92 64 s0 6 (max (M92 64 s0 6) v3) → (∀ M105 : zM, M105 = zu M103 64 s0 5 ((M103 64 s0 5) + 1) → (∀ M107 : zM, M107 = zu M105 64 s0 4 ((M105 64 s0 4) + (M105 65 r2 6)) → P (M107 65 r2 6) M107))))) ∧ ((M92 64 s0 5) = 0 → (∀ M109 : zM, M109 = zu M92 64 s0 6 v3 → (∀ M111 : zM, M111 = zu M109 64 s0 5 ((M109 64 s0 5) + 1) → (∀ M113 : zM, M113 = zu M111 64 s0 4 ((M111 64 s0 4) + (M111 65 r2 6)) → P (M113 65 r2 6) M113)))))))) ∧ (v6 < (M 64 s0 0) → ((0 ≤ M 64 s0 9 ∧ M 64 s0 9 < M 97 0 72) ∧ ∀ r115 : Nat, (r115 : Int) = M 64 s0 9 → ((0 ≤ v6 ∧ v6 < 21) ∧ ((0 ≤ M 64 s0 7 ∧ M 64 s0 7 < M 97 0 70) ∧ ∀ r120 : Nat, (r120 : Int) = M 64 s0 7 → (zI (M 70 r120 v6) ∧ (((M 70 r120 v6) = 0 → (∀ M129 : zM, M129 = zu M 72 r115 v6 ((M 72 r115 v6) + (-(M 78 r4 v6))) → ((0 ≤ M129 64 s0 10 ∧ M129 64 s0 10 < M129 97 0 73) ∧ ∀ r131 : Nat, (r131 : Int) = M129 64 s0 10 → (∀ M134 : zM, M134 = zu M129 73 r131 v6 ((M129 73 r131 v6) + (M129 78 r5 v6)) → ((0 ≤ M134 64 s0 11 ∧ M134 64 s0 11 < M134 97 0 74) ∧ ∀ r136 : Nat, (r136 : Int) = M134 64 s0 11 → ((0 ≤ M134 74 r136 v6 ∧ M134 74 r136 v6 < M134 97 0 75) ∧ ∀ r139 : Nat, (r139 : Int) = M134 74 r136 v6 → (0 ≤ M134 75 r139 (-1) ∧ ((0 ≤ ((M134 75 r139 (-1)) - (M134 78 r5 v6)) ∧ ((M134 75 r139 (-1)) - (M134 78 r5 v6)) ≤ 1000000) ∧ ((c + 1) ≤ 7065 ∧ (n + ((M134 75 r139 (-1)) - (M134 78 r5 v6)).toNat) ≤ 38933) ∧ ∀ n143 : Nat, (n143 : Int) = M134 97 0 75 → ∀ M147 : zM, M147 = zmk M134 75 n143 ((M134 75 r139 (-1)) - (M134 78 r5 v6)) → ((0 ≤ M147 64 s0 11 ∧ M147 64 s0 11 < M147 97 0 74) ∧ ∀ r149 : Nat, (r149 : Int) = M147 64 s0 11 → ((0 ≤ M147 74 r149 v6 ∧ M147 74 r149 v6 < M147 97 0 75) ∧ ∀ r152 : Nat, (r152 : Int) = M147 74 r149 v6 → (0 ≤ M147 75 n143 (-1) ∧ (((0 : Int) ≤ (M147 75 n143 (-1)) ∧ (0 : Int) ≤ (M147 78 r5 v6) ∧ (0 : Int) ≤ 0 ∧ ((M147 78 r5 v6) : Int) + (M147 75 n143 (-1)) ≤ (zln M147 75 r152 : Nat) ∧ (0 : Int) + (M147 75 n143 (-1)) ≤ (zln M147 75 n143 : Nat)) ∧ zln M147 75 r152 ≤ 1000000 ∧ zln M147 75 n143 ≤ 1000000 ∧ ∀ M160 : zM, M160 = zcq M147 75 r152 (M147 78 r5 v6) 75 n143 0 (M147 75 n143 (-1)) → ((0 ≤ M160 64 s0 11 ∧ M160 64 s0 11 < M160 97 0 74) ∧ ∀ r162 : Nat, (r162 : Int) = M160 64 s0 11 → (∀ M165 : zM, M165 = zu M160 74 r162 v6 (n143 : Int) → LL_closes_134 l P (c + 1) (n + ((M134 75 r139 (-1)) - (M134 78 r5 v6)).toNat) s0 r2 v3 r4 r5 (v6 + 1) M165)))))))))))))) ∧ ((M 70 r120 v6) ≠ 0 → (∀ M167 : zM, M167 = zu M 72 r115 v6 ((M 72 r115 v6) + (M 78 r4 v6)) → ((0 ≤ M167 64 s0 10 ∧ M167 64 s0 10 < M167 97 0 73) ∧ ∀ r169 : Nat, (r169 : Int) = M167 64 s0 10 → (∀ M172 : zM, M172 = zu M167 73 r169 v6 ((M167 73 r169 v6) + (M167 78 r5 v6)) → ((0 ≤ M172 64 s0 11 ∧ M172 64 s0 11 < M172 97 0 74) ∧ ∀ r174 : Nat, (r174 : Int) = M172 64 s0 11 → ((0 ≤ M172 74 r174 v6 ∧ M172 74 r174 v6 < M172 97 0 75) ∧ ∀ r177 : Nat, (r177 : Int) = M172 74 r174 v6 → (0 ≤ M172 75 r177 (-1) ∧ ((0 ≤ ((M172 75 r177 (-1)) - (M172 78 r5 v6)) ∧ ((M172 75 r177 (-1)) - (M172 78 r5 v6)) ≤ 1000000) ∧ ((c + 1) ≤ 7065 ∧ (n + ((M172 75 r177 (-1)) - (M172 78 r5 v6)).toNat) ≤ 38933) ∧ ∀ n181 : Nat, (n181 : Int) = M172 97 0 75 → ∀ M185 : zM, M185 = zmk M172 75 n181 ((M172 75 r177 (-1)) - (M172 78 r5 v6)) → ((0 ≤ M185 64 s0 11 ∧ M185 64 s0 11 < M185 97 0 74) ∧ ∀ r187 : Nat, (r187 : Int) = M185 64 s0 11 → ((0 ≤ M185 74 r187 v6 ∧ M185 74 r187 v6 < M185 97 0 75) ∧ ∀ r190 : Nat, (r190 : Int) = M185 74 r187 v6 → (0 ≤ M185 75 n181 (-1) ∧ (((0 : Int) ≤ (M185 75 n181 (-1)) ∧ (0 : Int) ≤ (M185 78 r5 v6) ∧ (0 : Int) ≤ 0 ∧ ((M185 78 r5 v6) : Int) + (M185 75 n181 (-1)) ≤ (zln M185 75 r190 : Nat) ∧ (0 : Int) + (M185 75 n181 (-1)) ≤ (zln M185 75 n181 : Nat)) ∧ zln M185 75 r190 ≤ 1000000 ∧ zln M185 75 n181 ≤ 1000000 ∧ ∀ M198 : zM, M198 = zcq M185 75 r190 (M185 78 r5 v6) 75 n181 0 (M185 75 n181 (-1)) → ((0 ≤ M198 64 s0 11 ∧ M198 64 s0 11 < M198 97 0 74) ∧ ∀ r200 : Nat, (r200 : Int) = M198 64 s0 11 → (∀ M203 : zM, M203 = zu M198 74 r200 v6 (n181 : Int) → LL_closes_134 l P (c + 1) (n + ((M172 75 r177 (-1)) - (M172 78 r5 v6)).toNat) s0 r2 v3 r4 r5 (v6 + 1) M203))))))))))))))))))))))) :
    LL_closes_134 l P c n s0 r2 v3 r4 r5 v6 M :=
(aw_iload d_L_closes_134 rfl 5 rfl
(aw_aload_n d_L_closes_136 rfl rfl 0 rfl (by decide)
(aw_getI (kc := 0) d_L_closes_137 rfl flL_80 rfl rfl
(have z84 := H0.1; have z85 := H0.2.1; have e86 := H0.2.2; aw_icmp_ge d_L_closes_140 rfl rfl z84 z85 (fun c87 => have e89 := e86.1 c87; (aw_aload_n d_L_closes_246 rfl rfl 0 rfl (by decide)
(aw_dup d_L_closes_247 rfl rfl
(aw_getI (kc := 3) d_L_closes_248 rfl flL_113 rfl rfl
(aw_iload_n d_L_closes_251 rfl rfl 2 rfl
(aw_iadd d_L_closes_252 rfl
(aw_put (kc := 3) d_L_closes_253 rfl fpL_113 rfl rfl rfl rfl
(aw_nm fun M92 hqM92 => have e91 := e89 M92 hqM92; (aw_aload_n d_L_closes_256 rfl rfl 0 rfl (by decide)
(aw_aload_n d_L_closes_257 rfl rfl 0 rfl (by decide)
(aw_getI (kc := 5) d_L_closes_258 rfl flL_122 rfl rfl
(have z93 := e91.1; have e94 := e91.2; aw_if_ne d_L_closes_261 rfl rfl z93 (fun c95 => have e97 := e94.1 c95; (aw_aload_n d_L_closes_268 rfl rfl 0 rfl (by decide)
(aw_getI (kc := 6) d_L_closes_269 rfl flL_119 rfl rfl
(aw_iload_n d_L_closes_272 rfl rfl 2 rfl
(have z99 := e97.1; have z100 := e97.2.1; aw_max d_L_closes_273 rfl cmL_138 ⟨Nat.le_of_ble_eq_true rfl, Nat.le_of_ble_eq_true rfl⟩ z99 z100
(have e101 := e97.2.2; (aw_put (kc := 6) d_L_closes_276 rfl fpL_119 rfl rfl rfl rfl
(aw_nm fun M103 hqM103 => have e102 := e101 M103 hqM103; (aw_aload_n d_L_closes_279 rfl rfl 0 rfl (by decide)
(aw_dup d_L_closes_280 rfl rfl
(aw_getI (kc := 5) d_L_closes_281 rfl flL_122 rfl rfl
(aw_iconst d_L_closes_284 rfl
(aw_iadd d_L_closes_285 rfl
(aw_put (kc := 5) d_L_closes_286 rfl fpL_122 rfl rfl rfl rfl
(aw_nm fun M105 hqM105 => have e104 := e102 M105 hqM105; (aw_aload_n d_L_closes_289 rfl rfl 0 rfl (by decide)
(aw_dup d_L_closes_290 rfl rfl
(aw_getI (kc := 4) d_L_closes_291 rfl flL_116 rfl rfl
(aw_aload_n d_L_closes_294 rfl rfl 1 rfl (by decide)
(aw_getI (kc := 6) d_L_closes_295 rfl flL_125 rfl rfl
(aw_iadd d_L_closes_298 rfl
(aw_put (kc := 4) d_L_closes_299 rfl fpL_116 rfl rfl rfl rfl
(aw_nm fun M107 hqM107 => have e106 := e104 M107 hqM107; (aw_aload_n d_L_closes_302 rfl rfl 1 rfl (by decide)
(aw_getI (kc := 6) d_L_closes_303 rfl flL_125 rfl rfl
(aw_rin d_L_closes_306 rfl e106)))))))))))))))))))))))))) (fun c96 => have e98 := e94.2 c96; (aw_iload_n d_L_closes_264 rfl rfl 2 rfl
(aw_goto d_L_closes_265 rfl
(aw_put (kc := 6) d_L_closes_276 rfl fpL_119 rfl rfl rfl rfl
(aw_nm fun M109 hqM109 => have e108 := e98 M109 hqM109; (aw_aload_n d_L_closes_279 rfl rfl 0 rfl (by decide)
(aw_dup d_L_closes_280 rfl rfl
(aw_getI (kc := 5) d_L_closes_281 rfl flL_122 rfl rfl
(aw_iconst d_L_closes_284 rfl
(aw_iadd d_L_closes_285 rfl
(aw_put (kc := 5) d_L_closes_286 rfl fpL_122 rfl rfl rfl rfl
(aw_nm fun M111 hqM111 => have e110 := e108 M111 hqM111; (aw_aload_n d_L_closes_289 rfl rfl 0 rfl (by decide)
(aw_dup d_L_closes_290 rfl rfl
(aw_getI (kc := 4) d_L_closes_291 rfl flL_116 rfl rfl
(aw_aload_n d_L_closes_294 rfl rfl 1 rfl (by decide)
(aw_getI (kc := 6) d_L_closes_295 rfl flL_125 rfl rfl
(aw_iadd d_L_closes_298 rfl
(aw_put (kc := 4) d_L_closes_299 rfl fpL_116 rfl rfl rfl rfl
(aw_nm fun M113 hqM113 => have e112 := e110 M113 hqM113; (aw_aload_n d_L_closes_302 rfl rfl 1 rfl (by decide)
(aw_getI (kc := 6) d_L_closes_303 rfl flL_125 rfl rfl
(aw_rin d_L_closes_306 rfl e112))))))))))))))))))))))))))))))))))) (fun c88 => have e90 := e86.2 c88; (aw_aload_n d_L_closes_143 rfl rfl 0 rfl (by decide)
(have z114 := e90.1; aw_getE (kc := 9) d_L_closes_144 rfl flL_86 rfl rfl (by decide) z114
(fun r115 hqr115 => (have e116 := e90.2 r115 hqr115; (aw_iload d_L_closes_147 rfl 5 rfl
(aw_dup2 d_L_closes_149 rfl rfl rfl
(have z117 := e116.1; aw_ialdG d_L_closes_150 rfl zd72.G (zix_s z117)
(have e118 := e116.2; (aw_aload_n d_L_closes_151 rfl rfl 0 rfl (by decide)
(have z119 := e118.1; aw_getE (kc := 7) d_L_closes_152 rfl flL_50 rfl rfl (by decide) z119
(fun r120 hqr120 => (have e121 := e118.2 r120 hqr120; (aw_iload d_L_closes_155 rfl 5 rfl
(aw_zaldG d_L_closes_157 rfl zd70.G (zix_s z117)
(have z122 := e121.1; have e123 := e121.2; aw_if_eq d_L_closes_158 rfl rfl z122 (fun c124 => have e126 := e123.1 c124; (aw_aload d_L_closes_169 rfl 3 rfl (by decide)
(aw_iload d_L_closes_171 rfl 5 rfl
(aw_ialdG d_L_closes_173 rfl zd78.G (zix_s z117)
(aw_ineg d_L_closes_174 rfl
(aw_iadd d_L_closes_175 rfl
(aw_iastG d_L_closes_176 rfl zd72.G (zix_s z117)
(aw_nm fun M129 hqM129 => have e128 := e126 M129 hqM129; (aw_aload_n d_L_closes_177 rfl rfl 0 rfl (by decide)
(have z130 := e128.1; aw_getE (kc := 10) d_L_closes_178 rfl flL_93 rfl rfl (by decide) z130
(fun r131 hqr131 => (have e132 := e128.2 r131 hqr131; (aw_iload d_L_closes_181 rfl 5 rfl
(aw_dup2 d_L_closes_183 rfl rfl rfl
(aw_ialdG d_L_closes_184 rfl zd73.G (zix_s z117)
(aw_aload d_L_closes_185 rfl 4 rfl (by decide)
(aw_iload d_L_closes_187 rfl 5 rfl
(aw_ialdG d_L_closes_189 rfl zd78.G (zix_s z117)
(aw_iadd d_L_closes_190 rfl
(aw_iastG d_L_closes_191 rfl zd73.G (zix_s z117)
(aw_nm fun M134 hqM134 => have e133 := e132 M134 hqM134; (aw_aload_n d_L_closes_192 rfl rfl 0 rfl (by decide)
(have z135 := e133.1; aw_getE (kc := 11) d_L_closes_193 rfl flL_64 rfl rfl (by decide) z135
(fun r136 hqr136 => (have e137 := e133.2 r136 hqr136; (aw_iload d_L_closes_196 rfl 5 rfl
(have z138 := e137.1; aw_rale d_L_closes_198 rfl zd74.G (by decide) (zix_s z117) z138
(fun r139 hqr139 => (have e140 := e137.2 r139 hqr139; (have z141 := e140.1; aw_alenD d_L_closes_199 rfl (by decide) z141
(have e142 := e140.2; (aw_aload d_L_closes_200 rfl 4 rfl (by decide)
(aw_iload d_L_closes_202 rfl 5 rfl
(aw_ialdG d_L_closes_204 rfl zd78.G (zix_s z117)
(aw_isub d_L_closes_205 rfl
(have z144 := e142.1; have z145 := e142.2.1; aw_newa (k := 75) d_L_closes_206 rfl zd75 (Or.inl ⟨rfl, rfl⟩) ac_int z144 (Or.inl rfl) z145
(fun n143 hqn143 => (aw_nm fun M147 hqM147 => have e146 := e142.2.2 n143 hqn143 M147 hqM147; (aw_astore (lv' := [(7, zr 75 n143), (0, zr 64 s0), (2, zr 65 r2), (3, zi v3), (4, zr 78 r4), (5, zr 78 r5), (6, zi v6)]) (by decide) d_L_closes_208 rfl (by decide) rfl
(aw_aload_n d_L_closes_210 rfl rfl 1 rfl (by decide)
(have z148 := e146.1; aw_getE (kc := 11) d_L_closes_211 rfl flL_64 rfl rfl (by decide) z148
(fun r149 hqr149 => (have e150 := e146.2 r149 hqr149; (aw_iload d_L_closes_214 rfl 6 rfl
(have z151 := e150.1; aw_rale d_L_closes_216 rfl zd74.G (by decide) (zix_s z117) z151
(fun r152 hqr152 => (have e153 := e150.2 r152 hqr152; (aw_aload d_L_closes_217 rfl 5 rfl (by decide)
(aw_iload d_L_closes_219 rfl 6 rfl
(aw_ialdG d_L_closes_221 rfl zd78.G (zix_s z117)
(aw_aload d_L_closes_222 rfl 0 rfl (by decide)
(aw_iconst d_L_closes_224 rfl
(aw_aload d_L_closes_225 rfl 0 rfl (by decide)
(have z154 := e153.1; aw_alenD d_L_closes_227 rfl (by decide) z154
(have e155 := e153.2; (have z156 := e155.1; have z157 := e155.2.1; have z158 := e155.2.2.1; aw_copyG d_L_closes_228 rfl cmL_132 ⟨Nat.le_of_ble_eq_true rfl, Nat.le_of_ble_eq_true rfl⟩ (by decide : 0 < 3) zd75.G zd75.G z156 z157 z158 (fun _ _ _ => Or.inl rfl)
(aw_nm fun M160 hqM160 => have e159 := e155.2.2.2 M160 hqM160; (aw_aload_n d_L_closes_231 rfl rfl 1 rfl (by decide)
(have z161 := e159.1; aw_getE (kc := 11) d_L_closes_232 rfl flL_64 rfl rfl (by decide) z161
(fun r162 hqr162 => (have e163 := e159.2 r162 hqr162; (aw_iload d_L_closes_235 rfl 6 rfl
(aw_aload d_L_closes_237 rfl 0 rfl (by decide)
(aw_rast d_L_closes_239 rfl zd74.G zd75.G (by decide) (zix_s z117)
(aw_nm fun M165 hqM165 => have e164 := e163 M165 hqM165; (aw_iinc (lv' := [(6, zi (v6 + 1)), (7, zr 75 n143), (0, zr 64 s0), (2, zr 65 r2), (3, zi v3), (4, zr 78 r4), (5, zr 78 r5)]) (y := (v6 + 1)) d_L_closes_240 rfl 6 rfl (by decide) rfl rfl
(aw_goto d_L_closes_243 rfl
(aw_sub [2, 3, 4, 5, 6, 0] rfl e164)))))))))))))))))))))))))))))))))))))))))))))))))))))))))))))))))))) (fun c125 => have e127 := e123.2 c125; (aw_aload d_L_closes_161 rfl 3 rfl (by decide)
(aw_iload d_L_closes_163 rfl 5 rfl
(aw_ialdG d_L_closes_165 rfl zd78.G (zix_s z117)
(aw_goto d_L_closes_166 rfl
(aw_iadd d_L_closes_175 rfl
(aw_iastG d_L_closes_176 rfl zd72.G (zix_s z117)
(aw_nm fun M167 hqM167 => have e166 := e127 M167 hqM167; (aw_aload_n d_L_closes_177 rfl rfl 0 rfl (by decide)
(have z168 := e166.1; aw_getE (kc := 10) d_L_closes_178 rfl flL_93 rfl rfl (by decide) z168
(fun r169 hqr169 => (have e170 := e166.2 r169 hqr169; (aw_iload d_L_closes_181 rfl 5 rfl
(aw_dup2 d_L_closes_183 rfl rfl rfl
(aw_ialdG d_L_closes_184 rfl zd73.G (zix_s z117)
(aw_aload d_L_closes_185 rfl 4 rfl (by decide)
(aw_iload d_L_closes_187 rfl 5 rfl
(aw_ialdG d_L_closes_189 rfl zd78.G (zix_s z117)
(aw_iadd d_L_closes_190 rfl
(aw_iastG d_L_closes_191 rfl zd73.G (zix_s z117)
(aw_nm fun M172 hqM172 => have e171 := e170 M172 hqM172; (aw_aload_n d_L_closes_192 rfl rfl 0 rfl (by decide)
(have z173 := e171.1; aw_getE (kc := 11) d_L_closes_193 rfl flL_64 rfl rfl (by decide) z173
(fun r174 hqr174 => (have e175 := e171.2 r174 hqr174; (aw_iload d_L_closes_196 rfl 5 rfl
(have z176 := e175.1; aw_rale d_L_closes_198 rfl zd74.G (by decide) (zix_s z117) z176
(fun r177 hqr177 => (have e178 := e175.2 r177 hqr177; (have z179 := e178.1; aw_alenD d_L_closes_199 rfl (by decide) z179
(have e180 := e178.2; (aw_aload d_L_closes_200 rfl 4 rfl (by decide)
(aw_iload d_L_closes_202 rfl 5 rfl
(aw_ialdG d_L_closes_204 rfl zd78.G (zix_s z117)
(aw_isub d_L_closes_205 rfl
(have z182 := e180.1; have z183 := e180.2.1; aw_newa (k := 75) d_L_closes_206 rfl zd75 (Or.inl ⟨rfl, rfl⟩) ac_int z182 (Or.inl rfl) z183
(fun n181 hqn181 => (aw_nm fun M185 hqM185 => have e184 := e180.2.2 n181 hqn181 M185 hqM185; (aw_astore (lv' := [(7, zr 75 n181), (0, zr 64 s0), (2, zr 65 r2), (3, zi v3), (4, zr 78 r4), (5, zr 78 r5), (6, zi v6)]) (by decide) d_L_closes_208 rfl (by decide) rfl
(aw_aload_n d_L_closes_210 rfl rfl 1 rfl (by decide)
(have z186 := e184.1; aw_getE (kc := 11) d_L_closes_211 rfl flL_64 rfl rfl (by decide) z186
(fun r187 hqr187 => (have e188 := e184.2 r187 hqr187; (aw_iload d_L_closes_214 rfl 6 rfl
(have z189 := e188.1; aw_rale d_L_closes_216 rfl zd74.G (by decide) (zix_s z117) z189
(fun r190 hqr190 => (have e191 := e188.2 r190 hqr190; (aw_aload d_L_closes_217 rfl 5 rfl (by decide)
(aw_iload d_L_closes_219 rfl 6 rfl
(aw_ialdG d_L_closes_221 rfl zd78.G (zix_s z117)
(aw_aload d_L_closes_222 rfl 0 rfl (by decide)
(aw_iconst d_L_closes_224 rfl
(aw_aload d_L_closes_225 rfl 0 rfl (by decide)
(have z192 := e191.1; aw_alenD d_L_closes_227 rfl (by decide) z192
(have e193 := e191.2; (have z194 := e193.1; have z195 := e193.2.1; have z196 := e193.2.2.1; aw_copyG d_L_closes_228 rfl cmL_132 ⟨Nat.le_of_ble_eq_true rfl, Nat.le_of_ble_eq_true rfl⟩ (by decide : 0 < 3) zd75.G zd75.G z194 z195 z196 (fun _ _ _ => Or.inl rfl)
(aw_nm fun M198 hqM198 => have e197 := e193.2.2.2 M198 hqM198; (aw_aload_n d_L_closes_231 rfl rfl 1 rfl (by decide)
(have z199 := e197.1; aw_getE (kc := 11) d_L_closes_232 rfl flL_64 rfl rfl (by decide) z199
(fun r200 hqr200 => (have e201 := e197.2 r200 hqr200; (aw_iload d_L_closes_235 rfl 6 rfl
(aw_aload d_L_closes_237 rfl 0 rfl (by decide)
(aw_rast d_L_closes_239 rfl zd74.G zd75.G (by decide) (zix_s z117)
(aw_nm fun M203 hqM203 => have e202 := e201 M203 hqM203; (aw_iinc (lv' := [(6, zi (v6 + 1)), (7, zr 75 n181), (0, zr 64 s0), (2, zr 65 r2), (3, zi v3), (4, zr 78 r4), (5, zr 78 r5)]) (y := (v6 + 1)) d_L_closes_240 rfl 6 rfl (by decide) rfl rfl
(aw_goto d_L_closes_243 rfl
(aw_sub [2, 3, 4, 5, 6, 0] rfl e202))))))))))))))))))))))))))))))))))))))))))))))))))))))))))))))))))))))))))))))))))))))))
theorem vL_closes {l : Launch} {P : Int → zM → Prop} {s0 : Nat} {v1 : Int} {M : zM}
    (H0 : (∀ n1 : Nat, (n1 : Int) = M 97 0 65 → ∀ M3 : zM, M3 = zmk M 65 n1 0 → (CVn l m_X10_init 82 402 [zr 65 n1, zr 64 s0, zi (zshl 1 v1), zi (-1)] M3 (fun M4 => (CR l m_X10_by 65 [zr 65 n1, zi (M4 64 s0 2), zi (M4 64 s0 1)] M4 (fun (x8 : Nat) M6 => (zI (M6 65 x8 6) ∧ (((M6 65 x8 6) ≠ 0 → (CIn l m_L_takings 3480 19200 [zr 64 s0, zi v1, zi (M6 64 s0 2)] M6 (fun x17 M15 => (∀ n18 : Nat, (n18 : Int) = M15 97 0 78 → ∀ M20 : zM, M20 = zmk M15 78 n18 21 → (∀ n21 : Nat, (n21 : Int) = M20 97 0 78 → ∀ M23 : zM, M23 = zmk M20 78 n21 21 → LL_closes_59 l P (((((0 + 1) + 82) + 3480) + 1) + 1) (((((0 + 9) + 402) + 19200) + 21) + 21) s0 v1 x8 x17 n18 n21 0 M23))))) ∧ ((M6 65 x8 6) = 0 → P (-2) M6))))))))) :
    CIn l m_L_closes 7065 38933 [zr 64 s0, zi v1] M P :=
(aw_new (k := 65) (n := 9) d_L_closes_0 rfl nwL_28 ⟨Nat.le_of_ble_eq_true rfl, Nat.le_of_ble_eq_true rfl⟩
(fun n1 hqn1 => (aw_nm fun M3 hqM3 => have e2 := H0 n1 hqn1 M3 hqM3; (aw_dup d_L_closes_3 rfl rfl
(aw_aload_n d_L_closes_4 rfl rfl 0 rfl (by decide)
(aw_iconst d_L_closes_5 rfl
(aw_iload_n d_L_closes_6 rfl rfl 1 rfl
(aw_ishl d_L_closes_7 rfl zshl_h
(aw_iconst d_L_closes_8 rfl
(aw_NVn (As := [zr 64 s0, zi (zshl 1 v1), zi (-1)]) (st := [zr 65 n1]) d_L_closes_9 rfl cnL_36 ⟨Nat.le_of_ble_eq_true rfl, Nat.le_of_ble_eq_true rfl⟩ ⟨Nat.le_of_ble_eq_true rfl, Nat.le_of_ble_eq_true rfl⟩ rfl rfl (Nat.le_of_ble_eq_true rfl) (Nat.le_of_ble_eq_true rfl) e2 (fun M4 e5 => (aw_aload_n d_L_closes_12 rfl rfl 0 rfl (by decide)
(aw_getI (kc := 2) d_L_closes_13 rfl flL_71 rfl rfl
(aw_aload_n d_L_closes_16 rfl rfl 0 rfl (by decide)
(aw_getI (kc := 1) d_L_closes_17 rfl flL_39 rfl rfl
(aw_VR (As := [zi (M4 64 s0 2), zi (M4 64 s0 1)]) (st := []) d_L_closes_20 rfl cvL_43 ⟨Nat.le_of_ble_eq_true rfl, Nat.le_of_ble_eq_true rfl⟩ rfl rfl (Nat.le_of_ble_eq_true rfl) (Nat.le_of_ble_eq_true rfl) e5 (fun x8 M6 e7 => (aw_astore_n (lv' := [(2, zr 65 x8), (0, zr 64 s0), (1, zi v1)]) (by decide) d_L_closes_23 rfl rfl (by decide) rfl
(aw_aload_n d_L_closes_24 rfl rfl 0 rfl (by decide)
(aw_getI (kc := 6) d_L_closes_25 rfl flL_125 rfl rfl
(have z9 := e7.1; have e10 := e7.2; aw_if_ne d_L_closes_28 rfl rfl z9 (fun c11 => have e13 := e10.1 c11; (aw_aload_n d_L_closes_34 rfl rfl 1 rfl (by decide)
(aw_iload_n d_L_closes_35 rfl rfl 2 rfl
(aw_aload_n d_L_closes_36 rfl rfl 1 rfl (by decide)
(aw_getI (kc := 2) d_L_closes_37 rfl flL_71 rfl rfl
(aw_SIn (As := [zr 64 s0, zi v1, zi (M6 64 s0 2)]) (st := []) d_L_closes_40 rfl csL_128 ⟨Nat.le_of_ble_eq_true rfl, Nat.le_of_ble_eq_true rfl⟩ ⟨(by decide : (((0 + 1) + 82) + 3480) ≤ 7065), (by decide : (((0 + 9) + 402) + 19200) ≤ 38933)⟩ rfl rfl (Nat.le_of_ble_eq_true rfl) (Nat.le_of_ble_eq_true rfl) e13 (fun x17 M15 e16 => (aw_istore_n (lv' := [(3, zi x17), (2, zr 65 x8), (0, zr 64 s0), (1, zi v1)]) d_L_closes_43 rfl rfl (by decide) rfl
(aw_bipush d_L_closes_44 rfl (by decide)
(aw_newa (k := 78) d_L_closes_46 rfl zd78 (Or.inl ⟨rfl, rfl⟩) ac_int (by decide) (Or.inr rfl) ⟨(by decide : ((((0 + 1) + 82) + 3480) + 1) ≤ 7065), (by decide : ((((0 + 9) + 402) + 19200) + 21) ≤ 38933)⟩
(fun n18 hqn18 => (aw_nm fun M20 hqM20 => have e19 := e16 n18 hqn18 M20 hqM20; (aw_astore (lv' := [(4, zr 78 n18), (3, zi x17), (2, zr 65 x8), (0, zr 64 s0), (1, zi v1)]) (by decide) d_L_closes_48 rfl (by decide) rfl
(aw_bipush d_L_closes_50 rfl (by decide)
(aw_newa (k := 78) d_L_closes_52 rfl zd78 (Or.inl ⟨rfl, rfl⟩) ac_int (by decide) (Or.inr rfl) ⟨(by decide : (((((0 + 1) + 82) + 3480) + 1) + 1) ≤ 7065), (by decide : (((((0 + 9) + 402) + 19200) + 21) + 21) ≤ 38933)⟩
(fun n21 hqn21 => (aw_nm fun M23 hqM23 => have e22 := e19 n21 hqn21 M23 hqM23; (aw_astore (lv' := [(5, zr 78 n21), (4, zr 78 n18), (3, zi x17), (2, zr 65 x8), (0, zr 64 s0), (1, zi v1)]) (by decide) d_L_closes_54 rfl (by decide) rfl
(aw_iconst d_L_closes_56 rfl
(aw_istore (lv' := [(6, zi 0), (5, zr 78 n21), (4, zr 78 n18), (3, zi x17), (2, zr 65 x8), (0, zr 64 s0), (1, zi v1)]) d_L_closes_57 rfl (by decide) rfl
(aw_sub [5, 6, 4, 3, 2, 1, 0] rfl e22))))))))))))))))))))) (fun c12 => have e14 := e10.2 c12; (aw_bipush d_L_closes_31 rfl (by decide)
(aw_rin d_L_closes_33 rfl e14))))))))))))))))))))))))
noncomputable abbrev clD (S : zS) (g : Int) : Int := dN (qB S g) (qA S g) (qfee S) (qlaw S)
noncomputable abbrev clT (S : zS) (g : Int) : Int := tkg (qB S g) (qA S g) (qfee S) (qlaw S)
noncomputable abbrev clS (S : zS) (g : Int) : zS := sNote (sTrd S g (qn S).toNat) (clD S g) (clT S g)
abbrev clP (M : zM) (S : zS) (g : Int) (h : Nat) : Int → zM → Prop := fun x M' => (Hx M M' h ∧ zSy M') ∧ (clD S g = 0 → x = -2 ∧ lH M' h S) ∧ (clD S g ≠ 0 → x = clD S g ∧ lH M' h (clS S g))
/-- the two rows of what each pays and has done -/
def clR (M : zM) (S : zS) (g : Int) (a b : Nat) (n : Int) : Prop := (a ≠ b) ∧ ((a : Int) < M 97 0 78 ∧ (b : Int) < M 97 0 78) ∧ ∀ t, 0 ≤ t ∧ t < n → M 78 a t = mT S g t ∧ M 78 b t = cT S g t
theorem clR.lr {K : List Nat} {M M' : zM} {a b : Nat} {n : Int} (R : clR M S g a b n) (x : Lr K M M') : clR M' S g a b n :=
  ⟨R.1, ⟨Int.lt_of_lt_of_le R.2.1.1 (x.2.1 _), Int.lt_of_lt_of_le R.2.1.2 (x.2.1 _)⟩, fun t ht => by rw [x.1 78 a (by decide) R.2.1.1, x.1 78 b (by decide) R.2.1.2]; exact R.2.2 t ht⟩
theorem sTrd_n {S : zS} {g : Int} {k : Nat} : qn (sTrd S g k) = qn S := congrFun (sTrd_s k).1 0
theorem closes_134 {m a b : Nat} {d : Int} (ws : wfS kk S) (hk : kk ≤ 1000) (hd : d = clD S g) (hg : 0 ≤ g ∧ g < 4) (hdn : d ≠ 0) : ∀ (f t c n : Nat) (M1 : zM), (t : Int) + f = qn S → c ≤ 7045 + t → n ≤ 38853 + 4 * t → Hx M M1 h → zSy M1 → lH M1 h (sTrd S g t) → clR M1 S g a b (qn S) → (m : Int) < M1 97 0 65 → M1 65 m 6 = d → LL_closes_134 l (clP M S g h) c n h m (clT S g) a b t M1 := by
  have ok := ws.ok
  intro f
  induction f with
  | zero =>
    intro t c n M1 ht hc hn X y w R hm e6
    have et : (qn S).toNat = t := by omega
    have tb : -160000000 ≤ clT S g ∧ clT S g ≤ 160000000 := tkg_b (w := qlaw S) (gd_m (E := fun t => qgr S t = g) ok.1) ok.2.2.1
    have q56 : qsc (sTrd S g t) = qsc S := (sTrd_s t).1
    have hn20 := ws.1
    have b5 := ws.2.2.2.1
    have b6 := ws.2.2.2.2.1
    refine vL_closes_134 ?_
    rw [w.n, sTrd_n]
    refine ⟨by omega, by omega, fun _ M2 e2 => ?_, fun q => absurd q (by omega)⟩
    have v3 : M1 64 h 3 = qsc S 3 := by rw [← q56]; exact w.sc (by decide)
    rw [v3] at e2
    have w2 := (w.fld (by decide) e2).1
    have u5 : M2 64 h 5 = qsc S 5 := by rw [← q56]; exact (w2.sc (k := 5) (by decide)).trans (sSc_o (by decide))
    have u6 : M2 64 h 6 = qsc S 6 := by rw [← q56]; exact (w2.sc (k := 6) (by decide)).trans (sSc_o (by decide))
    rw [u5, u6]
    have X2 := X.zu e2 (.inl ⟨rfl, rfl, by decide⟩)
    have fin : ∀ x : Int, (x = if qsc S 5 = 0 then clT S g else max (qsc S 6) (clT S g)) → ∀ M3, M3 = zu M2 64 h 6 x → ∀ M4, M4 = zu M3 64 h 5 (M3 64 h 5 + 1) → ∀ M5, M5 = zu M4 64 h 4 (M4 64 h 4 + M4 65 m 6) → clP M S g h (M5 65 m 6) M5 := by
      intro x hx M3 e3 M4 e4 M5 e5
      have w3 := (w2.fld (by decide) e3).1
      have u3 : M3 64 h 5 = qsc S 5 := by rw [e3, zu_w, if_neg (by decide)]; exact u5
      rw [u3] at e4
      have w4 := (w3.fld (by decide) e4).1
      have u4 : M4 64 h 4 = qsc S 4 := by
        have e24 : M2 64 h 4 = qsc S 4 := by rw [← q56]; exact (w2.sc (k := 4) (by decide)).trans (sSc_o (by decide))
        rw [e4, zu_w, if_neg (by decide), e3, zu_w, if_neg (by decide)]
        exact e24
      have k4 : M4 65 m 6 = d := by rw [e4, zu_o _ _ (nk (by decide)), e3, zu_o _ _ (nk (by decide)), e2, zu_o _ _ (nk (by decide))]; exact e6
      rw [u4, k4] at e5
      have w5 := (w4.fld (by decide) e5).1
      have e97 : M5 97 0 = M1 97 0 := by rw [e5, zu_o _ _ (nk (by decide)), e4, zu_o _ _ (nk (by decide)), e3, zu_o _ _ (nk (by decide)), e2, zu_o _ _ (nk (by decide))]
      have X5 := ((X2.zu e3 (.inl ⟨rfl, rfl, by decide⟩)).zu e4 (.inl ⟨rfl, rfl, by decide⟩)).zu e5 (.inl ⟨rfl, rfl, by decide⟩)
      have k5 : M5 65 m 6 = d := by rw [e5, zu_o _ _ (nk (by decide))]; exact k4
      refine ⟨⟨X5, y.of e97⟩, fun z => absurd (hd.trans z) hdn, fun _ => ⟨k5.trans hd, ?_⟩⟩
      have := sNote_e (S := sTrd S g t) (d := d) (k := clT S g) (x := x) (by rw [q56]; exact hx)
      rw [q56] at this
      unfold clS
      rw [et, ← hd, ← this]
      exact w5
    refine ⟨by omega, fun c5 => ⟨by omega, by omega, ?_⟩, fun c5 => ?_⟩
    · exact fin _ (by rw [if_neg c5])
    · exact fin _ (by rw [if_pos c5])
  | succ f ih =>
    intro t c n M1 ht hc hn X y w R hm e6
    have hT : 0 ≤ (t : Int) ∧ (t : Int) < qn S := by omega
    have hT' : 0 ≤ (t : Int) ∧ (t : Int) < qn (sTrd S g t) := by rw [sTrd_n]; exact hT
    have hct := cT_b (g := g) ok hT
    have hn20 := ws.1
    have eun : qun (sTrd S g t) t = qun S t := (sTrd_s t).2.2.2 t (by omega)
    have esl : qsl (sTrd S g t) t = qsl S t := by rw [(sTrd_s t).2.1]
    have h01 := w.s01 hT'
    rw [esl] at h01
    have h4 := w.un4 hT'
    rw [eun] at h4
    have wU := w.r11
    have un := w.un hT'
    rw [eun] at un
    have lu := lU_v w.1
    have nxt : ∀ (c n : Nat) M2, c ≤ 7045 + (t + 1) → n ≤ 38853 + 4 * (t + 1) → Hx M M2 h → zSy M2 → lH M2 h (sTrd S g (t + 1)) → clR M2 S g a b (qn S) → (m : Int) < M2 97 0 65 → M2 65 m 6 = d → LL_closes_134 l (clP M S g h) c n h m (clT S g) a b ((t : Int) + 1) M2 := by
      intro c n M2 h1 h2 h3 h4 h5 h6 h7 h8
      have := ih (t + 1) c n M2 (by omega) h1 h2 h3 h4 h5 h6 h7 h8
      rw [show ((t + 1 : Nat) : Int) = (t : Int) + 1 by omega] at this
      exact this
    obtain ⟨r1, r2⟩ := R.2.2 (t : Int) hT
    -- the walk from the purse written on
    have go : ∀ p : Int, p = qpu (sTrd S g t) t + (if qsl S t = 1 then mT S g t else -(mT S g t)) → ∀ M2, M2 = zu M1 72 h t p → ((0 ≤ M2 64 h 10 ∧ M2 64 h 10 < M2 97 0 73) ∧ ∀ r131 : Nat, (r131 : Int) = M2 64 h 10 → (∀ M134 : zM, M134 = zu M2 73 r131 t ((M2 73 r131 t) + (M2 78 b t)) → ((0 ≤ M134 64 h 11 ∧ M134 64 h 11 < M134 97 0 74) ∧ ∀ r136 : Nat, (r136 : Int) = M134 64 h 11 → ((0 ≤ M134 74 r136 t ∧ M134 74 r136 t < M134 97 0 75) ∧ ∀ r139 : Nat, (r139 : Int) = M134 74 r136 t → (0 ≤ M134 75 r139 (-1) ∧ ((0 ≤ ((M134 75 r139 (-1)) - (M134 78 b t)) ∧ ((M134 75 r139 (-1)) - (M134 78 b t)) ≤ 1000000) ∧ ((c + 1) ≤ 7065 ∧ (n + ((M134 75 r139 (-1)) - (M134 78 b t)).toNat) ≤ 38933) ∧ ∀ n143 : Nat, (n143 : Int) = M134 97 0 75 → ∀ M147 : zM, M147 = zmk M134 75 n143 ((M134 75 r139 (-1)) - (M134 78 b t)) → ((0 ≤ M147 64 h 11 ∧ M147 64 h 11 < M147 97 0 74) ∧ ∀ r149 : Nat, (r149 : Int) = M147 64 h 11 → ((0 ≤ M147 74 r149 t ∧ M147 74 r149 t < M147 97 0 75) ∧ ∀ r152 : Nat, (r152 : Int) = M147 74 r149 t → (0 ≤ M147 75 n143 (-1) ∧ (((0 : Int) ≤ (M147 75 n143 (-1)) ∧ (0 : Int) ≤ (M147 78 b t) ∧ (0 : Int) ≤ 0 ∧ ((M147 78 b t) : Int) + (M147 75 n143 (-1)) ≤ (zln M147 75 r152 : Nat) ∧ (0 : Int) + (M147 75 n143 (-1)) ≤ (zln M147 75 n143 : Nat)) ∧ zln M147 75 r152 ≤ 1000000 ∧ zln M147 75 n143 ≤ 1000000 ∧ ∀ M160 : zM, M160 = zcq M147 75 r152 (M147 78 b t) 75 n143 0 (M147 75 n143 (-1)) → ((0 ≤ M160 64 h 11 ∧ M160 64 h 11 < M160 97 0 74) ∧ ∀ r162 : Nat, (r162 : Int) = M160 64 h 11 → (∀ M165 : zM, M165 = zu M160 74 r162 t (n143 : Int) → LL_closes_134 l (clP M S g h) (c + 1) (n + ((M134 75 r139 (-1)) - (M134 78 b t)).toNat) h m (clT S g) a b ((t : Int) + 1) M165)))))))))))) := by
      intro p hp M2 e2
      have w2 := w.qu hT' e2
      have o2 : ∀ k i, k ≠ 72 → M2 k i = M1 k i := fun k i z => by rw [e2]; exact zu_o k i (fun q => z q.1)
      refine ⟨w2.r10.1, fun x10 q10 M3 e3 => ?_⟩
      obtain rfl := w2.r10.2 x10 q10
      have v73 : M2 73 x10 t = qtr (sTrd S g t) t := w2.td hT'
      have v78 : M2 78 b t = cT S g t := by rw [o2 78 b (by decide)]; exact r2
      rw [v73, v78] at e3
      have w3 := w2.qt hT' e3
      have o3 : ∀ k i, k ≠ 73 → M3 k i = M2 k i := fun k i z => by rw [e3]; exact zu_o k i (fun q => z q.1)
      have u3 : M3 78 b t = cT S g t := by rw [o3 78 b (by decide)]; exact v78
      refine ⟨w3.r11.1, fun U qU_ => ?_⟩
      obtain rfl := w3.r11.2 U qU_
      refine ⟨(w3.rr hT').1, fun x qx => ?_⟩
      obtain rfl := (w3.rr hT').2 x qx
      have un3 : M3 75 (lR M3 x10 t) (-1) = qun S t := (w3.un hT').trans eun
      rw [un3, u3]
      refine ⟨by omega, by omega, by omega, fun y3 hy3 M4 e4 => ?_⟩
      have G4 : Gr [75] M3 M4 := by rw [e4]; exact Gr.mk (by decide) (by decide) hy3
      obtain ⟨w4, eU4, eR4⟩ := G4.hl w3
      refine ⟨w4.r11.1, fun U qU2 => ?_⟩
      obtain rfl := w4.r11.2 U qU2
      refine ⟨(w4.rr hT').1, fun x qx2 => ?_⟩
      obtain rfl := (w4.rr hT').2 x qx2
      have l4 : M4 75 y3 (-1) = qun S t - cT S g t := by rw [e4]; exact zmk_l (by decide)
      have u4 : M4 78 b t = cT S g t := by rw [e4, zmk_o (nk (by decide)) (by decide)]; exact u3
      have un4 : M4 75 (lR M4 x10 t) (-1) = qun S t := (w4.un hT').trans eun
      have z1 : zln M4 75 (lR M4 x10 t) = (qun S t).toNat := by rw [zln_d rfl, un4]
      have z2 : zln M4 75 y3 = (qun S t - cT S g t).toNat := by rw [zln_d rfl, l4]
      have c4 : M4 97 0 75 = (y3 : Int) + 1 := by rw [e4]; exact zmk_c
      rw [l4, u4, z1, z2]
      refine ⟨by omega, by omega, by omega, by omega, fun M5 e5 => ?_⟩
      have o5 : ∀ k i, ¬ (k = 75 ∧ i = y3) → M5 k i = M4 k i := fun k i z => by rw [e5]; exact zcq_o k i z
      have hy0 : (lR M4 x10 t : Int) < (y3 : Int) := by
        rw [(eR4 t hT').1, lR_v w3.1 (w3.tt hT'), hy3]
        exact (w3.rr hT').1.2
      have hne : ∀ i : Nat, (i : Int) < M3 97 0 75 → i ≠ y3 := fun i hi z => by rw [z, ← hy3] at hi; exact absurd hi (Int.lt_irrefl _)
      have G5 : Gr [75] M3 M5 := G4.st (k := 75) (i := y3) (by decide) (Int.le_of_eq hy3.symm) o5
      obtain ⟨w5, eU5, eR5⟩ := G5.hl w3
      refine ⟨w5.r11.1, fun U qU3 M6 e6_ => ?_⟩
      obtain rfl := w5.r11.2 U qU3
      have l5 : M5 75 y3 (-1) = qun S t - cT S g t := by
        rw [e5]
        exact (if_neg (by omega)).trans l4
      have f5 : ∀ u, 0 ≤ u ∧ u < qun S t - cT S g t → M5 75 y3 u = qsy (sTrd S g t) t (u + cT S g t) := fun u hu => by
        rw [e5]
        refine (if_pos ⟨rfl, rfl, hu.1, by omega⟩).trans ?_
        rw [show cT S g t + (u - 0) = u + cT S g t by omega]
        exact w4.sy hT' ⟨by omega, by rw [show qun (sQt (sQu (sTrd S g t) t p) t (qtr (sTrd S g t) t + cT S g t)) t = qun S t from eun]; omega⟩
      have p6 := w5.put (M' := M6) hT' (r := y3) (by rw [o5 97 0 (nk (by decide)), c4]; exact Int.lt_succ _) (by rw [l5]; omega) e6_
      have hs := sTrade_e (S := sTrd S g t) (t := (t : Int)) (c := cT S g t) (m := mT S g t) (p := p) (f := M5 75 y3) (by rw [eun]; exact hct) (by rw [esl]; exact hp) (by rw [eun]; exact f5)
      rw [eun] at hs
      rw [l5, hs] at p6
      have X3 : Hx M M3 x10 := (X.zu e2 (.inr (.inl ⟨by decide, rfl⟩))).zu e3 (.inr (.inl ⟨by decide, rfl⟩))
      have hl3 : (x10 : Int) < M3 97 0 64 := w3.1.1.1
      have X5 : Hx M M5 x10 := X3.tr (G5.hx hl3)
      have X6 : Hx M M6 x10 := X5.zu e6_ (.inr (.inr ⟨rfl, X5.u⟩))
      have y5 : zSy M5 := ((y.of (by rw [o3 97 0 (by decide), o2 97 0 (by decide)])).gr G5 (by decide))
      have o6 : ∀ k i, k ≠ 74 → M6 k i = M5 k i := fun k i z => by rw [e6_]; exact zu_o k i (fun q => z q.1)
      have keep : ∀ (k i : Nat), k ≠ 72 → k ≠ 73 → k ≠ 74 → (64 ≤ k ∧ k < 96) → (i : Int) < M1 97 0 k → M6 k i = M1 k i := fun k i z1 z2 z3 hk hi => by
        rw [o6 k i z3, G5.2.1 k i hk (by rw [o3 97 0 (by decide), o2 97 0 (by decide)]; exact hi), o3 k i z2, o2 k i z1]
      have c97 : ∀ q : Int, M1 97 0 q ≤ M6 97 0 q := fun q => by
        rw [o6 97 0 (by decide)]
        have := G5.2.2.1 q
        rw [o3 97 0 (by decide), o2 97 0 (by decide)] at this
        exact this
      refine nxt (c + 1) _ M6 (by omega) (by omega) X6 (y5.of (o6 97 0 (by decide))) p6.1 ⟨R.1, ⟨Int.lt_of_lt_of_le R.2.1.1 (c97 _), Int.lt_of_lt_of_le R.2.1.2 (c97 _)⟩, fun t' ht' => ?_⟩ (Int.lt_of_lt_of_le hm (c97 _)) (by rw [keep 65 m (by decide) (by decide) (by decide) (by decide) hm]; exact e6)
      rw [keep 78 a (by decide) (by decide) (by decide) (by decide) R.2.1.1, keep 78 b (by decide) (by decide) (by decide) (by decide) R.2.1.2]
      exact R.2.2 t' ht'
    refine vL_closes_134 ?_
    rw [w.n, sTrd_n]
    refine ⟨by omega, by omega, fun q => absurd q (by omega), fun _ => ⟨w.r9.1, fun x9 q9 => ?_⟩⟩
    obtain rfl := w.r9.2 x9 q9
    refine ⟨w.t21 hT', w.r7.1, fun x7 q7 => ?_⟩
    obtain rfl := w.r7.2 x7 q7
    rw [w.sl hT', esl, w.pu hT', r1]
    refine ⟨by omega, fun s => go _ ?_, fun s => go _ ?_⟩
    · rw [if_neg (by omega)]
    · rw [if_pos (by omega)]
end
