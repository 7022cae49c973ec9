/-! ===== what a trader pays, has: the law's deal ===== -/
/-- a trader's units put anew -/
def sPu (S : zS) (t N : Int) (f : Int → Int) : zS := (qsc S, qsl S, qgr S, upf (qun S) t N, (fun t' u => if t' = t then (if 0 ≤ u ∧ u < N then f u else 0) else qsy S t' u), qpu S, qtr S)
theorem lH.put {M M' : zM} {h r : Nat} {S : zS} {t : Int} (w : lH M h S) (ht : 0 ≤ t ∧ t < qn S) (hr : (r : Int) < M 97 0 75) (h4 : 0 ≤ M 75 r (-1) ∧ M 75 r (-1) ≤ 4) (e : M' = zu M 74 (lU M h) t (r : Int)) : lH M' h (sPu S t (M 75 r (-1)) (M 75 r)) ∧ M' 64 h = M 64 h := by
  have ht' := w.tt ht
  obtain ⟨w0, wS⟩ := w
  have o : ∀ k i, ¬ (k = 74 ∧ i = lU M h) → M' k i = M k i := fun k i z => by rw [e]; exact zu_o k i z
  have e97 : M' 97 0 = M 97 0 := o 97 0 (nk (by decide))
  have e64 : M' 64 h = M 64 h := o 64 h (nk (by decide))
  have k75 : ∀ i, M' 75 i = M 75 i := fun i => o 75 i (nk (by decide))
  have eU : lU M' h = lU M h := by unfold lU; rw [e64]
  have f74 : ∀ t', M' 74 (lU M h) t' = if t' = t then (r : Int) else M 74 (lU M h) t' := fun t' => by rw [e, zu_w]
  have rN : lR M' h t = r := by unfold lR; rw [eU, f74, if_pos rfl, Int.toNat_natCast]
  have rO : ∀ t', t' ≠ t → lR M' h t' = lR M h t' := fun t' hne => by unfold lR; rw [eU, f74, if_neg hne]
  refine ⟨⟨⟨by rw [e97]; exact w0.1, by rw [e64]; exact w0.2.1, by rw [e64, e97]; exact w0.2.2.1, by rw [e64]; exact w0.2.2.2.1, by rw [o 70 h (nk (by decide))]; exact w0.2.2.2.2.1, fun t' h' => ?_⟩, ?_⟩, e64⟩
  · rw [e64] at h'
    rw [eU, f74, e97, k75]
    by_cases c : t' = t
    · rw [if_pos c, c, rN]
      exact ⟨⟨Int.natCast_nonneg _, hr⟩, h4⟩
    · rw [if_neg c, rO t' c]
      exact w0.2.2.2.2.2 t' h'
  · rw [← wS]
    unfold sPu lS
    rw [e64, o 70 h (nk (by decide)), o 71 h (nk (by decide)), o 72 h (nk (by decide)), o 73 h (nk (by decide))]
    refine Prod.ext rfl (Prod.ext rfl (Prod.ext rfl (Prod.ext ?_ (Prod.ext ?_ rfl))))
    · funext t'
      show (if 0 ≤ t' ∧ t' < M 64 h 0 then M' 75 (lR M' h t') (-1) else 0) = if t' = t then M 75 r (-1) else if 0 ≤ t' ∧ t' < M 64 h 0 then M 75 (lR M h t') (-1) else 0
      rw [k75]
      by_cases c : t' = t
      · rw [if_pos c, c, rN, if_pos ht']
      · rw [if_neg c, rO t' c]
    · funext t' u
      show (if 0 ≤ t' ∧ t' < M 64 h 0 ∧ 0 ≤ u ∧ u < M' 75 (lR M' h t') (-1) then M' 75 (lR M' h t') u else 0) = if t' = t then (if 0 ≤ u ∧ u < M 75 r (-1) then M 75 r u else 0) else if 0 ≤ t' ∧ t' < M 64 h 0 ∧ 0 ≤ u ∧ u < M 75 (lR M h t') (-1) then M 75 (lR M h t') u else 0
      rw [k75]
      by_cases c : t' = t
      · rw [if_pos c, c, rN]
        by_cases d : 0 ≤ u ∧ u < M 75 r (-1)
        · rw [if_pos d, if_pos ⟨ht'.1, ht'.2, d⟩]
        · rw [if_neg d, if_neg (fun z => d z.2.2)]
      · rw [if_neg c, rO t' c]
/-- nobody's units of t -/
theorem okS.no {S : zS} {t : Int} {f : Int → Int} (ok : okS S) : okS (sPu S t 0 f) := by
  have q : ∀ t' u, qU (sPu S t 0 f) t' u → t' ≠ t ∧ qU S t' u := by
    rintro t' u ⟨h1, h2, h3, h4⟩
    have h4' : u < if t' = t then 0 else qun S t' := h4
    by_cases c : t' = t
    · rw [if_pos c] at h4'
      omega
    · rw [if_neg c] at h4'
      exact ⟨c, h1, h2, h3, h4'⟩
  have y : ∀ t' u, t' ≠ t → qsy (sPu S t 0 f) t' u = qsy S t' u := fun t' u c => if_neg c
  obtain ⟨⟨o1, o2, o3, o4⟩, o5, o6, o7⟩ := ok
  refine ⟨⟨o1, fun t' ht' => ?_, fun t' u c => ?_, fun t' u c c2 => ?_⟩, o5, o6, o7⟩
  · show 0 ≤ (if t' = t then 0 else qun S t') ∧ (if t' = t then 0 else qun S t') ≤ 4
    split
    · omega
    · exact o2 t' ht'
  · rw [y _ _ (q _ _ c).1]
    exact o3 t' u (q _ _ c).2
  · rw [y _ _ (q _ _ c).1, y _ _ (q _ _ c).1]
    exact o4 t' u (q _ _ c).2 (q _ _ c2).2
theorem no_row {S : zS} {t g : Int} {f : Int → Int} (ok : okS S) : qB (sPu S t 0 f) g = (qB S g).filter (fun x => !decide (ktr x = t)) ∧ qA (sPu S t 0 f) g = (qA S g).filter (fun x => !decide (ktr x = t)) := by
  have un : ∀ t', t' ≠ t → qun (sPu S t 0 f) t' = qun S t' := fun t' c => if_neg c
  have un0 : qun (sPu S t 0 f) t = 0 := if_pos rfl
  have y : ∀ t' u, t' ≠ t → qsy (sPu S t 0 f) t' u = qsy S t' u := fun t' u c => if_neg c
  refine ⟨rowOf_is (((mB_ok ok.1).filter _).to fun x => ⟨?_, ?_⟩), rowOf_is (((mA_ok ok.1).filter _).to fun x => ⟨?_, ?_⟩)⟩
  · rintro ⟨⟨t', u, ⟨q, e, s⟩, rfl⟩, p⟩
    rw [(kB_d (ok.1.rng q)).1] at p
    have c : t' ≠ t := by simpa using p
    exact ⟨t', u, ⟨⟨q.1, q.2.1, q.2.2.1, by rw [un t' c]; exact q.2.2.2⟩, e, s⟩, by unfold kB; rw [y t' u c]⟩
  · rintro ⟨t', u, ⟨q, e, s⟩, rfl⟩
    have c : t' ≠ t := by
      intro z
      have := q.2.2.2
      rw [z, un0] at this
      have := q.2.2.1
      omega
    have q' : qU S t' u := ⟨q.1, q.2.1, q.2.2.1, by rw [← un t' c]; exact q.2.2.2⟩
    have e2 : kB (qsy (sPu S t 0 f)) t' u = kB (qsy S) t' u := by unfold kB; rw [y t' u c]
    rw [e2]
    refine ⟨⟨t', u, ⟨q', e, s⟩, rfl⟩, ?_⟩
    rw [(kB_d (ok.1.rng q')).1]
    simpa using c
  · rintro ⟨⟨t', u, ⟨q, e, s⟩, rfl⟩, p⟩
    rw [(kA_d (ok.1.rng q)).1] at p
    have c : t' ≠ t := by simpa using p
    exact ⟨t', u, ⟨⟨q.1, q.2.1, q.2.2.1, by rw [un t' c]; exact q.2.2.2⟩, e, s⟩, by unfold kA; rw [y t' u c]⟩
  · rintro ⟨t', u, ⟨q, e, s⟩, rfl⟩
    have c : t' ≠ t := by
      intro z
      have := q.2.2.2
      rw [z, un0] at this
      have := q.2.2.1
      omega
    have q' : qU S t' u := ⟨q.1, q.2.1, q.2.2.1, by rw [← un t' c]; exact q.2.2.2⟩
    have e2 : kA (qsy (sPu S t 0 f)) t' u = kA (qsy S) t' u := by unfold kA; rw [y t' u c]
    rw [e2]
    refine ⟨⟨t', u, ⟨q', e, s⟩, rfl⟩, ?_⟩
    rw [(kA_d (ok.1.rng q')).1]
    simpa using c
abbrev dKs : List Nat := [64, 65, 70, 71, 72, 73, 74, 75, 76, 77]
theorem zSy.gr {K : List Nat} {M M' : zM} (y : zSy M) (g : Gr K M M') (h : ∀ q ∈ [64, 70, 71, 72, 73], q ∉ K) : zSy M' := by
  unfold zSy
  have e : ∀ q : Nat, q ∈ [64, 70, 71, 72, 73] → M' 97 0 q = M 97 0 q := fun q hq => g.2.2.2 q (h q hq)
  have e0 : M' 97 0 64 = M 97 0 64 := e 64 (by decide)
  have e1 : M' 97 0 70 = M 97 0 70 := e 70 (by decide)
  have e2 : M' 97 0 71 = M 97 0 71 := e 71 (by decide)
  have e3 : M' 97 0 72 = M 97 0 72 := e 72 (by decide)
  have e4 : M' 97 0 73 = M 97 0 73 := e 73 (by decide)
  rw [e0, e1, e2, e3, e4]
  exact y
theorem zSy.of {M M' : zM} (y : zSy M) (e : M' 97 0 = M 97 0) : zSy M' := by unfold zSy; rw [e]; exact y
section
variable {l : Launch} {M : zM} {S : zS} {h : Nat} {t w : Int}
def LL_deal_111 (l : Launch) (P : Int → zM → Prop) (c n : Nat) (s0 : Nat) (v1 : Int) (r4 : Nat) (v5 : Int) (v7 : Int) (v8 : Int) (v9 : Int) (M : zM) : Prop := AW l m_L_deal (zTin m_L_deal 174 960 c n P) 111 [(0, zr 64 s0), (1, zi v1), (4, zr 65 r4), (5, zi v5), (7, zi v7), (8, zi v8), (9, zi v9)] [] M
theorem vL_deal_111 {l : Launch} {P : Int → zM → Prop} {c n : Nat} {s0 : Nat} {v1 : Int} {r4 : Nat} {v5 : Int} {v7 : Int} {v8 : Int} {v9 : Int} {M : zM}
    (H0 : (zI v9 ∧ zI v5 ∧ ((v5 ≤ v9 → ((0 ≤ M 64 s0 7 ∧ M 64 s0 7 < M 97 0 70) ∧ ∀ r59 : Nat, (r59 : Int) = M 64 s0 7 → ((0 ≤ v1 ∧ v1 < 21) ∧ (zI (M 70 r59 v1) ∧ (((M 70 r59 v1) = 0 → P (v7 - ((M 65 r4 5) - v8)) M) ∧ ((M 70 r59 v1) ≠ 0 → P (((M 65 r4 5) + v8) - v7) M)))))) ∧ (v9 < v5 → ((0 ≤ M 64 s0 11 ∧ M 64 s0 11 < M 97 0 74) ∧ ∀ r70 : Nat, (r70 : Int) = M 64 s0 11 → ((0 ≤ v1 ∧ v1 < 21) ∧ (0 ≤ M 74 r70 v1 ∧ M 74 r70 v1 < M 97 0 75) ∧ ∀ r74 : Nat, (r74 : Int) = M 74 r70 v1 → ((0 ≤ v9 ∧ v9 < M 75 r74 (-1) ∧ M 75 r74 (-1) ≤ 1000000) ∧ LL_deal_111 l P c n s0 v1 r4 v5 v7 (v8 + (M 75 r74 v9)) (v9 + 1) M))))))) :
    LL_deal_111 l P c n s0 v1 r4 v5 v7 v8 v9 M :=
(aw_iload d_L_deal_111 rfl 6 rfl
(aw_iload d_L_deal_113 rfl 3 rfl
(have z51 := H0.1; have z52 := H0.2.1; have e53 := H0.2.2; aw_icmp_ge d_L_deal_115 rfl rfl z51 z52 (fun c54 => have e56 := e53.1 c54; (aw_aload_n d_L_deal_138 rfl rfl 0 rfl (by decide)
(have z58 := e56.1; aw_getE (kc := 7) d_L_deal_139 rfl flL_50 rfl rfl (by decide) z58
(fun r59 hqr59 => (have e60 := e56.2 r59 hqr59; (aw_iload_n d_L_deal_142 rfl rfl 1 rfl
(have z61 := e60.1; aw_zaldG d_L_deal_143 rfl zd70.G (zix_s z61)
(have e62 := e60.2; (have z63 := e62.1; have e64 := e62.2; aw_if_eq d_L_deal_144 rfl rfl z63 (fun c65 => have e67 := e64.1 c65; (aw_iload d_L_deal_161 rfl 4 rfl
(aw_aload d_L_deal_163 rfl 2 rfl (by decide)
(aw_getI (kc := 5) d_L_deal_165 rfl flL_68 rfl rfl
(aw_iload d_L_deal_168 rfl 5 rfl
(aw_isub d_L_deal_170 rfl
(aw_isub d_L_deal_171 rfl
(aw_rin d_L_deal_172 rfl e67)))))))) (fun c66 => have e68 := e64.2 c66; (aw_aload d_L_deal_147 rfl 2 rfl (by decide)
(aw_getI (kc := 5) d_L_deal_149 rfl flL_68 rfl rfl
(aw_iload d_L_deal_152 rfl 5 rfl
(aw_iadd d_L_deal_154 rfl
(aw_iload d_L_deal_155 rfl 4 rfl
(aw_isub d_L_deal_157 rfl
(aw_goto d_L_deal_158 rfl
(aw_rin d_L_deal_172 rfl e68)))))))))))))))))) (fun c55 => have e57 := e53.2 c55; (aw_iload d_L_deal_118 rfl 5 rfl
(aw_aload_n d_L_deal_120 rfl rfl 0 rfl (by decide)
(have z69 := e57.1; aw_getE (kc := 11) d_L_deal_121 rfl flL_64 rfl rfl (by decide) z69
(fun r70 hqr70 => (have e71 := e57.2 r70 hqr70; (aw_iload_n d_L_deal_124 rfl rfl 1 rfl
(have z72 := e71.1; have z73 := e71.2.1; aw_rale d_L_deal_125 rfl zd74.G (by decide) (zix_s z72) z73
(fun r74 hqr74 => (have e75 := e71.2.2 r74 hqr74; (aw_iload d_L_deal_126 rfl 6 rfl
(have z76 := e75.1; aw_ialdG d_L_deal_128 rfl zd75.G (zix_d rfl z76)
(have e77 := e75.2; (aw_iadd d_L_deal_129 rfl
(aw_istore (lv' := [(8, zi (v8 + (M 75 r74 v9))), (0, zr 64 s0), (1, zi v1), (4, zr 65 r4), (5, zi v5), (7, zi v7), (9, zi v9)]) d_L_deal_130 rfl (by decide) rfl
(aw_iinc (lv' := [(9, zi (v9 + 1)), (8, zi (v8 + (M 75 r74 v9))), (0, zr 64 s0), (1, zi v1), (4, zr 65 r4), (5, zi v5), (7, zi v7)]) (y := (v9 + 1)) d_L_deal_132 rfl 6 rfl (by decide) rfl rfl
(aw_goto d_L_deal_135 rfl
(aw_sub [2, 3, 4, 5, 6, 1, 0] rfl e77)))))))))))))))))))))
theorem vL_deal {l : Launch} {P : Int → zM → Prop} {s0 : Nat} {v1 : Int} {v2 : Int} {v3 : Int} {M : zM}
    (H0 : (∀ n1 : Nat, (n1 : Int) = M 97 0 65 → ∀ M3 : zM, M3 = zmk M 65 n1 0 → ((0 ≤ M3 64 s0 8 ∧ M3 64 s0 8 < M3 97 0 71) ∧ ∀ r5 : Nat, (r5 : Int) = M3 64 s0 8 → ((0 ≤ v1 ∧ v1 < 21) ∧ (CVn l m_X10_init 82 402 [zr 65 n1, zr 64 s0, zi (zshl 1 (M3 71 r5 v1)), zi v3] M3 (fun M9 => (CR l m_X10_by 65 [zr 65 n1, zi v2, zi (M9 64 s0 1)] M9 (fun (x13 : Nat) M11 => (CI l m_X10_doneOf [zr 65 x13, zi v1] M11 (fun x16 M14 => (zI v2 ∧ ((v2 = 3 → (CRn l m_X9_copy 64 7 138 [zr 64 s0] M14 (fun (x25 : Nat) M23 => ((0 ≤ M23 64 x25 11 ∧ M23 64 x25 11 < M23 97 0 74) ∧ ∀ r27 : Nat, (r27 : Int) = M23 64 x25 11 → (∀ n29 : Nat, (n29 : Int) = M23 97 0 75 → ∀ M31 : zM, M31 = zmk M23 75 n29 0 → (∀ M33 : zM, M33 = zu M31 74 r27 v1 (n29 : Int) → (∀ n34 : Nat, (n34 : Int) = M33 97 0 65 → ∀ M36 : zM, M36 = zmk M33 65 n34 0 → ((0 ≤ M36 64 s0 8 ∧ M36 64 s0 8 < M36 97 0 71) ∧ ∀ r38 : Nat, (r38 : Int) = M36 64 s0 8 → (CVn l m_X10_init 82 402 [zr 65 n34, zr 64 x25, zi (zshl 1 (M36 71 r38 v1)), zi v3] M36 (fun M40 => LL_deal_111 l P ((((((0 + 1) + 82) + 7) + 1) + 1) + 82) ((((((0 + 9) + 402) + 138) + 0) + 9) + 402) s0 v1 x13 x16 (M40 65 n34 5) 0 0 M40)))))))))) ∧ (v2 ≠ 3 → ((0 ≤ M14 64 s0 7 ∧ M14 64 s0 7 < M14 97 0 70) ∧ ∀ r43 : Nat, (r43 : Int) = M14 64 s0 7 → (zI (M14 70 r43 v1) ∧ (((M14 70 r43 v1) = 0 → P (x16 * (M14 65 x13 7)) M14) ∧ ((M14 70 r43 v1) ≠ 0 → P (x16 * (M14 65 x13 8)) M14))))))))))))))))) :
    CIn l m_L_deal 174 960 [zr 64 s0, zi v1, zi v2, zi v3] M P :=
(aw_new (k := 65) (n := 9) d_L_deal_0 rfl nwL_28 ⟨Nat.le_of_ble_eq_true rfl, Nat.le_of_ble_eq_true rfl⟩
(fun n1 hqn1 => (aw_nm fun M3 hqM3 => have e2 := H0 n1 hqn1 M3 hqM3; (aw_dup d_L_deal_3 rfl rfl
(aw_aload_n d_L_deal_4 rfl rfl 0 rfl (by decide)
(aw_iconst d_L_deal_5 rfl
(aw_aload_n d_L_deal_6 rfl rfl 0 rfl (by decide)
(have z4 := e2.1; aw_getE (kc := 8) d_L_deal_7 rfl flL_30 rfl rfl (by decide) z4
(fun r5 hqr5 => (have e6 := e2.2 r5 hqr5; (aw_iload_n d_L_deal_10 rfl rfl 1 rfl
(have z7 := e6.1; aw_ialdG d_L_deal_11 rfl zd71.G (zix_s z7)
(have e8 := e6.2; (aw_ishl d_L_deal_12 rfl zshl_h
(aw_iload_n d_L_deal_13 rfl rfl 3 rfl
(aw_NVn (As := [zr 64 s0, zi (zshl 1 (M3 71 r5 v1)), zi v3]) (st := [zr 65 n1]) d_L_deal_14 rfl cnL_36 ⟨Nat.le_of_ble_eq_true rfl, Nat.le_of_ble_eq_true rfl⟩ ⟨Nat.le_of_ble_eq_true rfl, Nat.le_of_ble_eq_true rfl⟩ rfl rfl (Nat.le_of_ble_eq_true rfl) (Nat.le_of_ble_eq_true rfl) e8 (fun M9 e10 => (aw_iload_n d_L_deal_17 rfl rfl 2 rfl
(aw_aload_n d_L_deal_18 rfl rfl 0 rfl (by decide)
(aw_getI (kc := 1) d_L_deal_19 rfl flL_39 rfl rfl
(aw_VR (As := [zi v2, zi (M9 64 s0 1)]) (st := []) d_L_deal_22 rfl cvL_43 ⟨Nat.le_of_ble_eq_true rfl, Nat.le_of_ble_eq_true rfl⟩ rfl rfl (Nat.le_of_ble_eq_true rfl) (Nat.le_of_ble_eq_true rfl) e10 (fun x13 M11 e12 => (aw_astore (lv' := [(4, zr 65 x13), (0, zr 64 s0), (1, zi v1), (2, zi v2), (3, zi v3)]) (by decide) d_L_deal_25 rfl (by decide) rfl
(aw_aload d_L_deal_27 rfl 0 rfl (by decide)
(aw_iload_n d_L_deal_29 rfl rfl 2 rfl
(aw_VI (As := [zi v1]) (st := []) d_L_deal_30 rfl cvL_47 ⟨Nat.le_of_ble_eq_true rfl, Nat.le_of_ble_eq_true rfl⟩ rfl rfl (Nat.le_of_ble_eq_true rfl) (Nat.le_of_ble_eq_true rfl) e12 (fun x16 M14 e15 => (aw_istore (lv' := [(5, zi x16), (4, zr 65 x13), (0, zr 64 s0), (1, zi v1), (2, zi v2), (3, zi v3)]) d_L_deal_33 rfl (by decide) rfl
(aw_iload_n d_L_deal_35 rfl rfl 4 rfl
(aw_iconst d_L_deal_36 rfl
(have z17 := e15.1; have e18 := e15.2; aw_icmp_eq d_L_deal_37 rfl rfl z17 (by decide) (fun c19 => have e21 := e18.1 c19; (aw_aload_n d_L_deal_66 rfl rfl 2 rfl (by decide)
(aw_VRn (As := []) (st := []) d_L_deal_67 rfl cvL_60 ⟨Nat.le_of_ble_eq_true rfl, Nat.le_of_ble_eq_true rfl⟩ ⟨(by decide : (((0 + 1) + 82) + 7) ≤ 174), (by decide : (((0 + 9) + 402) + 138) ≤ 960)⟩ rfl rfl (Nat.le_of_ble_eq_true rfl) (Nat.le_of_ble_eq_true rfl) e21 (fun x25 M23 e24 => (aw_astore (lv' := [(6, zr 64 x25), (5, zi x16), (4, zr 65 x13), (0, zr 64 s0), (1, zi v1), (2, zi v2), (3, zi v3)]) (by decide) d_L_deal_70 rfl (by decide) rfl
(aw_aload d_L_deal_72 rfl 0 rfl (by decide)
(have z26 := e24.1; aw_getE (kc := 11) d_L_deal_74 rfl flL_64 rfl rfl (by decide) z26
(fun r27 hqr27 => (have e28 := e24.2 r27 hqr27; (aw_iload_n d_L_deal_77 rfl rfl 4 rfl
(aw_iconst d_L_deal_78 rfl
(aw_newa (k := 75) d_L_deal_79 rfl zd75 (Or.inl ⟨rfl, rfl⟩) ac_int (by decide) (Or.inl rfl) ⟨(by decide : ((((0 + 1) + 82) + 7) + 1) ≤ 174), (by decide : ((((0 + 9) + 402) + 138) + 0) ≤ 960)⟩
(fun n29 hqn29 => (aw_nm fun M31 hqM31 => have e30 := e28 n29 hqn29 M31 hqM31; (aw_rast d_L_deal_81 rfl zd74.G zd75.G (by decide) (zix_s z7)
(aw_nm fun M33 hqM33 => have e32 := e30 M33 hqM33; (aw_new (k := 65) (n := 9) d_L_deal_82 rfl nwL_28 ⟨(by decide : (((((0 + 1) + 82) + 7) + 1) + 1) ≤ 174), (by decide : (((((0 + 9) + 402) + 138) + 0) + 9) ≤ 960)⟩
(fun n34 hqn34 => (aw_nm fun M36 hqM36 => have e35 := e32 n34 hqn34 M36 hqM36; (aw_dup d_L_deal_85 rfl rfl
(aw_aload d_L_deal_86 rfl 0 rfl (by decide)
(aw_iconst d_L_deal_88 rfl
(aw_aload_n d_L_deal_89 rfl rfl 3 rfl (by decide)
(have z37 := e35.1; aw_getE (kc := 8) d_L_deal_90 rfl flL_30 rfl rfl (by decide) z37
(fun r38 hqr38 => (have e39 := e35.2 r38 hqr38; (aw_iload_n d_L_deal_93 rfl rfl 4 rfl
(aw_ialdG d_L_deal_94 rfl zd71.G (zix_s z7)
(aw_ishl d_L_deal_95 rfl zshl_h
(aw_iload_n d_L_deal_96 rfl rfl 6 rfl
(aw_NVn (As := [zr 64 x25, zi (zshl 1 (M36 71 r38 v1)), zi v3]) (st := [zr 65 n34]) d_L_deal_97 rfl cnL_36 ⟨Nat.le_of_ble_eq_true rfl, Nat.le_of_ble_eq_true rfl⟩ ⟨(by decide : ((((((0 + 1) + 82) + 7) + 1) + 1) + 82) ≤ 174), (by decide : ((((((0 + 9) + 402) + 138) + 0) + 9) + 402) ≤ 960)⟩ rfl rfl (Nat.le_of_ble_eq_true rfl) (Nat.le_of_ble_eq_true rfl) e39 (fun M40 e41 => (aw_getI (kc := 5) d_L_deal_100 rfl flL_68 rfl rfl
(aw_istore (lv' := [(7, zi (M40 65 n34 5)), (6, zr 64 x25), (5, zi x16), (4, zr 65 x13), (0, zr 64 s0), (1, zi v1), (2, zi v2), (3, zi v3)]) d_L_deal_103 rfl (by decide) rfl
(aw_iconst d_L_deal_105 rfl
(aw_istore (lv' := [(8, zi 0), (7, zi (M40 65 n34 5)), (6, zr 64 x25), (5, zi x16), (4, zr 65 x13), (0, zr 64 s0), (1, zi v1), (2, zi v2), (3, zi v3)]) d_L_deal_106 rfl (by decide) rfl
(aw_iconst d_L_deal_108 rfl
(aw_istore (lv' := [(9, zi 0), (8, zi 0), (7, zi (M40 65 n34 5)), (6, zr 64 x25), (5, zi x16), (4, zr 65 x13), (0, zr 64 s0), (1, zi v1), (2, zi v2), (3, zi v3)]) d_L_deal_109 rfl (by decide) rfl
(aw_sub [6, 7, 5, 4, 2, 1, 0] rfl e41))))))))))))))))))))))))))))))))))))))) (fun c20 => have e22 := e18.2 c20; (aw_iload d_L_deal_40 rfl 0 rfl
(aw_aload_n d_L_deal_42 rfl rfl 2 rfl (by decide)
(have z42 := e22.1; aw_getE (kc := 7) d_L_deal_43 rfl flL_50 rfl rfl (by decide) z42
(fun r43 hqr43 => (have e44 := e22.2 r43 hqr43; (aw_iload_n d_L_deal_46 rfl rfl 3 rfl
(aw_zaldG d_L_deal_47 rfl zd70.G (zix_s z7)
(have z45 := e44.1; have e46 := e44.2; aw_if_eq d_L_deal_48 rfl rfl z45 (fun c47 => have e49 := e46.1 c47; (aw_aload d_L_deal_59 rfl 1 rfl (by decide)
(aw_getI (kc := 7) d_L_deal_61 rfl flL_57 rfl rfl
(aw_imul d_L_deal_64 rfl
(aw_rin d_L_deal_65 rfl e49))))) (fun c48 => have e50 := e46.2 c48; (aw_aload d_L_deal_51 rfl 1 rfl (by decide)
(aw_getI (kc := 8) d_L_deal_53 rfl flL_54 rfl rfl
(aw_goto d_L_deal_56 rfl
(aw_imul d_L_deal_64 rfl
(aw_rin d_L_deal_65 rfl e50))))))))))))))))))))))))))))))))))))))))))))))
abbrev dlP (M : zM) (S : zS) (w t : Int) : Int → zM → Prop := fun x M' => x = mny (qB S (qgr S t)) (qA S (qgr S t)) (qfee S) w (zb (qsl S t = 1)) t ∧ Gr dKs M M' ∧ zSy M'
theorem deal_111 {M1 : zM} {m : Nat} {n W V : Int} {c k : Nat} (ok : okS S) (wl : lH M1 h S) (ht : 0 ≤ t ∧ t < qn S) (hn : 0 ≤ n ∧ n ≤ qun S t) (hW : M1 65 m 5 = W) (P : Int → zM → Prop)
    (h0 : qsl S t = 0 → P (V - (W - zsum (qsy S t) n)) M1) (h1 : qsl S t = 1 → P (W + zsum (qsy S t) n - V) M1) : ∀ (f u : Nat), (u : Int) + f = n → LL_deal_111 l P c k h t m n V (zsum (qsy S t) u) u M1 := by
  have h4 := wl.un4 ht
  have h01 := wl.s01 ht
  intro f
  induction f with
  | zero =>
    intro u hu
    refine vL_deal_111 ⟨by omega, by omega, fun _ => ⟨wl.r7.1, fun r hr => ?_⟩, fun q => absurd q (by omega)⟩
    obtain rfl := wl.r7.2 r hr
    rw [wl.sl ht, hW, show (u : Int) = n by omega]
    exact ⟨wl.t21 ht, by omega, h0, fun c => h1 (by omega)⟩
  | succ f ih =>
    intro u hu
    have := ih (u + 1) (by omega)
    rw [show ((u + 1 : Nat) : Int) = (u : Int) + 1 by omega, zsum_s (by omega)] at this
    refine vL_deal_111 ⟨by omega, by omega, fun q => absurd q (by omega), fun _ => ⟨wl.r11.1, fun r hr => ?_⟩⟩
    obtain rfl := wl.r11.2 r hr
    refine ⟨wl.t21 ht, (wl.rr ht).1, fun r2 hr2 => ?_⟩
    obtain rfl := (wl.rr ht).2 r2 hr2
    rw [wl.un ht, wl.sy ht ⟨by omega, by omega⟩]
    exact ⟨by omega, this⟩
theorem c_deal (ok : okS S) (wl : lH M h S) (y : zSy M) (ht : 0 ≤ t ∧ t < qn S) (hw : 0 ≤ w ∧ w ≤ 3) : CIn l m_L_deal 174 960 [zr 64 h, zi t, zi w, zi (-1)] M (dlP M S w t) := by
  have hg := ok.2.1 t ht
  have hf := ok.2.2.1
  have hn := wl.n20
  have gdd := gd_m (E := fun x => qgr S x = qgr S t) ok.1
  have hl := dN_l (B := qB S (qgr S t)) (A := qA S (qgr S t)) (f := qfee S) (w := w)
  have hb := dN_b (B := qB S (qgr S t)) (A := qA S (qgr S t)) (f := qfee S) (w := w)
  have hm := mny_ref (f := qfee S) (w := w) (E := fun x => qgr S x = qgr S t) ok.1 ht rfl
  have h01 := wl.s01 ht
  refine vL_deal fun m hm0 M1 e1 => ?_
  have G1 : Gr mKs M M1 := by rw [e1]; exact Gr.mk (by decide) (by decide) hm0
  have w1 := wl.ke G1.ke
  refine ⟨w1.r8.1, fun r hr => ⟨w1.t21 ht, ?_⟩⟩
  obtain rfl := w1.r8.2 r hr
  rw [w1.gr ht]
  refine (c_market ok wl hm0 e1 hg).mono ?_
  rintro M2 ⟨G2, l2, I2⟩
  have w2 := wl.ke G2.ke
  rw [show M2 64 r 1 = qfee S from w2.sc (by decide)]
  refine (c_by gdd hf hw I2).mono ?_
  rintro _ M3 ⟨rfl, o3, I3, d3⟩
  rename_i m
  have G3 : Gr mKs M M3 := G2.st (k := 65) (i := m) (by decide) (Int.le_of_eq hm0.symm) o3
  have l3 : (m : Int) < M3 97 0 65 := by rw [o3 97 0 (nk (by decide))]; exact l2
  have w3 := wl.ke G3.ke
  have y3 : zSy M3 := y.gr G3 (by decide)
  refine (c_doneOf gdd I3 (by omega) d3.1 ⟨hb.1, hl.1, hl.2⟩).mono ?_
  rintro x M4 ⟨hx, e4⟩
  obtain rfl := e4.symm
  have hx2 : x = cnt (if qsl S t = 1 then qA S (qgr S t) else qB S (qgr S t)) t (dN (qB S (qgr S t)) (qA S (qgr S t)) (qfee S) w) := by
    rw [hx]
    by_cases c : qsl S t = 1
    · rw [if_pos c, cnt2_A (noB ok.1 (fun q => q.2.2 c)) hl.1]
    · rw [if_neg c, cnt2_B (noA ok.1 (fun q => c q.2.2)) hl.2]
  have hxb : 0 ≤ x ∧ x ≤ qun S t := by
    rw [hx2]
    refine ⟨(cnt_b hb.1).1, ?_⟩
    by_cases c : qsl S t = 1
    · rw [if_pos c]; exact (ownA (E := fun x => qgr S x = qgr S t) (f := 0) ok.1 ht rfl c ⟨hb.1, hl.2⟩).2
    · rw [if_neg c]; exact (ownB (E := fun x => qgr S x = qgr S t) ok.1 ht rfl c ⟨hb.1, hl.1⟩).2
  have hT : x ≠ 0 → tT (qfee S) (qB S (qgr S t)) (qA S (qgr S t)) ≠ 0 := by
    intro c e
    have z : dN (qB S (qgr S t)) (qA S (qgr S t)) (qfee S) w = 0 := by omega
    rw [hx2, z] at c
    exact c rfl
  refine ⟨by omega, fun c3 => ?_, fun c3 => ⟨w3.r7.1, fun r2 hr2 => ?_⟩⟩
  · refine (c_X9_copy w3 y3).mono ?_
    rintro a M5 ⟨G5, y5, ha, u5, wa5⟩
    refine ⟨wa5.r11.1, fun r2 hr2 n hn0 M6 e6 M7 e7 m2 hm2 M8 e8 => ?_⟩
    obtain rfl := wa5.r11.2 r2 hr2
    have G6 : Gr [75] M5 M6 := by rw [e6]; exact Gr.mk (by decide) (by decide) hn0
    have c6 : M6 97 0 75 = (n : Int) + 1 := by rw [e6]; exact zmk_c
    have n6 : M6 75 n (-1) = 0 := by rw [e6]; exact zmk_l (by decide)
    obtain ⟨wa6, eU6, -⟩ := G6.hl wa5
    have p7 := wa6.put (M' := M7) ht (r := n) (by omega) (by omega) (by rw [eU6]; exact e7)
    rw [n6] at p7
    have G57 : Gr dKs M M7 := by
      rw [e7]
      refine (((G3.mono (K' := dKs) (by decide)).tr (G5.mono (by decide))).tr (G6.mono (by decide))).zu (k := 74) (by decide) ?_
      rw [lU_v wa5.1]
      exact Int.le_trans (G3.2.2.1 74) u5
    have w7 := wl.ke G57.ke
    have G78 : Gr mKs M7 M8 := by rw [e8]; exact Gr.mk (by decide) (by decide) hm2
    have w8 := w7.ke G78.ke
    refine ⟨w8.r8.1, fun r3 hr3 => ?_⟩
    obtain rfl := w8.r8.2 r3 hr3
    rw [w8.gr ht]
    refine (c_market (S := sPu S t 0 (M6 75 n)) ok.no p7.1 hm2 e8 hg).mono ?_
    rintro M9 ⟨G9, l9, I9⟩
    have nr := no_row (t := t) (g := qgr S t) (f := M6 75 n) ok
    rw [nr.1, nr.2] at I9
    have G09 : Gr dKs M M9 := G57.tr (G9.mono (by decide))
    have w9 := wl.ke G09.ke
    have e5 : M9 65 m2 5 = mWo (qB S (qgr S t)) (qA S (qgr S t)) (qfee S) t := I9.choose_spec.choose_spec.2.2
    have lrm : Lr dKs M3 M9 := by
      refine Lr.tr ?_ (G9.mono (by decide)).lr
      rw [e7]
      refine ((G5.mono (K' := dKs) (by decide)).lr.tr (G6.mono (by decide)).lr).zu (k := 74) (by decide) ?_
      rw [lU_v wa5.1]
      exact u5
    have W1 : M9 65 m 5 = tW (qfee S) (qB S (qgr S t)) (qA S (qgr S t)) := (I3.lr l3 lrm).choose_spec.choose_spec.2.2
    have y9 : zSy M9 := ((y5.gr G6 (by decide)).of (by rw [e7]; exact zu_o _ _ (nk (by decide)))).gr G9 (by decide)
    have := deal_111 (l := l) (m := m) (V := mWo (qB S (qgr S t)) (qA S (qgr S t)) (qfee S) t) (c := (((((0 + 1) + 82) + 7) + 1) + 1) + 82) (k := (((((0 + 9) + 402) + 138) + 0) + 9) + 402) ok w9 ht hxb W1 (dlP M S w t) (fun c => ⟨?_, G09, y9⟩) (fun c => ⟨?_, G09, y9⟩) x.toNat 0 (by omega)
    · rw [show ((0 : Nat) : Int) = 0 from rfl, zsum_0] at this
      rw [e5]
      exact this
    · have c1 : ¬ qsl S t = 1 := by omega
      rw [zb_f c1, hm.1 c1, if_pos c3]
      rw [if_neg c1] at hx2
      rw [← hx2]
      exact show mWo (qB S (qgr S t)) (qA S (qgr S t)) (qfee S) t - (tW (qfee S) (qB S (qgr S t)) (qA S (qgr S t)) - zsum (qsy S t) x) = mWo (qB S (qgr S t)) (qA S (qgr S t)) (qfee S) t - tW (qfee S) (qB S (qgr S t)) (qA S (qgr S t)) + zsum (qsy S t) x from by omega
    · rw [zb_1 c, hm.2 c, if_pos c3]
      rw [if_pos c] at hx2
      rw [← hx2]
  · obtain rfl := w3.r7.2 r2 hr2
    rw [w3.sl ht]
    refine ⟨by omega, fun c => ⟨?_, G3.mono (by decide), y3⟩, fun c => ⟨?_, G3.mono (by decide), y3⟩⟩
    · have c1 : ¬ qsl S t = 1 := by omega
      rw [zb_f c1, hm.1 c1, if_neg c3]
      rw [if_neg c1] at hx2
      rw [← hx2]
      by_cases e : x = 0
      · rw [e, Int.zero_mul, Int.zero_mul]
      · rw [(d3.2 (hT e)).1]
    · have c1 : qsl S t = 1 := by omega
      rw [zb_1 c1, hm.2 c1, if_neg c3]
      rw [if_pos c1] at hx2
      rw [← hx2]
      by_cases e : x = 0
      · rw [e, Int.zero_mul, Int.zero_mul]
      · rw [(d3.2 (hT e)).2]
end
