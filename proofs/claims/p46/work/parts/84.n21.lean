/-! ===== a market made ===== -/
/-- one side's keys, of the units before N -/
def sd (m : Int) (K : Int → Int) (Q : Int → Int → Prop) (kf : Int → Int → Int) (N : Int) : Prop :=
  (∀ i j, 0 ≤ i → i < j → j < m → K i % 80 < K j % 80) ∧ (∀ j, 0 ≤ j → j < m → K j % 80 < N) ∧ ∀ x, (∃ j, (0 ≤ j ∧ j < m) ∧ K j = x) ↔ ∃ t u, Q t u ∧ x = kf t u ∧ 4 * t + u < N
theorem sd.skip {m N N' : Int} {K : Int → Int} {Q : Int → Int → Prop} {kf : Int → Int → Int} (h : sd m K Q kf N) (hN : N ≤ N') (hq : ∀ t u, Q t u → ¬ (N ≤ 4 * t + u ∧ 4 * t + u < N')) : sd m K Q kf N' :=
  ⟨h.1, fun j h0 h1 => Int.lt_of_lt_of_le (h.2.1 j h0 h1) hN, fun x => (h.2.2 x).trans ⟨fun ⟨t, u, a, b, c⟩ => ⟨t, u, a, b, by omega⟩, fun ⟨t, u, a, b, c⟩ => ⟨t, u, a, b, by have := hq t u a; omega⟩⟩⟩
theorem sd.push {m N t u : Int} {K : Int → Int} {Q : Int → Int → Prop} {kf : Int → Int → Int} (h : sd m K Q kf N) (hm : 0 ≤ m) (q : Q t u) (e : 4 * t + u = N) (hk : kf t u % 80 = N) (hu : ∀ t' u', Q t' u' → 4 * t' + u' = N → t' = t ∧ u' = u) : sd (m + 1) (fun j => if j = m then kf t u else K j) Q kf (N + 1) := by
  refine ⟨fun i j hi hij hj => ?_, fun j h0 h1 => ?_, fun x => ⟨?_, ?_⟩⟩
  · dsimp only
    rw [if_neg (show i ≠ m by omega)]
    by_cases c : j = m
    · rw [if_pos c, hk]
      exact h.2.1 i hi (by omega)
    · rw [if_neg c]
      exact h.1 i j hi hij (by omega)
  · dsimp only
    by_cases c : j = m
    · rw [if_pos c]; omega
    · rw [if_neg c]
      have := h.2.1 j h0 (by omega)
      omega
  · rintro ⟨j, hj, rfl⟩
    by_cases c : j = m
    · exact ⟨t, u, q, if_pos c, by omega⟩
    · obtain ⟨t', u', a, b, d⟩ := (h.2.2 _).mp ⟨j, by omega, rfl⟩
      exact ⟨t', u', a, (if_neg c).trans b, by omega⟩
  · rintro ⟨t', u', a, b, d⟩
    by_cases c : 4 * t' + u' = N
    · obtain ⟨rfl, rfl⟩ := hu t' u' a c
      exact ⟨m, by omega, (if_pos rfl).trans b.symm⟩
    · obtain ⟨j, hj, e2⟩ := (h.2.2 x).mpr ⟨t', u', a, b, by omega⟩
      exact ⟨j, by omega, (if_neg (by omega)).trans e2⟩
theorem sd.st {m N : Int} {K : Int → Int} {Q : Int → Int → Prop} {kf : Int → Int → Int} (h : sd m K Q kf N) (hq : ∀ t u, Q t u → 4 * t + u < N) : kSt m K (fun x => ∃ t u, Q t u ∧ x = kf t u) :=
  ⟨fun i j hi hij hj e => by have := h.1 i j hi hij hj; omega, fun x => (h.2.2 x).trans ⟨fun ⟨t, u, a, b, _⟩ => ⟨t, u, a, b⟩, fun ⟨t, u, a, b⟩ => ⟨t, u, a, b, hq t u a⟩⟩⟩
theorem sd.nil {Q : Int → Int → Prop} {kf : Int → Int → Int} {K : Int → Int} (hq : ∀ t u, Q t u → 0 ≤ 4 * t + u) : sd 0 K Q kf 0 :=
  ⟨fun i j hi hij hj => by omega, fun j h0 h1 => by omega, fun x => ⟨fun ⟨j, hj, _⟩ => by omega, fun ⟨t, u, a, _, c⟩ => by have := hq t u a; omega⟩⟩
theorem rK.push {M M' : zM} {b x : Nat} {m key : Int} {K pr : Int → Int} (h : rK M b m K pr) (hx : (x : Int) = M 97 0 77) (hc : M' 97 0 77 = (x : Int) + 1) (ho : ∀ i : Nat, (i : Int) < M 97 0 77 → M' 77 i = M 77 i) (hb : ∀ j, M' 76 b j = if j = m then (x : Int) else M 76 b j) (h0 : M' 77 x 0 = ktr key) (h2 : M' 77 x 2 = pr key) :
    rK M' b (m + 1) (fun j => if j = m then key else K j) pr := by
  intro j hj
  dsimp only
  rw [hb, hc]
  by_cases c : j = m
  · rw [if_pos c, if_pos c, Int.toNat_natCast]
    exact ⟨by omega, h0, h2⟩
  · rw [if_neg c, if_neg c]
    obtain ⟨a1, a2, a3⟩ := h j (by omega)
    rw [ho _ (by omega)]
    exact ⟨by omega, a2, a3⟩
theorem rK.keep {M M' : zM} {b : Nat} {m : Int} {K pr : Int → Int} (h : rK M b m K pr) (hc : M 97 0 77 ≤ M' 97 0 77) (ho : ∀ i : Nat, (i : Int) < M 97 0 77 → M' 77 i = M 77 i) (hb : M' 76 b = M 76 b) : rK M' b m K pr := by
  intro j hj
  obtain ⟨a1, a2, a3⟩ := h j hj
  rw [hb, ho _ (by omega)]
  exact ⟨by omega, a2, a3⟩
/-- a row of triples, by a list -/
def rL (M : zM) (b : Nat) (L : List Int) (pr : Int → Int) : Prop := ∀ j, 0 ≤ j ∧ j < (L.length : Int) → (0 ≤ M 76 b j ∧ M 76 b j < M 97 0 77) ∧ M 77 (M 76 b j).toNat 0 = ktr (L.getD j.toNat 0) ∧ M 77 (M 76 b j).toNat 2 = pr (L.getD j.toNat 0)
/-- the market in its first parts -/
def mk0 (M : zM) (h b a : Nat) (B A : List Int) (f : Int) : Prop := ((M 65 h 0 = (b : Int) ∧ (b : Int) < M 97 0 76) ∧ M 65 h 1 = (a : Int) ∧ (a : Int) < M 97 0 76) ∧ (M 65 h 2 = (B.length : Int) ∧ M 65 h 3 = (A.length : Int)) ∧ rL M b B kbv ∧ rL M a A (kav f)
def mkt (M : zM) (h : Nat) (B A : List Int) (f : Int) : Prop := ∃ b a : Nat, mk0 M h b a B A f ∧ M 65 h 4 = tT f B A ∧ M 65 h 5 = tW f B A
abbrev mKs : List Nat := [65, 76, 77]
theorem row_K {m : Int} {K : Int → Int} {j : Int} (hj : 0 ≤ j ∧ j < m) : ((List.range m.toNat).map fun j : Nat => K (j : Int)).getD j.toNat 0 = K j := by
  rw [List.getD_eq_getElem?_getD, List.getElem?_map, List.getElem?_range (by omega)]
  show K (j.toNat : Int) = K j
  rw [Int.toNat_of_nonneg hj.1]
theorem rK.list {M : zM} {b : Nat} {m : Int} {K pr : Int → Int} (h : rK M b m K pr) (hm : 0 ≤ m) : rL M b ((List.range m.toNat).map fun j : Nat => K (j : Int)) pr := by
  intro j hj
  rw [List.length_map, List.length_range] at hj
  rw [row_K (m := m) (by omega)]
  exact h j (by omega)
theorem bit_g : ∀ a b : Fin 4, (zand (zshr (zshl 1 (a.val : Int)) (b.val : Int)) 1 = 0 ↔ a ≠ b) := by decide +kernel
theorem bit_4 {g x : Int} (hg : 0 ≤ g ∧ g < 4) (hx : 0 ≤ x ∧ x < 4) : zand (zshr (zshl 1 g) x) 1 = 0 ↔ x ≠ g := by
  have := bit_g ⟨g.toNat, by omega⟩ ⟨x.toNat, by omega⟩
  rw [show ((⟨g.toNat, by omega⟩ : Fin 4).val : Int) = g by show ((g.toNat : Nat) : Int) = g; omega, show ((⟨x.toNat, by omega⟩ : Fin 4).val : Int) = x by show ((x.toNat : Nat) : Int) = x; omega] at this
  refine this.trans ⟨fun h e => h (Fin.ext (by show g.toNat = x.toNat; omega)), fun h e => h ?_⟩
  have := congrArg Fin.val e
  have : g.toNat = x.toNat := this
  omega
section
variable {l : Launch} {M : zM} {S : zS} {g : Int} {h s b a : Nat}
def LX10_init_25 (l : Launch) (P : zM → Prop) (c n : Nat) (h : Nat) (s1 : Nat) (v2 : Int) (v3 : Int) (v4 : Int) (M : zM) : Prop := AW l m_X10_init (zTvn m_X10_init 82 402 c n P) 25 [(0, zr 65 h), (1, zr 64 s1), (2, zi v2), (3, zi v3), (4, zi v4)] [] M
def LX10_init_220 (l : Launch) (P : zM → Prop) (c n : Nat) (h : Nat) (s1 : Nat) (v4 : Int) (M : zM) : Prop := AW l m_X10_init (zTvn m_X10_init 82 402 c n P) 220 [(0, zr 65 h), (4, zi v4)] [] M
def LX10_init_60 (l : Launch) (P : zM → Prop) (c n : Nat) (h : Nat) (s1 : Nat) (v2 : Int) (v3 : Int) (v4 : Int) (v5 : Int) (M : zM) : Prop := AW l m_X10_init (zTvn m_X10_init 82 402 c n P) 60 [(0, zr 65 h), (1, zr 64 s1), (2, zi v2), (3, zi v3), (4, zi v4), (5, zi v5)] [] M
theorem vX10_init_25 {l : Launch} {P : zM → Prop} {c n : Nat} {h : Nat} {s1 : Nat} {v2 : Int} {v3 : Int} {v4 : Int} {M : zM}
    (H0 : (zI v4 ∧ zI (M 64 s1 0) ∧ (((M 64 s1 0) ≤ v4 → ((0 ≤ M 65 h 0 ∧ M 65 h 0 < M 97 0 76) ∧ ∀ r19 : Nat, (r19 : Int) = M 65 h 0 → (CV l m_X10_orders [zr 76 r19, zi (M 65 h 2), zi (-1)] M (fun M21 => ((0 ≤ M21 65 h 1 ∧ M21 65 h 1 < M21 97 0 76) ∧ ∀ r24 : Nat, (r24 : Int) = M21 65 h 1 → (CV l m_X10_orders [zr 76 r24, zi (M21 65 h 3), zi 1] M21 (fun M26 => LX10_init_220 l P c n h s1 0 M26))))))) ∧ (v4 < (M 64 s1 0) → ((0 ≤ M 64 s1 8 ∧ M 64 s1 8 < M 97 0 71) ∧ ∀ r29 : Nat, (r29 : Int) = M 64 s1 8 → ((0 ≤ v4 ∧ v4 < 21) ∧ (((zand (zshr v2 (M 71 r29 v4)) 1) = 0 → LX10_init_25 l P c n h s1 v2 v3 (v4 + 1) M) ∧ ((zand (zshr v2 (M 71 r29 v4)) 1) ≠ 0 → (zI v3 ∧ ((v4 ≠ v3 → LX10_init_60 l P c n h s1 v2 v3 v4 0 M) ∧ (v4 = v3 → LX10_init_25 l P c n h s1 v2 v3 (v4 + 1) M))))))))))) :
    LX10_init_25 l P c n h s1 v2 v3 v4 M :=
(aw_iload d_X10_init_25 rfl 4 rfl
(aw_aload_n d_X10_init_27 rfl rfl 1 rfl (by decide)
(aw_getI (kc := 0) d_X10_init_28 rfl fl10_18 rfl rfl
(have z11 := H0.1; have z12 := H0.2.1; have e13 := H0.2.2; aw_icmp_ge d_X10_init_31 rfl rfl z11 z12 (fun c14 => have e16 := e13.1 c14; (aw_aload_n d_X10_init_193 rfl rfl 0 rfl (by decide)
(have z18 := e16.1; aw_getE (kc := 0) d_X10_init_194 rfl fl10_9 rfl rfl (by decide) z18
(fun r19 hqr19 => (have e20 := e16.2 r19 hqr19; (aw_aload_n d_X10_init_197 rfl rfl 0 rfl (by decide)
(aw_getI (kc := 2) d_X10_init_198 rfl fl10_40 rfl rfl
(aw_iconst d_X10_init_201 rfl
(aw_SV (As := [zr 76 r19, zi (M 65 h 2), zi (-1)]) (st := []) d_X10_init_202 rfl cs10_43 ⟨Nat.le_of_ble_eq_true rfl, Nat.le_of_ble_eq_true rfl⟩ rfl rfl (Nat.le_of_ble_eq_true rfl) (Nat.le_of_ble_eq_true rfl) e20 (fun M21 e22 => (aw_aload_n d_X10_init_205 rfl rfl 0 rfl (by decide)
(have z23 := e22.1; aw_getE (kc := 1) d_X10_init_206 rfl fl10_15 rfl rfl (by decide) z23
(fun r24 hqr24 => (have e25 := e22.2 r24 hqr24; (aw_aload_n d_X10_init_209 rfl rfl 0 rfl (by decide)
(aw_getI (kc := 3) d_X10_init_210 rfl fl10_34 rfl rfl
(aw_iconst d_X10_init_213 rfl
(aw_SV (As := [zr 76 r24, zi (M21 65 h 3), zi 1]) (st := []) d_X10_init_214 rfl cs10_43 ⟨Nat.le_of_ble_eq_true rfl, Nat.le_of_ble_eq_true rfl⟩ rfl rfl (Nat.le_of_ble_eq_true rfl) (Nat.le_of_ble_eq_true rfl) e25 (fun M26 e27 => (aw_iconst d_X10_init_217 rfl
(aw_istore (lv' := [(4, zi 0), (0, zr 65 h), (1, zr 64 s1), (2, zi v2), (3, zi v3)]) d_X10_init_218 rfl (by decide) rfl
(aw_sub [1, 0] rfl e27)))))))))))))))))))))) (fun c15 => have e17 := e13.2 c15; (aw_iload_n d_X10_init_34 rfl rfl 2 rfl
(aw_aload_n d_X10_init_35 rfl rfl 1 rfl (by decide)
(have z28 := e17.1; aw_getE (kc := 8) d_X10_init_36 rfl fl10_24 rfl rfl (by decide) z28
(fun r29 hqr29 => (have e30 := e17.2 r29 hqr29; (aw_iload d_X10_init_39 rfl 4 rfl
(have z31 := e30.1; aw_ialdG d_X10_init_41 rfl zd71.G (zix_s z31)
(have e32 := e30.2; (aw_ishr d_X10_init_42 rfl zshr_h
(aw_iconst d_X10_init_43 rfl
(aw_iand d_X10_init_44 rfl zand_h
(aw_if_eq d_X10_init_45 rfl rfl zI_and (fun c33 => have e35 := e32.1 c33; (aw_iinc (lv' := [(4, zi (v4 + 1)), (0, zr 65 h), (1, zr 64 s1), (2, zi v2), (3, zi v3)]) (y := (v4 + 1)) d_X10_init_187 rfl 4 rfl (by decide) rfl rfl
(aw_goto d_X10_init_190 rfl
(aw_sub [1, 2, 3, 4, 0] rfl e35)))) (fun c34 => have e36 := e32.2 c34; (aw_iload d_X10_init_48 rfl 4 rfl
(aw_iload_n d_X10_init_50 rfl rfl 3 rfl
(have z37 := e36.1; have e38 := e36.2; aw_icmp_ne d_X10_init_51 rfl rfl z11 z37 (fun c39 => have e41 := e38.1 c39; (aw_iconst d_X10_init_57 rfl
(aw_istore (lv' := [(5, zi 0), (0, zr 65 h), (1, zr 64 s1), (2, zi v2), (3, zi v3), (4, zi v4)]) d_X10_init_58 rfl (by decide) rfl
(aw_sub [1, 2, 3, 4, 5, 0] rfl e41)))) (fun c40 => have e42 := e38.2 c40; (aw_goto d_X10_init_54 rfl
(aw_iinc (lv' := [(4, zi (v4 + 1)), (0, zr 65 h), (1, zr 64 s1), (2, zi v2), (3, zi v3)]) (y := (v4 + 1)) d_X10_init_187 rfl 4 rfl (by decide) rfl rfl
(aw_goto d_X10_init_190 rfl
(aw_sub [1, 2, 3, 4, 0] rfl e42))))))))))))))))))))))))))
theorem vX10_init_220 {l : Launch} {P : zM → Prop} {c n : Nat} {h : Nat} {s1 : Nat} {v4 : Int} {M : zM}
    (H0 : (zI v4 ∧ zI (M 65 h 2) ∧ (((M 65 h 2) ≤ v4 → P M) ∧ (v4 < (M 65 h 2) → (zI (M 65 h 3) ∧ (((M 65 h 3) ≤ v4 → P M) ∧ (v4 < (M 65 h 3) → ((0 ≤ M 65 h 0 ∧ M 65 h 0 < M 97 0 76) ∧ ∀ r57 : Nat, (r57 : Int) = M 65 h 0 → ((0 ≤ v4 ∧ v4 < 81) ∧ (0 ≤ M 76 r57 v4 ∧ M 76 r57 v4 < M 97 0 77) ∧ ∀ r61 : Nat, (r61 : Int) = M 76 r57 v4 → ((0 ≤ M 65 h 1 ∧ M 65 h 1 < M 97 0 76) ∧ ∀ r64 : Nat, (r64 : Int) = M 65 h 1 → ((0 ≤ M 76 r64 v4 ∧ M 76 r64 v4 < M 97 0 77) ∧ ∀ r67 : Nat, (r67 : Int) = M 76 r64 v4 → (zI (M 77 r61 2) ∧ zI (M 77 r67 2) ∧ (((M 77 r61 2) < (M 77 r67 2) → P M) ∧ ((M 77 r67 2) ≤ (M 77 r61 2) → (∀ M77 : zM, M77 = zu M 65 h 5 ((M 65 h 5) + ((M 77 r61 2) - (M 77 r67 2))) → (∀ M79 : zM, M79 = zu M77 65 h 4 ((M77 65 h 4) + 1) → LX10_init_220 l P c n h s1 (v4 + 1) M79)))))))))))))))) :
    LX10_init_220 l P c n h s1 v4 M :=
(aw_iload d_X10_init_220 rfl 1 rfl
(aw_aload_n d_X10_init_222 rfl rfl 0 rfl (by decide)
(aw_getI (kc := 2) d_X10_init_223 rfl fl10_40 rfl rfl
(have z43 := H0.1; have z44 := H0.2.1; have e45 := H0.2.2; aw_icmp_ge d_X10_init_226 rfl rfl z43 z44 (fun c46 => have e48 := e45.1 c46; (aw_rvn d_X10_init_303 rfl e48)) (fun c47 => have e49 := e45.2 c47; (aw_iload d_X10_init_229 rfl 1 rfl
(aw_aload_n d_X10_init_231 rfl rfl 0 rfl (by decide)
(aw_getI (kc := 3) d_X10_init_232 rfl fl10_34 rfl rfl
(have z50 := e49.1; have e51 := e49.2; aw_icmp_ge d_X10_init_235 rfl rfl z43 z50 (fun c52 => have e54 := e51.1 c52; (aw_rvn d_X10_init_303 rfl e54)) (fun c53 => have e55 := e51.2 c53; (aw_aload_n d_X10_init_238 rfl rfl 0 rfl (by decide)
(have z56 := e55.1; aw_getE (kc := 0) d_X10_init_239 rfl fl10_9 rfl rfl (by decide) z56
(fun r57 hqr57 => (have e58 := e55.2 r57 hqr57; (aw_iload d_X10_init_242 rfl 1 rfl
(have z59 := e58.1; have z60 := e58.2.1; aw_rale d_X10_init_244 rfl zd76.G (by decide) (zix_s z59) z60
(fun r61 hqr61 => (have e62 := e58.2.2 r61 hqr61; (aw_iconst d_X10_init_245 rfl
(aw_ialdG d_X10_init_246 rfl zd77.G (zix_s (by decide))
(aw_aload_n d_X10_init_247 rfl rfl 0 rfl (by decide)
(have z63 := e62.1; aw_getE (kc := 1) d_X10_init_248 rfl fl10_15 rfl rfl (by decide) z63
(fun r64 hqr64 => (have e65 := e62.2 r64 hqr64; (aw_iload d_X10_init_251 rfl 1 rfl
(have z66 := e65.1; aw_rale d_X10_init_253 rfl zd76.G (by decide) (zix_s z59) z66
(fun r67 hqr67 => (have e68 := e65.2 r67 hqr67; (aw_iconst d_X10_init_254 rfl
(aw_ialdG d_X10_init_255 rfl zd77.G (zix_s (by decide))
(have z69 := e68.1; have z70 := e68.2.1; have e71 := e68.2.2; aw_icmp_lt d_X10_init_256 rfl rfl z69 z70 (fun c72 => have e74 := e71.1 c72; (aw_rvn d_X10_init_303 rfl e74)) (fun c73 => have e75 := e71.2 c73; (aw_aload_n d_X10_init_259 rfl rfl 0 rfl (by decide)
(aw_dup d_X10_init_260 rfl rfl
(aw_getI (kc := 5) d_X10_init_261 rfl fl10_47 rfl rfl
(aw_aload_n d_X10_init_264 rfl rfl 0 rfl (by decide)
(aw_getEq (kc := 0) (r := r57) d_X10_init_265 rfl fl10_9 rfl rfl (by decide) z56 hqr57
(aw_iload d_X10_init_268 rfl 1 rfl
(aw_raleq (r := r61) d_X10_init_270 rfl zd76.G (by decide) (zix_s z59) z60 hqr61
(aw_iconst d_X10_init_271 rfl
(aw_ialdG d_X10_init_272 rfl zd77.G (zix_s (by decide))
(aw_aload_n d_X10_init_273 rfl rfl 0 rfl (by decide)
(aw_getEq (kc := 1) (r := r64) d_X10_init_274 rfl fl10_15 rfl rfl (by decide) z63 hqr64
(aw_iload d_X10_init_277 rfl 1 rfl
(aw_raleq (r := r67) d_X10_init_279 rfl zd76.G (by decide) (zix_s z59) z66 hqr67
(aw_iconst d_X10_init_280 rfl
(aw_ialdG d_X10_init_281 rfl zd77.G (zix_s (by decide))
(aw_isub d_X10_init_282 rfl
(aw_iadd d_X10_init_283 rfl
(aw_put (kc := 5) d_X10_init_284 rfl fp10_47 rfl rfl rfl rfl
(aw_nm fun M77 hqM77 => have e76 := e75 M77 hqM77; (aw_aload_n d_X10_init_287 rfl rfl 0 rfl (by decide)
(aw_dup d_X10_init_288 rfl rfl
(aw_getI (kc := 4) d_X10_init_289 rfl fl10_50 rfl rfl
(aw_iconst d_X10_init_292 rfl
(aw_iadd d_X10_init_293 rfl
(aw_put (kc := 4) d_X10_init_294 rfl fp10_50 rfl rfl rfl rfl
(aw_nm fun M79 hqM79 => have e78 := e76 M79 hqM79; (aw_iinc (lv' := [(4, zi (v4 + 1)), (0, zr 65 h)]) (y := (v4 + 1)) d_X10_init_297 rfl 1 rfl (by decide) rfl rfl
(aw_goto d_X10_init_300 rfl
(aw_sub [1, 0] rfl e78)))))))))))))))))))))))))))))))))))))))))))))))))))))))))))))
theorem vX10_init_60 {l : Launch} {P : zM → Prop} {c n : Nat} {h : Nat} {s1 : Nat} {v2 : Int} {v3 : Int} {v4 : Int} {v5 : Int} {M : zM}
    (H0 : ((0 ≤ M 64 s1 11 ∧ M 64 s1 11 < M 97 0 74) ∧ ∀ r81 : Nat, (r81 : Int) = M 64 s1 11 → ((0 ≤ v4 ∧ v4 < 21) ∧ (0 ≤ M 74 r81 v4 ∧ M 74 r81 v4 < M 97 0 75) ∧ ∀ r85 : Nat, (r85 : Int) = M 74 r81 v4 → (0 ≤ M 75 r85 (-1) ∧ (zI v5 ∧ zI (M 75 r85 (-1)) ∧ (((M 75 r85 (-1)) ≤ v5 → LX10_init_25 l P c n h s1 v2 v3 (v4 + 1) M) ∧ (v5 < (M 75 r85 (-1)) → ((0 ≤ M 64 s1 7 ∧ M 64 s1 7 < M 97 0 70) ∧ ∀ r97 : Nat, (r97 : Int) = M 64 s1 7 → (zI (M 70 r97 v4) ∧ (((M 70 r97 v4) = 0 → ((0 ≤ M 65 h 0 ∧ M 65 h 0 < M 97 0 76) ∧ ∀ r106 : Nat, (r106 : Int) = M 65 h 0 → (((c + 1) ≤ 82 ∧ (n + 3) ≤ 402) ∧ ∀ n108 : Nat, (n108 : Int) = M 97 0 77 → ∀ M111 : zM, M111 = zmk M 77 n108 3 → (∀ M113 : zM, M113 = zu M111 77 n108 0 v4 → (∀ M115 : zM, M115 = zu M113 77 n108 1 v5 → ((0 ≤ M115 64 s1 11 ∧ M115 64 s1 11 < M115 97 0 74) ∧ ∀ r117 : Nat, (r117 : Int) = M115 64 s1 11 → ((0 ≤ M115 74 r117 v4 ∧ M115 74 r117 v4 < M115 97 0 75) ∧ ∀ r120 : Nat, (r120 : Int) = M115 74 r117 v4 → ((0 ≤ v5 ∧ v5 < M115 75 r120 (-1) ∧ M115 75 r120 (-1) ≤ 1000000) ∧ (∀ M125 : zM, M125 = zu M115 77 n108 2 (M115 75 r120 v5) → ((0 ≤ (M 65 h 2) ∧ (M 65 h 2) < 81) ∧ ∀ M128 : zM, M128 = zu M125 76 r106 (M 65 h 2) (n108 : Int) → (∀ M130 : zM, M130 = zu M128 65 h 2 ((M128 65 h 2) + 1) → LX10_init_60 l P (c + 1) (n + 3) h s1 v2 v3 v4 (v5 + 1) M130))))))))))) ∧ ((M 70 r97 v4) ≠ 0 → ((0 ≤ M 65 h 1 ∧ M 65 h 1 < M 97 0 76) ∧ ∀ r132 : Nat, (r132 : Int) = M 65 h 1 → (((c + 1) ≤ 82 ∧ (n + 3) ≤ 402) ∧ ∀ n134 : Nat, (n134 : Int) = M 97 0 77 → ∀ M137 : zM, M137 = zmk M 77 n134 3 → (∀ M139 : zM, M139 = zu M137 77 n134 0 v4 → (∀ M141 : zM, M141 = zu M139 77 n134 1 v5 → ((0 ≤ M141 64 s1 11 ∧ M141 64 s1 11 < M141 97 0 74) ∧ ∀ r143 : Nat, (r143 : Int) = M141 64 s1 11 → ((0 ≤ M141 74 r143 v4 ∧ M141 74 r143 v4 < M141 97 0 75) ∧ ∀ r146 : Nat, (r146 : Int) = M141 74 r143 v4 → ((0 ≤ v5 ∧ v5 < M141 75 r146 (-1) ∧ M141 75 r146 (-1) ≤ 1000000) ∧ (∀ M151 : zM, M151 = zu M141 77 n134 2 ((M141 75 r146 v5) + (M141 64 s1 1)) → ((0 ≤ (M 65 h 3) ∧ (M 65 h 3) < 81) ∧ ∀ M154 : zM, M154 = zu M151 76 r132 (M 65 h 3) (n134 : Int) → (∀ M156 : zM, M156 = zu M154 65 h 3 ((M154 65 h 3) + 1) → LX10_init_60 l P (c + 1) (n + 3) h s1 v2 v3 v4 (v5 + 1) M156))))))))))))))))))))) :
    LX10_init_60 l P c n h s1 v2 v3 v4 v5 M :=
(aw_iload d_X10_init_60 rfl 5 rfl
(aw_aload_n d_X10_init_62 rfl rfl 1 rfl (by decide)
(have z80 := H0.1; aw_getE (kc := 11) d_X10_init_63 rfl fl10_27 rfl rfl (by decide) z80
(fun r81 hqr81 => (have e82 := H0.2 r81 hqr81; (aw_iload d_X10_init_66 rfl 4 rfl
(have z83 := e82.1; have z84 := e82.2.1; aw_rale d_X10_init_68 rfl zd74.G (by decide) (zix_s z83) z84
(fun r85 hqr85 => (have e86 := e82.2.2 r85 hqr85; (have z87 := e86.1; aw_alenD d_X10_init_69 rfl (by decide) z87
(have e88 := e86.2; (have z89 := e88.1; have z90 := e88.2.1; have e91 := e88.2.2; aw_icmp_ge d_X10_init_70 rfl rfl z89 z90 (fun c92 => have e94 := e91.1 c92; (aw_iinc (lv' := [(4, zi (v4 + 1)), (0, zr 65 h), (1, zr 64 s1), (2, zi v2), (3, zi v3), (5, zi v5)]) (y := (v4 + 1)) d_X10_init_187 rfl 4 rfl (by decide) rfl rfl
(aw_goto d_X10_init_190 rfl
(aw_sub [1, 2, 3, 4, 0] rfl e94)))) (fun c93 => have e95 := e91.2 c93; (aw_aload_n d_X10_init_73 rfl rfl 1 rfl (by decide)
(have z96 := e95.1; aw_getE (kc := 7) d_X10_init_74 rfl fl10_30 rfl rfl (by decide) z96
(fun r97 hqr97 => (have e98 := e95.2 r97 hqr97; (aw_iload d_X10_init_77 rfl 4 rfl
(aw_zaldG d_X10_init_79 rfl zd70.G (zix_s z83)
(have z99 := e98.1; have e100 := e98.2; aw_if_eq d_X10_init_80 rfl rfl z99 (fun c101 => have e103 := e100.1 c101; (aw_aload_n d_X10_init_136 rfl rfl 0 rfl (by decide)
(have z105 := e103.1; aw_getE (kc := 0) d_X10_init_137 rfl fl10_9 rfl rfl (by decide) z105
(fun r106 hqr106 => (have e107 := e103.2 r106 hqr106; (aw_aload_n d_X10_init_140 rfl rfl 0 rfl (by decide)
(aw_getI (kc := 2) d_X10_init_141 rfl fl10_40 rfl rfl
(aw_iconst d_X10_init_144 rfl
(have z109 := e107.1; aw_newa (k := 77) d_X10_init_145 rfl zd77 (Or.inl ⟨rfl, rfl⟩) ac_int (by decide) (Or.inr rfl) z109
(fun n108 hqn108 => (aw_nm fun M111 hqM111 => have e110 := e107.2 n108 hqn108 M111 hqM111; (aw_dup d_X10_init_147 rfl rfl
(aw_iconst d_X10_init_148 rfl
(aw_iload d_X10_init_149 rfl 4 rfl
(aw_iastG d_X10_init_151 rfl zd77.G (zix_s (by decide))
(aw_nm fun M113 hqM113 => have e112 := e110 M113 hqM113; (aw_dup d_X10_init_152 rfl rfl
(aw_iconst d_X10_init_153 rfl
(aw_iload d_X10_init_154 rfl 5 rfl
(aw_iastG d_X10_init_156 rfl zd77.G (zix_s (by decide))
(aw_nm fun M115 hqM115 => have e114 := e112 M115 hqM115; (aw_dup d_X10_init_157 rfl rfl
(aw_iconst d_X10_init_158 rfl
(aw_aload_n d_X10_init_159 rfl rfl 1 rfl (by decide)
(have z116 := e114.1; aw_getE (kc := 11) d_X10_init_160 rfl fl10_27 rfl rfl (by decide) z116
(fun r117 hqr117 => (have e118 := e114.2 r117 hqr117; (aw_iload d_X10_init_163 rfl 4 rfl
(have z119 := e118.1; aw_rale d_X10_init_165 rfl zd74.G (by decide) (zix_s z83) z119
(fun r120 hqr120 => (have e121 := e118.2 r120 hqr120; (aw_iload d_X10_init_166 rfl 5 rfl
(have z122 := e121.1; aw_ialdG d_X10_init_168 rfl zd75.G (zix_d rfl z122)
(have e123 := e121.2; (aw_iastG d_X10_init_169 rfl zd77.G (zix_s (by decide))
(aw_nm fun M125 hqM125 => have e124 := e123 M125 hqM125; (have z126 := e124.1; aw_rast d_X10_init_170 rfl zd76.G zd77.G (by decide) (zix_s z126)
(aw_nm fun M128 hqM128 => have e127 := e124.2 M128 hqM128; (aw_aload_n d_X10_init_171 rfl rfl 0 rfl (by decide)
(aw_dup d_X10_init_172 rfl rfl
(aw_getI (kc := 2) d_X10_init_173 rfl fl10_40 rfl rfl
(aw_iconst d_X10_init_176 rfl
(aw_iadd d_X10_init_177 rfl
(aw_put (kc := 2) d_X10_init_178 rfl fp10_40 rfl rfl rfl rfl
(aw_nm fun M130 hqM130 => have e129 := e127 M130 hqM130; (aw_iinc (lv' := [(5, zi (v5 + 1)), (0, zr 65 h), (1, zr 64 s1), (2, zi v2), (3, zi v3), (4, zi v4)]) (y := (v5 + 1)) d_X10_init_181 rfl 5 rfl (by decide) rfl rfl
(aw_goto d_X10_init_184 rfl
(aw_sub [1, 2, 3, 4, 5, 0] rfl e129)))))))))))))))))))))))))))))))))))))))))))))))) (fun c102 => have e104 := e100.2 c102; (aw_aload_n d_X10_init_83 rfl rfl 0 rfl (by decide)
(have z131 := e104.1; aw_getE (kc := 1) d_X10_init_84 rfl fl10_15 rfl rfl (by decide) z131
(fun r132 hqr132 => (have e133 := e104.2 r132 hqr132; (aw_aload_n d_X10_init_87 rfl rfl 0 rfl (by decide)
(aw_getI (kc := 3) d_X10_init_88 rfl fl10_34 rfl rfl
(aw_iconst d_X10_init_91 rfl
(have z135 := e133.1; aw_newa (k := 77) d_X10_init_92 rfl zd77 (Or.inl ⟨rfl, rfl⟩) ac_int (by decide) (Or.inr rfl) z135
(fun n134 hqn134 => (aw_nm fun M137 hqM137 => have e136 := e133.2 n134 hqn134 M137 hqM137; (aw_dup d_X10_init_94 rfl rfl
(aw_iconst d_X10_init_95 rfl
(aw_iload d_X10_init_96 rfl 4 rfl
(aw_iastG d_X10_init_98 rfl zd77.G (zix_s (by decide))
(aw_nm fun M139 hqM139 => have e138 := e136 M139 hqM139; (aw_dup d_X10_init_99 rfl rfl
(aw_iconst d_X10_init_100 rfl
(aw_iload d_X10_init_101 rfl 5 rfl
(aw_iastG d_X10_init_103 rfl zd77.G (zix_s (by decide))
(aw_nm fun M141 hqM141 => have e140 := e138 M141 hqM141; (aw_dup d_X10_init_104 rfl rfl
(aw_iconst d_X10_init_105 rfl
(aw_aload_n d_X10_init_106 rfl rfl 1 rfl (by decide)
(have z142 := e140.1; aw_getE (kc := 11) d_X10_init_107 rfl fl10_27 rfl rfl (by decide) z142
(fun r143 hqr143 => (have e144 := e140.2 r143 hqr143; (aw_iload d_X10_init_110 rfl 4 rfl
(have z145 := e144.1; aw_rale d_X10_init_112 rfl zd74.G (by decide) (zix_s z83) z145
(fun r146 hqr146 => (have e147 := e144.2 r146 hqr146; (aw_iload d_X10_init_113 rfl 5 rfl
(have z148 := e147.1; aw_ialdG d_X10_init_115 rfl zd75.G (zix_d rfl z148)
(have e149 := e147.2; (aw_aload_n d_X10_init_116 rfl rfl 1 rfl (by decide)
(aw_getI (kc := 1) d_X10_init_117 rfl fl10_37 rfl rfl
(aw_iadd d_X10_init_120 rfl
(aw_iastG d_X10_init_121 rfl zd77.G (zix_s (by decide))
(aw_nm fun M151 hqM151 => have e150 := e149 M151 hqM151; (have z152 := e150.1; aw_rast d_X10_init_122 rfl zd76.G zd77.G (by decide) (zix_s z152)
(aw_nm fun M154 hqM154 => have e153 := e150.2 M154 hqM154; (aw_aload_n d_X10_init_123 rfl rfl 0 rfl (by decide)
(aw_dup d_X10_init_124 rfl rfl
(aw_getI (kc := 3) d_X10_init_125 rfl fl10_34 rfl rfl
(aw_iconst d_X10_init_128 rfl
(aw_iadd d_X10_init_129 rfl
(aw_put (kc := 3) d_X10_init_130 rfl fp10_34 rfl rfl rfl rfl
(aw_nm fun M156 hqM156 => have e155 := e153 M156 hqM156; (aw_goto d_X10_init_133 rfl
(aw_iinc (lv' := [(5, zi (v5 + 1)), (0, zr 65 h), (1, zr 64 s1), (2, zi v2), (3, zi v3), (4, zi v4)]) (y := (v5 + 1)) d_X10_init_181 rfl 5 rfl (by decide) rfl rfl
(aw_goto d_X10_init_184 rfl
(aw_sub [1, 2, 3, 4, 5, 0] rfl e155))))))))))))))))))))))))))))))))))))))))))))))))))))))))))))))))))))))))
theorem vX10_init {l : Launch} {P : zM → Prop} {h : Nat} {s1 : Nat} {v2 : Int} {v3 : Int} {M : zM}
    (H0 : (∀ n1 : Nat, (n1 : Int) = M 97 0 76 → ∀ M3 : zM, M3 = zmk M 76 n1 81 → (∀ M5 : zM, M5 = zu M3 65 h 0 (n1 : Int) → (∀ n6 : Nat, (n6 : Int) = M5 97 0 76 → ∀ M8 : zM, M8 = zmk M5 76 n6 81 → (∀ M10 : zM, M10 = zu M8 65 h 1 (n6 : Int) → LX10_init_25 l P ((0 + 1) + 1) ((0 + 81) + 81) h s1 v2 v3 0 M10))))) :
    CVn l m_X10_init 82 402 [zr 65 h, zr 64 s1, zi v2, zi v3] M P :=
(aw_aload_n d_X10_init_0 rfl rfl 0 rfl (by decide)
(aw_obj d_X10_init_1 rfl (by decide) ob10_1 ⟨Nat.le_of_ble_eq_true rfl, Nat.le_of_ble_eq_true rfl⟩
(aw_aload_n d_X10_init_4 rfl rfl 0 rfl (by decide)
(aw_bipush d_X10_init_5 rfl (by decide)
(aw_anewa (k := 76) d_X10_init_7 rfl zd76 cl10_7 (by decide) (Or.inr rfl) ⟨Nat.le_of_ble_eq_true rfl, Nat.le_of_ble_eq_true rfl⟩
(fun n1 hqn1 => (aw_nm fun M3 hqM3 => have e2 := H0 n1 hqn1 M3 hqM3; (aw_putD (kc := 0) d_X10_init_10 rfl (.inr ⟨ff10_9, rfl⟩) rfl rfl (by decide) (fun _ => ⟨rfl, rfl⟩)
(aw_nm fun M5 hqM5 => have e4 := e2 M5 hqM5; (aw_aload_n d_X10_init_13 rfl rfl 0 rfl (by decide)
(aw_bipush d_X10_init_14 rfl (by decide)
(aw_anewa (k := 76) d_X10_init_16 rfl zd76 cl10_7 (by decide) (Or.inr rfl) ⟨Nat.le_of_ble_eq_true rfl, Nat.le_of_ble_eq_true rfl⟩
(fun n6 hqn6 => (aw_nm fun M8 hqM8 => have e7 := e4 n6 hqn6 M8 hqM8; (aw_putD (kc := 1) d_X10_init_19 rfl (.inr ⟨ff10_15, rfl⟩) rfl rfl (by decide) (fun _ => ⟨rfl, rfl⟩)
(aw_nm fun M10 hqM10 => have e9 := e7 M10 hqM10; (aw_iconst d_X10_init_22 rfl
(aw_istore (lv' := [(4, zi 0), (0, zr 65 h), (1, zr 64 s1), (2, zi v2), (3, zi v3)]) d_X10_init_23 rfl (by decide) rfl
(aw_sub [1, 2, 3, 4, 0] rfl e9)))))))))))))))))))
/-- while it is laid: units before N are in -/
def bI (M M1 : zM) (S : zS) (g : Int) (h b a : Nat) (N nb na : Int) (KB KA : Int → Int) : Prop :=
  (Gr mKs M M1 ∧ (h : Int) < M1 97 0 65) ∧ ((M1 65 h 0 = (b : Int) ∧ (b : Int) < M1 97 0 76) ∧ M1 65 h 1 = (a : Int) ∧ (a : Int) < M1 97 0 76) ∧ (M1 65 h 2 = nb ∧ M1 65 h 3 = na ∧ M1 65 h 4 = 0 ∧ M1 65 h 5 = 0) ∧ (0 ≤ nb ∧ 0 ≤ na ∧ nb + na ≤ N) ∧
  (rK M1 b nb KB kbv ∧ rK M1 a na KA (kav (qfee S))) ∧ sd nb KB (cB S (fun t => qgr S t = g)) (kB (qsy S)) N ∧ sd na KA (cA S (fun t => qgr S t = g)) (kA (qsy S)) N
theorem bI.skip {M1 : zM} {N N' nb na : Int} {KB KA : Int → Int} (I : bI M M1 S g h b a N nb na KB KA) (hN : N ≤ N') (hq : ∀ t u, qU S t u → qgr S t = g → ¬ (N ≤ 4 * t + u ∧ 4 * t + u < N')) : bI M M1 S g h b a N' nb na KB KA :=
  ⟨I.1, I.2.1, I.2.2.1, by have := I.2.2.2.1; omega, I.2.2.2.2.1, I.2.2.2.2.2.1.skip hN (fun t u c => hq t u c.1 c.2.1), I.2.2.2.2.2.2.skip hN (fun t u c => hq t u c.1 c.2.1)⟩
theorem Gr.hl {K : List Nat} {M M1 : zM} (w : lH M s S) (h : Gr K M M1) : lH M1 s S ∧ lU M1 s = lU M s ∧ ∀ t, 0 ≤ t ∧ t < qn S → lR M1 s t = lR M s t ∧ M1 75 (lR M s t) = M 75 (lR M s t) := by
  have e64 := h.2.1 64 s (by decide) w.1.1.1
  have eU : lU M1 s = lU M s := by unfold lU; rw [e64]
  have e74 := h.2.1 74 (lU M s) (by decide) (by rw [lU_v w.1]; exact w.1.2.2.1.2)
  exact ⟨w.ke h.ke, eU, fun t ht => ⟨by unfold lR; rw [eU, e74], h.2.1 75 _ (by decide) (by rw [lR_v w.1 (w.tt ht)]; exact (w.rr ht).1.2)⟩⟩
/-- where the law's market ends -/
abbrev mkP (M : zM) (S : zS) (g : Int) (h : Nat) : zM → Prop := fun M' => Gr mKs M M' ∧ (h : Int) < M' 97 0 65 ∧ mkt M' h (qB S g) (qA S g) (qfee S)
/-- one unit more laid -/
theorem bI.lay {M1 M2 M3 M4 M5 M6 M7 : zM} {t u nb na : Int} {x : Nat} {KB KA : Int → Int} (ok : okS S) (I : bI M M1 S g h b a (4 * t + u) nb na KB KA) (hh : M 97 0 65 ≤ (h : Int)) (hba : (b ≠ a) ∧ M 97 0 76 ≤ (b : Int) ∧ M 97 0 76 ≤ (a : Int)) (q : qU S t u) (hg : qgr S t = g)
    (hx : (x : Int) = M1 97 0 77) (e2 : M2 = zmk M1 77 x 3) (e3 : M3 = zu M2 77 x 0 t) (e4 : M4 = zu M3 77 x 1 u) :
    (Gr mKs M M4 ∧ M4 65 h = M1 65 h) ∧
    (qsl S t = 0 → M5 = zu M4 77 x 2 (qsy S t u) → M6 = zu M5 76 b nb (x : Int) → (M6 65 h 2 = nb) ∧ (M7 = zu M6 65 h 2 (nb + 1) → ∃ KB', bI M M7 S g h b a (4 * t + (u + 1)) (nb + 1) na KB' KA)) ∧
    (qsl S t = 1 → M5 = zu M4 77 x 2 (qsy S t u + qfee S) → M6 = zu M5 76 a na (x : Int) → (M6 65 h 3 = na) ∧ (M7 = zu M6 65 h 3 (na + 1) → ∃ KA', bI M M7 S g h b a (4 * t + (u + 1)) nb (na + 1) KB KA')) := by
  obtain ⟨⟨G, hl⟩, ⟨⟨b0, b1⟩, a0, a1⟩, ⟨n0, n1, n2, n3⟩, ⟨m0, m1, m2⟩, ⟨RB, RA⟩, SB, SA⟩ := I
  have r := ok.1.rng q
  have hxm : M 97 0 77 ≤ (x : Int) := by rw [hx]; exact G.2.2.1 77
  have G4 : Gr mKs M M4 := by
    rw [e4, e3, e2]
    exact ((G.tr (Gr.mk (by decide) (by decide) hx)).zu (k := 77) (i := x) (by decide) hxm).zu (k := 77) (i := x) (by decide) hxm
  have o4 : ∀ k i, k ≠ 97 → ¬ (k = 77 ∧ i = x) → M4 k i = M1 k i := fun k i z1 z2 => by rw [e4, zu_o k i z2, e3, zu_o k i z2, e2]; exact zmk_o z2 z1
  have c4 : ∀ q : Int, q ≠ 77 → M4 97 0 q = M1 97 0 q := fun q hq => by rw [e4, zu_o _ _ (nk (by decide)), e3, zu_o _ _ (nk (by decide)), e2]; exact zmk_n (by decide) hq
  have c77 : M4 97 0 77 = (x : Int) + 1 := by rw [e4, zu_o _ _ (nk (by decide)), e3, zu_o _ _ (nk (by decide)), e2]; exact zmk_c
  have v0 : M4 77 x 0 = t := by rw [e4, zu_w, if_neg (by decide), e3, zu_w, if_pos rfl]
  clear e2 e3 e4
  refine ⟨⟨G4, o4 65 h (by decide) (nk (by decide))⟩, fun hs e5 e6 => ?_, fun hs e5 e6 => ?_⟩
  · have G6 : Gr mKs M M6 := by
      rw [e6, e5]
      exact (G4.zu (k := 77) (i := x) (by decide) hxm).zu (k := 76) (i := b) (by decide) hba.2.1
    have o6 : ∀ k i, k ≠ 97 → ¬ (k = 77 ∧ i = x) → ¬ (k = 76 ∧ i = b) → M6 k i = M1 k i := fun k i z1 z2 z3 => by rw [e6, zu_o k i z3, e5, zu_o k i z2, o4 k i z1 z2]
    have c6 : ∀ q : Int, M6 97 0 q = M4 97 0 q := fun q => by rw [e6, zu_o _ _ (nk (by decide)), e5, zu_o _ _ (nk (by decide))]
    have k65 := o6 65 h (by decide) (nk (by decide)) (nk (by decide))
    refine ⟨by rw [k65]; exact n0, fun e7 => ?_⟩
    have o7 : ∀ k i, ¬ (k = 65 ∧ i = h) → M7 k i = M6 k i := fun k i z => by rw [e7]; exact zu_o k i z
    have f7 : ∀ j, M7 65 h j = if j = 2 then nb + 1 else M1 65 h j := fun j => by rw [e7, zu_w, k65]
    have kd := kB_d (v := qsy S) (t := t) (u := u) r
    have ho : ∀ i : Nat, (i : Int) < M1 97 0 77 → M7 77 i = M1 77 i := fun i hi => by
      rw [o7 77 i (nk (by decide)), o6 77 i (by decide) (by rintro ⟨-, rfl⟩; omega) (nk (by decide))]
    have hc : M7 97 0 77 = (x : Int) + 1 := by rw [o7 97 0 (nk (by decide)), c6, c77]
    refine ⟨_, ⟨by rw [e7]; exact G6.zu (by decide) hh, by rw [o7 97 0 (nk (by decide)), c6, c4 65 (by decide)]; exact hl⟩, ?_, ?_, by omega, ⟨RB.push (key := kB (qsy S) t u) hx hc ho (fun j => ?_) ?_ ?_, RA.keep (by omega) ho ?_⟩, ?_, ?_⟩
    · rw [f7 0, f7 1, if_neg (by decide), if_neg (by decide), o7 97 0 (nk (by decide)), c6, c4 76 (by decide)]
      exact ⟨⟨b0, b1⟩, a0, a1⟩
    · rw [f7, f7, f7, f7, if_pos rfl, if_neg (by decide), if_neg (by decide), if_neg (by decide)]
      exact ⟨rfl, n1, n2, n3⟩
    · rw [o7 76 b (nk (by decide)), e6, zu_w, e5, zu_o _ _ (nk (by decide)), o4 76 b (by decide) (nk (by decide))]
    · rw [o7 77 x (nk (by decide)), e6, zu_o _ _ (nk (by decide)), e5, zu_w, if_neg (by decide), v0, kd.1]
    · rw [o7 77 x (nk (by decide)), e6, zu_o _ _ (nk (by decide)), e5, zu_w, if_pos rfl, kd.2.2.1]
    · rw [o7 76 a (nk (by decide)), o6 76 a (by decide) (nk (by decide)) (by rintro ⟨-, z⟩; exact hba.1 z.symm)]
    · rw [show 4 * t + (u + 1) = 4 * t + u + 1 by omega]
      refine SB.push m0 ⟨q, hg, by omega⟩ rfl kd.2.2.2.2.2 fun t' u' c e => ?_
      have := ok.1.rng c.1
      omega
    · refine SA.skip (by omega) fun t' u' c z => ?_
      have := ok.1.rng c.1
      have h1 : t' = t := by omega
      have := c.2.2
      rw [h1] at this
      omega
  · have G6 : Gr mKs M M6 := by
      rw [e6, e5]
      exact (G4.zu (k := 77) (i := x) (by decide) hxm).zu (k := 76) (i := a) (by decide) hba.2.2
    have o6 : ∀ k i, k ≠ 97 → ¬ (k = 77 ∧ i = x) → ¬ (k = 76 ∧ i = a) → M6 k i = M1 k i := fun k i z1 z2 z3 => by rw [e6, zu_o k i z3, e5, zu_o k i z2, o4 k i z1 z2]
    have c6 : ∀ q : Int, M6 97 0 q = M4 97 0 q := fun q => by rw [e6, zu_o _ _ (nk (by decide)), e5, zu_o _ _ (nk (by decide))]
    have k65 := o6 65 h (by decide) (nk (by decide)) (nk (by decide))
    refine ⟨by rw [k65]; exact n1, fun e7 => ?_⟩
    have o7 : ∀ k i, ¬ (k = 65 ∧ i = h) → M7 k i = M6 k i := fun k i z => by rw [e7]; exact zu_o k i z
    have f7 : ∀ j, M7 65 h j = if j = 3 then na + 1 else M1 65 h j := fun j => by rw [e7, zu_w, k65]
    have kd := kA_d (v := qsy S) (t := t) (u := u) r
    have ho : ∀ i : Nat, (i : Int) < M1 97 0 77 → M7 77 i = M1 77 i := fun i hi => by
      rw [o7 77 i (nk (by decide)), o6 77 i (by decide) (by rintro ⟨-, rfl⟩; omega) (nk (by decide))]
    have hc : M7 97 0 77 = (x : Int) + 1 := by rw [o7 97 0 (nk (by decide)), c6, c77]
    refine ⟨_, ⟨by rw [e7]; exact G6.zu (by decide) hh, by rw [o7 97 0 (nk (by decide)), c6, c4 65 (by decide)]; exact hl⟩, ?_, ?_, by omega, ⟨RB.keep (by omega) ho ?_, RA.push (key := kA (qsy S) t u) hx hc ho (fun j => ?_) ?_ ?_⟩, ?_, ?_⟩
    · rw [f7 0, f7 1, if_neg (by decide), if_neg (by decide), o7 97 0 (nk (by decide)), c6, c4 76 (by decide)]
      exact ⟨⟨b0, b1⟩, a0, a1⟩
    · rw [f7, f7, f7, f7, if_pos rfl, if_neg (by decide), if_neg (by decide), if_neg (by decide)]
      exact ⟨n0, rfl, n2, n3⟩
    · rw [o7 76 b (nk (by decide)), o6 76 b (by decide) (nk (by decide)) (by rintro ⟨-, z⟩; exact hba.1 z)]
    · rw [o7 76 a (nk (by decide)), e6, zu_w, e5, zu_o _ _ (nk (by decide)), o4 76 a (by decide) (nk (by decide))]
    · rw [o7 77 x (nk (by decide)), e6, zu_o _ _ (nk (by decide)), e5, zu_w, if_neg (by decide), v0, kd.1]
    · rw [o7 77 x (nk (by decide)), e6, zu_o _ _ (nk (by decide)), e5, zu_w, if_pos rfl, kd.2.2.1]
    · refine SB.skip (by omega) fun t' u' c z => ?_
      have := ok.1.rng c.1
      have h1 : t' = t := by omega
      have := c.2.2
      rw [h1] at this
      omega
    · rw [show 4 * t + (u + 1) = 4 * t + u + 1 by omega]
      refine SA.push m1 ⟨q, hg, hs⟩ rfl kd.2.2.2.2.2 fun t' u' c e => ?_
      have := ok.1.rng c.1
      omega
theorem init_220 {b a : Nat} {B A : List Int} {f : Int} (gdd : gd B A) (hf : 0 ≤ f ∧ f ≤ 500) (hh : M 97 0 65 ≤ (h : Int)) {c n : Nat} : ∀ (fu k : Nat) (M1 : zM), (k : Int) + fu = B.length → Gr mKs M M1 → (h : Int) < M1 97 0 65 → mk0 M1 h b a B A f → M1 65 h 4 = (k : Int) → tT f B A = k + tT f (B.drop k) (A.drop k) → tW f B A = M1 65 h 5 + tW f (B.drop k) (A.drop k) →
    LX10_init_220 l (fun M' => Gr mKs M M' ∧ (h : Int) < M' 97 0 65 ∧ mkt M' h B A f) c n h s k M1 := by
  have fin : ∀ (k : Nat) (M1 : zM), Gr mKs M M1 → (h : Int) < M1 97 0 65 → mk0 M1 h b a B A f → M1 65 h 4 = (k : Int) → tT f B A = k + tT f (B.drop k) (A.drop k) → tW f B A = M1 65 h 5 + tW f (B.drop k) (A.drop k) → ((k : Int) < B.length → (k : Int) < A.length → gB B k < gA f A k) → Gr mKs M M1 ∧ (h : Int) < M1 97 0 65 ∧ mkt M1 h B A f := by
    intro k M1 G hl I e4 eT eW c
    have := tT_stop (f := f) (B := B) (A := A) (k := (k : Int)) (by omega) c
    rw [Int.toNat_natCast] at this
    exact ⟨G, hl, b, a, I, by omega, by omega⟩
  intro fu
  induction fu with
  | zero =>
    intro k M1 hk G hl I e4 eT eW
    have hB := I.2.1.1
    have h80 := gdd.1.1
    refine vX10_init_220 ?_
    rw [hB]
    exact ⟨by omega, by omega, fun _ => fin k M1 G hl I e4 eT eW (fun q _ => absurd q (by omega)), fun q => absurd q (by omega)⟩
  | succ fu ih =>
    intro k M1 hk G hl I e4 eT eW
    obtain ⟨⟨⟨b0, b1⟩, a0, a1⟩, ⟨hB, hA⟩, RB, RA⟩ := id I
    have h80 := gdd.1
    refine vX10_init_220 ?_
    rw [hB, hA]
    refine ⟨by omega, by omega, fun q => absurd q (by omega), fun _ => ⟨by omega, fun q => fin k M1 G hl I e4 eT eW (fun _ q2 => absurd q2 (by omega)), fun q => ⟨by rw [b0]; omega, fun x hx => ?_⟩⟩⟩
    have ex : x = b := by omega
    subst ex
    have r1 := RB (k : Int) (by omega)
    refine ⟨by omega, r1.1, fun y hy => ⟨by rw [a0]; omega, fun x2 hx2 => ?_⟩⟩
    have ex2 : x2 = a := by omega
    subst ex2
    have r2 := RA (k : Int) (by omega)
    refine ⟨r2.1, fun z hz => ?_⟩
    have ey : y = (M1 76 x (k : Int)).toNat := by omega
    have ez : z = (M1 76 x2 (k : Int)).toNat := by omega
    have v1 : M1 77 y 2 = gB B k := by rw [ey, r1.2.2]; rfl
    have v2 : M1 77 z 2 = gA f A k := by rw [ez, r2.2.2]; rfl
    have i1 := gB_in (k := (k : Int)) gdd (by omega)
    have i2 := gA_in (f := f) (k := (k : Int)) gdd (by omega)
    rw [v1, v2]
    refine ⟨by omega, by omega, fun q2 => fin k M1 G hl I e4 eT eW (fun _ _ => q2), fun q2 M2 e2 M3 e3 => ?_⟩
    have st := tT_step (f := f) (B := B) (A := A) (k := (k : Int)) (by omega) (by omega) (by omega) q2
    rw [Int.toNat_natCast, show ((k : Int) + 1).toNat = k + 1 by omega] at st
    have o : ∀ k' i', ¬ (k' = 65 ∧ i' = h) → M3 k' i' = M1 k' i' := fun k' i' z' => by rw [e3, zu_o k' i' z', e2, zu_o k' i' z']
    have f3 : ∀ j, M3 65 h j = if j = 4 then (k : Int) + 1 else if j = 5 then M1 65 h 5 + (gB B k - gA f A k) else M1 65 h j := fun j => by
      rw [e3, zu_w, e2, zu_w, zu_w, if_neg (show (4 : Int) ≠ 5 by decide), e4]
    have := ih (k + 1) M3 (by omega) (by rw [e3, e2]; exact (G.zu (k := 65) (i := h) (by decide) hh).zu (k := 65) (i := h) (by decide) hh) (by rw [o 97 0 (nk (by decide))]; exact hl) ?_ (by rw [f3, if_pos rfl]; omega) (by omega) (by rw [f3, if_neg (by decide), if_pos rfl]; omega)
    · rw [show ((k + 1 : Nat) : Int) = (k : Int) + 1 by omega] at this
      exact this
    · refine ⟨?_, ?_, fun j hj => ?_, fun j hj => ?_⟩
      · rw [f3 0, f3 1, if_neg (by decide), if_neg (by decide), if_neg (by decide), if_neg (by decide), o 97 0 (nk (by decide))]
        exact I.1
      · rw [f3 2, f3 3, if_neg (by decide), if_neg (by decide), if_neg (by decide), if_neg (by decide)]
        exact I.2.1
      · rw [o 76 x (nk (by decide)), o 97 0 (nk (by decide)), o 77 _ (nk (by decide))]
        exact RB j hj
      · rw [o 76 x2 (nk (by decide)), o 97 0 (nk (by decide)), o 77 _ (nk (by decide))]
        exact RA j hj
end
