/-! ===== close: the reference ===== -/
theorem mSy.q {M M' : zM} {A : zY} (h : mSy M A) (f : mQ M M') : mSy M' A := by
  obtain ⟨⟨⟨a1, a2⟩, ⟨b1, b2⟩, ⟨⟨c1, c1'⟩, c2, c3⟩, ⟨d1, d2⟩, e1, e2⟩, zz⟩ := h
  have o : ∀ k, k ≠ 9 → ¬ (31 ≤ k ∧ k ≤ 46) → M' k 0 = M k 0 := fun k h1 h2 => f.1 k 0 h1 h2
  have cp : ∀ k o', k ≠ 9 → ¬ (31 ≤ k ∧ k ≤ 46) → mW M k o' → mW M' k o' ∧ mV M' k o' = mV M k o' := fun k o' h1 h2 w => mV_copy (fun j _ => by rw [o k h1 h2]) w
  have n27 := cp 27 0 (by omega) (by omega) a1
  refine ⟨⟨⟨n27.1, n27.2.trans a2⟩, ⟨by rw [f.2.1 2 (by omega)]; exact b1, fun i hi => ?_⟩, ⟨⟨by rw [o 30 (by omega) (by omega)]; exact c1, by rw [o 30 (by omega) (by omega)]; exact c1'⟩, fun q => ?_, fun q => ?_⟩, ⟨by rw [f.2.1 36 (by omega)]; exact d1, fun i hi => by rw [o 47 (by omega) (by omega)]; exact d2 i hi⟩, by rw [f.2.1 5 (by omega)]; exact e1, by rw [f.2.1 6 (by omega)]; exact e2⟩, f.2.2⟩
  · have b := b2 i hi
    have c := cp 28 _ (by omega) (by omega) b.1
    exact ⟨c.1, c.2.trans b.2⟩
  · have b := c2 q
    have c := cp 29 _ (by omega) (by omega) b.1
    exact ⟨c.1, c.2.trans b.2⟩
  · have b := c3 q
    have c := cp 29 _ (by omega) (by omega) b.1
    exact ⟨c.1, c.2.trans b.2⟩
theorem mSy.mx {M : zM} {A : zY} (h : mSy M A) (ok : okS (yS A)) : MX M (yS A) := by
  have e : rS M = yS A := h.1.1.2
  refine ⟨⟨?_, e⟩, h.1.2.2.2.2.1, h.1.2.2.2.2.2⟩
  unfold RC
  rw [e]
  exact ⟨h.1.1.1, ok.1, ok.2.1, ok.2.2.1, ok.2.2.2, h.2⟩
theorem md_q {M M' : zM} (f : mQ M M') : ∀ k i, ¬ isMd k → M' k i = M k i := fun k i hk => f.1 k i (fun q => hk (by unfold isMd; omega)) (fun q => hk (by unfold isMd; omega))
theorem ld_of {M M' : zM} {B A : List Int} {f w : Int} (h : mLd M B A f ∧ mDn M B A f w) (o : ∀ k, 31 ≤ k ∧ k ≤ 36 → M' k 0 = M k 0) (e : ∀ j, j ≠ 2 → M' 9 0 j = M 9 0 j) : mLd M' B A f ∧ mDn M' B A f w := by
  obtain ⟨⟨h1, h2, h3, h4⟩, h5⟩ := h
  exact ⟨⟨h1.of (e 11 (by decide)) (o 33 (by omega)) (o 31 (by omega)) (o 32 (by omega)), h2.of (e 15 (by decide)) (o 36 (by omega)) (o 34 (by omega)) (o 35 (by omega)), by rw [e 16 (by decide)]; exact h3, by rw [e 17 (by decide)]; exact h4⟩, h5.of fun j hj => e j (by omega)⟩
theorem note_eq {T : zS} {d k : Int} : sSc (sSc (sSc (sSc T 3 (qsc T 3 + k)) 6 (if qsc T 5 = 0 then k else max (qsc T 6) k)) 4 (qsc T 4 + d)) 5 (qsc T 5 + 1) = sNote T d k := by
  refine Prod.ext ?_ rfl
  funext j
  show upf (upf (upf (upf (qsc T) 3 (qsc T 3 + k)) 6 (if qsc T 5 = 0 then k else max (qsc T 6) k)) 4 (qsc T 4 + d)) 5 (qsc T 5 + 1) j = upf (upf (upf (upf (qsc T) 6 (if qsc T 5 = 0 then k else max (qsc T 6) k)) 3 (qsc T 3 + k)) 4 (qsc T 4 + d)) 5 (qsc T 5 + 1) j
  generalize (if qsc T 5 = 0 then k else max (qsc T 6) k) = y
  unfold upf
  by_cases c5 : j = 5
  · rw [if_pos c5, if_pos c5]
  · rw [if_neg c5, if_neg c5]
    by_cases c4 : j = 4
    · rw [if_pos c4, if_pos c4]
    · rw [if_neg c4, if_neg c4]
      by_cases c6 : j = 6
      · rw [if_pos c6, if_neg (by omega), if_pos c6]
      · rw [if_neg c6, if_neg c6]
section
variable {l : Launch} {M : zM} {A : zY} {kk : Int}
def LX9_close_44 (l : Launch) (P : Int → zM → Prop) (v1 : Int) (v2 : Int) (v3 : Int) (M : zM) : Prop := AW l m_X9_close (zTi m_X9_close P) 44 [(0, zr 9 0), (1, zi v1), (2, zi v2), (3, zi v3)] [] M
def LX9_close_125 (l : Launch) (P : Int → zM → Prop) (v2 : Int) (v3 : Int) (M : zM) : Prop := AW l m_X9_close (zTi m_X9_close P) 125 [(0, zr 9 0), (2, zi v2), (3, zi v3)] [] M
theorem vX9_close_44 {l : Launch} {P : Int → zM → Prop} {v1 : Int} {v2 : Int} {v3 : Int} {M : zM}
    (H0 : (zI v3 ∧ zI (M 27 0 180) ∧ ((M 27 0 180) ≤ v3 → LX9_close_125 l P v2 0 M) ∧ (v3 < (M 27 0 180) → ((0 ≤ 9 * v3 + 1 ∧ 9 * v3 + 1 < 187) ∧ (zI (M 27 0 (9 * v3 + 1)) ∧ zI v1 ∧ ((M 27 0 (9 * v3 + 1)) ≠ v1 → ((0 ≤ v3 ∧ v3 < 20) ∧ ∀ M41 : zM, M41 = zu M 46 0 v3 0 → (∀ M44 : zM, M44 = zu M41 45 0 v3 0 → LX9_close_44 l P v1 v2 (v3 + 1) M44))) ∧ ((M 27 0 (9 * v3 + 1)) = v1 → (CI l m_X9_doneOf [zr 9 0, zi v3] M (fun x50 M47 => ((0 ≤ v3 ∧ v3 < 20) ∧ ∀ M52 : zM, M52 = zu M47 46 0 v3 x50 → (CI l m_X9_dealOf [zr 9 0, zi v3, zi (M52 27 0 182)] M52 (fun x58 M55 => (∀ M59 : zM, M59 = zu M55 45 0 v3 x58 → LX9_close_44 l P v1 v2 (v3 + 1) M59)))))))))))) :
    LX9_close_44 l P v1 v2 v3 M :=
(aw_iload_n d_X9_close_44 rfl rfl 3 rfl
(aw_aload_n d_X9_close_45 rfl rfl 0 rfl (by decide)
(aw_VI (As := []) (st := [zi v3]) d_X9_close_46 rfl cv9_78 ⟨Nat.le_of_ble_eq_true rfl, Nat.le_of_ble_eq_true rfl⟩ rfl rfl (Nat.le_of_ble_eq_true rfl) (Nat.le_of_ble_eq_true rfl) (s_X9_traders) (fun _ _ hq => aw_eqs hq
(have z23 := H0.1; have z24 := H0.2.1; have e25 := H0.2.2; aw_icmp_ge d_X9_close_49 rfl rfl z23 z24 (fun c26 => have e28 := e25.1 c26; (aw_iconst d_X9_close_123 rfl
(aw_istore_n (lv' := [(3, zi 0), (0, zr 9 0), (1, zi v1), (2, zi v2)]) d_X9_close_124 rfl rfl (by decide) rfl
(aw_sub [1, 3, 0] rfl e28)))) (fun c27 => have e29 := e25.2 c27; (aw_aload_n d_X9_close_52 rfl rfl 0 rfl (by decide)
(aw_iload_n d_X9_close_53 rfl rfl 3 rfl
(aw_iconst d_X9_close_54 rfl
(have z30 := e29.1; have e31 := e29.2; (aw_VI (As := [zi v3, zi 1]) (st := []) d_X9_close_55 rfl cv9_88 ⟨Nat.le_of_ble_eq_true rfl, Nat.le_of_ble_eq_true rfl⟩ rfl rfl (Nat.le_of_ble_eq_true rfl) (Nat.le_of_ble_eq_true rfl) (s_X9_of z30) (fun _ _ hq => aw_eqs hq
(aw_iload_n d_X9_close_58 rfl rfl 1 rfl
(have z32 := e31.1; have z33 := e31.2.1; have e34 := e31.2.2; aw_icmp_ne d_X9_close_59 rfl rfl z32 z33 (fun c35 => have e37 := e34.1 c35; (aw_iconst d_X9_close_66 rfl
(aw_istore (lv' := [(4, zi 0), (0, zr 9 0), (1, zi v1), (2, zi v2), (3, zi v3)]) d_X9_close_67 rfl (by decide) rfl
(aw_aload_n d_X9_close_69 rfl rfl 1 rfl (by decide)
(aw_getR (k' := 46) (a := 0) (b := 0) (j := 0) d_X9_close_70 rfl fl9_68 rfl zj0 ⟨by decide, fun _ => by decide⟩
(aw_iload_n d_X9_close_73 rfl rfl 4 rfl
(aw_iload d_X9_close_74 rfl 0 rfl
(aw_if_eq d_X9_close_76 rfl rfl (by decide) (fun _ => (aw_iconst d_X9_close_87 rfl
(have z40 := e37.1; have e42 := e37.2 _ rfl; aw_iast d_X9_close_88 rfl za46 z40
(aw_aload_n d_X9_close_89 rfl rfl 1 rfl (by decide)
(aw_getR (k' := 45) (a := 0) (b := 0) (j := 0) d_X9_close_90 rfl fl9_65 rfl zj0 ⟨by decide, fun _ => by decide⟩
(aw_iload_n d_X9_close_93 rfl rfl 4 rfl
(aw_iload d_X9_close_94 rfl 0 rfl
(aw_if_eq d_X9_close_96 rfl rfl (by decide) (fun _ => (aw_iconst d_X9_close_115 rfl
(have e45 := e42 _ rfl; aw_iast d_X9_close_116 rfl za45 z40
(aw_iinc (lv' := [(3, zi (v3 + 1)), (4, zi 0), (0, zr 9 0), (1, zi v1), (2, zi v2)]) (y := (v3 + 1)) d_X9_close_117 rfl 4 rfl (by decide) rfl rfl
(aw_goto d_X9_close_120 rfl
(aw_sub [2, 3, 4, 0] rfl e45)))))) (fun c43 => absurd c43 (by decide)))))))))) (fun c39 => absurd c39 (by decide)))))))))) (fun c36 => have e38 := e34.2 c36; (aw_iconst d_X9_close_62 rfl
(aw_goto d_X9_close_63 rfl
(aw_istore (lv' := [(4, zi 1), (0, zr 9 0), (1, zi v1), (2, zi v2), (3, zi v3)]) d_X9_close_67 rfl (by decide) rfl
(aw_aload_n d_X9_close_69 rfl rfl 1 rfl (by decide)
(aw_getR (k' := 46) (a := 0) (b := 0) (j := 0) d_X9_close_70 rfl fl9_68 rfl zj0 ⟨by decide, fun _ => by decide⟩
(aw_iload_n d_X9_close_73 rfl rfl 4 rfl
(aw_iload d_X9_close_74 rfl 0 rfl
(aw_if_eq d_X9_close_76 rfl rfl (by decide) (fun c46 => absurd c46 (by decide)) (fun _ => (aw_aload_n d_X9_close_79 rfl rfl 1 rfl (by decide)
(aw_iload_n d_X9_close_80 rfl rfl 4 rfl
(aw_VI (As := [zi v3]) (st := [zi v3, zr 46 0]) d_X9_close_81 rfl cv9_170 ⟨Nat.le_of_ble_eq_true rfl, Nat.le_of_ble_eq_true rfl⟩ rfl rfl (Nat.le_of_ble_eq_true rfl) (Nat.le_of_ble_eq_true rfl) e38 (fun x50 M47 e48 => (aw_goto d_X9_close_84 rfl
(have z51 := e48.1; aw_iast d_X9_close_88 rfl za46 z51
(aw_nm fun M52 hqM52 => have e53 := e48.2 M52 hqM52; (aw_aload_n d_X9_close_89 rfl rfl 1 rfl (by decide)
(aw_getR (k' := 45) (a := 0) (b := 0) (j := 0) d_X9_close_90 rfl fl9_65 rfl zj0 ⟨by decide, fun _ => by decide⟩
(aw_iload_n d_X9_close_93 rfl rfl 4 rfl
(aw_iload d_X9_close_94 rfl 0 rfl
(aw_if_eq d_X9_close_96 rfl rfl (by decide) (fun c54 => absurd c54 (by decide)) (fun _ => (aw_aload_n d_X9_close_99 rfl rfl 1 rfl (by decide)
(aw_iload_n d_X9_close_100 rfl rfl 4 rfl
(aw_aload_n d_X9_close_101 rfl rfl 1 rfl (by decide)
(aw_getR (k' := 27) (a := 0) (b := 0) (j := 0) d_X9_close_102 rfl fl9_7 rfl zj0 ⟨by decide, fun _ => by decide⟩
(aw_sipush d_X9_close_105 rfl (by decide)
(aw_iald d_X9_close_108 rfl za27 (by decide)
(aw_VI (As := [zi v3, zi (M52 27 0 182)]) (st := [zi v3, zr 45 0]) d_X9_close_109 rfl cv9_183 ⟨Nat.le_of_ble_eq_true rfl, Nat.le_of_ble_eq_true rfl⟩ rfl rfl (Nat.le_of_ble_eq_true rfl) (Nat.le_of_ble_eq_true rfl) e53 (fun x58 M55 e56 => (aw_goto d_X9_close_112 rfl
(have e60 := e56 _ rfl; aw_iast d_X9_close_116 rfl za45 z51
(aw_iinc (lv' := [(3, zi (v3 + 1)), (4, zi 1), (0, zr 9 0), (1, zi v1), (2, zi v2)]) (y := (v3 + 1)) d_X9_close_117 rfl 4 rfl (by decide) rfl rfl
(aw_goto d_X9_close_120 rfl
(aw_sub [2, 3, 4, 0] rfl e60))))))))))))))))))))))))))))))))))))))))))))))))))
theorem vX9_close_125 {l : Launch} {P : Int → zM → Prop} {v2 : Int} {v3 : Int} {M : zM}
    (H0 : (zI v3 ∧ zI (M 27 0 180) ∧ ((M 27 0 180) ≤ v3 → (∀ M68 : zM, M68 = zu M 27 0 183 ((M 27 0 183) + v2) → (zI (M68 27 0 185) ∧ ((M68 27 0 185) = 0 → (∀ M76 : zM, M76 = zu M68 27 0 186 v2 → (∀ M78 : zM, M78 = zu M76 27 0 184 ((M76 27 0 184) + (M76 9 0 18)) → (∀ M80 : zM, M80 = zu M78 27 0 185 ((M78 27 0 185) + 1) → P (M80 9 0 18) M80)))) ∧ ((M68 27 0 185) ≠ 0 → (zI v2 ∧ zI (M68 27 0 186) ∧ (v2 ≤ (M68 27 0 186) → (∀ M89 : zM, M89 = zu M68 27 0 186 (M68 27 0 186) → (∀ M91 : zM, M91 = zu M89 27 0 184 ((M89 27 0 184) + (M89 9 0 18)) → (∀ M93 : zM, M93 = zu M91 27 0 185 ((M91 27 0 185) + 1) → P (M93 9 0 18) M93)))) ∧ ((M68 27 0 186) < v2 → (∀ M95 : zM, M95 = zu M68 27 0 186 v2 → (∀ M97 : zM, M97 = zu M95 27 0 184 ((M95 27 0 184) + (M95 9 0 18)) → (∀ M99 : zM, M99 = zu M97 27 0 185 ((M97 27 0 185) + 1) → P (M99 9 0 18) M99))))))))) ∧ (v3 < (M 27 0 180) → ((0 ≤ ((9 * v3) + 7) ∧ ((9 * v3) + 7) < 187) ∧ (((0 ≤ v3 ∧ v3 < 20) ∧ (M 27 0 (9 * v3) = 0 ∨ M 27 0 (9 * v3) = 1)) ∧ ((¬ (M 27 0 (9 * v3) = 1) → ((0 ≤ v3 ∧ v3 < 20) ∧ (∀ M111 : zM, M111 = zu M 27 0 ((9 * v3) + 7) ((M 27 0 ((9 * v3) + 7)) + (-(M 45 0 v3))) → (CV l m_X9_goes [zr 9 0, zi v3, zi (M111 46 0 v3)] M111 (fun M113 => LX9_close_125 l P v2 (v3 + 1) M113))))) ∧ (M 27 0 (9 * v3) = 1 → ((0 ≤ v3 ∧ v3 < 20) ∧ (∀ M118 : zM, M118 = zu M 27 0 ((9 * v3) + 7) ((M 27 0 ((9 * v3) + 7)) + (M 45 0 v3)) → (CV l m_X9_goes [zr 9 0, zi v3, zi (M118 46 0 v3)] M118 (fun M120 => LX9_close_125 l P v2 (v3 + 1) M120))))))))))) :
    LX9_close_125 l P v2 v3 M :=
(aw_iload_n d_X9_close_125 rfl rfl 2 rfl
(aw_aload_n d_X9_close_126 rfl rfl 0 rfl (by decide)
(aw_VI (As := []) (st := [zi v3]) d_X9_close_127 rfl cv9_78 ⟨Nat.le_of_ble_eq_true rfl, Nat.le_of_ble_eq_true rfl⟩ rfl rfl (Nat.le_of_ble_eq_true rfl) (Nat.le_of_ble_eq_true rfl) (s_X9_traders) (fun _ _ hq => aw_eqs hq
(have z61 := H0.1; have z62 := H0.2.1; have e63 := H0.2.2; aw_icmp_ge d_X9_close_130 rfl rfl z61 z62 (fun c64 => have e66 := e63.1 c64; (aw_aload_n d_X9_close_189 rfl rfl 0 rfl (by decide)
(aw_getR (k' := 27) (a := 0) (b := 0) (j := 0) d_X9_close_190 rfl fl9_7 rfl zj0 ⟨by decide, fun _ => by decide⟩
(aw_sipush d_X9_close_193 rfl (by decide)
(aw_dup2 d_X9_close_196 rfl rfl rfl
(aw_iald d_X9_close_197 rfl za27 (by decide)
(aw_iload_n d_X9_close_198 rfl rfl 1 rfl
(aw_iadd d_X9_close_199 rfl
(have e69 := e66 _ rfl; aw_iast d_X9_close_200 rfl za27 (by decide)
(aw_aload_n d_X9_close_201 rfl rfl 0 rfl (by decide)
(aw_getR (k' := 27) (a := 0) (b := 0) (j := 0) d_X9_close_202 rfl fl9_7 rfl zj0 ⟨by decide, fun _ => by decide⟩
(aw_sipush d_X9_close_205 rfl (by decide)
(aw_aload_n d_X9_close_208 rfl rfl 0 rfl (by decide)
(aw_getR (k' := 27) (a := 0) (b := 0) (j := 0) d_X9_close_209 rfl fl9_7 rfl zj0 ⟨by decide, fun _ => by decide⟩
(aw_sipush d_X9_close_212 rfl (by decide)
(aw_iald d_X9_close_215 rfl za27 (by decide)
(have z70 := e69.1; have e71 := e69.2; aw_if_eq d_X9_close_216 rfl rfl z70 (fun c72 => have e74 := e71.1 c72; (aw_iload_n d_X9_close_231 rfl rfl 1 rfl
(aw_goto d_X9_close_232 rfl
(have e77 := e74 _ rfl; aw_iast d_X9_close_243 rfl za27 (by decide)
(aw_aload_n d_X9_close_244 rfl rfl 0 rfl (by decide)
(aw_getR (k' := 27) (a := 0) (b := 0) (j := 0) d_X9_close_245 rfl fl9_7 rfl zj0 ⟨by decide, fun _ => by decide⟩
(aw_sipush d_X9_close_248 rfl (by decide)
(aw_dup2 d_X9_close_251 rfl rfl rfl
(aw_iald d_X9_close_252 rfl za27 (by decide)
(aw_aload_n d_X9_close_253 rfl rfl 0 rfl (by decide)
(aw_getI (kc := 18) d_X9_close_254 rfl fl9_146 rfl rfl
(aw_iadd d_X9_close_257 rfl
(have e79 := e77 _ rfl; aw_iast d_X9_close_258 rfl za27 (by decide)
(aw_aload_n d_X9_close_259 rfl rfl 0 rfl (by decide)
(aw_getR (k' := 27) (a := 0) (b := 0) (j := 0) d_X9_close_260 rfl fl9_7 rfl zj0 ⟨by decide, fun _ => by decide⟩
(aw_sipush d_X9_close_263 rfl (by decide)
(aw_dup2 d_X9_close_266 rfl rfl rfl
(aw_iald d_X9_close_267 rfl za27 (by decide)
(aw_iconst d_X9_close_268 rfl
(aw_iadd d_X9_close_269 rfl
(have e81 := e79 _ rfl; aw_iast d_X9_close_270 rfl za27 (by decide)
(aw_aload_n d_X9_close_271 rfl rfl 0 rfl (by decide)
(aw_getI (kc := 18) d_X9_close_272 rfl fl9_146 rfl rfl
(aw_ri d_X9_close_275 rfl e81)))))))))))))))))))))))) (fun c73 => have e75 := e71.2 c73; (aw_iload_n d_X9_close_219 rfl rfl 1 rfl
(aw_aload_n d_X9_close_220 rfl rfl 0 rfl (by decide)
(aw_getR (k' := 27) (a := 0) (b := 0) (j := 0) d_X9_close_221 rfl fl9_7 rfl zj0 ⟨by decide, fun _ => by decide⟩
(aw_sipush d_X9_close_224 rfl (by decide)
(aw_iald d_X9_close_227 rfl za27 (by decide)
(have z82 := e75.1; have z83 := e75.2.1; have e84 := e75.2.2; aw_icmp_le d_X9_close_228 rfl rfl z82 z83 (fun c85 => have e87 := e84.1 c85; (aw_aload_n d_X9_close_235 rfl rfl 0 rfl (by decide)
(aw_getR (k' := 27) (a := 0) (b := 0) (j := 0) d_X9_close_236 rfl fl9_7 rfl zj0 ⟨by decide, fun _ => by decide⟩
(aw_sipush d_X9_close_239 rfl (by decide)
(aw_iald d_X9_close_242 rfl za27 (by decide)
(have e90 := e87 _ rfl; aw_iast d_X9_close_243 rfl za27 (by decide)
(aw_aload_n d_X9_close_244 rfl rfl 0 rfl (by decide)
(aw_getR (k' := 27) (a := 0) (b := 0) (j := 0) d_X9_close_245 rfl fl9_7 rfl zj0 ⟨by decide, fun _ => by decide⟩
(aw_sipush d_X9_close_248 rfl (by decide)
(aw_dup2 d_X9_close_251 rfl rfl rfl
(aw_iald d_X9_close_252 rfl za27 (by decide)
(aw_aload_n d_X9_close_253 rfl rfl 0 rfl (by decide)
(aw_getI (kc := 18) d_X9_close_254 rfl fl9_146 rfl rfl
(aw_iadd d_X9_close_257 rfl
(have e92 := e90 _ rfl; aw_iast d_X9_close_258 rfl za27 (by decide)
(aw_aload_n d_X9_close_259 rfl rfl 0 rfl (by decide)
(aw_getR (k' := 27) (a := 0) (b := 0) (j := 0) d_X9_close_260 rfl fl9_7 rfl zj0 ⟨by decide, fun _ => by decide⟩
(aw_sipush d_X9_close_263 rfl (by decide)
(aw_dup2 d_X9_close_266 rfl rfl rfl
(aw_iald d_X9_close_267 rfl za27 (by decide)
(aw_iconst d_X9_close_268 rfl
(aw_iadd d_X9_close_269 rfl
(have e94 := e92 _ rfl; aw_iast d_X9_close_270 rfl za27 (by decide)
(aw_aload_n d_X9_close_271 rfl rfl 0 rfl (by decide)
(aw_getI (kc := 18) d_X9_close_272 rfl fl9_146 rfl rfl
(aw_ri d_X9_close_275 rfl e94)))))))))))))))))))))))))) (fun c86 => have e88 := e84.2 c86; (aw_iload_n d_X9_close_231 rfl rfl 1 rfl
(aw_goto d_X9_close_232 rfl
(have e96 := e88 _ rfl; aw_iast d_X9_close_243 rfl za27 (by decide)
(aw_aload_n d_X9_close_244 rfl rfl 0 rfl (by decide)
(aw_getR (k' := 27) (a := 0) (b := 0) (j := 0) d_X9_close_245 rfl fl9_7 rfl zj0 ⟨by decide, fun _ => by decide⟩
(aw_sipush d_X9_close_248 rfl (by decide)
(aw_dup2 d_X9_close_251 rfl rfl rfl
(aw_iald d_X9_close_252 rfl za27 (by decide)
(aw_aload_n d_X9_close_253 rfl rfl 0 rfl (by decide)
(aw_getI (kc := 18) d_X9_close_254 rfl fl9_146 rfl rfl
(aw_iadd d_X9_close_257 rfl
(have e98 := e96 _ rfl; aw_iast d_X9_close_258 rfl za27 (by decide)
(aw_aload_n d_X9_close_259 rfl rfl 0 rfl (by decide)
(aw_getR (k' := 27) (a := 0) (b := 0) (j := 0) d_X9_close_260 rfl fl9_7 rfl zj0 ⟨by decide, fun _ => by decide⟩
(aw_sipush d_X9_close_263 rfl (by decide)
(aw_dup2 d_X9_close_266 rfl rfl rfl
(aw_iald d_X9_close_267 rfl za27 (by decide)
(aw_iconst d_X9_close_268 rfl
(aw_iadd d_X9_close_269 rfl
(have e100 := e98 _ rfl; aw_iast d_X9_close_270 rfl za27 (by decide)
(aw_aload_n d_X9_close_271 rfl rfl 0 rfl (by decide)
(aw_getI (kc := 18) d_X9_close_272 rfl fl9_146 rfl rfl
(aw_ri d_X9_close_275 rfl e100)))))))))))))))))))))))))))))))))))))))))))))))) (fun c65 => have e67 := e63.2 c65; (aw_aload_n d_X9_close_133 rfl rfl 0 rfl (by decide)
(aw_getR (k' := 27) (a := 0) (b := 0) (j := 0) d_X9_close_134 rfl fl9_7 rfl zj0 ⟨by decide, fun _ => by decide⟩
(aw_bipush d_X9_close_137 rfl (by decide)
(aw_iload_n d_X9_close_139 rfl rfl 2 rfl
(aw_imul d_X9_close_140 rfl
(aw_bipush d_X9_close_141 rfl (by decide)
(aw_iadd d_X9_close_143 rfl
(aw_dup2 d_X9_close_144 rfl rfl rfl
(have z101 := e67.1; have e102 := e67.2; (aw_iald d_X9_close_145 rfl za27 z101
(aw_aload_n d_X9_close_146 rfl rfl 0 rfl (by decide)
(aw_iload_n d_X9_close_147 rfl rfl 2 rfl
(have z103 := e102.1; have e104 := e102.2; (aw_VI (As := [zi v3]) (st := [zi (M 27 0 ((9 * v3) + 7)), zi ((9 * v3) + 7), zr 27 0]) d_X9_close_148 rfl cv9_122 ⟨Nat.le_of_ble_eq_true rfl, Nat.le_of_ble_eq_true rfl⟩ rfl rfl (Nat.le_of_ble_eq_true rfl) (Nat.le_of_ble_eq_true rfl) (s_X9_sells z103) (fun _ _ hq => aw_eqs hq
(aw_if_eq d_X9_close_151 rfl rfl zb_I (fun c105 => have e107 := e104.1 (zb_0 c105); (aw_aload_n d_X9_close_163 rfl rfl 0 rfl (by decide)
(aw_getR (k' := 45) (a := 0) (b := 0) (j := 0) d_X9_close_164 rfl fl9_65 rfl zj0 ⟨by decide, fun _ => by decide⟩
(aw_iload_n d_X9_close_167 rfl rfl 2 rfl
(have z109 := e107.1; have e110 := e107.2; (aw_iald d_X9_close_168 rfl za45 z109
(aw_ineg d_X9_close_169 rfl
(aw_iadd d_X9_close_170 rfl
(aw_iast d_X9_close_171 rfl za27 z101
(aw_nm fun M111 hqM111 => have e112 := e110 M111 hqM111; (aw_aload_n d_X9_close_172 rfl rfl 0 rfl (by decide)
(aw_iload_n d_X9_close_173 rfl rfl 2 rfl
(aw_aload_n d_X9_close_174 rfl rfl 0 rfl (by decide)
(aw_getR (k' := 46) (a := 0) (b := 0) (j := 0) d_X9_close_175 rfl fl9_68 rfl zj0 ⟨by decide, fun _ => by decide⟩
(aw_iload_n d_X9_close_178 rfl rfl 2 rfl
(aw_iald d_X9_close_179 rfl za46 z109
(aw_VV (As := [zi v3, zi (M111 46 0 v3)]) (st := []) d_X9_close_180 rfl cv9_375 ⟨Nat.le_of_ble_eq_true rfl, Nat.le_of_ble_eq_true rfl⟩ rfl rfl (Nat.le_of_ble_eq_true rfl) (Nat.le_of_ble_eq_true rfl) e112 (fun M113 e114 => (aw_iinc (lv' := [(3, zi (v3 + 1)), (0, zr 9 0), (2, zi v2)]) (y := (v3 + 1)) d_X9_close_183 rfl 2 rfl (by decide) rfl rfl
(aw_goto d_X9_close_186 rfl
(aw_sub [1, 2, 0] rfl e114))))))))))))))))))))) (fun c106 => have e108 := e104.2 (zb_n0 c106); (aw_aload_n d_X9_close_154 rfl rfl 0 rfl (by decide)
(aw_getR (k' := 45) (a := 0) (b := 0) (j := 0) d_X9_close_155 rfl fl9_65 rfl zj0 ⟨by decide, fun _ => by decide⟩
(aw_iload_n d_X9_close_158 rfl rfl 2 rfl
(have z116 := e108.1; have e117 := e108.2; (aw_iald d_X9_close_159 rfl za45 z116
(aw_goto d_X9_close_160 rfl
(aw_iadd d_X9_close_170 rfl
(aw_iast d_X9_close_171 rfl za27 z101
(aw_nm fun M118 hqM118 => have e119 := e117 M118 hqM118; (aw_aload_n d_X9_close_172 rfl rfl 0 rfl (by decide)
(aw_iload_n d_X9_close_173 rfl rfl 2 rfl
(aw_aload_n d_X9_close_174 rfl rfl 0 rfl (by decide)
(aw_getR (k' := 46) (a := 0) (b := 0) (j := 0) d_X9_close_175 rfl fl9_68 rfl zj0 ⟨by decide, fun _ => by decide⟩
(aw_iload_n d_X9_close_178 rfl rfl 2 rfl
(aw_iald d_X9_close_179 rfl za46 z116
(aw_VV (As := [zi v3, zi (M118 46 0 v3)]) (st := []) d_X9_close_180 rfl cv9_375 ⟨Nat.le_of_ble_eq_true rfl, Nat.le_of_ble_eq_true rfl⟩ rfl rfl (Nat.le_of_ble_eq_true rfl) (Nat.le_of_ble_eq_true rfl) e119 (fun M120 e121 => (aw_iinc (lv' := [(3, zi (v3 + 1)), (0, zr 9 0), (2, zi v2)]) (y := (v3 + 1)) d_X9_close_183 rfl 2 rfl (by decide) rfl rfl
(aw_goto d_X9_close_186 rfl
(aw_sub [1, 2, 0] rfl e121)))))))))))))))))))))))))))))))))))))))))))
theorem vX9_close {l : Launch} {P : Int → zM → Prop} {v1 : Int} {M : zM}
    (H0 : (zI v1 ∧ ((0 ≤ v1 ∧ v1 < 4 → (CV l m_X9_lays [zr 9 0, zi v1] M (fun M7 => (zI (M7 9 0 18) ∧ ((M7 9 0 18) ≠ 0 → (CV l m_X9_keepsAct [zr 9 0] M7 (fun M16 => (CI l m_X9_takingsBy [zr 9 0, zi v1, zi (M16 27 0 182)] M16 (fun x22 M19 => LX9_close_44 l P v1 x22 0 M19))))) ∧ ((M7 9 0 18) = 0 → P (-2) M7))))) ∧ (¬ (0 ≤ v1 ∧ v1 < 4) → P (-1) M)))) :
    CI l m_X9_close [zr 9 0, zi v1] M P :=
(aw_iload_n d_X9_close_0 rfl rfl 1 rfl
(have z1 := H0.1; have e2 := H0.2; (aw_SI (As := [zi v1]) (st := []) d_X9_close_1 rfl cs9_195 ⟨Nat.le_of_ble_eq_true rfl, Nat.le_of_ble_eq_true rfl⟩ rfl rfl (Nat.le_of_ble_eq_true rfl) (Nat.le_of_ble_eq_true rfl) (s_X9_isGrade z1) (fun _ _ hq => aw_eqs hq
(aw_if_ne d_X9_close_4 rfl rfl zb_I (fun c3 => have e5 := e2.1 (zb_n0 c3); (aw_aload_n d_X9_close_9 rfl rfl 0 rfl (by decide)
(aw_iload_n d_X9_close_10 rfl rfl 1 rfl
(aw_VV (As := [zi v1]) (st := []) d_X9_close_11 rfl cv9_180 ⟨Nat.le_of_ble_eq_true rfl, Nat.le_of_ble_eq_true rfl⟩ rfl rfl (Nat.le_of_ble_eq_true rfl) (Nat.le_of_ble_eq_true rfl) e5 (fun M7 e8 => (aw_aload_n d_X9_close_14 rfl rfl 0 rfl (by decide)
(aw_getI (kc := 18) d_X9_close_15 rfl fl9_146 rfl rfl
(have z10 := e8.1; have e11 := e8.2; aw_if_ne d_X9_close_18 rfl rfl z10 (fun c12 => have e14 := e11.1 c12; (aw_aload_n d_X9_close_24 rfl rfl 0 rfl (by decide)
(aw_VV (As := []) (st := []) d_X9_close_25 rfl cv9_363 ⟨Nat.le_of_ble_eq_true rfl, Nat.le_of_ble_eq_true rfl⟩ rfl rfl (Nat.le_of_ble_eq_true rfl) (Nat.le_of_ble_eq_true rfl) e14 (fun M16 e17 => (aw_aload_n d_X9_close_28 rfl rfl 0 rfl (by decide)
(aw_iload_n d_X9_close_29 rfl rfl 1 rfl
(aw_aload_n d_X9_close_30 rfl rfl 0 rfl (by decide)
(aw_getR (k' := 27) (a := 0) (b := 0) (j := 0) d_X9_close_31 rfl fl9_7 rfl zj0 ⟨by decide, fun _ => by decide⟩
(aw_sipush d_X9_close_34 rfl (by decide)
(aw_iald d_X9_close_37 rfl za27 (by decide)
(aw_VI (As := [zi v1, zi (M16 27 0 182)]) (st := []) d_X9_close_38 rfl cv9_186 ⟨Nat.le_of_ble_eq_true rfl, Nat.le_of_ble_eq_true rfl⟩ rfl rfl (Nat.le_of_ble_eq_true rfl) (Nat.le_of_ble_eq_true rfl) e17 (fun x22 M19 e20 => (aw_istore_n (lv' := [(2, zi x22), (0, zr 9 0), (1, zi v1)]) d_X9_close_41 rfl rfl (by decide) rfl
(aw_iconst d_X9_close_42 rfl
(aw_istore_n (lv' := [(3, zi 0), (2, zi x22), (0, zr 9 0), (1, zi v1)]) d_X9_close_43 rfl rfl (by decide) rfl
(aw_sub [2, 3, 1, 0] rfl e20)))))))))))))))) (fun c13 => have e15 := e11.2 c13; (aw_bipush d_X9_close_21 rfl (by decide)
(aw_ri d_X9_close_23 rfl e15))))))))))) (fun c4 => have e6 := e2.2 (zb_0 c4); (aw_iconst d_X9_close_7 rfl
(aw_ri d_X9_close_8 rfl e6))))))))
theorem a9_close {g : Int} (h : mSy M A) (w : wfY kk A) (zk : kk ≤ 1000) (zg : zI g) : CI l m_X9_close [zr 9 0, zi g] M (rR (aClose A g) M) := by
  have ok := w.1.ok
  have n0 := w.1.1
  refine vX9_close ⟨zg, fun a => ?_, fun a => ?_⟩
  · have hx := h.mx ok
    refine (m_lays hx a).mono ?_
    rintro M1 ⟨f1, ld1, dn1⟩
    have d := dN_b (B := qB (yS A) g) (A := qA (yS A) g) (f := qfee (yS A)) (w := qlaw (yS A))
    have t := tT_b (f := qfee (yS A)) (B := qB (yS A) g) (A := qA (yS A) g)
    have hl : (qB (yS A) g).length ≤ 80 := B_len ok.1 (mB_ok (E := fun t => qgr (yS A) t = g) ok.1)
    have e18 : M1 9 0 18 = dN (qB (yS A) g) (qA (yS A) g) (qfee (yS A)) (qlaw (yS A)) := dn1.1
    rw [e18]
    unfold aClose
    rw [if_neg (by omega)]
    refine ⟨by omega, fun b => ?_, fun b => ?_⟩
    · rw [if_neg b]
      refine (c_X9_keepsAct (h.q f1) w.2.1).mono ?_
      rintro M2 ⟨h2, f2⟩
      have hx2 : MX M2 (yS A) := h2.mx ok
      have st2 := ld_of ⟨ld1, dn1⟩ (fun k hk => f2.1 k 0 (by omega) (by omega)) (fun j hj => f2.2 0 j (fun q => hj q.2))
      have ld2 := st2.1
      have dn2 := st2.2
      rw [hx2.law]
      rw [← hx2.B, ← hx2.A, ← hx2.1.2] at ld2
      have dn2' : mDn M2 (rB M2 g) (rA M2 g) (qfee (rS M2)) (qlaw (yS A)) := by rw [hx2.B, hx2.A, hx2.1.2]; exact dn2
      refine (c_X9_takingsBy hx2.1.1 a ok.2.2.2 ld2 dn2').mono ?_
      rintro x M3 ⟨ex, f3, ld3, dn3⟩
      rw [hx2.B, hx2.A, hx2.1.2] at ex ld3 dn3
      have tb : -160000000 ≤ tkg (qB (yS A) g) (qA (yS A) g) (qfee (yS A)) (qlaw (yS A)) ∧ tkg (qB (yS A) g) (qA (yS A) g) (qfee (yS A)) (qlaw (yS A)) ≤ 160000000 := tkg_b (w := qlaw (yS A)) (gd_m (E := fun t => qgr (yS A) t = g) ok.1) ok.2.2.1
      have w5 := w.1.2.2.2.1
      have w6 := w.1.2.2.2.2.1
      -- the second loop
      have l125 : ∀ M5, mQ M2 M5 → M5 9 0 18 = dN (qB (yS A) g) (qA (yS A) g) (qfee (yS A)) (qlaw (yS A)) → (∀ t, 0 ≤ t ∧ t < qn (yS A) → M5 46 0 t = cT (yS A) g t ∧ M5 45 0 t = mT (yS A) g t) → ∀ (n k : Nat) (M' : zM), (qn (yS A)).toNat - k = n → (k : Int) ≤ qn (yS A) → (∀ k i, ¬ (k = 27 ∧ i = 0) → M' k i = M5 k i) → mW M' 27 0 → mV M' 27 0 = sTrd (yS A) g k → LX9_close_125 l (rR (dN (qB (yS A) g) (qA (yS A) g) (qfee (yS A)) (qlaw (yS A)), yPut A (sNote (sTrd (yS A) g (qn (yS A)).toNat) (dN (qB (yS A) g) (qA (yS A) g) (qfee (yS A)) (qlaw (yS A))) (tkg (qB (yS A) g) (qA (yS A) g) (qfee (yS A)) (qlaw (yS A))))) M) x (k : Int) M' := by
        intro M5 q5 e5 ar n
        have h5 := h2.q q5
        induction n with
        | zero =>
          intro k M' hn hk f wk e
          have ek : (qn (yS A)).toNat = k := by omega
          obtain ⟨z, n1, i0, i1, i3⟩ := mv_at wk e
          have st := sTrd_s (S := yS A) (g := g) k
          have e180 : M' 27 0 180 = qn (yS A) := (i0 0 (by omega)).trans (congrFun st.1 0)
          have e183 : M' 27 0 183 = qsc (sTrd (yS A) g k) 3 := i0 3 (by omega)
          have e184 : M' 27 0 184 = qsc (sTrd (yS A) g k) 4 := i0 4 (by omega)
          have e185 : M' 27 0 185 = qsc (sTrd (yS A) g k) 5 := i0 5 (by omega)
          have e186 : M' 27 0 186 = qsc (sTrd (yS A) g k) 6 := i0 6 (by omega)
          have s5 : qsc (sTrd (yS A) g k) 5 = qsc (yS A) 5 := congrFun st.1 5
          have s6 : qsc (sTrd (yS A) g k) 6 = qsc (yS A) 6 := congrFun st.1 6
          have fin : ∀ (M68 M76 M78 M80 : zM) (y : Int), y = (if qsc (sTrd (yS A) g k) 5 = 0 then x else max (qsc (sTrd (yS A) g k) 6) x) → M68 = zu M' 27 0 183 (M' 27 0 183 + x) → M76 = zu M68 27 0 186 y → M78 = zu M76 27 0 184 (M76 27 0 184 + M76 9 0 18) → M80 = zu M78 27 0 185 (M78 27 0 185 + 1) →
              rR (dN (qB (yS A) g) (qA (yS A) g) (qfee (yS A)) (qlaw (yS A)), yPut A (sNote (sTrd (yS A) g (qn (yS A)).toNat) (dN (qB (yS A) g) (qA (yS A) g) (qfee (yS A)) (qlaw (yS A))) (tkg (qB (yS A) g) (qA (yS A) g) (qfee (yS A)) (qlaw (yS A))))) M (M80 9 0 18) M80 := by
            intro M68 M76 M78 M80 y hy q1 q2 q3 q4
            have p1 := sc_put (M1 := M') (M2 := M68) (j := 3) (x := M' 27 0 183 + x) wk (by omega) (by rw [q1]; rfl)
            have p2 := sc_put (M1 := M68) (M2 := M76) (j := 6) (x := y) p1.2 (by omega) (by rw [q2]; rfl)
            have p3 := sc_put (M1 := M76) (M2 := M78) (j := 4) (x := M76 27 0 184 + M76 9 0 18) p2.2 (by omega) (by rw [q3]; rfl)
            have p4 := sc_put (M1 := M78) (M2 := M80) (j := 5) (x := M78 27 0 185 + 1) p3.2 (by omega) (by rw [q4]; rfl)
            have r184 : M76 27 0 184 = qsc (sTrd (yS A) g k) 4 := by rw [q2, zu_at, if_neg (by decide), q1, zu_at, if_neg (by decide), e184]
            have r185 : M78 27 0 185 = qsc (sTrd (yS A) g k) 5 := by rw [q3, zu_at, if_neg (by decide), q2, zu_at, if_neg (by decide), q1, zu_at, if_neg (by decide), e185]
            have r18 : M76 9 0 18 = dN (qB (yS A) g) (qA (yS A) g) (qfee (yS A)) (qlaw (yS A)) := by rw [q2, zu_k (by decide), q1, zu_k (by decide), f 9 0 (by decide), e5]
            have eM : rS M' = sTrd (yS A) g k := e
            have eS : mV M80 27 0 = sNote (sTrd (yS A) g (qn (yS A)).toNat) (dN (qB (yS A) g) (qA (yS A) g) (qfee (yS A)) (qlaw (yS A))) (tkg (qB (yS A) g) (qA (yS A) g) (qfee (yS A)) (qlaw (yS A))) := by
              rw [ek, ← note_eq, ← ex, ← hy, ← r18, ← r184, ← r185, ← e183, ← eM, ← p1.1, ← p2.1, ← p3.1]
              exact p4.1
            have o : ∀ k i, ¬ (k = 27 ∧ i = 0) → M80 k i = M5 k i := fun k i hk => by rw [q4, zu_o k i hk, q3, zu_o k i hk, q2, zu_o k i hk, q1, zu_o k i hk]; exact f k i hk
            refine ⟨by rw [o 9 0 (by decide)]; exact e5, ⟨h5.1.hall o p4.2 eS, by rw [o 9 0 (by decide)]; exact h5.2⟩, fun k i hk => ?_⟩
            rw [o k i (fun q => hk (by unfold isMd; omega)), md_q q5 k i hk, ka_md f2 k i hk]
            exact md_q f1 k i hk
          refine vX9_close_125 ?_
          rw [e180]
          refine ⟨by omega, by omega, fun _ => ?_, fun q => by omega⟩
          intro M68 q1
          have m185 : M68 27 0 185 = qsc (yS A) 5 := by rw [q1, zu_at, if_neg (by decide), e185, s5]
          have m186 : M68 27 0 186 = qsc (yS A) 6 := by rw [q1, zu_at, if_neg (by decide), e186, s6]
          rw [m185, m186]
          refine ⟨by omega, fun c => ?_, fun c => ⟨by omega, by omega, fun c2 => ?_, fun c2 => ?_⟩⟩
          · intro M76 q2 M78 q3 M80 q4
            exact fin M68 M76 M78 M80 x (by rw [s5, if_pos c]) q1 q2 q3 q4
          · intro M76 q2 M78 q3 M80 q4
            exact fin M68 M76 M78 M80 _ (by rw [s5, if_neg c, s6]; omega) q1 q2 q3 q4
          · intro M76 q2 M78 q3 M80 q4
            exact fin M68 M76 M78 M80 _ (by rw [s5, if_neg c, s6]; omega) q1 q2 q3 q4
        | succ n ih =>
          intro k M' hn hk f wk e
          obtain ⟨z, n1, i0, i1, i3⟩ := mv_at wk e
          have st := sTrd_s (S := yS A) (g := g) k
          have nk : qn (sTrd (yS A) g k) = qn (yS A) := congrFun st.1 0
          have e180 : M' 27 0 180 = qn (yS A) := (i0 0 (by omega)).trans nk
          have kt : 0 ≤ (k : Int) ∧ (k : Int) < qn (sTrd (yS A) g k) := by rw [nk]; omega
          have ik := i1 (k : Int) kt
          have sl : qsl (sTrd (yS A) g k) (k : Int) = qsl (yS A) (k : Int) := congrFun st.2.1 _
          have un : qun (sTrd (yS A) g k) (k : Int) = qun (yS A) (k : Int) := st.2.2.2 _ (Int.le_refl _)
          have cb := cT_b ok (g := g) (t := (k : Int)) (by omega)
          have ark := ar (k : Int) (by omega)
          have go : ∀ (m : Int), m = (if qsl (sTrd (yS A) g k) (k : Int) = 1 then mT (yS A) g (k : Int) else -(mT (yS A) g (k : Int))) → ∀ M6, M6 = zu M' 27 0 (9 * (k : Int) + 7) (M' 27 0 (9 * (k : Int) + 7) + m) → CV l m_X9_goes [zr 9 0, zi (k : Int), zi (M6 46 0 (k : Int))] M6 (fun M7 => LX9_close_125 l (rR (dN (qB (yS A) g) (qA (yS A) g) (qfee (yS A)) (qlaw (yS A)), yPut A (sNote (sTrd (yS A) g (qn (yS A)).toNat) (dN (qB (yS A) g) (qA (yS A) g) (qfee (yS A)) (qlaw (yS A))) (tkg (qB (yS A) g) (qA (yS A) g) (qfee (yS A)) (qlaw (yS A))))) M) x ((k : Int) + 1) M7) := by
            intro m hm M6 q6
            have e46 : M6 46 0 (k : Int) = cT (yS A) g (k : Int) := by rw [q6, zu_k (by decide), f 46 0 (by decide)]; exact ark.1
            rw [e46]
            have eu : M6 27 0 (9 * (k : Int) + 2) = qun (yS A) (k : Int) := by rw [q6, zu_at, if_neg (by omega), ik.2.2.2.2.1, un]
            have uk := (w.1.2.2.2.2.2.1 (k : Int) (by omega)).2.2.1
            refine (c_X9_goes (un := qun (yS A) (k : Int)) (by omega) cb (by omega) eu).mono ?_
            rintro M7 ⟨f7, r7⟩
            have tr := m_trade (M1 := M') (M2 := M7) (m := mT (yS A) g (k : Int)) (c := cT (yS A) g (k : Int)) wk e kt (by rw [un]; exact cb) (fun j => by
              rw [r7, un, ← hm]
              have k6 : ∀ j, M6 27 0 j = if j = 9 * (k : Int) + 7 then M' 27 0 (9 * (k : Int) + 7) + m else M' 27 0 j := fun j => by rw [q6, zu_at]
              rw [k6, k6, k6]
              by_cases j8 : j = 9 * (k : Int) + 8
              · rw [if_pos j8, if_pos j8, if_neg (by omega), ik.2.2.2.2.2.2]
              · rw [if_neg j8, if_neg j8]
                by_cases j7 : j = 9 * (k : Int) + 7
                · rw [if_neg (by omega), if_neg (by omega), if_pos j7, if_pos j7, ik.2.2.2.2.2.1]
                · rw [if_neg j7]
                  by_cases j2 : j = 9 * (k : Int) + 2
                  · rw [if_pos j2, if_pos j2, if_neg j7]
                  · rw [if_neg j2, if_neg j2]
                    by_cases j3 : 9 * (k : Int) + 3 ≤ j ∧ j < 9 * (k : Int) + 7
                    · rw [if_pos j3, if_pos j3]
                      by_cases j4 : j - (9 * (k : Int) + 3) + cT (yS A) g (k : Int) < qun (yS A) (k : Int)
                      · rw [if_pos j4, if_pos j4, if_neg (by omega), if_neg j7]
                      · rw [if_neg j4, if_neg j4, if_neg j7]
                    · rw [if_neg j3, if_neg j3, if_neg j7])
            have := ih (k + 1) M7 (by omega) (by omega) (fun k' i' hk' => by rw [f7 k' i' hk', q6, zu_o k' i' hk']; exact f k' i' hk') tr.1 tr.2
            rw [show ((k + 1 : Nat) : Int) = (k : Int) + 1 by omega] at this
            exact this
          refine vX9_close_125 ?_
          rw [e180, ik.2.2.1]
          have e45 : M' 45 0 (k : Int) = mT (yS A) g (k : Int) := by rw [f 45 0 (by decide)]; exact ark.2
          rw [e45]
          refine ⟨by omega, by omega, fun q => by omega, fun _ => ⟨by omega, ⟨by omega, ik.1⟩, fun s => ⟨by omega, go _ (by rw [if_neg s])⟩, fun s => ⟨by omega, go _ (by rw [if_pos s])⟩⟩⟩
      -- the first loop
      have l44 : ∀ (n : Nat) (k : Int) (M' : zM), (qn (yS A) - k).toNat = n → 0 ≤ k ∧ k ≤ qn (yS A) → mQ M2 M' → (mLd M' (qB (yS A) g) (qA (yS A) g) (qfee (yS A)) ∧ mDn M' (qB (yS A) g) (qA (yS A) g) (qfee (yS A)) (qlaw (yS A))) → (∀ t, 0 ≤ t ∧ t < k → M' 46 0 t = cT (yS A) g t ∧ M' 45 0 t = mT (yS A) g t) → LX9_close_44 l (rR (dN (qB (yS A) g) (qA (yS A) g) (qfee (yS A)) (qlaw (yS A)), yPut A (sNote (sTrd (yS A) g (qn (yS A)).toNat) (dN (qB (yS A) g) (qA (yS A) g) (qfee (yS A)) (qlaw (yS A))) (tkg (qB (yS A) g) (qA (yS A) g) (qfee (yS A)) (qlaw (yS A))))) M) g x k M' := by
        intro n
        induction n with
        | zero =>
          intro k M' hn hk q st ar
          have hx' := hx2.q q
          refine vX9_close_44 ?_
          rw [hx'.n]
          refine ⟨by omega, by omega, fun _ => ?_, fun c => by omega⟩
          have h' := h2.q q
          exact l125 M' q st.2.1 (fun t ht => ar t (by omega)) _ 0 M' rfl (by omega) (fun _ _ _ => rfl) h'.1.1.1 h'.1.1.2
        | succ n ih =>
          intro k M' hn hk q st ar
          have hx' := hx2.q q
          have h' := h2.q q
          have i1 := (mv_at h'.1.1.1 h'.1.1.2).2.2.2.1 k (by show 0 ≤ k ∧ k < qn (yS A); omega)
          have egr : M' 27 0 (9 * k + 1) = qgr (yS A) k := i1.2.2.2.1
          have gr := ok.2.1 k (by omega)
          have nx : ∀ M4, (∀ k' i', k' ≠ 45 → k' ≠ 46 → M4 k' i' = M' k' i') → (∀ t, M4 46 0 t = if t = k then cT (yS A) g k else M' 46 0 t) → (∀ t, M4 45 0 t = if t = k then mT (yS A) g k else M' 45 0 t) → LX9_close_44 l (rR (dN (qB (yS A) g) (qA (yS A) g) (qfee (yS A)) (qlaw (yS A)), yPut A (sNote (sTrd (yS A) g (qn (yS A)).toNat) (dN (qB (yS A) g) (qA (yS A) g) (qfee (yS A)) (qlaw (yS A))) (tkg (qB (yS A) g) (qA (yS A) g) (qfee (yS A)) (qlaw (yS A))))) M) g x (k + 1) M4 := by
            intro M4 o a46 a45
            refine ih (k + 1) M4 (by omega) (by omega) (q.tr ⟨fun k' i' h1 h2 => o k' i' (by omega) (by omega), fun j _ => by rw [o 9 0 (by decide) (by decide)], by rw [o 9 0 (by decide) (by decide)]; exact q.2.2⟩) (ld_of st (fun k' hk' => o k' 0 (by omega) (by omega)) (fun j _ => by rw [o 9 0 (by decide) (by decide)])) fun t ht => ?_
            rw [a46, a45]
            by_cases c : t = k
            · rw [if_pos c, if_pos c, c]
              exact ⟨rfl, rfl⟩
            · rw [if_neg c, if_neg c]
              exact ar t (by omega)
          refine vX9_close_44 ?_
          rw [hx'.n, egr]
          refine ⟨by omega, by omega, fun c => by omega, fun _ => ⟨by omega, by omega, zg, fun c => ⟨by omega, ?_⟩, fun c => ?_⟩⟩
          · intro M41 q1 M44 q2
            have hd := dN_b (B := qB (yS A) g) (A := qA (yS A) g) (f := qfee (yS A)) (w := qlaw (yS A))
            have hdl := dN_l (B := qB (yS A) g) (A := qA (yS A) g) (f := qfee (yS A)) (w := qlaw (yS A))
            have cB0 : cnt (qB (yS A) g) k (dN (qB (yS A) g) (qA (yS A) g) (qfee (yS A)) (qlaw (yS A))) = 0 := cnt_none (noB (E := fun t => qgr (yS A) t = g) ok.1 (fun q => c q.2.1)) ⟨hd.1, hdl.1⟩
            have cA0 : cnt (qA (yS A) g) k (dN (qB (yS A) g) (qA (yS A) g) (qfee (yS A)) (qlaw (yS A))) = 0 := cnt_none (noA (E := fun t => qgr (yS A) t = g) ok.1 (fun q => c q.2.1)) ⟨hd.1, hdl.2⟩
            have c0 : cT (yS A) g k = 0 := by
              unfold cT
              by_cases s : zb (qsl (yS A) k = 1) = 0
              · rw [if_pos s]; exact cB0
              · rw [if_neg s]; exact cA0
            have m0 : mT (yS A) g k = 0 := by
              unfold mT
              by_cases s : qsl (yS A) k = 1
              · rw [zb_1 s, mny_1, if_pos cA0]
              · rw [zb_f s, mny_0, if_pos cB0]
            refine nx M44 (fun k' i' h1 h2 => by rw [q2, zu_k h1, q1, zu_k h2]) (fun t => by rw [q2, zu_k (by decide), q1, zu_at, c0]) (fun t => by rw [q2, zu_at, q1, zu_k (by decide), m0])
          · have ld' := st.1
            have dn' : mDn M' (rB M' g) (rA M' g) (qfee (rS M')) (qlaw (yS A)) := by rw [hx'.B, hx'.A, hx'.1.2]; exact st.2
            rw [← hx'.B, ← hx'.A, ← hx'.1.2] at ld'
            refine (c_done hx'.1.1 (by rw [hx'.1.2]; omega) ld' dn').mono ?_
            rintro y M47 ⟨ey, e47⟩
            rw [e47]
            refine ⟨by omega, ?_⟩
            intro M52 q1
            have q52 : mQ M2 M52 := q.tr ⟨fun k' i' h1 h2 => by rw [q1, zu_k (by omega)], fun j _ => by rw [q1, zu_k (by decide)], by rw [q1, zu_k (by decide)]; exact q.2.2⟩
            have hx5 := hx2.q q52
            have st5 := ld_of (M' := M52) st (fun k' hk' => by rw [q1, zu_k (by omega)]) (fun j _ => by rw [q1, zu_k (by decide)])
            have ld5 := st5.1
            have dn5 : mDn M52 (rB M52 g) (rA M52 g) (qfee (rS M52)) (qlaw (yS A)) := by rw [hx5.B, hx5.A, hx5.1.2]; exact st5.2
            rw [← hx5.B, ← hx5.A, ← hx5.1.2] at ld5
            rw [hx5.law]
            refine (c_X9_dealOf hx5.1.1 (by rw [hx5.1.2]; omega) (by rw [hx5.2.1, hb_0]) (by rw [hx5.1.2]; exact c) ok.2.2.2 ld5 dn5).mono ?_
            rintro v M55 ⟨ev, f55, ld55, dn55⟩
            rw [hx5.B, hx5.A, hx5.1.2] at ev ld55 dn55
            rw [hx'.B, hx'.A, hx'.1.2] at ey
            have ey' : y = cT (yS A) g k := by
              rw [ey]
              unfold cT
              by_cases s : qsl (yS A) k = 1
              · rw [if_pos s, zb_1 s, if_neg (by decide)]
              · rw [if_neg s, zb_f s, if_pos rfl]
            have ev' : v = mT (yS A) g k := ev
            intro M59 q2
            have q59 : mQ M2 M59 := (q52.tr (mFs.q hx5 f55.s)).tr ⟨fun k' i' h1 h2 => by rw [q2, zu_k (by omega)], fun j _ => by rw [q2, zu_k (by decide)], by rw [q2, zu_k (by decide)]; exact (q52.tr (mFs.q hx5 f55.s)).2.2⟩
            refine ih (k + 1) M59 (by omega) (by omega) q59 (ld_of ⟨ld55, dn55⟩ (fun k' hk' => by rw [q2, zu_k (by omega)]) (fun j _ => by rw [q2, zu_k (by decide)])) fun t ht => ?_
            have a46 : M59 46 0 t = if t = k then y else M' 46 0 t := by rw [q2, zu_k (by decide), f55.1 46 0 (by decide) (by decide), q1, zu_at]
            have a45 : M59 45 0 t = if t = k then v else M' 45 0 t := by rw [q2, zu_at, f55.1 45 0 (by decide) (by decide), q1, zu_k (by decide)]
            rw [a46, a45]
            by_cases z : t = k
            · rw [if_pos z, if_pos z, z]
              exact ⟨ey', ev'⟩
            · rw [if_neg z, if_neg z]
              exact ar t (by omega)
      exact l44 _ 0 M3 rfl (by omega) (mFs.q hx2 f3.s) ⟨ld3, dn3⟩ fun t ht => by omega
    · rw [if_pos b]
      exact ⟨rfl, h.q f1, md_q f1⟩
  · unfold aClose
    rw [if_pos a]
    exact rR.st h
end
