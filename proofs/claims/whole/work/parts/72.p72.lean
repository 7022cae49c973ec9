/-! ===== tell: the reference's numbers ===== -/
def rnF (M M' : zM) : Prop := (∀ k i, k ≠ 9 → M' k i = M k i) ∧ (∀ j, ¬ (37 ≤ j ∧ j ≤ 40) → M' 9 0 j = M 9 0 j)
theorem rnF.rf {M : zM} : rnF M M := ⟨fun _ _ _ => rfl, fun _ _ => rfl⟩
theorem rnF.tr {M M1 M2 : zM} (a : rnF M M1) (b : rnF M1 M2) : rnF M M2 := ⟨fun k i h => (b.1 k i h).trans (a.1 k i h), fun j h => (b.2 j h).trans (a.2 j h)⟩
theorem spF.rn {M M' : zM} (f : spF M M') : rnF M M' := ⟨f.1, fun j h => f.2 j (by omega)⟩
theorem rnF.fl {M M' : zM} {j x : Int} (e : M' = zu M 9 0 j x) (h : 37 ≤ j ∧ j ≤ 40) : rnF M M' := ⟨fun k i hk => by rw [e, zu_k hk], fun j' h' => by rw [e, zu_at, if_neg (by omega)]⟩
theorem mtX.n {M M' : zM} {b : Int → Int} {n : Int} (h : mtX M b n) (f : rnF M M') : mtX M' b n := by
  refine ⟨by rw [f.2 36 (by omega)]; exact h.1, fun i hi => ?_⟩
  rw [f.1 47 0 (by decide)]
  exact h.2 i hi
section
variable {l : Launch} {M : zM} {b : Int → Int} {n : Int}
def LX9_readsNumber_30 (l : Launch) (P : Int → zM → Prop) (v1 : Int) (v2 : Int) (M : zM) : Prop := AW l m_X9_readsNumber (zTi m_X9_readsNumber P) 30 [(0, zr 9 0), (1, zi v1), (2, zi v2)] [] M
theorem vX9_readsNumber_30 {l : Launch} {P : Int → zM → Prop} {v1 : Int} {v2 : Int} {M : zM}
    (H0 : (CI l m_X9_byteAt [zr 9 0, zi (M 9 0 37)] M (fun x22 M19 => (zI x22 ∧ ((zJ x22 ∧ zJ 48 ∧ zJ 57) ∧ ((¬ (48 ≤ x22 ∧ x22 ≤ 57) → (zI (M19 9 0 39) ∧ (zI v1 ∧ (zI v2 ∧ ((zJ (M19 9 0 39) ∧ zJ v1 ∧ zJ v2) ∧ ((v1 ≤ (M19 9 0 39) ∧ (M19 9 0 39) ≤ v2 → P 1 M19) ∧ (¬ (v1 ≤ (M19 9 0 39) ∧ (M19 9 0 39) ≤ v2) → (CI l m_X9_fails [zr 9 0, zi 2, zi (M19 9 0 40)] M19 (fun x46 M43 => (zI x46 ∧ (x46 = 0 → P 0 M43) ∧ (x46 ≠ 0 → P 1 M43))))))))))) ∧ (48 ≤ x22 ∧ x22 ≤ 57 → (zI (M19 9 0 39) ∧ (100000 ≤ (M19 9 0 39) → (∀ M59 : zM, M59 = zu M19 9 0 37 ((M19 9 0 37) + 1) → LX9_readsNumber_30 l P v1 v2 M59)) ∧ ((M19 9 0 39) < 100000 → (CI l m_X9_byteAt [zr 9 0, zi (M19 9 0 37)] M19 (fun x64 M61 => (∀ M65 : zM, M65 = zu M61 9 0 39 (((10 * (M19 9 0 39)) + x64) - 48) → (∀ M67 : zM, M67 = zu M65 9 0 37 ((M65 9 0 37) + 1) → LX9_readsNumber_30 l P v1 v2 M67))))))))))))) :
    LX9_readsNumber_30 l P v1 v2 M :=
(aw_aload_n d_X9_readsNumber_30 rfl rfl 0 rfl (by decide)
(aw_aload_n d_X9_readsNumber_31 rfl rfl 0 rfl (by decide)
(aw_getI (kc := 37) d_X9_readsNumber_32 rfl fl9_381 rfl rfl
(aw_VI (As := [zi (M 9 0 37)]) (st := []) d_X9_readsNumber_35 rfl cv9_384 ⟨Nat.le_of_ble_eq_true rfl, Nat.le_of_ble_eq_true rfl⟩ rfl rfl (Nat.le_of_ble_eq_true rfl) (Nat.le_of_ble_eq_true rfl) H0 (fun x22 M19 e20 => (have z23 := e20.1; have e24 := e20.2; (aw_i2l d_X9_readsNumber_38 rfl z23
(aw_ldc2 d_X9_readsNumber_39 rfl cl9_397
(aw_ldc2 d_X9_readsNumber_42 rfl cl9_399
(have z25 := e24.1; have e26 := e24.2; (aw_SI (As := [zl x22, zl 48, zl 57]) (st := []) d_X9_readsNumber_45 rfl cs9_82 ⟨Nat.le_of_ble_eq_true rfl, Nat.le_of_ble_eq_true rfl⟩ rfl rfl (Nat.le_of_ble_eq_true rfl) (Nat.le_of_ble_eq_true rfl) (s_X9_in z25) (fun _ _ hq => aw_eqs hq
(aw_if_eq d_X9_readsNumber_48 rfl rfl zb_I (fun c27 => have e29 := e26.1 (zb_0 c27); (aw_aload_n d_X9_readsNumber_97 rfl rfl 0 rfl (by decide)
(aw_getI (kc := 39) d_X9_readsNumber_98 rfl fl9_411 rfl rfl
(have z31 := e29.1; have e32 := e29.2; (aw_i2l d_X9_readsNumber_101 rfl z31
(aw_iload_n d_X9_readsNumber_102 rfl rfl 1 rfl
(have z33 := e32.1; have e34 := e32.2; (aw_i2l d_X9_readsNumber_103 rfl z33
(aw_iload_n d_X9_readsNumber_104 rfl rfl 2 rfl
(have z35 := e34.1; have e36 := e34.2; (aw_i2l d_X9_readsNumber_105 rfl z35
(have z37 := e36.1; have e38 := e36.2; (aw_SI (As := [zl (M19 9 0 39), zl v1, zl v2]) (st := []) d_X9_readsNumber_106 rfl cs9_82 ⟨Nat.le_of_ble_eq_true rfl, Nat.le_of_ble_eq_true rfl⟩ rfl rfl (Nat.le_of_ble_eq_true rfl) (Nat.le_of_ble_eq_true rfl) (s_X9_in z37) (fun _ _ hq => aw_eqs hq
(aw_if_ne d_X9_readsNumber_109 rfl rfl zb_I (fun c39 => have e41 := e38.1 (zb_n0 c39); (aw_iconst d_X9_readsNumber_124 rfl
(aw_goto d_X9_readsNumber_125 rfl
(aw_rz d_X9_readsNumber_129 rfl (by decide) e41)))) (fun c40 => have e42 := e38.2 (zb_0 c40); (aw_aload_n d_X9_readsNumber_112 rfl rfl 0 rfl (by decide)
(aw_iconst d_X9_readsNumber_113 rfl
(aw_aload_n d_X9_readsNumber_114 rfl rfl 0 rfl (by decide)
(aw_getI (kc := 40) d_X9_readsNumber_115 rfl fl9_408 rfl rfl
(aw_VI (As := [zi 2, zi (M19 9 0 40)]) (st := []) d_X9_readsNumber_118 rfl cv9_405 ⟨Nat.le_of_ble_eq_true rfl, Nat.le_of_ble_eq_true rfl⟩ rfl rfl (Nat.le_of_ble_eq_true rfl) (Nat.le_of_ble_eq_true rfl) e42 (fun x46 M43 e44 => (have z47 := e44.1; have e48 := e44.2; aw_if_eq d_X9_readsNumber_121 rfl rfl z47 (fun c49 => have e51 := e48.1 c49; (aw_iconst d_X9_readsNumber_128 rfl
(aw_rz d_X9_readsNumber_129 rfl (by decide) e51))) (fun c50 => have e52 := e48.2 c50; (aw_iconst d_X9_readsNumber_124 rfl
(aw_goto d_X9_readsNumber_125 rfl
(aw_rz d_X9_readsNumber_129 rfl (by decide) e52))))))))))))))))))))))))))) (fun c28 => have e30 := e26.2 (zb_n0 c28); (aw_aload_n d_X9_readsNumber_51 rfl rfl 0 rfl (by decide)
(aw_getI (kc := 39) d_X9_readsNumber_52 rfl fl9_411 rfl rfl
(aw_ldcw d_X9_readsNumber_55 rfl ci9_414
(have z53 := e30.1; have e54 := e30.2; aw_icmp_ge d_X9_readsNumber_58 rfl rfl z53 (by decide) (fun c55 => have e57 := e54.1 c55; (aw_aload_n d_X9_readsNumber_84 rfl rfl 0 rfl (by decide)
(aw_dup d_X9_readsNumber_85 rfl rfl
(aw_getI (kc := 37) d_X9_readsNumber_86 rfl fl9_381 rfl rfl
(aw_iconst d_X9_readsNumber_89 rfl
(aw_iadd d_X9_readsNumber_90 rfl
(have e60 := e57 _ rfl; aw_put (kc := 37) d_X9_readsNumber_91 rfl fp9_381 rfl rfl rfl rfl
(aw_goto d_X9_readsNumber_94 rfl
e60)))))))) (fun c56 => have e58 := e54.2 c56; (aw_aload_n d_X9_readsNumber_61 rfl rfl 0 rfl (by decide)
(aw_bipush d_X9_readsNumber_62 rfl (by decide)
(aw_aload_n d_X9_readsNumber_64 rfl rfl 0 rfl (by decide)
(aw_getI (kc := 39) d_X9_readsNumber_65 rfl fl9_411 rfl rfl
(aw_imul d_X9_readsNumber_68 rfl
(aw_aload_n d_X9_readsNumber_69 rfl rfl 0 rfl (by decide)
(aw_aload_n d_X9_readsNumber_70 rfl rfl 0 rfl (by decide)
(aw_getI (kc := 37) d_X9_readsNumber_71 rfl fl9_381 rfl rfl
(aw_VI (As := [zi (M19 9 0 37)]) (st := [zi (10 * (M19 9 0 39)), zr 9 0]) d_X9_readsNumber_74 rfl cv9_384 ⟨Nat.le_of_ble_eq_true rfl, Nat.le_of_ble_eq_true rfl⟩ rfl rfl (Nat.le_of_ble_eq_true rfl) (Nat.le_of_ble_eq_true rfl) e58 (fun x64 M61 e62 => (aw_iadd d_X9_readsNumber_77 rfl
(aw_bipush d_X9_readsNumber_78 rfl (by decide)
(aw_isub d_X9_readsNumber_80 rfl
(have e66 := e62 _ rfl; aw_put (kc := 39) d_X9_readsNumber_81 rfl fp9_411 rfl rfl rfl rfl
(aw_aload_n d_X9_readsNumber_84 rfl rfl 0 rfl (by decide)
(aw_dup d_X9_readsNumber_85 rfl rfl
(aw_getI (kc := 37) d_X9_readsNumber_86 rfl fl9_381 rfl rfl
(aw_iconst d_X9_readsNumber_89 rfl
(aw_iadd d_X9_readsNumber_90 rfl
(have e68 := e66 _ rfl; aw_put (kc := 37) d_X9_readsNumber_91 rfl fp9_381 rfl rfl rfl rfl
(aw_goto d_X9_readsNumber_94 rfl
e68))))))))))))))))))))))))))))))))))))))))
theorem vX9_readsNumber {l : Launch} {P : Int → zM → Prop} {v1 : Int} {v2 : Int} {M : zM}
    (H0 : (CI l m_X9_isDigit [zr 9 0] M (fun x4 M1 => (zI x4 ∧ (x4 ≠ 0 → (∀ M11 : zM, M11 = zu M1 9 0 40 (M1 9 0 37) → (∀ M13 : zM, M13 = zu M11 9 0 39 0 → LX9_readsNumber_30 l P v1 v2 M13))) ∧ (x4 = 0 → (CI l m_X9_fails [zr 9 0, zi 1, zi (M1 9 0 37)] M1 (fun x18 M15 => ((x18 = 0 ∨ x18 = 1) ∧ P x18 M15)))))))) :
    CI l m_X9_readsNumber [zr 9 0, zi v1, zi v2] M P :=
(aw_aload_n d_X9_readsNumber_0 rfl rfl 0 rfl (by decide)
(aw_VI (As := []) (st := []) d_X9_readsNumber_1 rfl cv9_401 ⟨Nat.le_of_ble_eq_true rfl, Nat.le_of_ble_eq_true rfl⟩ rfl rfl (Nat.le_of_ble_eq_true rfl) (Nat.le_of_ble_eq_true rfl) H0 (fun x4 M1 e2 => (have z5 := e2.1; have e6 := e2.2; aw_if_ne d_X9_readsNumber_4 rfl rfl z5 (fun c7 => have e9 := e6.1 c7; (aw_aload_n d_X9_readsNumber_17 rfl rfl 0 rfl (by decide)
(aw_aload_n d_X9_readsNumber_18 rfl rfl 0 rfl (by decide)
(aw_getI (kc := 37) d_X9_readsNumber_19 rfl fl9_381 rfl rfl
(have e12 := e9 _ rfl; aw_put (kc := 40) d_X9_readsNumber_22 rfl fp9_408 rfl rfl rfl rfl
(aw_aload_n d_X9_readsNumber_25 rfl rfl 0 rfl (by decide)
(aw_iconst d_X9_readsNumber_26 rfl
(have e14 := e12 _ rfl; aw_put (kc := 39) d_X9_readsNumber_27 rfl fp9_411 rfl rfl rfl rfl
e14)))))))) (fun c8 => have e10 := e6.2 c8; (aw_aload_n d_X9_readsNumber_7 rfl rfl 0 rfl (by decide)
(aw_iconst d_X9_readsNumber_8 rfl
(aw_aload_n d_X9_readsNumber_9 rfl rfl 0 rfl (by decide)
(aw_getI (kc := 37) d_X9_readsNumber_10 rfl fl9_381 rfl rfl
(aw_VI (As := [zi 1, zi (M1 9 0 37)]) (st := []) d_X9_readsNumber_13 rfl cv9_405 ⟨Nat.le_of_ble_eq_true rfl, Nat.le_of_ble_eq_true rfl⟩ rfl rfl (Nat.le_of_ble_eq_true rfl) (Nat.le_of_ble_eq_true rfl) e10 (fun x18 M15 e16 => (aw_rz d_X9_readsNumber_16 rfl e16.1 e16.2))))))))))))
theorem c_X9_readsNumber {m : Int} (h : mtX M b n) (hp : 0 ≤ M 9 0 37 ∧ M 9 0 37 ≤ n) (hm : 0 ≤ m ∧ m ≤ 9999) : CI l m_X9_readsNumber [zr 9 0, zi 0, zi m] M (fun x M' => x = zb (nmQ b n (M 9 0 37) ≠ nmI b n (M 9 0 37) ∧ nmV b n (M 9 0 37) ≤ m) ∧ rnF M M' ∧ M' 9 0 37 = nmQ b n (M 9 0 37) ∧
    (M' 9 0 38 = if nmQ b n (M 9 0 37) = nmI b n (M 9 0 37) then 8 * nmI b n (M 9 0 37) + 1 else if m < nmV b n (M 9 0 37) then 8 * nmI b n (M 9 0 37) + 2 else M 9 0 38) ∧
    (nmQ b n (M 9 0 37) ≠ nmI b n (M 9 0 37) → M' 9 0 40 = nmI b n (M 9 0 37) ∧ (nmV b n (M 9 0 37) ≤ m → M' 9 0 39 = nmV b n (M 9 0 37)))) := by
  have h1 := h.1
  refine vX9_readsNumber ((c_X9_isDigit h hp).mono ?_)
  rintro x0 M1 ⟨ex0, f1, e1⟩
  have hI : sk isB b n (M 9 0 37) = nmI b n (M 9 0 37) := rfl
  have hQ : nmQ b n (M 9 0 37) = sk isD b n (nmI b n (M 9 0 37)) := rfl
  have bI := sk_b (p := isB) (b := b) (n := n) _ (M 9 0 37) rfl hp.2
  rw [hI] at bI e1 ex0
  have bQ := sk_b (p := isD) (b := b) (n := n) _ (nmI b n (M 9 0 37)) rfl bI.2.1
  rw [← hQ] at bQ
  have hV : nmV b n (M 9 0 37) = dv b (nmI b n (M 9 0 37)) (nmQ b n (M 9 0 37) - nmI b n (M 9 0 37)).toNat := rfl
  generalize nmV b n (M 9 0 37) = V at *
  generalize nmQ b n (M 9 0 37) = q at *
  generalize nmI b n (M 9 0 37) = i at *
  have hd : isD (bt b n i) = true ↔ (i < n ∧ isD (b i) = true) := by
    unfold bt
    by_cases c : 0 ≤ i ∧ i < n
    · rw [if_pos c]
      exact ⟨fun q => ⟨c.2, q⟩, fun q => q.2⟩
    · rw [if_neg c]
      exact ⟨fun q => absurd q (by decide), fun q => absurd ⟨by omega, q.1⟩ c⟩
  refine ⟨by rw [ex0]; exact zb_I, fun c => ?_, fun c => ?_⟩
  · rw [ex0] at c
    have dg := hd.mp (zb_n0 c)
    have hqi : i < q := by
      rw [hQ, sk_s dg.1 dg.2]
      have := sk_b (p := isD) (b := b) (n := n) _ (i + 1) rfl (by have := dg.1; omega)
      omega
    rw [e1]
    intro M11 q1 M13 q2
    have f13 : rnF M M13 := (f1.rn.tr (rnF.fl q1 (by omega))).tr (rnF.fl q2 (by omega))
    have a37 : M13 9 0 37 = i := by rw [q2, zu_at, if_neg (by decide), q1, zu_at, if_neg (by decide)]; exact e1
    have a39 : M13 9 0 39 = 0 := by rw [q2, zu_at, if_pos rfl]
    have a40 : M13 9 0 40 = i := by rw [q2, zu_at, if_neg (by decide), q1, zu_at, if_pos rfl]
    have a38 : M13 9 0 38 = M 9 0 38 := by rw [q2, zu_at, if_neg (by decide), q1, zu_at, if_neg (by decide)]; exact f1.2 38 (by decide)
    have loop : ∀ (f : Nat) (M' : zM), (n - M' 9 0 37).toNat = f → i ≤ M' 9 0 37 ∧ M' 9 0 37 ≤ n → rnF M M' → M' 9 0 40 = i → M' 9 0 38 = M 9 0 38 → sk isD b n (M' 9 0 37) = q → 0 ≤ dv b i (M' 9 0 37 - i).toNat → (dv b i (M' 9 0 37 - i).toNat < 100000 → M' 9 0 39 = dv b i (M' 9 0 37 - i).toNat) → (100000 ≤ dv b i (M' 9 0 37 - i).toNat → 100000 ≤ M' 9 0 39 ∧ M' 9 0 39 ≤ 2000000) →
        LX9_readsNumber_30 l (fun x M' => x = zb (q ≠ i ∧ V ≤ m) ∧ rnF M M' ∧ M' 9 0 37 = q ∧ (M' 9 0 38 = if q = i then 8 * i + 1 else if m < V then 8 * i + 2 else M 9 0 38) ∧ (q ≠ i → M' 9 0 40 = i ∧ (V ≤ m → M' 9 0 39 = V))) 0 m M' := by
      intro f
      induction f with
      | zero =>
        intro M' hf hr fr e40 e38 eq dn d1 d2
        have hx := h.n fr
        have h' := hx.1
        have nb : ¬ (M' 9 0 37 < n ∧ isD (b (M' 9 0 37)) = true) := by omega
        rw [sk_e nb] at eq
        rw [eq, ← hV] at dn d1 d2
        refine vX9_readsNumber_30 ((c_X9_byteAt hx (by omega) (by omega)).mono ?_)
        rintro x M2 ⟨ex, rfl⟩
        have xb : x = -1 := by rw [ex]; unfold bt; rw [if_neg (by omega)]
        refine ⟨by omega, ⟨by omega, by omega, by omega⟩, fun _ => ⟨by omega, by omega, by omega, ⟨by omega, by omega, by omega⟩, fun c => ⟨(zb_1 ⟨by omega, by omega⟩).symm, fr, eq, ?_, fun _ => ⟨e40, fun _ => d1 (by omega)⟩⟩, fun c => ?_⟩, fun c => by omega⟩
        · rw [e38, if_neg (by omega), if_neg (by omega)]
        · refine c_X9_fails.mono ?_
          rintro y M3 ⟨rfl, e3⟩
          refine ⟨by decide, fun _ => ⟨(zb_f (by omega)).symm, fr.tr (rnF.fl e3 (by omega)), by rw [e3, zu_at, if_neg (by decide)]; exact eq, ?_, fun _ => ⟨by rw [e3, zu_at, if_neg (by decide)]; exact e40, fun c2 => by omega⟩⟩, fun c => absurd rfl c⟩
          rw [e3, zu_at, if_pos rfl, e40, if_neg (by omega), if_pos (by omega)]
      | succ f ih =>
        intro M' hf hr fr e40 e38 eq dn d1 d2
        have hx := h.n fr
        have h' := hx.1
        refine vX9_readsNumber_30 ((c_X9_byteAt hx (by omega) (by omega)).mono ?_)
        rintro x M2 ⟨ex, rfl⟩
        have eb : x = b (M2 9 0 37) := by rw [ex]; unfold bt; rw [if_pos (by omega)]
        have bb := (hx.2 (M2 9 0 37) (by omega)).2
        refine ⟨by omega, ⟨by omega, by omega, by omega⟩, fun c => ?_, fun c => ⟨by omega, fun g => ?_, fun g => ?_⟩⟩
        · have nb : ¬ (M2 9 0 37 < n ∧ isD (b (M2 9 0 37)) = true) := by
            rintro ⟨-, w⟩
            unfold isD at w
            rw [decide_eq_true_eq] at w
            omega
          rw [sk_e nb] at eq
          rw [eq, ← hV] at dn d1 d2
          refine ⟨by omega, by omega, by omega, ⟨by omega, by omega, by omega⟩, fun c => ⟨(zb_1 ⟨by omega, by omega⟩).symm, fr, eq, ?_, fun _ => ⟨e40, fun _ => d1 (by omega)⟩⟩, fun c => ?_⟩
          · rw [e38, if_neg (by omega), if_neg (by omega)]
          · refine c_X9_fails.mono ?_
            rintro y M3 ⟨rfl, e3⟩
            refine ⟨by decide, fun _ => ⟨(zb_f (by omega)).symm, fr.tr (rnF.fl e3 (by omega)), by rw [e3, zu_at, if_neg (by decide)]; exact eq, ?_, fun _ => ⟨by rw [e3, zu_at, if_neg (by decide)]; exact e40, fun c2 => by omega⟩⟩, fun c => absurd rfl c⟩
            rw [e3, zu_at, if_pos rfl, e40, if_neg (by omega), if_pos (by omega)]
        · have yd : isD (b (M2 9 0 37)) = true := by unfold isD; rw [decide_eq_true_eq]; omega
          intro M3 q3
          have e37 : M3 9 0 37 = M2 9 0 37 + 1 := by rw [q3, zu_at, if_pos rfl]
          have e39 : M3 9 0 39 = M2 9 0 39 := by rw [q3, zu_at, if_neg (by decide)]
          have dv1 : dv b i (M3 9 0 37 - i).toNat = 10 * dv b i (M2 9 0 37 - i).toNat + (b (M2 9 0 37) - 48) := by
            rw [e37, show (M2 9 0 37 + 1 - i).toNat = (M2 9 0 37 - i).toNat + 1 by omega, dv, show i + (((M2 9 0 37 - i).toNat : Nat) : Int) = M2 9 0 37 by omega]
          refine ih M3 (by omega) (by omega) (fr.tr (rnF.fl q3 (by omega))) (by rw [q3, zu_at, if_neg (by decide)]; exact e40) (by rw [q3, zu_at, if_neg (by decide)]; exact e38) (by rw [e37, ← sk_s (i := M2 9 0 37) (by omega) yd]; exact eq) (by rw [dv1]; omega) (by rw [dv1, e39]; omega) (by rw [dv1, e39]; omega)
        · have yd : isD (b (M2 9 0 37)) = true := by unfold isD; rw [decide_eq_true_eq]; omega
          refine (c_X9_byteAt hx (by omega) (by omega)).mono ?_
          rintro y M3 ⟨ey, rfl⟩
          have ey' : y = b (M3 9 0 37) := ey.trans (ex.symm.trans eb)
          intro M4 q4 M5 q5
          have e37 : M5 9 0 37 = M3 9 0 37 + 1 := by rw [q5, zu_at, if_pos rfl, q4, zu_at, if_neg (by decide)]
          have e39 : M5 9 0 39 = 10 * M3 9 0 39 + y - 48 := by rw [q5, zu_at, if_neg (by decide), q4, zu_at, if_pos rfl]
          have dv1 : dv b i (M5 9 0 37 - i).toNat = 10 * dv b i (M3 9 0 37 - i).toNat + (b (M3 9 0 37) - 48) := by
            rw [e37, show (M3 9 0 37 + 1 - i).toNat = (M3 9 0 37 - i).toNat + 1 by omega, dv, show i + (((M3 9 0 37 - i).toNat : Nat) : Int) = M3 9 0 37 by omega]
          refine ih M5 (by omega) (by omega) ((fr.tr (rnF.fl q4 (by omega))).tr (rnF.fl q5 (by omega))) (by rw [q5, zu_at, if_neg (by decide), q4, zu_at, if_neg (by decide)]; exact e40) (by rw [q5, zu_at, if_neg (by decide), q4, zu_at, if_neg (by decide)]; exact e38) (by rw [e37, ← sk_s (i := M3 9 0 37) (by omega) yd]; exact eq) (by rw [dv1]; omega) (by rw [dv1, e39]; omega) (by rw [dv1, e39]; omega)
    exact loop _ M13 rfl (by omega) f13 a40 a38 (by rw [a37]; exact hQ.symm) (by rw [a37, show (i - i).toNat = 0 by omega, dv]; omega) (fun _ => by rw [a37, a39, show (i - i).toNat = 0 by omega, dv]) (fun c => by rw [a37, show (i - i).toNat = 0 by omega, dv] at c; omega)
  · rw [ex0] at c
    have nd := zb_0 c
    have eq : q = i := by rw [hQ, sk_e (fun w => nd (hd.mpr w))]
    rw [e1]
    refine c_X9_fails.mono ?_
    rintro y M3 ⟨rfl, e3⟩
    refine ⟨.inl rfl, (zb_f (fun w => w.1 eq)).symm, f1.rn.tr (rnF.fl e3 (by omega)), by rw [e3, zu_at, if_neg (by decide), e1, eq], by rw [e3, zu_at, if_pos rfl, if_pos eq], fun c => absurd eq c⟩
end
