/-! ===== tell: the reference ===== -/
section
variable {l : Launch} {M : zM} {b : Int → Int} {n kk : Int}
def LX9_readsAll_2 (l : Launch) (P : Int → zM → Prop) (v1 : Int) (M : zM) : Prop := AW l m_X9_readsAll (zTi m_X9_readsAll P) 2 [(0, zr 9 0), (1, zi v1)] [] M
def LX9_readsAll_52 (l : Launch) (P : Int → zM → Prop) (v1 : Int) (M : zM) : Prop := AW l m_X9_readsAll (zTi m_X9_readsAll P) 52 [(0, zr 9 0), (1, zi v1)] [] M
theorem vX9_readsAll_2 {l : Launch} {P : Int → zM → Prop} {v1 : Int} {M : zM}
    (H0 : (zI v1 ∧ (187 ≤ v1 → (∀ M7 : zM, M7 = zu M 9 0 37 0 → (∀ M9 : zM, M9 = zu M7 9 0 42 0 → (∀ M11 : zM, M11 = zu M9 9 0 43 0 → (CI l m_X9_nextByte [zr 9 0] M11 (fun x16 M13 => (zI x16 ∧ (x16 ≠ (-1) → (CI l m_X9_readsPart [zr 9 0] M13 (fun x26 M23 => LX9_readsAll_52 l P x26 M23))) ∧ (x16 = (-1) → P 1 M13)))))))) ∧ (v1 < 187 → ((0 ≤ v1 ∧ v1 < 187) ∧ ∀ M28 : zM, M28 = zu M 48 0 v1 0 → LX9_readsAll_2 l P (v1 + 1) M28)))) :
    LX9_readsAll_2 l P v1 M :=
(aw_iload_n d_X9_readsAll_2 rfl rfl 1 rfl
(aw_sipush d_X9_readsAll_3 rfl (by decide)
(have z1 := H0.1; have e2 := H0.2; aw_icmp_ge d_X9_readsAll_6 rfl rfl z1 (by decide) (fun c3 => have e5 := e2.1 c3; (aw_aload_n d_X9_readsAll_22 rfl rfl 0 rfl (by decide)
(aw_iconst d_X9_readsAll_23 rfl
(have e8 := e5 _ rfl; aw_put (kc := 37) d_X9_readsAll_24 rfl fp9_381 rfl rfl rfl rfl
(aw_aload_n d_X9_readsAll_27 rfl rfl 0 rfl (by decide)
(aw_iconst d_X9_readsAll_28 rfl
(have e10 := e8 _ rfl; aw_put (kc := 42) d_X9_readsAll_29 rfl fp9_422 rfl rfl rfl rfl
(aw_aload_n d_X9_readsAll_32 rfl rfl 0 rfl (by decide)
(aw_iconst d_X9_readsAll_33 rfl
(have e12 := e10 _ rfl; aw_put (kc := 43) d_X9_readsAll_34 rfl fp9_426 rfl rfl rfl rfl
(aw_aload_n d_X9_readsAll_37 rfl rfl 0 rfl (by decide)
(aw_VI (As := []) (st := []) d_X9_readsAll_38 rfl cv9_390 ⟨Nat.le_of_ble_eq_true rfl, Nat.le_of_ble_eq_true rfl⟩ rfl rfl (Nat.le_of_ble_eq_true rfl) (Nat.le_of_ble_eq_true rfl) e12 (fun x16 M13 e14 => (aw_iconst d_X9_readsAll_41 rfl
(have z17 := e14.1; have e18 := e14.2; aw_icmp_ne d_X9_readsAll_42 rfl rfl z17 (by decide) (fun c19 => have e21 := e18.1 c19; (aw_aload_n d_X9_readsAll_47 rfl rfl 0 rfl (by decide)
(aw_VI (As := []) (st := []) d_X9_readsAll_48 rfl cv9_451 ⟨Nat.le_of_ble_eq_true rfl, Nat.le_of_ble_eq_true rfl⟩ rfl rfl (Nat.le_of_ble_eq_true rfl) (Nat.le_of_ble_eq_true rfl) e21 (fun x26 M23 e24 => (aw_istore_n (lv' := [(1, zi x26), (0, zr 9 0)]) d_X9_readsAll_51 rfl rfl (by decide) rfl
(aw_sub [1, 0] rfl e24)))))) (fun c20 => have e22 := e18.2 c20; (aw_iconst d_X9_readsAll_45 rfl
(aw_rz d_X9_readsAll_46 rfl (by decide) e22)))))))))))))))))) (fun c4 => have e6 := e2.2 c4; (aw_aload_n d_X9_readsAll_9 rfl rfl 0 rfl (by decide)
(aw_getR (k' := 48) (a := 0) (b := 0) (j := 0) d_X9_readsAll_10 rfl fl9_75 rfl zj0 ⟨by decide, fun _ => by decide⟩
(aw_iload_n d_X9_readsAll_13 rfl rfl 1 rfl
(aw_iconst d_X9_readsAll_14 rfl
(have z27 := e6.1; have e29 := e6.2 _ rfl; aw_iast d_X9_readsAll_15 rfl za48 z27
(aw_iinc (lv' := [(1, zi (v1 + 1)), (0, zr 9 0)]) (y := (v1 + 1)) d_X9_readsAll_16 rfl 1 rfl (by decide) rfl rfl
(aw_goto d_X9_readsAll_19 rfl
(aw_sub [1, 0] rfl e29))))))))))))
theorem vX9_readsAll_52 {l : Launch} {P : Int → zM → Prop} {v1 : Int} {M : zM}
    (H0 : (zI v1 ∧ (v1 = 0 → P 0 M) ∧ (v1 ≠ 0 → (CI l m_X9_nextByte [zr 9 0] M (fun x40 M37 => (zI x40 ∧ (x40 ≠ 59 → (CI l m_X9_nextByte [zr 9 0] M37 (fun x51 M48 => (zI x51 ∧ (x51 = (-1) → P 1 M48) ∧ (x51 ≠ (-1) → (CI l m_X9_fails [zr 9 0, zi 1, zi (M48 9 0 37)] M48 (fun x61 M58 => (zI x61 ∧ (x61 = 0 → P 0 M58) ∧ (x61 ≠ 0 → P 1 M58))))))))) ∧ (x40 = 59 → (∀ M68 : zM, M68 = zu M37 9 0 37 ((M37 9 0 37) + 1) → (CI l m_X9_readsPart [zr 9 0] M68 (fun x73 M70 => LX9_readsAll_52 l P x73 M70)))))))))) :
    LX9_readsAll_52 l P v1 M :=
(aw_iload_n d_X9_readsAll_52 rfl rfl 1 rfl
(have z30 := H0.1; have e31 := H0.2; aw_if_eq d_X9_readsAll_53 rfl rfl z30 (fun c32 => have e34 := e31.1 c32; (aw_iload_n d_X9_readsAll_83 rfl rfl 1 rfl
(aw_if_eq d_X9_readsAll_84 rfl rfl z30 (fun _ => (aw_iconst d_X9_readsAll_111 rfl
(aw_rz d_X9_readsAll_112 rfl (by decide) e34))) (fun c36 => absurd c32 (by omega))))) (fun c33 => have e35 := e31.2 c33; (aw_aload_n d_X9_readsAll_56 rfl rfl 0 rfl (by decide)
(aw_VI (As := []) (st := []) d_X9_readsAll_57 rfl cv9_390 ⟨Nat.le_of_ble_eq_true rfl, Nat.le_of_ble_eq_true rfl⟩ rfl rfl (Nat.le_of_ble_eq_true rfl) (Nat.le_of_ble_eq_true rfl) e35 (fun x40 M37 e38 => (aw_bipush d_X9_readsAll_60 rfl (by decide)
(have z41 := e38.1; have e42 := e38.2; aw_icmp_ne d_X9_readsAll_62 rfl rfl z41 (by decide) (fun c43 => have e45 := e42.1 c43; (aw_iload_n d_X9_readsAll_83 rfl rfl 1 rfl
(aw_if_eq d_X9_readsAll_84 rfl rfl z30 (fun c47 => absurd c33 (by omega)) (fun _ => (aw_aload_n d_X9_readsAll_87 rfl rfl 0 rfl (by decide)
(aw_VI (As := []) (st := []) d_X9_readsAll_88 rfl cv9_390 ⟨Nat.le_of_ble_eq_true rfl, Nat.le_of_ble_eq_true rfl⟩ rfl rfl (Nat.le_of_ble_eq_true rfl) (Nat.le_of_ble_eq_true rfl) e45 (fun x51 M48 e49 => (aw_iconst d_X9_readsAll_91 rfl
(have z52 := e49.1; have e53 := e49.2; aw_icmp_eq d_X9_readsAll_92 rfl rfl z52 (by decide) (fun c54 => have e56 := e53.1 c54; (aw_iconst d_X9_readsAll_107 rfl
(aw_goto d_X9_readsAll_108 rfl
(aw_rz d_X9_readsAll_112 rfl (by decide) e56)))) (fun c55 => have e57 := e53.2 c55; (aw_aload_n d_X9_readsAll_95 rfl rfl 0 rfl (by decide)
(aw_iconst d_X9_readsAll_96 rfl
(aw_aload_n d_X9_readsAll_97 rfl rfl 0 rfl (by decide)
(aw_getI (kc := 37) d_X9_readsAll_98 rfl fl9_381 rfl rfl
(aw_VI (As := [zi 1, zi (M48 9 0 37)]) (st := []) d_X9_readsAll_101 rfl cv9_405 ⟨Nat.le_of_ble_eq_true rfl, Nat.le_of_ble_eq_true rfl⟩ rfl rfl (Nat.le_of_ble_eq_true rfl) (Nat.le_of_ble_eq_true rfl) e57 (fun x61 M58 e59 => (have z62 := e59.1; have e63 := e59.2; aw_if_eq d_X9_readsAll_104 rfl rfl z62 (fun c64 => have e66 := e63.1 c64; (aw_iconst d_X9_readsAll_111 rfl
(aw_rz d_X9_readsAll_112 rfl (by decide) e66))) (fun c65 => have e67 := e63.2 c65; (aw_iconst d_X9_readsAll_107 rfl
(aw_goto d_X9_readsAll_108 rfl
(aw_rz d_X9_readsAll_112 rfl (by decide) e67))))))))))))))))))))) (fun c44 => have e46 := e42.2 c44; (aw_aload_n d_X9_readsAll_65 rfl rfl 0 rfl (by decide)
(aw_dup d_X9_readsAll_66 rfl rfl
(aw_getI (kc := 37) d_X9_readsAll_67 rfl fl9_381 rfl rfl
(aw_iconst d_X9_readsAll_70 rfl
(aw_iadd d_X9_readsAll_71 rfl
(have e69 := e46 _ rfl; aw_put (kc := 37) d_X9_readsAll_72 rfl fp9_381 rfl rfl rfl rfl
(aw_aload_n d_X9_readsAll_75 rfl rfl 0 rfl (by decide)
(aw_VI (As := []) (st := []) d_X9_readsAll_76 rfl cv9_451 ⟨Nat.le_of_ble_eq_true rfl, Nat.le_of_ble_eq_true rfl⟩ rfl rfl (Nat.le_of_ble_eq_true rfl) (Nat.le_of_ble_eq_true rfl) e69 (fun x73 M70 e71 => (aw_istore_n (lv' := [(1, zi x73), (0, zr 9 0)]) d_X9_readsAll_79 rfl rfl (by decide) rfl
(aw_goto d_X9_readsAll_80 rfl
(aw_sub [1, 0] rfl e71)))))))))))))))))))))
theorem vX9_readsAll {l : Launch} {P : Int → zM → Prop}  {M : zM}
    (H0 : LX9_readsAll_2 l P 0 M) :
    CI l m_X9_readsAll [zr 9 0] M P :=
(aw_iconst d_X9_readsAll_0 rfl
(aw_istore_n (lv' := [(1, zi 0), (0, zr 9 0)]) d_X9_readsAll_1 rfl rfl (by decide) rfl
(aw_sub [1, 0] rfl H0)))
def rL (M0 M' : zM) (x : Int) (r : Int × zS) : Prop := x = zb (r.1 = 0) ∧ rdF M0 M' ∧ (r.1 ≠ 0 → M' 9 0 38 = r.1) ∧ (r.1 = 0 → rdS M' r.2)
theorem c_X9_run {M0 : zM} : ∀ (f : Nat) (p : Int) (S : zS) (hf hl : Int) (M : zM), n - p < f → rdF M0 M → rdT M S hf hl p → gdT kk n p S hf hl → mtX M b n →
    CI l m_X9_readsPart [zr 9 0] M (fun x M' => LX9_readsAll_52 l (fun x M' => rL M0 M' x (tRn b n f S hf hl p)) x M') := by
  intro f
  induction f with
  | zero =>
    intro p S hf hl M hf0 p1 ts g hx
    have := g.2.2.2
    omega
  | succ f ih =>
    intro p S hf hl M hf0 p1 ts g hx
    have hp := g.2.2.2
    have h1 := hx.1
    refine (c_X9_readsPart hx ts g).mono ?_
    rintro x M2 ⟨ex, f2, k38, k⟩
    have fr2 := p1.tr f2
    have x2 := hx.rd f2
    refine vX9_readsAll_52 ?_
    rw [tRn]
    by_cases c1 : (tPt b n S hf hl p).1 = 0
    · have K := k c1
      have G := wf_tPt g c1
      rw [if_neg (fun q => q c1)]
      have x1 : x = 1 := by rw [ex, zb_1 c1]
      have G3 := G.1.2.2.2
      have B := sk_b (p := isB) (b := b) (n := n) _ (tPt b n S hf hl p).2.2.2.2 rfl G3.2
      have SS := sk_sk (p := isB) (b := b) G3.2
      refine ⟨by omega, fun c => by omega, fun _ => (c_X9_nextByte x2 (by rw [K.2.2.2]; omega)).mono ?_⟩
      rw [K.2.2.2]
      rintro y M3 ⟨ey, f3, e3⟩
      have x3 := x2.f f3
      have bb := mbt_b (i := sk isB b n (tPt b n S hf hl p).2.2.2.2) x3
      have rs3 : rdS M3 (tPt b n S hf hl p).2.1 := K.1.eq (by rw [f3.1 48 0 (by decide)])
      refine ⟨by omega, fun d => (c_X9_nextByte x3 (by omega)).mono ?_, fun d => ?_⟩
      · rw [e3, SS]
        rintro z M4 ⟨ez, f4, e4⟩
        have rs4 : rdS M4 (tPt b n S hf hl p).2.1 := rs3.eq (by rw [f4.1 48 0 (by decide)])
        have fr4 := fr2.tr (f3.rn.rd.tr f4.rn.rd)
        refine ⟨by omega, fun a => ?_, fun a => ?_⟩
        · have en : n ≤ sk isB b n (tPt b n S hf hl p).2.2.2.2 := by
            rw [a] at ez
            unfold bt at ez
            by_cases q : 0 ≤ sk isB b n (tPt b n S hf hl p).2.2.2.2 ∧ sk isB b n (tPt b n S hf hl p).2.2.2.2 < n
            · rw [if_pos q] at ez
              have := (x3.2 _ q).2
              omega
            · omega
          rw [if_pos en]
          exact ⟨(zb_1 rfl).symm, fr4, fun q => absurd rfl q, fun _ => rs4⟩
        · have en : ¬ n ≤ sk isB b n (tPt b n S hf hl p).2.2.2.2 := by
            intro q
            unfold bt at ez
            rw [if_neg (by omega)] at ez
            exact a ez
          have eb : y = b (sk isB b n (tPt b n S hf hl p).2.2.2.2) := by rw [ey]; unfold bt; rw [if_pos (by omega)]
          rw [if_neg en, if_pos (fun q => d (eb.trans q)), e4]
          refine c_X9_fails.mono ?_
          rintro v M5 ⟨rfl, q5⟩
          have ne : 8 * sk isB b n (tPt b n S hf hl p).2.2.2.2 + 1 ≠ 0 := by omega
          refine ⟨by decide, fun _ => ⟨(zb_f ne).symm, fr4.tr (rdF.fl q5 (by omega)), fun _ => by rw [q5, zu_at, if_pos rfl], fun q => absurd q ne⟩, fun q => absurd rfl q⟩
      · intro M4 q4
        have eb : bt b n (sk isB b n (tPt b n S hf hl p).2.2.2.2) = 59 := by rw [← ey]; exact d
        have lt : sk isB b n (tPt b n S hf hl p).2.2.2.2 < n ∧ b (sk isB b n (tPt b n S hf hl p).2.2.2.2) = 59 := by
          unfold bt at eb
          by_cases q : 0 ≤ sk isB b n (tPt b n S hf hl p).2.2.2.2 ∧ sk isB b n (tPt b n S hf hl p).2.2.2.2 < n
          · rw [if_pos q] at eb
            exact ⟨q.2, eb⟩
          · rw [if_neg q] at eb
            omega
        rw [if_neg (by omega), if_neg (fun q => q lt.2)]
        refine ih _ _ _ _ M4 (by omega) (fr2.tr (f3.rn.rd.tr (rdF.fl q4 (by omega)))) ⟨rs3.eq (by rw [q4, zu_k (by decide)]), ?_, ?_, ?_⟩ ⟨G.1.1, G.1.2.1, G.1.2.2.1, by omega⟩ (x3.rd (rdF.fl q4 (by omega)))
        · rw [q4, zu_at, if_neg (by decide), f3.2 42 (by decide)]
          exact K.2.1
        · rw [q4, zu_at, if_neg (by decide), f3.2 43 (by decide)]
          exact K.2.2.1
        · rw [q4, zu_at, if_pos rfl, e3]
    · rw [if_pos c1]
      have x0 : x = 0 := by rw [ex, zb_f c1]
      exact ⟨by omega, fun _ => ⟨(zb_f c1).symm, fr2, fun _ => k38 c1, fun q => absurd q c1⟩, fun c => absurd x0 c⟩
theorem c_X9_readsAll (hk : 0 ≤ kk) (h : mtX M b n) : CI l m_X9_readsAll [zr 9 0] M (fun x M' => rL M M' x (tRd b n)) := by
  have h1 := h.1
  have loop : ∀ (f : Nat) (v : Int) (M1 : zM), (187 - v).toNat = f → 0 ≤ v ∧ v ≤ 187 → rdF M M1 → (∀ j, 0 ≤ j ∧ j < v → M1 48 0 j = 0) → LX9_readsAll_2 l (fun x M' => rL M M' x (tRd b n)) v M1 := by
    intro f
    induction f with
    | zero =>
      intro v M1 hf hv fr zz
      have ev : v = 187 := by omega
      subst ev
      refine vX9_readsAll_2 ⟨by omega, fun _ => ?_, fun c => by omega⟩
      intro M2 q2 M3 q3 M4 q4
      have f4 : rdF M1 M4 := (rdF.fl q2 (by omega)).tr ((rdF.fl q3 (by omega)).tr (rdF.fl q4 (by omega)))
      have x4 := (h.rd fr).rd f4
      have a37 : M4 9 0 37 = 0 := by rw [q4, zu_at, if_neg (by decide), q3, zu_at, if_neg (by decide), q2, zu_at, if_pos rfl]
      have a42 : M4 9 0 42 = 0 := by rw [q4, zu_at, if_neg (by decide), q3, zu_at, if_pos rfl]
      have a43 : M4 9 0 43 = 0 := by rw [q4, zu_at, if_pos rfl]
      have at4 : ∀ j, 0 ≤ j ∧ j < 187 → M4 48 0 j = 0 := fun j hj => by
        rw [q4, zu_k (by decide), q3, zu_k (by decide), q2, zu_k (by decide)]
        exact zz j hj
      have en : qn zE = 0 := rfl
      have ve := mv_eq (M := sw M4) (S := zE) zE_zo (by rw [en]; omega) (fun j hj => by rw [sw_at]; exact at4 _ (by omega)) (fun t ht => by rw [en] at ht; omega) (fun t u q => by
        have a := q.1
        have b := q.2.1
        rw [en] at b
        omega)
      have rs4 : rdS M4 zE := ⟨ve, fun j hj => at4 j (by rw [en] at hj; omega)⟩
      have B := sk_b (p := isB) (b := b) (n := n) _ 0 rfl h1.2.1
      refine (c_X9_nextByte x4 (by omega)).mono ?_
      rw [a37]
      rintro x M5 ⟨ex, f5, e5⟩
      have x5 := x4.f f5
      have fr5 := fr.tr (f4.tr f5.rn.rd)
      have bb := mbt_b (i := sk isB b n 0) x5
      have rs5 : rdS M5 zE := rs4.eq (by rw [f5.1 48 0 (by decide)])
      unfold tRd
      refine ⟨by omega, fun a => ?_, fun a => ?_⟩
      · have en : ¬ n ≤ sk isB b n 0 := by
          intro q
          unfold bt at ex
          rw [if_neg (by omega)] at ex
          exact a ex
        rw [if_neg en]
        refine c_X9_run (kk := kk) 401 (sk isB b n 0) zE 0 0 M5 (by omega) fr5 ⟨rs5, ?_, ?_, e5⟩ ⟨⟨zE_wf hk, zE_zo⟩, .inl rfl, .inl rfl, by omega⟩ x5
        · rw [f5.2 42 (by decide)]
          exact a42
        · rw [f5.2 43 (by decide)]
          exact a43
      · have en : n ≤ sk isB b n 0 := by
          rw [a] at ex
          unfold bt at ex
          by_cases q : 0 ≤ sk isB b n 0 ∧ sk isB b n 0 < n
          · rw [if_pos q] at ex
            have := (x5.2 _ q).2
            omega
          · omega
        rw [if_pos en]
        exact ⟨(zb_1 rfl).symm, fr5, fun q => absurd rfl q, fun _ => rs5⟩
    | succ f ih =>
      intro v M1 hf hv fr zz
      refine vX9_readsAll_2 ⟨by omega, fun c => by omega, fun _ => ⟨by omega, ?_⟩⟩
      intro M2 q2
      refine ih (v + 1) M2 (by omega) (by omega) (fr.tr (rdF.ro q2)) fun j hj => ?_
      rw [q2, zu_at]
      by_cases c : j = v
      · rw [if_pos c]
      · rw [if_neg c]
        exact zz j (by omega)
  exact vX9_readsAll (loop _ 0 M rfl (by omega) rdF.rf (fun j hj => by omega))
def LX9_tell_24 (l : Launch) (P : Int → zM → Prop) (v2 : Int) (M : zM) : Prop := AW l m_X9_tell (zTi m_X9_tell P) 24 [(0, zr 9 0), (2, zi v2)] [] M
theorem vX9_tell_24 {l : Launch} {P : Int → zM → Prop} {v2 : Int} {M : zM}
    (H0 : (zI v2 ∧ (187 ≤ v2 → (∀ M19 : zM, M19 = zu M 9 0 2 0 → P (M19 27 0 180) M19)) ∧ (v2 < 187 → ((0 ≤ v2 ∧ v2 < 187) ∧ (∀ M23 : zM, M23 = zu M 27 0 v2 (M 48 0 v2) → LX9_tell_24 l P (v2 + 1) M23))))) :
    LX9_tell_24 l P v2 M :=
(aw_iload_n d_X9_tell_24 rfl rfl 1 rfl
(aw_sipush d_X9_tell_25 rfl (by decide)
(have z13 := H0.1; have e14 := H0.2; aw_icmp_ge d_X9_tell_28 rfl rfl z13 (by decide) (fun c15 => have e17 := e14.1 c15; (aw_aload_n d_X9_tell_49 rfl rfl 0 rfl (by decide)
(aw_iconst d_X9_tell_50 rfl
(have e20 := e17 _ rfl; aw_put (kc := 2) d_X9_tell_51 rfl fp9_294 rfl rfl rfl rfl
(aw_aload_n d_X9_tell_54 rfl rfl 0 rfl (by decide)
(aw_VI (As := []) (st := []) d_X9_tell_55 rfl cv9_78 ⟨Nat.le_of_ble_eq_true rfl, Nat.le_of_ble_eq_true rfl⟩ rfl rfl (Nat.le_of_ble_eq_true rfl) (Nat.le_of_ble_eq_true rfl) (s_X9_traders) (fun _ _ hq => aw_eqs hq
(aw_ri d_X9_tell_58 rfl e20)))))))) (fun c16 => have e18 := e14.2 c16; (aw_aload_n d_X9_tell_31 rfl rfl 0 rfl (by decide)
(aw_getR (k' := 27) (a := 0) (b := 0) (j := 0) d_X9_tell_32 rfl fl9_7 rfl zj0 ⟨by decide, fun _ => by decide⟩
(aw_iload_n d_X9_tell_35 rfl rfl 1 rfl
(aw_aload_n d_X9_tell_36 rfl rfl 0 rfl (by decide)
(aw_getR (k' := 48) (a := 0) (b := 0) (j := 0) d_X9_tell_37 rfl fl9_75 rfl zj0 ⟨by decide, fun _ => by decide⟩
(aw_iload_n d_X9_tell_40 rfl rfl 1 rfl
(have z21 := e18.1; have e22 := e18.2; (aw_iald d_X9_tell_41 rfl za48 z21
(have e24 := e22 _ rfl; aw_iast d_X9_tell_42 rfl za27 z21
(aw_iinc (lv' := [(2, zi (v2 + 1)), (0, zr 9 0)]) (y := (v2 + 1)) d_X9_tell_43 rfl 1 rfl (by decide) rfl rfl
(aw_goto d_X9_tell_46 rfl
(aw_sub [1, 0] rfl e24))))))))))))))))
theorem vX9_tell {l : Launch} {P : Int → zM → Prop}  {M : zM}
    (H0 : (CI l m_X9_readsAll [zr 9 0] M (fun x4 M1 => (∀ M5 : zM, M5 = zu M1 9 0 36 0 → (zI x4 ∧ (x4 ≠ 0 → LX9_tell_24 l P 0 M5) ∧ (x4 = 0 → P ((-2) - (M5 9 0 38)) M5)))))) :
    CI l m_X9_tell [zr 9 0] M P :=
(aw_aload_n d_X9_tell_0 rfl rfl 0 rfl (by decide)
(aw_VI (As := []) (st := []) d_X9_tell_1 rfl cv9_454 ⟨Nat.le_of_ble_eq_true rfl, Nat.le_of_ble_eq_true rfl⟩ rfl rfl (Nat.le_of_ble_eq_true rfl) (Nat.le_of_ble_eq_true rfl) H0 (fun x4 M1 e2 => (aw_istore_n (lv' := [(1, zi x4), (0, zr 9 0)]) d_X9_tell_4 rfl rfl (by decide) rfl
(aw_aload_n d_X9_tell_5 rfl rfl 1 rfl (by decide)
(aw_iconst d_X9_tell_6 rfl
(have e6 := e2 _ rfl; aw_put (kc := 36) d_X9_tell_7 rfl fp9_297 rfl rfl rfl rfl
(aw_iload_n d_X9_tell_10 rfl rfl 0 rfl
(have z7 := e6.1; have e8 := e6.2; aw_if_ne d_X9_tell_11 rfl rfl z7 (fun c9 => have e11 := e8.1 c9; (aw_iconst d_X9_tell_22 rfl
(aw_istore_n (lv' := [(2, zi 0), (1, zi x4), (0, zr 9 0)]) d_X9_tell_23 rfl rfl (by decide) rfl
(aw_sub [2, 0] rfl e11)))) (fun c10 => have e12 := e8.2 c10; (aw_bipush d_X9_tell_14 rfl (by decide)
(aw_aload_n d_X9_tell_16 rfl rfl 1 rfl (by decide)
(aw_getI (kc := 38) d_X9_tell_17 rfl fl9_387 rfl rfl
(aw_isub d_X9_tell_20 rfl
(aw_ri d_X9_tell_21 rfl e12)))))))))))))))
theorem mSt.told {M M5 : zM} {A : zY} (h : mSy M A) (f : ∀ k i, k ≠ 9 → k ≠ 48 → M5 k i = M k i) (f9 : ∀ j, ¬ (36 ≤ j ∧ j ≤ 43) → M5 9 0 j = M 9 0 j) (e : M5 9 0 36 = 0) : mSy M5 (yTape A 0 (ytb A)) := by
  obtain ⟨⟨⟨a1, a2⟩, ⟨b1, b2⟩, ⟨⟨c1, c1'⟩, c2, c3⟩, ⟨d1, d2⟩, e1, e2⟩, zz⟩ := h
  have cp : ∀ k o, k ≠ 9 → k ≠ 48 → mW M k o → mW M5 k o ∧ mV M5 k o = mV M k o := fun k o h1 h2 w => mV_copy (fun j _ => by rw [f k 0 h1 h2]) w
  have n27 := cp 27 0 (by decide) (by decide) a1
  refine ⟨⟨⟨n27.1, n27.2.trans a2⟩, ⟨by rw [f9 2 (by omega)]; exact b1, fun i hi => ?_⟩, ⟨⟨by rw [f 30 0 (by decide) (by decide)]; exact c1, by rw [f 30 0 (by decide) (by decide)]; exact c1'⟩, fun q => ?_, fun q => ?_⟩, ⟨e, fun i hi => ?_⟩, by rw [f9 5 (by omega)]; exact e1, by rw [f9 6 (by omega)]; exact e2⟩, by rw [f9 7 (by omega)]; exact zz⟩
  · have b := b2 i hi
    have c := cp 28 _ (by decide) (by decide) b.1
    exact ⟨c.1, c.2.trans b.2⟩
  · have b := c2 q
    have c := cp 29 _ (by decide) (by decide) b.1
    exact ⟨c.1, c.2.trans b.2⟩
  · have b := c3 q
    have c := cp 29 _ (by decide) (by decide) b.1
    exact ⟨c.1, c.2.trans b.2⟩
  · have hi' : 0 ≤ i ∧ i < 0 := hi
    omega
theorem mSy.forget {M' M2 : zM} {A : zY} {S : zS} (H : mSt M' (ySet A S)) (zz : -1000 ≤ M' 9 0 7 ∧ M' 9 0 7 ≤ 1000) (q2 : M2 = zu M' 9 0 2 0) : mSy M2 (yNo A S) := by
  have o : ∀ k i, k ≠ 9 → M2 k i = M' k i := fun k i hk => by rw [q2, zu_k hk]
  have e9 : ∀ j, j ≠ 2 → M2 9 0 j = M' 9 0 j := fun j hj => by rw [q2, zu_at, if_neg hj]
  have cp : ∀ k o', k ≠ 9 → mW M' k o' → mW M2 k o' ∧ mV M2 k o' = mV M' k o' := fun k o' h1 w => mV_copy (fun j _ => by rw [o k 0 h1]) w
  obtain ⟨⟨a1, a2⟩, ⟨b1, b2⟩, ⟨⟨c1, c1'⟩, c2, c3⟩, ⟨d1, d2⟩, e1, e2⟩ := H
  have n27 := cp 27 0 (by decide) a1
  refine ⟨⟨⟨n27.1, n27.2.trans a2⟩, ⟨by rw [q2, zu_at, if_pos rfl]; rfl, fun i hi => ?_⟩, ⟨⟨by rw [o 30 0 (by decide)]; exact c1, by rw [o 30 0 (by decide)]; exact c1'⟩, fun q => ?_, fun q => ?_⟩, ⟨by rw [e9 36 (by decide)]; exact d1, fun i hi => by rw [o 47 0 (by decide)]; exact d2 i hi⟩, by rw [e9 5 (by decide)]; exact e1, by rw [e9 6 (by decide)]; exact e2⟩, by rw [e9 7 (by decide)]; exact zz⟩
  · have hi' : 0 ≤ i ∧ i < 0 := hi
    omega
  · have b := c2 q
    have c := cp 29 _ (by decide) b.1
    exact ⟨c.1, c.2.trans b.2⟩
  · have b := c3 q
    have c := cp 29 _ (by decide) b.1
    exact ⟨c.1, c.2.trans b.2⟩
theorem a9_tell {A : zY} (hk : 0 ≤ kk) (h : mSy M A) (w : wfY kk A) : CI l m_X9_tell [zr 9 0] M (rR (aTell A) M) := by
  have t := w.2.2.2.2
  have hx : mtX M (ytb A) (ytn A) := ⟨⟨h.1.2.2.2.1.1, t.1⟩, fun i hi => ⟨(h.1.2.2.2.1.2 i hi).2, t.2 i hi⟩⟩
  refine vX9_tell ((c_X9_readsAll hk hx).mono ?_)
  rintro x M1 ⟨ex, f1, k38, k⟩
  intro M2 q2
  have f2 : ∀ k i, k ≠ 9 → k ≠ 48 → M2 k i = M k i := fun k i h1 h2 => by
    rw [q2, zu_k h1]
    exact f1.1 k i h1 h2
  have f29 : ∀ j, ¬ (36 ≤ j ∧ j ≤ 43) → M2 9 0 j = M 9 0 j := fun j hj => by
    rw [q2, zu_at, if_neg (by omega)]
    exact f1.2 j (by omega)
  have T := mSt.told h f2 f29 (by rw [q2, zu_at, if_pos rfl])
  have md2 : ∀ k i, ¬ isMd k → M2 k i = M k i := fun k i hk => f2 k i (fun q => hk (by unfold isMd; omega)) (fun q => hk (by unfold isMd; omega))
  unfold aTell
  by_cases c : (tRd (ytb A) (ytn A)).1 = 0
  · rw [if_pos c]
    have rs2 : rdS M2 (tRd (ytb A) (ytn A)).2 := (k c).eq (by rw [q2, zu_k (by decide)])
    have x1 : x = 1 := by rw [ex, zb_1 c]
    refine ⟨by omega, fun _ => ?_, fun q => by omega⟩
    have loop : ∀ (n : Nat) (v : Int) (M' : zM), (187 - v).toNat = n → 0 ≤ v ∧ v ≤ 187 → (∀ k i, ¬ (k = 27 ∧ i = 0) → M' k i = M2 k i) → (∀ j, 0 ≤ j ∧ j < v → M' 27 0 j = M2 48 0 j) → LX9_tell_24 l (rR (qn (tRd (ytb A) (ytn A)).2, yNo (yTape A 0 (ytb A)) (tRd (ytb A) (ytn A)).2) M) v M' := by
      intro n
      induction n with
      | zero =>
        intro v M' hn hv f e
        have ev : v = 187 := by omega
        subst ev
        have nw := mV_copy (M := sw M2) (M' := M') (k := 27) (k' := 27) (o := 0) (o' := 0) (fun j hj => by rw [Int.zero_add, sw_at]; exact e j hj) rs2.1.1
        have H := T.1.hall f nw.1 (nw.2.trans rs2.1.2)
        refine vX9_tell_24 ⟨by omega, fun _ => ?_, fun q => by omega⟩
        intro M3 q3
        refine ⟨?_, mSy.forget H (by rw [f 9 0 (by decide)]; exact T.2) q3, fun k i hk => ?_⟩
        · rw [q3, zu_k (by decide)]
          exact (mv_at nw.1 (nw.2.trans rs2.1.2)).2.2.1 0 (by omega)
        · rw [q3, zu_k (fun q => hk (by unfold isMd; omega)), f k i (fun q => hk (by unfold isMd; omega))]
          exact md2 k i hk
      | succ n ih =>
        intro v M' hn hv f e
        refine vX9_tell_24 ⟨by omega, fun q => by omega, fun _ => ⟨by omega, ?_⟩⟩
        rintro M3 q3
        refine ih (v + 1) M3 (by omega) (by omega) (fun k i hk => by rw [q3, zu_o k i hk]; exact f k i hk) fun j hj => ?_
        rw [q3, zu_at]
        by_cases z : j = v
        · rw [if_pos z, f 48 0 (by decide), z]
        · rw [if_neg z]
          exact e j (by omega)
    exact loop _ 0 M2 rfl (by omega) (fun _ _ _ => rfl) (fun j hj => by omega)
  · rw [if_neg c]
    have x0 : x = 0 := by rw [ex, zb_f c]
    refine ⟨by omega, fun q => absurd x0 q, fun _ => ⟨?_, T, md2⟩⟩
    rw [q2, zu_at, if_neg (by decide), k38 c]
end
