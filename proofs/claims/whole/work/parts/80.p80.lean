/-! ===== tell: the reference reads units ===== -/
/-- the row that is read, as if it were the hall's -/
def sw (M : zM) : zM := fun k i j => if k = 27 then M 48 i j else M k i j
theorem sw_at (M : zM) (j : Int) : sw M 27 0 j = M 48 0 j := if_pos rfl
def rdF (M M' : zM) : Prop := (∀ k i, k ≠ 9 → k ≠ 48 → M' k i = M k i) ∧ (∀ j, ¬ (37 ≤ j ∧ j ≤ 43) → M' 9 0 j = M 9 0 j)
theorem rdF.rf {M : zM} : rdF M M := ⟨fun _ _ _ _ => rfl, fun _ _ => rfl⟩
theorem rdF.tr {M M1 M2 : zM} (a : rdF M M1) (b : rdF M1 M2) : rdF M M2 := ⟨fun k i h h' => (b.1 k i h h').trans (a.1 k i h h'), fun j h => (b.2 j h).trans (a.2 j h)⟩
theorem rnF.rd {M M' : zM} (f : rnF M M') : rdF M M' := ⟨fun k i h _ => f.1 k i h, fun j h => f.2 j (by omega)⟩
theorem rdF.fl {M M' : zM} {j x : Int} (e : M' = zu M 9 0 j x) (h : 37 ≤ j ∧ j ≤ 43) : rdF M M' := ⟨fun k i hk _ => by rw [e, zu_k hk], fun j' h' => by rw [e, zu_at, if_neg (by omega)]⟩
theorem rdF.ro {M M' : zM} {j x : Int} (e : M' = zu M 48 0 j x) : rdF M M' := ⟨fun k i _ hk => by rw [e, zu_k hk], fun j' _ => by rw [e, zu_k (by decide)]⟩
theorem mtX.rd {M M' : zM} {b : Int → Int} {n : Int} (h : mtX M b n) (f : rdF M M') : mtX M' b n := by
  refine ⟨by rw [f.2 36 (by omega)]; exact h.1, fun i hi => ?_⟩
  rw [f.1 47 0 (by decide) (by decide)]
  exact h.2 i hi
/-- the hall read so far -/
def rdS (M : zM) (S : zS) : Prop := (mW (sw M) 27 0 ∧ mV (sw M) 27 0 = S) ∧ ∀ j, 9 * qn S ≤ j ∧ j < 180 → M 48 0 j = 0
theorem rdS.eq {M M' : zM} {S : zS} (h : rdS M S) (e : M' 48 0 = M 48 0) : rdS M' S := by
  have c := mV_copy (M := sw M) (M' := sw M') (k := 27) (k' := 27) (o := 0) (o' := 0) (fun j _ => by rw [sw_at, sw_at, e]) h.1.1
  exact ⟨⟨c.1, c.2.trans h.1.2⟩, fun j hj => by rw [e]; exact h.2 j hj⟩
section
variable {l : Launch} {M0 : zM} {b : Int → Int} {n kk : Int}
theorem c_X9_fl {M : zM} {k w : Int} {P : Int → zM → Prop} (K : ∀ M', M' = zu M 9 0 38 (8 * w + k) → P 0 M') : CI l m_X9_fails [zr 9 0, zi k, zi w] M (fun x M' => (x = 0 ∨ x = 1) ∧ P x M') := by
  refine c_X9_fails.mono ?_
  rintro x M' ⟨rfl, e⟩
  exact ⟨.inl rfl, K M' e⟩
def LX9_readsUnits_0 (l : Launch) (P : Int → zM → Prop) (v1 : Int) (v2 : Int) (M : zM) : Prop := AW l m_X9_readsUnits (zTi m_X9_readsUnits P) 0 [(0, zr 9 0), (1, zi v1), (2, zi v2)] [] M
theorem vX9_readsUnits_0 {l : Launch} {P : Int → zM → Prop} {v1 : Int} {v2 : Int} {M : zM}
    (H0 : (CI l m_X9_isDigit [zr 9 0] M (fun x4 M1 => (zI x4 ∧ (x4 = 0 → P 1 M1) ∧ (x4 ≠ 0 → ((0 ≤ (v1 + 2) ∧ (v1 + 2) < 187) ∧ (CI l m_X9_readsNumber [zr 9 0, zi 0, zi 9999] M1 (fun x16 M13 => (zI x16 ∧ (x16 ≠ 0 → (zI (M1 48 0 (v1 + 2)) ∧ ((M1 48 0 (v1 + 2)) ≤ 0 → (((M1 48 0 (v1 + 2)) ≠ 4 → ((0 ≤ ((v1 + 3) + (M1 48 0 (v1 + 2))) ∧ ((v1 + 3) + (M1 48 0 (v1 + 2))) < 187) ∧ ∀ M34 : zM, M34 = zu M13 48 0 ((v1 + 3) + (M1 48 0 (v1 + 2))) (M13 9 0 39) → (∀ M36 : zM, M36 = zu M34 48 0 (v1 + 2) ((M34 48 0 (v1 + 2)) + 1) → LX9_readsUnits_0 l P v1 v2 M36))) ∧ ((M1 48 0 (v1 + 2)) = 4 → (CI l m_X9_fails [zr 9 0, zi 3, zi (M13 9 0 40)] M13 (fun x41 M38 => ((x41 = 0 ∨ x41 = 1) ∧ P x41 M38)))))) ∧ (0 < (M1 48 0 (v1 + 2)) → ((0 ≤ (((v1 + 3) + (M1 48 0 (v1 + 2))) - 1) ∧ (((v1 + 3) + (M1 48 0 (v1 + 2))) - 1) < 187) ∧ ((zI v2 ∧ zI (M13 48 0 (((v1 + 3) + (M1 48 0 (v1 + 2))) - 1)) ∧ zI (M13 9 0 39)) ∧ (((v2 ≠ 0 ∧ (M13 48 0 (((v1 + 3) + (M1 48 0 (v1 + 2))) - 1)) ≤ (M13 9 0 39)) ∨ (v2 = 0 ∧ (M13 9 0 39) ≤ (M13 48 0 (((v1 + 3) + (M1 48 0 (v1 + 2))) - 1))) → (((M1 48 0 (v1 + 2)) ≠ 4 → ((0 ≤ ((v1 + 3) + (M1 48 0 (v1 + 2))) ∧ ((v1 + 3) + (M1 48 0 (v1 + 2))) < 187) ∧ ∀ M55 : zM, M55 = zu M13 48 0 ((v1 + 3) + (M1 48 0 (v1 + 2))) (M13 9 0 39) → (∀ M57 : zM, M57 = zu M55 48 0 (v1 + 2) ((M55 48 0 (v1 + 2)) + 1) → LX9_readsUnits_0 l P v1 v2 M57))) ∧ ((M1 48 0 (v1 + 2)) = 4 → (CI l m_X9_fails [zr 9 0, zi 3, zi (M13 9 0 40)] M13 (fun x62 M59 => ((x62 = 0 ∨ x62 = 1) ∧ P x62 M59)))))) ∧ (¬ ((v2 ≠ 0 ∧ (M13 48 0 (((v1 + 3) + (M1 48 0 (v1 + 2))) - 1)) ≤ (M13 9 0 39)) ∨ (v2 = 0 ∧ (M13 9 0 39) ≤ (M13 48 0 (((v1 + 3) + (M1 48 0 (v1 + 2))) - 1)))) → (CI l m_X9_fails [zr 9 0, zi 2, zi (M13 9 0 40)] M13 (fun x66 M63 => ((x66 = 0 ∨ x66 = 1) ∧ P x66 M63)))))))))) ∧ (x16 = 0 → P 0 M13)))))))))) :
    LX9_readsUnits_0 l P v1 v2 M :=
(aw_aload_n d_X9_readsUnits_0 rfl rfl 0 rfl (by decide)
(aw_VI (As := []) (st := []) d_X9_readsUnits_1 rfl cv9_401 ⟨Nat.le_of_ble_eq_true rfl, Nat.le_of_ble_eq_true rfl⟩ rfl rfl (Nat.le_of_ble_eq_true rfl) (Nat.le_of_ble_eq_true rfl) H0 (fun x4 M1 e2 => (have z5 := e2.1; have e6 := e2.2; aw_if_eq d_X9_readsUnits_4 rfl rfl z5 (fun c7 => have e9 := e6.1 c7; (aw_iconst d_X9_readsUnits_110 rfl
(aw_rz d_X9_readsUnits_111 rfl (by decide) e9))) (fun c8 => have e10 := e6.2 c8; (aw_aload_n d_X9_readsUnits_7 rfl rfl 0 rfl (by decide)
(aw_getR (k' := 48) (a := 0) (b := 0) (j := 0) d_X9_readsUnits_8 rfl fl9_75 rfl zj0 ⟨by decide, fun _ => by decide⟩
(aw_iload_n d_X9_readsUnits_11 rfl rfl 1 rfl
(aw_iconst d_X9_readsUnits_12 rfl
(aw_iadd d_X9_readsUnits_13 rfl
(have z11 := e10.1; have e12 := e10.2; (aw_iald d_X9_readsUnits_14 rfl za48 z11
(aw_istore_n (lv' := [(3, zi (M1 48 0 (v1 + 2))), (0, zr 9 0), (1, zi v1), (2, zi v2)]) d_X9_readsUnits_15 rfl rfl (by decide) rfl
(aw_aload_n d_X9_readsUnits_16 rfl rfl 1 rfl (by decide)
(aw_iconst d_X9_readsUnits_17 rfl
(aw_sipush d_X9_readsUnits_18 rfl (by decide)
(aw_VI (As := [zi 0, zi 9999]) (st := []) d_X9_readsUnits_21 rfl cv9_415 ⟨Nat.le_of_ble_eq_true rfl, Nat.le_of_ble_eq_true rfl⟩ rfl rfl (Nat.le_of_ble_eq_true rfl) (Nat.le_of_ble_eq_true rfl) e12 (fun x16 M13 e14 => (have z17 := e14.1; have e18 := e14.2; aw_if_ne d_X9_readsUnits_24 rfl rfl z17 (fun c19 => have e21 := e18.1 c19; (aw_iload_n d_X9_readsUnits_29 rfl rfl 0 rfl
(have z23 := e21.1; have e24 := e21.2; aw_if_le d_X9_readsUnits_30 rfl rfl z23 (fun c25 => have e27 := e24.1 c25; (aw_iload_n d_X9_readsUnits_66 rfl rfl 0 rfl
(aw_iconst d_X9_readsUnits_67 rfl
(aw_icmp_ne d_X9_readsUnits_68 rfl rfl z23 (by decide) (fun c29 => have e31 := e27.1 c29; (aw_aload_n d_X9_readsUnits_81 rfl rfl 1 rfl (by decide)
(aw_getR (k' := 48) (a := 0) (b := 0) (j := 0) d_X9_readsUnits_82 rfl fl9_75 rfl zj0 ⟨by decide, fun _ => by decide⟩
(aw_iload_n d_X9_readsUnits_85 rfl rfl 2 rfl
(aw_iconst d_X9_readsUnits_86 rfl
(aw_iadd d_X9_readsUnits_87 rfl
(aw_iload_n d_X9_readsUnits_88 rfl rfl 0 rfl
(aw_iadd d_X9_readsUnits_89 rfl
(aw_aload_n d_X9_readsUnits_90 rfl rfl 1 rfl (by decide)
(aw_getI (kc := 39) d_X9_readsUnits_91 rfl fl9_411 rfl rfl
(have z33 := e31.1; have e35 := e31.2 _ rfl; aw_iast d_X9_readsUnits_94 rfl za48 z33
(aw_aload_n d_X9_readsUnits_95 rfl rfl 1 rfl (by decide)
(aw_getR (k' := 48) (a := 0) (b := 0) (j := 0) d_X9_readsUnits_96 rfl fl9_75 rfl zj0 ⟨by decide, fun _ => by decide⟩
(aw_iload_n d_X9_readsUnits_99 rfl rfl 2 rfl
(aw_iconst d_X9_readsUnits_100 rfl
(aw_iadd d_X9_readsUnits_101 rfl
(aw_dup2 d_X9_readsUnits_102 rfl rfl rfl
(aw_iald d_X9_readsUnits_103 rfl za48 z11
(aw_iconst d_X9_readsUnits_104 rfl
(aw_iadd d_X9_readsUnits_105 rfl
(have e37 := e35 _ rfl; aw_iast d_X9_readsUnits_106 rfl za48 z11
(aw_goto d_X9_readsUnits_107 rfl
(aw_sub [1, 2, 3] rfl e37))))))))))))))))))))))) (fun c30 => have e32 := e27.2 c30; (aw_aload_n d_X9_readsUnits_71 rfl rfl 1 rfl (by decide)
(aw_iconst d_X9_readsUnits_72 rfl
(aw_aload_n d_X9_readsUnits_73 rfl rfl 1 rfl (by decide)
(aw_getI (kc := 40) d_X9_readsUnits_74 rfl fl9_408 rfl rfl
(aw_VI (As := [zi 3, zi (M13 9 0 40)]) (st := []) d_X9_readsUnits_77 rfl cv9_405 ⟨Nat.le_of_ble_eq_true rfl, Nat.le_of_ble_eq_true rfl⟩ rfl rfl (Nat.le_of_ble_eq_true rfl) (Nat.le_of_ble_eq_true rfl) e32 (fun x41 M38 e39 => (aw_rz d_X9_readsUnits_80 rfl e39.1 e39.2)))))))))))) (fun c26 => have e28 := e24.2 c26; (aw_iload_n d_X9_readsUnits_33 rfl rfl 3 rfl
(aw_aload_n d_X9_readsUnits_34 rfl rfl 1 rfl (by decide)
(aw_getR (k' := 48) (a := 0) (b := 0) (j := 0) d_X9_readsUnits_35 rfl fl9_75 rfl zj0 ⟨by decide, fun _ => by decide⟩
(aw_iload_n d_X9_readsUnits_38 rfl rfl 2 rfl
(aw_iconst d_X9_readsUnits_39 rfl
(aw_iadd d_X9_readsUnits_40 rfl
(aw_iload_n d_X9_readsUnits_41 rfl rfl 0 rfl
(aw_iadd d_X9_readsUnits_42 rfl
(aw_iconst d_X9_readsUnits_43 rfl
(aw_isub d_X9_readsUnits_44 rfl
(have z42 := e28.1; have e43 := e28.2; (aw_iald d_X9_readsUnits_45 rfl za48 z42
(aw_aload_n d_X9_readsUnits_46 rfl rfl 1 rfl (by decide)
(aw_getI (kc := 39) d_X9_readsUnits_47 rfl fl9_411 rfl rfl
(have z44 := e43.1; have e45 := e43.2; (aw_SI (As := [zi v2, zi (M13 48 0 (((v1 + 3) + (M1 48 0 (v1 + 2))) - 1)), zi (M13 9 0 39)]) (st := []) d_X9_readsUnits_50 rfl cs9_368 ⟨Nat.le_of_ble_eq_true rfl, Nat.le_of_ble_eq_true rfl⟩ rfl rfl (Nat.le_of_ble_eq_true rfl) (Nat.le_of_ble_eq_true rfl) (s_X9_mayFollow z44) (fun _ _ hq => aw_eqs hq
(aw_if_ne d_X9_readsUnits_53 rfl rfl zb_I (fun c46 => have e48 := e45.1 (zb_n0 c46); (aw_iload_n d_X9_readsUnits_66 rfl rfl 0 rfl
(aw_iconst d_X9_readsUnits_67 rfl
(aw_icmp_ne d_X9_readsUnits_68 rfl rfl z23 (by decide) (fun c50 => have e52 := e48.1 c50; (aw_aload_n d_X9_readsUnits_81 rfl rfl 1 rfl (by decide)
(aw_getR (k' := 48) (a := 0) (b := 0) (j := 0) d_X9_readsUnits_82 rfl fl9_75 rfl zj0 ⟨by decide, fun _ => by decide⟩
(aw_iload_n d_X9_readsUnits_85 rfl rfl 2 rfl
(aw_iconst d_X9_readsUnits_86 rfl
(aw_iadd d_X9_readsUnits_87 rfl
(aw_iload_n d_X9_readsUnits_88 rfl rfl 0 rfl
(aw_iadd d_X9_readsUnits_89 rfl
(aw_aload_n d_X9_readsUnits_90 rfl rfl 1 rfl (by decide)
(aw_getI (kc := 39) d_X9_readsUnits_91 rfl fl9_411 rfl rfl
(have z54 := e52.1; have e56 := e52.2 _ rfl; aw_iast d_X9_readsUnits_94 rfl za48 z54
(aw_aload_n d_X9_readsUnits_95 rfl rfl 1 rfl (by decide)
(aw_getR (k' := 48) (a := 0) (b := 0) (j := 0) d_X9_readsUnits_96 rfl fl9_75 rfl zj0 ⟨by decide, fun _ => by decide⟩
(aw_iload_n d_X9_readsUnits_99 rfl rfl 2 rfl
(aw_iconst d_X9_readsUnits_100 rfl
(aw_iadd d_X9_readsUnits_101 rfl
(aw_dup2 d_X9_readsUnits_102 rfl rfl rfl
(aw_iald d_X9_readsUnits_103 rfl za48 z11
(aw_iconst d_X9_readsUnits_104 rfl
(aw_iadd d_X9_readsUnits_105 rfl
(have e58 := e56 _ rfl; aw_iast d_X9_readsUnits_106 rfl za48 z11
(aw_goto d_X9_readsUnits_107 rfl
(aw_sub [1, 2, 3] rfl e58))))))))))))))))))))))) (fun c51 => have e53 := e48.2 c51; (aw_aload_n d_X9_readsUnits_71 rfl rfl 1 rfl (by decide)
(aw_iconst d_X9_readsUnits_72 rfl
(aw_aload_n d_X9_readsUnits_73 rfl rfl 1 rfl (by decide)
(aw_getI (kc := 40) d_X9_readsUnits_74 rfl fl9_408 rfl rfl
(aw_VI (As := [zi 3, zi (M13 9 0 40)]) (st := []) d_X9_readsUnits_77 rfl cv9_405 ⟨Nat.le_of_ble_eq_true rfl, Nat.le_of_ble_eq_true rfl⟩ rfl rfl (Nat.le_of_ble_eq_true rfl) (Nat.le_of_ble_eq_true rfl) e53 (fun x62 M59 e60 => (aw_rz d_X9_readsUnits_80 rfl e60.1 e60.2)))))))))))) (fun c47 => have e49 := e45.2 (zb_0 c47); (aw_aload_n d_X9_readsUnits_56 rfl rfl 1 rfl (by decide)
(aw_iconst d_X9_readsUnits_57 rfl
(aw_aload_n d_X9_readsUnits_58 rfl rfl 1 rfl (by decide)
(aw_getI (kc := 40) d_X9_readsUnits_59 rfl fl9_408 rfl rfl
(aw_VI (As := [zi 2, zi (M13 9 0 40)]) (st := []) d_X9_readsUnits_62 rfl cv9_405 ⟨Nat.le_of_ble_eq_true rfl, Nat.le_of_ble_eq_true rfl⟩ rfl rfl (Nat.le_of_ble_eq_true rfl) (Nat.le_of_ble_eq_true rfl) e49 (fun x66 M63 e64 => (aw_rz d_X9_readsUnits_65 rfl e64.1 e64.2)))))))))))))))))))))))))))))) (fun c20 => have e22 := e18.2 c20; (aw_iconst d_X9_readsUnits_27 rfl
(aw_rz d_X9_readsUnits_28 rfl (by decide) e22))))))))))))))))))))))
theorem vX9_readsUnits {l : Launch} {P : Int → zM → Prop} {v1 : Int} {v2 : Int} {M : zM}
    (H0 : LX9_readsUnits_0 l P v1 v2 M) :
    CI l m_X9_readsUnits [zr 9 0, zi v1, zi v2] M P :=
H0
def uQ (M0 M' : zM) (hf hl x : Int) (r : Int × zS × Int) : Prop := x = zb (r.1 = 0) ∧ rdF M0 M' ∧ (r.1 ≠ 0 → M' 9 0 38 = r.1) ∧ (r.1 = 0 → rdS M' r.2.1 ∧ M' 9 0 42 = hf ∧ M' 9 0 43 = hl ∧ M' 9 0 37 = r.2.2)
theorem c_X9_rUnits {t s hf hl : Int} (hs : s = 0 ∨ s = 1) : ∀ (f : Nat) (u : Int) (M : zM) (S : zS), u + f = 5 → 1 ≤ f → mtX M b n → rdF M0 M → rdS M S → M 9 0 42 = hf → M 9 0 43 = hl → (0 ≤ M 9 0 37 ∧ M 9 0 37 ≤ n) → wfS kk S → (0 ≤ t ∧ t < qn S) → qun S t = u → qsl S t = s →
    LX9_readsUnits_0 l (fun x M' => uQ M0 M' hf hl x (tU b n t f u S (sk isB b n (M 9 0 37)))) (9 * t) s M := by
  intro f
  induction f with
  | zero =>
    intro u M S _ h1
    omega
  | succ f ih =>
    intro u M S hu _ hx fr rs a42 a43 hp w ht hun hsl
    have h1 := hx.1
    have hn := w.1
    have hun2 := (w.2.2.2.2.2.1 t ht).2.2.1
    have B0 := sk_b (p := isB) (b := b) (n := n) _ (M 9 0 37) rfl hp.2
    refine vX9_readsUnits_0 ((c_X9_isDigit hx hp).mono ?_)
    rintro x M1 ⟨ex, f1, e1⟩
    have hb := sk_sk (p := isB) (b := b) hp.2
    generalize sk isB b n (M 9 0 37) = p at *
    have fr1 := fr.tr f1.rn.rd
    have hx1 := hx.f f1
    have b42 : M1 9 0 42 = hf := (f1.2 42 (by decide)).trans a42
    have b43 : M1 9 0 43 = hl := (f1.2 43 (by decide)).trans a43
    have rs1 : rdS M1 S := rs.eq (by rw [f1.1 48 0 (by decide)])
    refine ⟨by rw [ex]; exact zb_I, fun c => ?_, fun c => ?_⟩
    · rw [ex] at c
      have nd := zb_0 c
      have e : tU b n t (f + 1) u S p = (0, S, p) := by rw [tU, if_pos (Bool.eq_false_iff.mpr nd)]
      rw [e]
      exact ⟨(zb_1 rfl).symm, fr1, fun q => absurd rfl q, fun _ => ⟨rs1, b42, b43, e1⟩⟩
    · rw [ex] at c
      have dg := zb_n0 c
      have hp' : 0 ≤ p ∧ p ≤ n := by omega
      have N := nm_d dg hp' hb
      have V := nmV_nn (b := b) (n := n) (p := p)
      have eU : tU b n t (f + 1) u S p = if 9999 < nmV b n p then (8 * p + 2, S, nmQ b n p) else if ¬ fitP S t u (nmV b n p) then (8 * p + 2, S, nmQ b n p) else if 4 ≤ u then (8 * p + 3, S, nmQ b n p) else tU b n t f (u + 1) (sAdd S t (nmV b n p)) (sk isB b n (nmQ b n p)) := by
        rw [tU, if_neg (by rw [dg]; exact Bool.noConfusion)]
      obtain ⟨z, n0, g0, g1, g3⟩ := mv_at rs1.1.1 rs1.1.2
      have eu : M1 48 0 (9 * t + 2) = u := by
        have q := (g1 t ht).2.2.2.2.1
        rw [sw_at] at q
        rw [q]
        exact hun
      refine ⟨by omega, (c_X9_readsNumber hx1 (by omega) (by omega)).mono ?_⟩
      rw [e1, N.2.1, eu]
      rintro y M2 ⟨ey, f2, e37, e38, e40⟩
      have E40 := e40 (by omega)
      rw [if_neg (by omega)] at e38
      have fr2 := fr1.tr f2.rd
      have hx2 := hx1.n f2
      have r48 : M2 48 0 = M1 48 0 := by rw [f2.1 48 0 (by decide)]
      refine ⟨by rw [ey]; exact zb_I, fun c2 => ?_, fun c2 => ?_⟩
      · rw [ey] at c2
        have ok := zb_n0 c2
        have big : ¬ 9999 < nmV b n p := by omega
        have E39 := E40.2 ok.2
        have mor : fitP S t u (nmV b n p) → u ≠ 4 → ((0 ≤ ((9 * t + 3) + u) ∧ ((9 * t + 3) + u) < 187) ∧ ∀ M34 : zM, M34 = zu M2 48 0 ((9 * t + 3) + u) (M2 9 0 39) → (∀ M36 : zM, M36 = zu M34 48 0 (9 * t + 2) ((M34 48 0 (9 * t + 2)) + 1) → LX9_readsUnits_0 l (fun x M' => uQ M0 M' hf hl x (tU b n t (f + 1) u S p)) (9 * t) s M36)) := by
          intro fit u4
          refine ⟨by omega, ?_⟩
          intro M3 q3 M4 q4
          have eN : tU b n t (f + 1) u S p = tU b n t f (u + 1) (sAdd S t (nmV b n p)) (sk isB b n (nmQ b n p)) := by rw [eU, if_neg big, if_neg (fun q => q fit), if_neg (by omega)]
          have r3 : M3 48 0 (9 * t + 2) = u := by rw [q3, zu_at, if_neg (by omega), r48]; exact eu
          have at4 : ∀ j, M4 48 0 j = if j = 9 * t + 2 then qun S t + 1 else if j = 9 * t + 3 + qun S t then nmV b n p else M1 48 0 j := by
            intro j
            rw [q4, zu_at, r3, q3, zu_at, E39, r48, hun]
          have F4 : rdF M2 M4 := (rdF.ro q3).tr (rdF.ro q4)
          have ad := m_add (M1 := sw M1) (M2 := sw M4) (v := nmV b n p) rs1.1.1 rs1.1.2 ht (by omega) (fun j => by rw [sw_at, sw_at]; exact at4 j)
          have s37 : M4 9 0 37 = nmQ b n p := by rw [q4, zu_k (by decide), q3, zu_k (by decide)]; exact e37
          have R := ih (u + 1) M4 (sAdd S t (nmV b n p)) (by omega) (by omega) (hx2.rd F4) (fr2.tr F4) ⟨ad, fun j hj => ?_⟩ ?_ ?_ (by omega) (wf_add w ht (by omega) (by omega) (by rw [hun]; exact fit)) ht ?_ hsl
          · rw [s37, ← eN] at R
            exact R
          · have hj' : 9 * qn S ≤ j ∧ j < 180 := hj
            rw [at4, if_neg (by omega), if_neg (by omega)]
            exact rs1.2 j hj'
          · rw [q4, zu_k (by decide), q3, zu_k (by decide)]
            exact (f2.2 42 (by omega)).trans b42
          · rw [q4, zu_k (by decide), q3, zu_k (by decide)]
            exact (f2.2 43 (by omega)).trans b43
          · show (if t = t then qun S t + 1 else qun S t) = u + 1
            rw [if_pos rfl, hun]
        have fl : ∀ k : Int, (k = 2 ∨ k = 3) → tU b n t (f + 1) u S p = (8 * p + k, S, nmQ b n p) → CI l m_X9_fails [zr 9 0, zi k, zi (M2 9 0 40)] M2 (fun x M' => (x = 0 ∨ x = 1) ∧ uQ M0 M' hf hl x (tU b n t (f + 1) u S p)) := by
          intro k hk e
          rw [e, E40.1]
          refine c_X9_fl fun M3 q3 => ?_
          refine ⟨(zb_f (show ¬ 8 * p + k = 0 by omega)).symm, fr2.tr (rdF.fl q3 (by omega)), fun _ => by rw [q3, zu_at, if_pos rfl], fun c => ?_⟩
          have c' : 8 * p + k = 0 := c
          omega
        have big4 : fitP S t u (nmV b n p) → u = 4 → tU b n t (f + 1) u S p = (8 * p + 3, S, nmQ b n p) := fun fit u4 => by rw [eU, if_neg big, if_neg (fun q => q fit), if_pos (by omega)]
        refine ⟨by omega, fun u0 => ⟨fun u4 => mor ?_ u4, fun u4 => by omega⟩, fun u0 => ⟨by omega, ?_, fun mf => ?_, fun mf => ?_⟩⟩
        · exact ⟨fun q => by have := q.2.2.1; omega, fun q => by have := q.2.2.2; omega⟩
        · have q := g3 t (u - 1) ⟨ht.1, ht.2, by omega, by omega⟩
          rw [sw_at, show 9 * t + (3 + (u - 1)) = 9 * t + 3 + u - 1 by omega, ← r48] at q
          have w2 := w.2.2.2.2.2.2.1 t (u - 1) ht ⟨by omega, by omega⟩
          exact ⟨by omega, by omega, by omega⟩
        · have q := g3 t (u - 1) ⟨ht.1, ht.2, by omega, by omega⟩
          rw [sw_at, show 9 * t + (3 + (u - 1)) = 9 * t + 3 + u - 1 by omega, ← r48] at q
          rw [q, E39] at mf
          have fit : fitP S t u (nmV b n p) := ⟨fun _ => ⟨fun q => by omega, fun q => by omega⟩, fun q => by have := q.2.2.2; omega⟩
          exact ⟨fun u4 => mor fit u4, fun u4 => fl 3 (.inr rfl) (big4 fit u4)⟩
        · have q := g3 t (u - 1) ⟨ht.1, ht.2, by omega, by omega⟩
          rw [sw_at, show 9 * t + (3 + (u - 1)) = 9 * t + 3 + u - 1 by omega, ← r48] at q
          rw [q, E39] at mf
          refine fl 2 (.inl rfl) ?_
          rw [eU, if_neg big, if_pos]
          intro fit
          have k := fit.1 ⟨ht.1, ht.2, by omega, by omega⟩
          rw [hsl] at k
          rcases hs with rfl | rfl
          · exact mf (.inr ⟨rfl, k.2 (by decide)⟩)
          · exact mf (.inl ⟨by decide, k.1 rfl⟩)
      · rw [ey] at c2
        have bad := zb_0 c2
        have big : 9999 < nmV b n p := by omega
        rw [if_pos big] at e38
        rw [eU, if_pos big]
        refine ⟨(zb_f (show ¬ 8 * p + 2 = 0 by omega)).symm, fr2, fun _ => e38, fun c => ?_⟩
        have c' : 8 * p + 2 = 0 := c
        omega
end
