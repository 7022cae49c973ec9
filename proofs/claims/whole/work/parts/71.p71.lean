/-! ===== tell: the reference's words ===== -/
section
variable {l : Launch} {M : zM} {b : Int → Int} {n : Int}
def LX9_isWord_22 (l : Launch) (P : Int → zM → Prop) (s1 : Nat) (v2 : Int) (v3 : Int) (M : zM) : Prop := AW l m_X9_isWord (zTi m_X9_isWord P) 22 [(0, zr 9 0), (1, zr 61 s1), (2, zi v2), (3, zi v3)] [] M
theorem vX9_isWord_22 {l : Launch} {P : Int → zM → Prop} {s1 : Nat} {v2 : Int} {v3 : Int} {M : zM}
    (H0 : (zI v3 ∧ zI ((zsLen.getD s1 0 : Nat) : Int) ∧ (((zsLen.getD s1 0 : Nat) : Int) ≤ v3 → ((v3 ≠ ((zsLen.getD s1 0 : Nat) : Int) → P 0 M) ∧ (v3 = ((zsLen.getD s1 0 : Nat) : Int) → (CI l m_X9_byteAt [zr 9 0, zi (v2 + v3)] M (fun x25 M22 => (zI x25 ∧ ((zJ x25 ∧ zJ 97 ∧ zJ 122) ∧ ((97 ≤ x25 ∧ x25 ≤ 122 → P 0 M22) ∧ (¬ (97 ≤ x25 ∧ x25 ≤ 122) → P 1 M22))))))))) ∧ (v3 < ((zsLen.getD s1 0 : Nat) : Int) → (CI l m_X9_byteAt [zr 9 0, zi (v2 + v3)] M (fun x37 M34 => ((s1 < 12 ∧ 0 ≤ v3 ∧ v3 < (zsLen.getD s1 0 : Nat)) ∧ (zI x37 ∧ zI (zsb s1 v3) ∧ (x37 ≠ (zsb s1 v3) → ((v3 ≠ ((zsLen.getD s1 0 : Nat) : Int) → P 0 M34) ∧ (v3 = ((zsLen.getD s1 0 : Nat) : Int) → (CI l m_X9_byteAt [zr 9 0, zi (v2 + v3)] M34 (fun x54 M51 => (zI x54 ∧ ((zJ x54 ∧ zJ 97 ∧ zJ 122) ∧ ((97 ≤ x54 ∧ x54 ≤ 122 → P 0 M51) ∧ (¬ (97 ≤ x54 ∧ x54 ≤ 122) → P 1 M51))))))))) ∧ (x37 = (zsb s1 v3) → LX9_isWord_22 l P s1 v2 (v3 + 1) M34)))))))) :
    LX9_isWord_22 l P s1 v2 v3 M :=
(aw_iload_n d_X9_isWord_22 rfl rfl 3 rfl
(aw_aload_n d_X9_isWord_23 rfl rfl 1 rfl (by decide)
(aw_TI (As := []) (st := [zi v3]) d_X9_isWord_24 rfl ct9_315 ⟨Nat.le_of_ble_eq_true rfl, Nat.le_of_ble_eq_true rfl⟩ rfl rfl (Nat.le_of_ble_eq_true rfl) (Nat.le_of_ble_eq_true rfl) (s_J0_length_8abf5) (fun _ _ hq => aw_eqs hq
(have z11 := H0.1; have z12 := H0.2.1; have e13 := H0.2.2; aw_icmp_ge d_X9_isWord_27 rfl rfl z11 z12 (fun c14 => have e16 := e13.1 c14; (aw_iload_n d_X9_isWord_51 rfl rfl 3 rfl
(aw_aload_n d_X9_isWord_52 rfl rfl 1 rfl (by decide)
(aw_TI (As := []) (st := [zi v3]) d_X9_isWord_53 rfl ct9_315 ⟨Nat.le_of_ble_eq_true rfl, Nat.le_of_ble_eq_true rfl⟩ rfl rfl (Nat.le_of_ble_eq_true rfl) (Nat.le_of_ble_eq_true rfl) (s_J0_length_8abf5) (fun _ _ hq => aw_eqs hq
(aw_icmp_ne d_X9_isWord_56 rfl rfl z11 z12 (fun c18 => have e20 := e16.1 c18; (aw_iconst d_X9_isWord_83 rfl
(aw_rz d_X9_isWord_84 rfl (by decide) e20))) (fun c19 => have e21 := e16.2 c19; (aw_aload_n d_X9_isWord_59 rfl rfl 0 rfl (by decide)
(aw_iload_n d_X9_isWord_60 rfl rfl 2 rfl
(aw_iload_n d_X9_isWord_61 rfl rfl 3 rfl
(aw_iadd d_X9_isWord_62 rfl
(aw_VI (As := [zi (v2 + v3)]) (st := []) d_X9_isWord_63 rfl cv9_384 ⟨Nat.le_of_ble_eq_true rfl, Nat.le_of_ble_eq_true rfl⟩ rfl rfl (Nat.le_of_ble_eq_true rfl) (Nat.le_of_ble_eq_true rfl) e21 (fun x25 M22 e23 => (have z26 := e23.1; have e27 := e23.2; (aw_i2l d_X9_isWord_66 rfl z26
(aw_ldc2 d_X9_isWord_67 rfl cl9_393
(aw_ldc2 d_X9_isWord_70 rfl cl9_395
(have z28 := e27.1; have e29 := e27.2; (aw_SI (As := [zl x25, zl 97, zl 122]) (st := []) d_X9_isWord_73 rfl cs9_82 ⟨Nat.le_of_ble_eq_true rfl, Nat.le_of_ble_eq_true rfl⟩ rfl rfl (Nat.le_of_ble_eq_true rfl) (Nat.le_of_ble_eq_true rfl) (s_X9_in z28) (fun _ _ hq => aw_eqs hq
(aw_if_ne d_X9_isWord_76 rfl rfl zb_I (fun c30 => have e32 := e29.1 (zb_n0 c30); (aw_iconst d_X9_isWord_83 rfl
(aw_rz d_X9_isWord_84 rfl (by decide) e32))) (fun c31 => have e33 := e29.2 (zb_0 c31); (aw_iconst d_X9_isWord_79 rfl
(aw_goto d_X9_isWord_80 rfl
(aw_rz d_X9_isWord_84 rfl (by decide) e33))))))))))))))))))))))))) (fun c15 => have e17 := e13.2 c15; (aw_aload_n d_X9_isWord_30 rfl rfl 0 rfl (by decide)
(aw_iload_n d_X9_isWord_31 rfl rfl 2 rfl
(aw_iload_n d_X9_isWord_32 rfl rfl 3 rfl
(aw_iadd d_X9_isWord_33 rfl
(aw_VI (As := [zi (v2 + v3)]) (st := []) d_X9_isWord_34 rfl cv9_384 ⟨Nat.le_of_ble_eq_true rfl, Nat.le_of_ble_eq_true rfl⟩ rfl rfl (Nat.le_of_ble_eq_true rfl) (Nat.le_of_ble_eq_true rfl) e17 (fun x37 M34 e35 => (aw_aload_n d_X9_isWord_37 rfl rfl 1 rfl (by decide)
(aw_iload_n d_X9_isWord_38 rfl rfl 3 rfl
(have z38 := e35.1; have e39 := e35.2; (aw_TI (As := [zi v3]) (st := [zi x37]) d_X9_isWord_39 rfl ct9_320 ⟨Nat.le_of_ble_eq_true rfl, Nat.le_of_ble_eq_true rfl⟩ rfl rfl (Nat.le_of_ble_eq_true rfl) (Nat.le_of_ble_eq_true rfl) (s_J0_charAt_5068e z38) (fun _ _ hq => aw_eqs hq
(have z40 := e39.1; have z41 := e39.2.1; have e42 := e39.2.2; aw_icmp_ne d_X9_isWord_42 rfl rfl z40 z41 (fun c43 => have e45 := e42.1 c43; (aw_iload_n d_X9_isWord_51 rfl rfl 3 rfl
(aw_aload_n d_X9_isWord_52 rfl rfl 1 rfl (by decide)
(aw_TI (As := []) (st := [zi v3]) d_X9_isWord_53 rfl ct9_315 ⟨Nat.le_of_ble_eq_true rfl, Nat.le_of_ble_eq_true rfl⟩ rfl rfl (Nat.le_of_ble_eq_true rfl) (Nat.le_of_ble_eq_true rfl) (s_J0_length_8abf5) (fun _ _ hq => aw_eqs hq
(aw_icmp_ne d_X9_isWord_56 rfl rfl z11 z12 (fun c47 => have e49 := e45.1 c47; (aw_iconst d_X9_isWord_83 rfl
(aw_rz d_X9_isWord_84 rfl (by decide) e49))) (fun c48 => have e50 := e45.2 c48; (aw_aload_n d_X9_isWord_59 rfl rfl 0 rfl (by decide)
(aw_iload_n d_X9_isWord_60 rfl rfl 2 rfl
(aw_iload_n d_X9_isWord_61 rfl rfl 3 rfl
(aw_iadd d_X9_isWord_62 rfl
(aw_VI (As := [zi (v2 + v3)]) (st := []) d_X9_isWord_63 rfl cv9_384 ⟨Nat.le_of_ble_eq_true rfl, Nat.le_of_ble_eq_true rfl⟩ rfl rfl (Nat.le_of_ble_eq_true rfl) (Nat.le_of_ble_eq_true rfl) e50 (fun x54 M51 e52 => (have z55 := e52.1; have e56 := e52.2; (aw_i2l d_X9_isWord_66 rfl z55
(aw_ldc2 d_X9_isWord_67 rfl cl9_393
(aw_ldc2 d_X9_isWord_70 rfl cl9_395
(have z57 := e56.1; have e58 := e56.2; (aw_SI (As := [zl x54, zl 97, zl 122]) (st := []) d_X9_isWord_73 rfl cs9_82 ⟨Nat.le_of_ble_eq_true rfl, Nat.le_of_ble_eq_true rfl⟩ rfl rfl (Nat.le_of_ble_eq_true rfl) (Nat.le_of_ble_eq_true rfl) (s_X9_in z57) (fun _ _ hq => aw_eqs hq
(aw_if_ne d_X9_isWord_76 rfl rfl zb_I (fun c59 => have e61 := e58.1 (zb_n0 c59); (aw_iconst d_X9_isWord_83 rfl
(aw_rz d_X9_isWord_84 rfl (by decide) e61))) (fun c60 => have e62 := e58.2 (zb_0 c60); (aw_iconst d_X9_isWord_79 rfl
(aw_goto d_X9_isWord_80 rfl
(aw_rz d_X9_isWord_84 rfl (by decide) e62))))))))))))))))))))))))) (fun c44 => have e46 := e42.2 c44; (aw_iinc (lv' := [(3, zi (v3 + 1)), (0, zr 9 0), (1, zr 61 s1), (2, zi v2)]) (y := (v3 + 1)) d_X9_isWord_45 rfl 3 rfl (by decide) rfl rfl
(aw_goto d_X9_isWord_48 rfl
(aw_sub [1, 2, 3, 0] rfl e46))))))))))))))))))))))
theorem vX9_isWord {l : Launch} {P : Int → zM → Prop} {s1 : Nat} {M : zM}
    (H0 : (CI l m_X9_nextByte [zr 9 0] M (fun x4 M1 => (zI x4 ∧ (x4 ≠ (-1) → LX9_isWord_22 l P s1 (M1 9 0 37) 0 M1) ∧ (x4 = (-1) → LX9_isWord_22 l P s1 (M1 9 0 36) 0 M1))))) :
    CI l m_X9_isWord [zr 9 0, zr 61 s1] M P :=
(aw_aload_n d_X9_isWord_0 rfl rfl 0 rfl (by decide)
(aw_VI (As := []) (st := []) d_X9_isWord_1 rfl cv9_390 ⟨Nat.le_of_ble_eq_true rfl, Nat.le_of_ble_eq_true rfl⟩ rfl rfl (Nat.le_of_ble_eq_true rfl) (Nat.le_of_ble_eq_true rfl) H0 (fun x4 M1 e2 => (aw_iconst d_X9_isWord_4 rfl
(have z5 := e2.1; have e6 := e2.2; aw_icmp_ne d_X9_isWord_5 rfl rfl z5 (by decide) (fun c7 => have e9 := e6.1 c7; (aw_aload_n d_X9_isWord_15 rfl rfl 0 rfl (by decide)
(aw_getI (kc := 37) d_X9_isWord_16 rfl fl9_381 rfl rfl
(aw_istore_n (lv' := [(2, zi (M1 9 0 37)), (0, zr 9 0), (1, zr 61 s1)]) d_X9_isWord_19 rfl rfl (by decide) rfl
(aw_iconst d_X9_isWord_20 rfl
(aw_istore_n (lv' := [(3, zi 0), (2, zi (M1 9 0 37)), (0, zr 9 0), (1, zr 61 s1)]) d_X9_isWord_21 rfl rfl (by decide) rfl
(aw_sub [2, 3, 1, 0] rfl e9))))))) (fun c8 => have e10 := e6.2 c8; (aw_aload_n d_X9_isWord_8 rfl rfl 0 rfl (by decide)
(aw_getI (kc := 36) d_X9_isWord_9 rfl fl9_297 rfl rfl
(aw_goto d_X9_isWord_12 rfl
(aw_istore_n (lv' := [(2, zi (M1 9 0 36)), (0, zr 9 0), (1, zr 61 s1)]) d_X9_isWord_19 rfl rfl (by decide) rfl
(aw_iconst d_X9_isWord_20 rfl
(aw_istore_n (lv' := [(3, zi 0), (2, zi (M1 9 0 36)), (0, zr 9 0), (1, zr 61 s1)]) d_X9_isWord_21 rfl rfl (by decide) rfl
(aw_sub [2, 3, 1, 0] rfl e10)))))))))))))
theorem vX9_fails {l : Launch} {P : Int → zM → Prop} {v1 : Int} {v2 : Int} {M : zM}
    (H0 : (∀ M1 : zM, M1 = zu M 9 0 38 ((8 * v2) + v1) → P 0 M1)) :
    CI l m_X9_fails [zr 9 0, zi v1, zi v2] M P :=
(aw_aload_n d_X9_fails_0 rfl rfl 0 rfl (by decide)
(aw_bipush d_X9_fails_1 rfl (by decide)
(aw_iload_n d_X9_fails_3 rfl rfl 2 rfl
(aw_imul d_X9_fails_4 rfl
(aw_iload_n d_X9_fails_5 rfl rfl 1 rfl
(aw_iadd d_X9_fails_6 rfl
(have e2 := H0 _ rfl; aw_put (kc := 38) d_X9_fails_7 rfl fp9_387 rfl rfl rfl rfl
(aw_iconst d_X9_fails_10 rfl
(aw_rz d_X9_fails_11 rfl (by decide) e2)))))))))
theorem c_X9_fails {k w : Int} : CI l m_X9_fails [zr 9 0, zi k, zi w] M (fun x M' => x = 0 ∧ M' = zu M 9 0 38 (8 * w + k)) := vX9_fails fun M1 e => ⟨rfl, e⟩
theorem c_X9_isWord {s : Nat} (hs : s < 12) (h : mtX M b n) (hp : 0 ≤ M 9 0 37 ∧ M 9 0 37 ≤ n) : CI l m_X9_isWord [zr 9 0, zr 61 s] M (fun x M' => x = zb (isWd s b n (sk isB b n (M 9 0 37)) = true ∧ isL (bt b n (sk isB b n (M 9 0 37) + zl_ s)) = false) ∧ spF M M' ∧ M' 9 0 37 = sk isB b n (M 9 0 37)) := by
  have h1 := h.1
  have hl := zl_b hs
  have bI := sk_b (p := isB) (b := b) (n := n) _ (M 9 0 37) rfl hp.2
  have e : ((zsLen.getD s 0 : Nat) : Int) = zl_ s := rfl
  refine vX9_isWord ((c_X9_nextByte h hp).mono ?_)
  rintro x0 M1 ⟨ex0, f1, e1⟩
  generalize hi : sk isB b n (M 9 0 37) = i at *
  have hx := h.f f1
  have bb0 := mbt_b (i := i) h
  have fin : ∀ x : Int, x = bt b n (i + zl_ s) → (zI x ∧ ((zJ x ∧ zJ 97 ∧ zJ 122) ∧ ((97 ≤ x ∧ x ≤ 122 → (0 : Int) = zb (isL (bt b n (i + zl_ s)) = false)) ∧ (¬ (97 ≤ x ∧ x ≤ 122) → (1 : Int) = zb (isL (bt b n (i + zl_ s)) = false))))) := by
    intro x ex
    have bb := mbt_b (i := i + zl_ s) h
    rw [← ex] at bb ⊢
    unfold isL
    refine ⟨by omega, ⟨by omega, by omega, by omega⟩, fun c => ?_, fun c => ?_⟩
    · exact (zb_f (by rw [decide_eq_true c]; exact Bool.noConfusion)).symm
    · exact (zb_1 (decide_eq_false c)).symm
  have loop : ∀ (f : Nat) (k : Int), ((zl_ s : Int) - k).toNat = f → 0 ≤ k ∧ k ≤ zl_ s → LX9_isWord_22 l (fun x M' => x = zb (eqN s b n i f k = true ∧ isL (bt b n (i + zl_ s)) = false) ∧ spF M M' ∧ M' 9 0 37 = i) s i k M1 := by
    intro f
    induction f with
    | zero =>
      intro k hf hk
      refine vX9_isWord_22 ?_
      rw [e]
      have ek : k = zl_ s := by omega
      have e3 : zb (eqN s b n i 0 k = true ∧ isL (bt b n (i + zl_ s)) = false) = zb (isL (bt b n (i + zl_ s)) = false) := by
        by_cases q : isL (bt b n (i + zl_ s)) = false
        · rw [zb_1 q, zb_1 (⟨rfl, q⟩ : eqN s b n i 0 k = true ∧ isL (bt b n (i + zl_ s)) = false)]
        · rw [zb_f q, zb_f (fun r : eqN s b n i 0 k = true ∧ isL (bt b n (i + zl_ s)) = false => q r.2)]
      rw [e3]
      refine ⟨by omega, by omega, fun _ => ⟨fun c => absurd ek c, fun _ => (c_X9_byteAt hx (by omega) (by omega)).mono ?_⟩, fun c => by omega⟩
      rintro x M2 ⟨ex, rfl⟩
      have fx := fin x (by rw [ex, ek])
      exact ⟨fx.1, fx.2.1, fun c => ⟨fx.2.2.1 c, f1, e1⟩, fun c => ⟨fx.2.2.2 c, f1, e1⟩⟩
    | succ f ih =>
      intro k hf hk
      refine vX9_isWord_22 ?_
      rw [e]
      refine ⟨by omega, by omega, fun c => by omega, fun _ => (c_X9_byteAt hx (by omega) (by omega)).mono ?_⟩
      rintro x M2 ⟨ex, rfl⟩
      have bb := mbt_b (i := i + k) h
      refine ⟨⟨hs, by omega, by omega⟩, by omega, zsb_z, fun c => ⟨fun _ => ⟨(zb_f ?_).symm, f1, e1⟩, fun c2 => by omega⟩, fun c => ?_⟩
      · rintro ⟨q, -⟩
        rw [eqN, decide_eq_false (by rw [← ex]; exact c), Bool.false_and] at q
        exact Bool.noConfusion q
      · have e2 : eqN s b n i (f + 1) k = eqN s b n i f (k + 1) := by
          rw [eqN, decide_eq_true (by rw [← ex]; exact c), Bool.true_and]
        rw [e2]
        exact ih (k + 1) (by omega) (by omega)
  have go := loop (zl_ s) 0 (by omega) (by omega)
  have e9 : M1 9 0 36 = n := hx.1.1
  refine ⟨by omega, fun c => by rw [e1]; exact go, fun c => ?_⟩
  have ei : i = n := by
    rw [ex0] at c
    unfold bt at c
    by_cases q : 0 ≤ i ∧ i < n
    · rw [if_pos q] at c
      have := (h.2 i q).2
      omega
    · omega
  rw [show M1 9 0 36 = i from e9.trans ei.symm]
  exact go
end
