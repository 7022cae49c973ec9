/-! ===== the class: units come and go, sums, copies ===== -/
def zsumN (f : Int → Int) : Nat → Int
  | 0 => 0
  | n + 1 => zsumN f n + f n
def zsum (f : Int → Int) (n : Int) : Int := zsumN f n.toNat
theorem zsum_0 {f : Int → Int} : zsum f 0 = 0 := rfl
theorem zsum_s {f : Int → Int} {n : Int} (h : 0 ≤ n) : zsum f (n + 1) = zsum f n + f n := by
  unfold zsum
  rw [show (n + 1).toNat = n.toNat + 1 by omega, zsumN, show ((n.toNat : Nat) : Int) = n by omega]
theorem zsum_congr {f g : Int → Int} {n : Int} (h : ∀ i, 0 ≤ i ∧ i < n → f i = g i) : zsum f n = zsum g n := by
  unfold zsum
  have key : ∀ m : Nat, (m : Int) ≤ n → zsumN f m = zsumN g m := by
    intro m
    induction m with
    | zero => intro _; rfl
    | succ m ih =>
      intro hm
      rw [zsumN, zsumN, ih (by omega), h m (by omega)]
  by_cases hn : 0 ≤ n
  · exact key n.toNat (by omega)
  · rw [show n.toNat = 0 by omega]; rfl
/-- the first of the first n + 1 with the greatest f -/
def zbest (f : Int → Int) : Nat → Int
  | 0 => 0
  | n + 1 => if f (zbest f n) < f (n + 1) then (n + 1 : Int) else zbest f n
theorem zbest_in (f : Int → Int) : ∀ n : Nat, 0 ≤ zbest f n ∧ zbest f n ≤ n
  | 0 => by simp [zbest]
  | n + 1 => by
    have ih := zbest_in f n
    rw [zbest]
    split <;> omega
/-- the first write of several kinds, read back -/
theorem zcp_at (M : zM) (k0 i0 k1 i1 : Nat) (n j : Int) : zcp M k0 i0 k1 i1 n k1 i1 j = if 0 ≤ j ∧ j < n then M k0 i0 j else M k1 i1 j := by
  unfold zcp
  by_cases h : 0 ≤ j ∧ j < n
  · rw [if_pos ⟨rfl, rfl, h.1, h.2⟩, if_pos h]
  · rw [if_neg (fun q => h ⟨q.2.2.1, q.2.2.2⟩), if_neg h]
theorem zcp_k {M : zM} {k0 i0 k1 i1 k i : Nat} {n : Int} (h : k ≠ k1) : zcp M k0 i0 k1 i1 n k i = M k i := by
  funext j
  exact if_neg fun q => h q.1
theorem zcp_i {M : zM} {k0 i0 k1 i1 k i : Nat} {n : Int} (h : i ≠ i1) : zcp M k0 i0 k1 i1 n k i = M k i := by
  funext j
  exact if_neg fun q => h q.2.1
theorem zu_i {M : zM} {k i k' i' : Nat} {j x : Int} (h : i' ≠ i) : zu M k i j x k' i' = M k' i' := zu_o k' i' fun q => h q.2
section
variable {l : Launch} {M : zM}
theorem vX1_append {l : Launch} {P : Int → zM → Prop} {h : Nat} {v1 : Int} {v2 : Int} {M : zM}
    (H0 : ((hW M h ∧ zI v1) ∧ ((hW M h ∧ zI v1) ∧ ((¬ (0 ≤ v1 ∧ v1 < M 1 h 6) → P (qun (hS M h) v1) M) ∧ (0 ≤ v1 ∧ v1 < M 1 h 6 → (zI (qun (hS M h) v1) ∧ ((qun (hS M h) v1) < 4 → ((0 ≤ v1 ∧ v1 < 20) ∧ ∀ M16 : zM, M16 = zu M 14 h v1 ((qun (hS M h) v1) + 1) → ((hW M16 h ∧ hU M16 h v1 (qun (hS M h) v1)) ∧ ∀ M19 : zM, M19 = zu M16 15 h (4 * v1 + (qun (hS M h) v1)) v2 → P (M19 14 h v1) M19))) ∧ (4 ≤ (qun (hS M h) v1) → P (qun (hS M h) v1) M))))))) :
    CI l m_X1_append [zr 1 h, zi v1, zi v2] M P :=
(aw_aload_n d_X1_append_0 rfl rfl 0 rfl (by decide)
(aw_iload_n d_X1_append_1 rfl rfl 1 rfl
(have z1 := H0.1; have e2 := H0.2; (aw_VI (As := [zi v1]) (st := []) d_X1_append_2 rfl cv1_78 ⟨Nat.le_of_ble_eq_true rfl, Nat.le_of_ble_eq_true rfl⟩ rfl rfl (Nat.le_of_ble_eq_true rfl) (Nat.le_of_ble_eq_true rfl) (s_X1_unitsOf z1) (fun _ _ hq => aw_eqs hq
(aw_istore_n (lv' := [(3, zi (qun (hS M h) v1)), (0, zr 1 h), (1, zi v1), (2, zi v2)]) d_X1_append_5 rfl rfl (by decide) rfl
(aw_aload_n d_X1_append_6 rfl rfl 1 rfl (by decide)
(aw_iload_n d_X1_append_7 rfl rfl 2 rfl
(have z3 := e2.1; have e4 := e2.2; (aw_VI (As := [zi v1]) (st := []) d_X1_append_8 rfl cv1_59 ⟨Nat.le_of_ble_eq_true rfl, Nat.le_of_ble_eq_true rfl⟩ rfl rfl (Nat.le_of_ble_eq_true rfl) (Nat.le_of_ble_eq_true rfl) (s_X1_has z3) (fun _ _ hq => aw_eqs hq
(aw_if_eq d_X1_append_11 rfl rfl zb_I (fun c5 => have e7 := e4.1 (zb_0 c5); (aw_iload_n d_X1_append_19 rfl rfl 0 rfl
(aw_ri d_X1_append_20 rfl e7))) (fun c6 => have e8 := e4.2 (zb_n0 c6); (aw_iload_n d_X1_append_14 rfl rfl 0 rfl
(aw_iconst d_X1_append_15 rfl
(have z9 := e8.1; have e10 := e8.2; aw_icmp_lt d_X1_append_16 rfl rfl z9 (by decide) (fun c11 => have e13 := e10.1 c11; (aw_aload_n d_X1_append_21 rfl rfl 1 rfl (by decide)
(aw_getR (k' := 14) (a := 1) (b := 0) (j := h) d_X1_append_22 rfl fl1_19 rfl zj1 ⟨by decide, fun h => h⟩
(aw_iload_n d_X1_append_25 rfl rfl 2 rfl
(aw_iload_n d_X1_append_26 rfl rfl 0 rfl
(aw_iconst d_X1_append_27 rfl
(aw_iadd d_X1_append_28 rfl
(have z15 := e13.1; have e17 := e13.2 _ rfl; aw_iast d_X1_append_29 rfl za14 z15
(aw_aload_n d_X1_append_30 rfl rfl 1 rfl (by decide)
(aw_iload_n d_X1_append_31 rfl rfl 2 rfl
(aw_iload_n d_X1_append_32 rfl rfl 0 rfl
(aw_iload_n d_X1_append_33 rfl rfl 3 rfl
(have z18 := e17.1; have e20 := e17.2 _ rfl; aw_VV (As := [zi v1, zi (qun (hS M h) v1), zi v2]) (st := []) d_X1_append_34 rfl cv1_82 ⟨Nat.le_of_ble_eq_true rfl, Nat.le_of_ble_eq_true rfl⟩ rfl rfl (Nat.le_of_ble_eq_true rfl) (Nat.le_of_ble_eq_true rfl) (s_X1_setSaid z18) (fun _ hq => aw_eqM hq
(aw_aload_n d_X1_append_37 rfl rfl 1 rfl (by decide)
(aw_getR (k' := 14) (a := 1) (b := 0) (j := h) d_X1_append_38 rfl fl1_19 rfl zj1 ⟨by decide, fun h => h⟩
(aw_iload_n d_X1_append_41 rfl rfl 2 rfl
(aw_iald d_X1_append_42 rfl za14 z15
(aw_ri d_X1_append_43 rfl e20))))))))))))))))))) (fun c12 => have e14 := e10.2 c12; (aw_iload_n d_X1_append_19 rfl rfl 0 rfl
(aw_ri d_X1_append_20 rfl e14)))))))))))))))))))
def LX1_dropFirst_28 (l : Launch) (P : zM → Prop) (h : Nat) (v1 : Int) (v2 : Int) (v3 : Int) (v4 : Int) (M : zM) : Prop := AW l m_X1_dropFirst (zTv m_X1_dropFirst P) 28 [(0, zr 1 h), (1, zi v1), (2, zi v2), (3, zi v3), (4, zi v4)] [] M
theorem vX1_dropFirst_28 {l : Launch} {P : zM → Prop} {h : Nat} {v1 : Int} {v2 : Int} {v3 : Int} {v4 : Int} {M : zM}
    (H0 : (zI v4 ∧ zI v3 ∧ (v3 ≤ v4 → ((0 ≤ v1 ∧ v1 < 20) ∧ ∀ M29 : zM, M29 = zu M 14 h v1 v3 → P M29)) ∧ (v4 < v3 → ((hW M h ∧ zI v1 ∧ zI (v4 + v2)) ∧ ((hW M h ∧ hU M h v1 v4) ∧ ∀ M34 : zM, M34 = zu M 15 h (4 * v1 + v4) (qsy (hS M h) v1 (v4 + v2)) → LX1_dropFirst_28 l P h v1 v2 v3 (v4 + 1) M34))))) :
    LX1_dropFirst_28 l P h v1 v2 v3 v4 M :=
(aw_iload d_X1_dropFirst_28 rfl 4 rfl
(aw_iload_n d_X1_dropFirst_30 rfl rfl 3 rfl
(have z21 := H0.1; have z22 := H0.2.1; have e23 := H0.2.2; aw_icmp_ge d_X1_dropFirst_31 rfl rfl z21 z22 (fun c24 => have e26 := e23.1 c24; (aw_aload_n d_X1_dropFirst_56 rfl rfl 0 rfl (by decide)
(aw_getR (k' := 14) (a := 1) (b := 0) (j := h) d_X1_dropFirst_57 rfl fl1_19 rfl zj1 ⟨by decide, fun h => h⟩
(aw_iload_n d_X1_dropFirst_60 rfl rfl 1 rfl
(aw_iload_n d_X1_dropFirst_61 rfl rfl 3 rfl
(have z28 := e26.1; have e30 := e26.2 _ rfl; aw_iast d_X1_dropFirst_62 rfl za14 z28
(aw_rv d_X1_dropFirst_63 rfl e30))))))) (fun c25 => have e27 := e23.2 c25; (aw_aload_n d_X1_dropFirst_34 rfl rfl 0 rfl (by decide)
(aw_iload_n d_X1_dropFirst_35 rfl rfl 1 rfl
(aw_iload d_X1_dropFirst_36 rfl 4 rfl
(aw_aload_n d_X1_dropFirst_38 rfl rfl 0 rfl (by decide)
(aw_iload_n d_X1_dropFirst_39 rfl rfl 1 rfl
(aw_iload d_X1_dropFirst_40 rfl 4 rfl
(aw_iload_n d_X1_dropFirst_42 rfl rfl 2 rfl
(aw_iadd d_X1_dropFirst_43 rfl
(have z31 := e27.1; have e32 := e27.2; (aw_VI (As := [zi v1, zi (v4 + v2)]) (st := [zi v4, zi v1, zr 1 h]) d_X1_dropFirst_44 rfl cv1_67 ⟨Nat.le_of_ble_eq_true rfl, Nat.le_of_ble_eq_true rfl⟩ rfl rfl (Nat.le_of_ble_eq_true rfl) (Nat.le_of_ble_eq_true rfl) (s_X1_said z31) (fun _ _ hq => aw_eqs hq
(have z33 := e32.1; have e35 := e32.2 _ rfl; aw_VV (As := [zi v1, zi v4, zi (qsy (hS M h) v1 (v4 + v2))]) (st := []) d_X1_dropFirst_47 rfl cv1_82 ⟨Nat.le_of_ble_eq_true rfl, Nat.le_of_ble_eq_true rfl⟩ rfl rfl (Nat.le_of_ble_eq_true rfl) (Nat.le_of_ble_eq_true rfl) (s_X1_setSaid z33) (fun _ hq => aw_eqM hq
(aw_iinc (lv' := [(4, zi (v4 + 1)), (0, zr 1 h), (1, zi v1), (2, zi v2), (3, zi v3)]) (y := (v4 + 1)) d_X1_dropFirst_50 rfl 4 rfl (by decide) rfl rfl
(aw_goto d_X1_dropFirst_53 rfl
(aw_sub [1, 2, 3, 4, 0] rfl e35))))))))))))))))))))
theorem vX1_dropFirst {l : Launch} {P : zM → Prop} {h : Nat} {v1 : Int} {v2 : Int} {M : zM}
    (H0 : ((hW M h ∧ zI v1) ∧ ((hW M h ∧ zI v1) ∧ ((¬ (0 ≤ v1 ∧ v1 < M 1 h 6) → P M) ∧ (0 ≤ v1 ∧ v1 < M 1 h 6 → (zI v2 ∧ (v2 < 0 → P M) ∧ (0 ≤ v2 → (zI ((qun (hS M h) v1) - v2) ∧ (0 ≤ ((qun (hS M h) v1) - v2) → LX1_dropFirst_28 l P h v1 v2 ((qun (hS M h) v1) - v2) 0 M) ∧ (((qun (hS M h) v1) - v2) < 0 → P M))))))))) :
    CV l m_X1_dropFirst [zr 1 h, zi v1, zi v2] M P :=
(aw_aload_n d_X1_dropFirst_0 rfl rfl 0 rfl (by decide)
(aw_iload_n d_X1_dropFirst_1 rfl rfl 1 rfl
(have z1 := H0.1; have e2 := H0.2; (aw_VI (As := [zi v1]) (st := []) d_X1_dropFirst_2 rfl cv1_78 ⟨Nat.le_of_ble_eq_true rfl, Nat.le_of_ble_eq_true rfl⟩ rfl rfl (Nat.le_of_ble_eq_true rfl) (Nat.le_of_ble_eq_true rfl) (s_X1_unitsOf z1) (fun _ _ hq => aw_eqs hq
(aw_iload_n d_X1_dropFirst_5 rfl rfl 2 rfl
(aw_isub d_X1_dropFirst_6 rfl
(aw_istore_n (lv' := [(3, zi ((qun (hS M h) v1) - v2)), (0, zr 1 h), (1, zi v1), (2, zi v2)]) d_X1_dropFirst_7 rfl rfl (by decide) rfl
(aw_aload_n d_X1_dropFirst_8 rfl rfl 1 rfl (by decide)
(aw_iload_n d_X1_dropFirst_9 rfl rfl 2 rfl
(have z3 := e2.1; have e4 := e2.2; (aw_VI (As := [zi v1]) (st := []) d_X1_dropFirst_10 rfl cv1_59 ⟨Nat.le_of_ble_eq_true rfl, Nat.le_of_ble_eq_true rfl⟩ rfl rfl (Nat.le_of_ble_eq_true rfl) (Nat.le_of_ble_eq_true rfl) (s_X1_has z3) (fun _ _ hq => aw_eqs hq
(aw_if_eq d_X1_dropFirst_13 rfl rfl zb_I (fun c5 => have e7 := e4.1 (zb_0 c5); (aw_rv d_X1_dropFirst_24 rfl e7)) (fun c6 => have e8 := e4.2 (zb_n0 c6); (aw_iload_n d_X1_dropFirst_16 rfl rfl 3 rfl
(have z9 := e8.1; have e10 := e8.2; aw_if_lt d_X1_dropFirst_17 rfl rfl z9 (fun c11 => have e13 := e10.1 c11; (aw_rv d_X1_dropFirst_24 rfl e13)) (fun c12 => have e14 := e10.2 c12; (aw_iload_n d_X1_dropFirst_20 rfl rfl 0 rfl
(have z15 := e14.1; have e16 := e14.2; aw_if_ge d_X1_dropFirst_21 rfl rfl z15 (fun c17 => have e19 := e16.1 c17; (aw_iconst d_X1_dropFirst_25 rfl
(aw_istore (lv' := [(4, zi 0), (3, zi ((qun (hS M h) v1) - v2)), (0, zr 1 h), (1, zi v1), (2, zi v2)]) d_X1_dropFirst_26 rfl (by decide) rfl
(aw_sub [2, 3, 4, 1, 0] rfl e19)))) (fun c18 => have e20 := e16.2 c18; (aw_rv d_X1_dropFirst_24 rfl e20))))))))))))))))))))))
theorem vX1_trade {l : Launch} {P : zM → Prop} {h : Nat} {v1 : Int} {v2 : Int} {v3 : Int} {M : zM}
    (H0 : ((hW M h ∧ zI v1) ∧ ((0 ≤ v1 ∧ v1 < M 1 h 6 → (CV l m_X1_dropFirst [zr 1 h, zi v1, zi v2] M (fun M7 => ((0 ≤ v1 ∧ v1 < 20) ∧ (∀ M12 : zM, M12 = zu M7 17 h v1 ((M7 17 h v1) + v2) → (zI (M12 12 h v1) ∧ ((M12 12 h v1) = 0 → (∀ M20 : zM, M20 = zu M12 16 h v1 ((M12 16 h v1) + (-v3)) → P M20)) ∧ ((M12 12 h v1) ≠ 0 → (∀ M22 : zM, M22 = zu M12 16 h v1 ((M12 16 h v1) + v3) → P M22)))))))) ∧ (¬ (0 ≤ v1 ∧ v1 < M 1 h 6) → P M)))) :
    CV l m_X1_trade [zr 1 h, zi v1, zi v2, zi v3] M P :=
(aw_aload_n d_X1_trade_0 rfl rfl 0 rfl (by decide)
(aw_iload_n d_X1_trade_1 rfl rfl 1 rfl
(have z1 := H0.1; have e2 := H0.2; (aw_VI (As := [zi v1]) (st := []) d_X1_trade_2 rfl cv1_59 ⟨Nat.le_of_ble_eq_true rfl, Nat.le_of_ble_eq_true rfl⟩ rfl rfl (Nat.le_of_ble_eq_true rfl) (Nat.le_of_ble_eq_true rfl) (s_X1_has z1) (fun _ _ hq => aw_eqs hq
(aw_if_ne d_X1_trade_5 rfl rfl zb_I (fun c3 => have e5 := e2.1 (zb_n0 c3); (aw_aload_n d_X1_trade_9 rfl rfl 0 rfl (by decide)
(aw_iload_n d_X1_trade_10 rfl rfl 1 rfl
(aw_iload_n d_X1_trade_11 rfl rfl 2 rfl
(aw_VV (As := [zi v1, zi v2]) (st := []) d_X1_trade_12 rfl cv1_86 ⟨Nat.le_of_ble_eq_true rfl, Nat.le_of_ble_eq_true rfl⟩ rfl rfl (Nat.le_of_ble_eq_true rfl) (Nat.le_of_ble_eq_true rfl) e5 (fun M7 e8 => (aw_aload_n d_X1_trade_15 rfl rfl 0 rfl (by decide)
(aw_getR (k' := 17) (a := 1) (b := 0) (j := h) d_X1_trade_16 rfl fl1_28 rfl zj1 ⟨by decide, fun h => h⟩
(aw_iload_n d_X1_trade_19 rfl rfl 1 rfl
(aw_dup2 d_X1_trade_20 rfl rfl rfl
(have z10 := e8.1; have e11 := e8.2; (aw_iald d_X1_trade_21 rfl za17 z10
(aw_iload_n d_X1_trade_22 rfl rfl 2 rfl
(aw_iadd d_X1_trade_23 rfl
(have e13 := e11 _ rfl; aw_iast d_X1_trade_24 rfl za17 z10
(aw_aload_n d_X1_trade_25 rfl rfl 0 rfl (by decide)
(aw_getR (k' := 16) (a := 1) (b := 0) (j := h) d_X1_trade_26 rfl fl1_25 rfl zj1 ⟨by decide, fun h => h⟩
(aw_iload_n d_X1_trade_29 rfl rfl 1 rfl
(aw_dup2 d_X1_trade_30 rfl rfl rfl
(aw_iald d_X1_trade_31 rfl za16 z10
(aw_aload_n d_X1_trade_32 rfl rfl 0 rfl (by decide)
(aw_getR (k' := 12) (a := 1) (b := 0) (j := h) d_X1_trade_33 rfl fl1_9 rfl zj1 ⟨by decide, fun h => h⟩
(aw_iload_n d_X1_trade_36 rfl rfl 1 rfl
(aw_zald d_X1_trade_37 rfl za12 z10
(have z14 := e13.1; have e15 := e13.2; aw_if_eq d_X1_trade_38 rfl rfl z14 (fun c16 => have e18 := e15.1 c16; (aw_iload_n d_X1_trade_45 rfl rfl 3 rfl
(aw_ineg d_X1_trade_46 rfl
(aw_iadd d_X1_trade_47 rfl
(have e21 := e18 _ rfl; aw_iast d_X1_trade_48 rfl za16 z10
(aw_rv d_X1_trade_49 rfl e21)))))) (fun c17 => have e19 := e15.2 c17; (aw_iload_n d_X1_trade_41 rfl rfl 3 rfl
(aw_goto d_X1_trade_42 rfl
(aw_iadd d_X1_trade_47 rfl
(have e23 := e19 _ rfl; aw_iast d_X1_trade_48 rfl za16 z10
(aw_rv d_X1_trade_49 rfl e23))))))))))))))))))))))))))))))) (fun c4 => have e6 := e2.2 (zb_0 c4); (aw_rv d_X1_trade_8 rfl e6))))))))
theorem vX1_noteClose {l : Launch} {P : zM → Prop} {h : Nat} {v1 : Int} {v2 : Int} {M : zM}
    (H0 : (zI (M 1 h 11) ∧ ((M 1 h 11) ≠ 0 → (zI (M 1 h 12) ∧ zI v2 ∧ (∀ M10 : zM, M10 = zu M 1 h 12 (max (M 1 h 12) v2) → (∀ M12 : zM, M12 = zu M10 1 h 9 ((M10 1 h 9) + v2) → (∀ M14 : zM, M14 = zu M12 1 h 10 ((M12 1 h 10) + v1) → (∀ M16 : zM, M16 = zu M14 1 h 11 ((M14 1 h 11) + 1) → P M16)))))) ∧ ((M 1 h 11) = 0 → (∀ M18 : zM, M18 = zu M 1 h 12 v2 → (∀ M20 : zM, M20 = zu M18 1 h 9 ((M18 1 h 9) + v2) → (∀ M22 : zM, M22 = zu M20 1 h 10 ((M20 1 h 10) + v1) → (∀ M24 : zM, M24 = zu M22 1 h 11 ((M22 1 h 11) + 1) → P M24))))))) :
    CV l m_X1_noteClose [zr 1 h, zi v1, zi v2] M P :=
(aw_aload_n d_X1_noteClose_0 rfl rfl 0 rfl (by decide)
(aw_aload_n d_X1_noteClose_1 rfl rfl 0 rfl (by decide)
(aw_getI (kc := 11) d_X1_noteClose_2 rfl fl1_47 rfl rfl
(have z1 := H0.1; have e2 := H0.2; aw_if_ne d_X1_noteClose_5 rfl rfl z1 (fun c3 => have e5 := e2.1 c3; (aw_aload_n d_X1_noteClose_12 rfl rfl 0 rfl (by decide)
(aw_getI (kc := 12) d_X1_noteClose_13 rfl fl1_50 rfl rfl
(aw_iload_n d_X1_noteClose_16 rfl rfl 2 rfl
(have z7 := e5.1; have z8 := e5.2.1; have e9 := e5.2.2; (aw_max d_X1_noteClose_17 rfl cm1_90 ⟨Nat.le_of_ble_eq_true rfl, Nat.le_of_ble_eq_true rfl⟩ z7 z8
(have e11 := e9 _ rfl; aw_put (kc := 12) d_X1_noteClose_20 rfl fp1_50 rfl rfl rfl rfl
(aw_aload_n d_X1_noteClose_23 rfl rfl 0 rfl (by decide)
(aw_dup d_X1_noteClose_24 rfl rfl
(aw_getI (kc := 9) d_X1_noteClose_25 rfl fl1_41 rfl rfl
(aw_iload_n d_X1_noteClose_28 rfl rfl 2 rfl
(aw_iadd d_X1_noteClose_29 rfl
(have e13 := e11 _ rfl; aw_put (kc := 9) d_X1_noteClose_30 rfl fp1_41 rfl rfl rfl rfl
(aw_aload_n d_X1_noteClose_33 rfl rfl 0 rfl (by decide)
(aw_dup d_X1_noteClose_34 rfl rfl
(aw_getI (kc := 10) d_X1_noteClose_35 rfl fl1_44 rfl rfl
(aw_iload_n d_X1_noteClose_38 rfl rfl 1 rfl
(aw_iadd d_X1_noteClose_39 rfl
(have e15 := e13 _ rfl; aw_put (kc := 10) d_X1_noteClose_40 rfl fp1_44 rfl rfl rfl rfl
(aw_aload_n d_X1_noteClose_43 rfl rfl 0 rfl (by decide)
(aw_dup d_X1_noteClose_44 rfl rfl
(aw_getI (kc := 11) d_X1_noteClose_45 rfl fl1_47 rfl rfl
(aw_iconst d_X1_noteClose_48 rfl
(aw_iadd d_X1_noteClose_49 rfl
(have e17 := e15 _ rfl; aw_put (kc := 11) d_X1_noteClose_50 rfl fp1_47 rfl rfl rfl rfl
(aw_rv d_X1_noteClose_53 rfl e17)))))))))))))))))))))))))) (fun c4 => have e6 := e2.2 c4; (aw_iload_n d_X1_noteClose_8 rfl rfl 2 rfl
(aw_goto d_X1_noteClose_9 rfl
(have e19 := e6 _ rfl; aw_put (kc := 12) d_X1_noteClose_20 rfl fp1_50 rfl rfl rfl rfl
(aw_aload_n d_X1_noteClose_23 rfl rfl 0 rfl (by decide)
(aw_dup d_X1_noteClose_24 rfl rfl
(aw_getI (kc := 9) d_X1_noteClose_25 rfl fl1_41 rfl rfl
(aw_iload_n d_X1_noteClose_28 rfl rfl 2 rfl
(aw_iadd d_X1_noteClose_29 rfl
(have e21 := e19 _ rfl; aw_put (kc := 9) d_X1_noteClose_30 rfl fp1_41 rfl rfl rfl rfl
(aw_aload_n d_X1_noteClose_33 rfl rfl 0 rfl (by decide)
(aw_dup d_X1_noteClose_34 rfl rfl
(aw_getI (kc := 10) d_X1_noteClose_35 rfl fl1_44 rfl rfl
(aw_iload_n d_X1_noteClose_38 rfl rfl 1 rfl
(aw_iadd d_X1_noteClose_39 rfl
(have e23 := e21 _ rfl; aw_put (kc := 10) d_X1_noteClose_40 rfl fp1_44 rfl rfl rfl rfl
(aw_aload_n d_X1_noteClose_43 rfl rfl 0 rfl (by decide)
(aw_dup d_X1_noteClose_44 rfl rfl
(aw_getI (kc := 11) d_X1_noteClose_45 rfl fl1_47 rfl rfl
(aw_iconst d_X1_noteClose_48 rfl
(aw_iadd d_X1_noteClose_49 rfl
(have e25 := e23 _ rfl; aw_put (kc := 11) d_X1_noteClose_50 rfl fp1_47 rfl rfl rfl rfl
(aw_rv d_X1_noteClose_53 rfl e25)))))))))))))))))))))))))))
theorem vX1_clear {l : Launch} {P : zM → Prop} {h : Nat} {M : zM}
    (H0 : (∀ M1 : zM, M1 = zu M 1 h 6 0 → (∀ M3 : zM, M3 = zu M1 1 h 7 0 → (∀ M5 : zM, M5 = zu M3 1 h 8 0 → (∀ M7 : zM, M7 = zu M5 1 h 9 0 → (∀ M9 : zM, M9 = zu M7 1 h 10 0 → (∀ M11 : zM, M11 = zu M9 1 h 11 0 → (∀ M13 : zM, M13 = zu M11 1 h 12 0 → P M13)))))))) :
    CV l m_X1_clear [zr 1 h] M P :=
(aw_aload_n d_X1_clear_0 rfl rfl 0 rfl (by decide)
(aw_iconst d_X1_clear_1 rfl
(have e2 := H0 _ rfl; aw_put (kc := 6) d_X1_clear_2 rfl fp1_31 rfl rfl rfl rfl
(aw_aload_n d_X1_clear_5 rfl rfl 0 rfl (by decide)
(aw_iconst d_X1_clear_6 rfl
(have e4 := e2 _ rfl; aw_put (kc := 7) d_X1_clear_7 rfl fp1_35 rfl rfl rfl rfl
(aw_aload_n d_X1_clear_10 rfl rfl 0 rfl (by decide)
(aw_iconst d_X1_clear_11 rfl
(have e6 := e4 _ rfl; aw_put (kc := 8) d_X1_clear_12 rfl fp1_38 rfl rfl rfl rfl
(aw_aload_n d_X1_clear_15 rfl rfl 0 rfl (by decide)
(aw_iconst d_X1_clear_16 rfl
(have e8 := e6 _ rfl; aw_put (kc := 9) d_X1_clear_17 rfl fp1_41 rfl rfl rfl rfl
(aw_aload_n d_X1_clear_20 rfl rfl 0 rfl (by decide)
(aw_iconst d_X1_clear_21 rfl
(have e10 := e8 _ rfl; aw_put (kc := 10) d_X1_clear_22 rfl fp1_44 rfl rfl rfl rfl
(aw_aload_n d_X1_clear_25 rfl rfl 0 rfl (by decide)
(aw_iconst d_X1_clear_26 rfl
(have e12 := e10 _ rfl; aw_put (kc := 11) d_X1_clear_27 rfl fp1_47 rfl rfl rfl rfl
(aw_aload_n d_X1_clear_30 rfl rfl 0 rfl (by decide)
(aw_iconst d_X1_clear_31 rfl
(have e14 := e12 _ rfl; aw_put (kc := 12) d_X1_clear_32 rfl fp1_50 rfl rfl rfl rfl
(aw_rv d_X1_clear_35 rfl e14))))))))))))))))))))))
def LX1_allUnits_4 (l : Launch) (P : Int → zM → Prop) (h : Nat) (v1 : Int) (v2 : Int) (M : zM) : Prop := AW l m_X1_allUnits (zTi m_X1_allUnits P) 4 [(0, zr 1 h), (1, zi v1), (2, zi v2)] [] M
theorem vX1_allUnits_4 {l : Launch} {P : Int → zM → Prop} {h : Nat} {v1 : Int} {v2 : Int} {M : zM}
    (H0 : (zI v2 ∧ zI (M 1 h 6) ∧ ((M 1 h 6) ≤ v2 → P v1 M) ∧ (v2 < (M 1 h 6) → ((hW M h ∧ zI v2) ∧ LX1_allUnits_4 l P h (v1 + (qun (hS M h) v2)) (v2 + 1) M)))) :
    LX1_allUnits_4 l P h v1 v2 M :=
(aw_iload_n d_X1_allUnits_4 rfl rfl 2 rfl
(aw_aload_n d_X1_allUnits_5 rfl rfl 0 rfl (by decide)
(aw_getI (kc := 6) d_X1_allUnits_6 rfl fl1_31 rfl rfl
(have z1 := H0.1; have z2 := H0.2.1; have e3 := H0.2.2; aw_icmp_ge d_X1_allUnits_9 rfl rfl z1 z2 (fun c4 => have e6 := e3.1 c4; (aw_iload_n d_X1_allUnits_26 rfl rfl 1 rfl
(aw_ri d_X1_allUnits_27 rfl e6))) (fun c5 => have e7 := e3.2 c5; (aw_iload_n d_X1_allUnits_12 rfl rfl 1 rfl
(aw_aload_n d_X1_allUnits_13 rfl rfl 0 rfl (by decide)
(aw_iload_n d_X1_allUnits_14 rfl rfl 2 rfl
(have z8 := e7.1; have e9 := e7.2; (aw_VI (As := [zi v2]) (st := [zi v1]) d_X1_allUnits_15 rfl cv1_78 ⟨Nat.le_of_ble_eq_true rfl, Nat.le_of_ble_eq_true rfl⟩ rfl rfl (Nat.le_of_ble_eq_true rfl) (Nat.le_of_ble_eq_true rfl) (s_X1_unitsOf z8) (fun _ _ hq => aw_eqs hq
(aw_iadd d_X1_allUnits_18 rfl
(aw_istore_n (lv' := [(1, zi (v1 + (qun (hS M h) v2))), (0, zr 1 h), (2, zi v2)]) d_X1_allUnits_19 rfl rfl (by decide) rfl
(aw_iinc (lv' := [(2, zi (v2 + 1)), (1, zi (v1 + (qun (hS M h) v2))), (0, zr 1 h)]) (y := (v2 + 1)) d_X1_allUnits_20 rfl 2 rfl (by decide) rfl rfl
(aw_goto d_X1_allUnits_23 rfl
(aw_sub [2, 1, 0] rfl e9))))))))))))))))
theorem vX1_allUnits {l : Launch} {P : Int → zM → Prop} {h : Nat} {M : zM}
    (H0 : LX1_allUnits_4 l P h 0 0 M) :
    CI l m_X1_allUnits [zr 1 h] M P :=
(aw_iconst d_X1_allUnits_0 rfl
(aw_istore_n (lv' := [(1, zi 0), (0, zr 1 h)]) d_X1_allUnits_1 rfl rfl (by decide) rfl
(aw_iconst d_X1_allUnits_2 rfl
(aw_istore_n (lv' := [(2, zi 0), (1, zi 0), (0, zr 1 h)]) d_X1_allUnits_3 rfl rfl (by decide) rfl
(aw_sub [2, 1, 0] rfl H0)))))
def LX1_allPurses_4 (l : Launch) (P : Int → zM → Prop) (h : Nat) (v1 : Int) (v2 : Int) (M : zM) : Prop := AW l m_X1_allPurses (zTi m_X1_allPurses P) 4 [(0, zr 1 h), (1, zi v1), (2, zi v2)] [] M
theorem vX1_allPurses_4 {l : Launch} {P : Int → zM → Prop} {h : Nat} {v1 : Int} {v2 : Int} {M : zM}
    (H0 : (zI v2 ∧ zI (M 1 h 6) ∧ ((M 1 h 6) ≤ v2 → P v1 M) ∧ (v2 < (M 1 h 6) → ((hW M h ∧ zI v2) ∧ LX1_allPurses_4 l P h (v1 + (qpu (hS M h) v2)) (v2 + 1) M)))) :
    LX1_allPurses_4 l P h v1 v2 M :=
(aw_iload_n d_X1_allPurses_4 rfl rfl 2 rfl
(aw_aload_n d_X1_allPurses_5 rfl rfl 0 rfl (by decide)
(aw_getI (kc := 6) d_X1_allPurses_6 rfl fl1_31 rfl rfl
(have z1 := H0.1; have z2 := H0.2.1; have e3 := H0.2.2; aw_icmp_ge d_X1_allPurses_9 rfl rfl z1 z2 (fun c4 => have e6 := e3.1 c4; (aw_iload_n d_X1_allPurses_26 rfl rfl 1 rfl
(aw_ri d_X1_allPurses_27 rfl e6))) (fun c5 => have e7 := e3.2 c5; (aw_iload_n d_X1_allPurses_12 rfl rfl 1 rfl
(aw_aload_n d_X1_allPurses_13 rfl rfl 0 rfl (by decide)
(aw_iload_n d_X1_allPurses_14 rfl rfl 2 rfl
(have z8 := e7.1; have e9 := e7.2; (aw_VI (As := [zi v2]) (st := [zi v1]) d_X1_allPurses_15 rfl cv1_95 ⟨Nat.le_of_ble_eq_true rfl, Nat.le_of_ble_eq_true rfl⟩ rfl rfl (Nat.le_of_ble_eq_true rfl) (Nat.le_of_ble_eq_true rfl) (s_X1_purseOf z8) (fun _ _ hq => aw_eqs hq
(aw_iadd d_X1_allPurses_18 rfl
(aw_istore_n (lv' := [(1, zi (v1 + (qpu (hS M h) v2))), (0, zr 1 h), (2, zi v2)]) d_X1_allPurses_19 rfl rfl (by decide) rfl
(aw_iinc (lv' := [(2, zi (v2 + 1)), (1, zi (v1 + (qpu (hS M h) v2))), (0, zr 1 h)]) (y := (v2 + 1)) d_X1_allPurses_20 rfl 2 rfl (by decide) rfl rfl
(aw_goto d_X1_allPurses_23 rfl
(aw_sub [2, 1, 0] rfl e9))))))))))))))))
theorem vX1_allPurses {l : Launch} {P : Int → zM → Prop} {h : Nat} {M : zM}
    (H0 : LX1_allPurses_4 l P h 0 0 M) :
    CI l m_X1_allPurses [zr 1 h] M P :=
(aw_iconst d_X1_allPurses_0 rfl
(aw_istore_n (lv' := [(1, zi 0), (0, zr 1 h)]) d_X1_allPurses_1 rfl rfl (by decide) rfl
(aw_iconst d_X1_allPurses_2 rfl
(aw_istore_n (lv' := [(2, zi 0), (1, zi 0), (0, zr 1 h)]) d_X1_allPurses_3 rfl rfl (by decide) rfl
(aw_sub [2, 1, 0] rfl H0)))))
def LX1_richest_4 (l : Launch) (P : Int → zM → Prop) (h : Nat) (v1 : Int) (v2 : Int) (M : zM) : Prop := AW l m_X1_richest (zTi m_X1_richest P) 4 [(0, zr 1 h), (1, zi v1), (2, zi v2)] [] M
theorem vX1_richest_4 {l : Launch} {P : Int → zM → Prop} {h : Nat} {v1 : Int} {v2 : Int} {M : zM}
    (H0 : (zI v2 ∧ zI (M 1 h 6) ∧ ((M 1 h 6) ≤ v2 → P v1 M) ∧ (v2 < (M 1 h 6) → ((hW M h ∧ zI v2) ∧ ((hW M h ∧ zI v1) ∧ (zI (qpu (hS M h) v2) ∧ zI (qpu (hS M h) v1) ∧ ((qpu (hS M h) v2) ≤ (qpu (hS M h) v1) → LX1_richest_4 l P h v1 (v2 + 1) M) ∧ ((qpu (hS M h) v1) < (qpu (hS M h) v2) → LX1_richest_4 l P h v2 (v2 + 1) M))))))) :
    LX1_richest_4 l P h v1 v2 M :=
(aw_iload_n d_X1_richest_4 rfl rfl 2 rfl
(aw_aload_n d_X1_richest_5 rfl rfl 0 rfl (by decide)
(aw_getI (kc := 6) d_X1_richest_6 rfl fl1_31 rfl rfl
(have z1 := H0.1; have z2 := H0.2.1; have e3 := H0.2.2; aw_icmp_ge d_X1_richest_9 rfl rfl z1 z2 (fun c4 => have e6 := e3.1 c4; (aw_iload_n d_X1_richest_33 rfl rfl 1 rfl
(aw_ri d_X1_richest_34 rfl e6))) (fun c5 => have e7 := e3.2 c5; (aw_aload_n d_X1_richest_12 rfl rfl 0 rfl (by decide)
(aw_iload_n d_X1_richest_13 rfl rfl 2 rfl
(have z8 := e7.1; have e9 := e7.2; (aw_VI (As := [zi v2]) (st := []) d_X1_richest_14 rfl cv1_95 ⟨Nat.le_of_ble_eq_true rfl, Nat.le_of_ble_eq_true rfl⟩ rfl rfl (Nat.le_of_ble_eq_true rfl) (Nat.le_of_ble_eq_true rfl) (s_X1_purseOf z8) (fun _ _ hq => aw_eqs hq
(aw_aload_n d_X1_richest_17 rfl rfl 0 rfl (by decide)
(aw_iload_n d_X1_richest_18 rfl rfl 1 rfl
(have z10 := e9.1; have e11 := e9.2; (aw_VI (As := [zi v1]) (st := [zi (qpu (hS M h) v2)]) d_X1_richest_19 rfl cv1_95 ⟨Nat.le_of_ble_eq_true rfl, Nat.le_of_ble_eq_true rfl⟩ rfl rfl (Nat.le_of_ble_eq_true rfl) (Nat.le_of_ble_eq_true rfl) (s_X1_purseOf z10) (fun _ _ hq => aw_eqs hq
(have z12 := e11.1; have z13 := e11.2.1; have e14 := e11.2.2; aw_icmp_le d_X1_richest_22 rfl rfl z12 z13 (fun c15 => have e17 := e14.1 c15; (aw_iinc (lv' := [(2, zi (v2 + 1)), (0, zr 1 h), (1, zi v1)]) (y := (v2 + 1)) d_X1_richest_27 rfl 2 rfl (by decide) rfl rfl
(aw_goto d_X1_richest_30 rfl
(aw_sub [1, 2, 0] rfl e17)))) (fun c16 => have e18 := e14.2 c16; (aw_iload_n d_X1_richest_25 rfl rfl 2 rfl
(aw_istore_n (lv' := [(1, zi v2), (0, zr 1 h), (2, zi v2)]) d_X1_richest_26 rfl rfl (by decide) rfl
(aw_iinc (lv' := [(2, zi (v2 + 1)), (1, zi v2), (0, zr 1 h)]) (y := (v2 + 1)) d_X1_richest_27 rfl 2 rfl (by decide) rfl rfl
(aw_goto d_X1_richest_30 rfl
(aw_sub [2, 1, 0] rfl e18))))))))))))))))))))))
theorem vX1_richest {l : Launch} {P : Int → zM → Prop} {h : Nat} {M : zM}
    (H0 : LX1_richest_4 l P h 0 1 M) :
    CI l m_X1_richest [zr 1 h] M P :=
(aw_iconst d_X1_richest_0 rfl
(aw_istore_n (lv' := [(1, zi 0), (0, zr 1 h)]) d_X1_richest_1 rfl rfl (by decide) rfl
(aw_iconst d_X1_richest_2 rfl
(aw_istore_n (lv' := [(2, zi 1), (1, zi 0), (0, zr 1 h)]) d_X1_richest_3 rfl rfl (by decide) rfl
(aw_sub [2, 1, 0] rfl H0)))))
def LX1_copyFrom_7 (l : Launch) (P : zM → Prop) (h : Nat) (h1 : Nat) (v2 : Int) (M : zM) : Prop := AW l m_X1_copyFrom (zTv m_X1_copyFrom P) 7 [(0, zr 1 h), (1, zr 1 h1), (2, zi v2)] [] M
theorem vX1_copyFrom_7 {l : Launch} {P : zM → Prop} {h : Nat} {h1 : Nat} {v2 : Int} {M : zM}
    (H0 : (zI v2 ∧ (20 ≤ v2 → (∀ M7 : zM, M7 = zcp M 13 h1 13 h 20 → (∀ M9 : zM, M9 = zcp M7 14 h1 14 h 20 → (∀ M11 : zM, M11 = zcp M9 15 h1 15 h 80 → (∀ M13 : zM, M13 = zcp M11 16 h1 16 h 20 → (∀ M15 : zM, M15 = zcp M13 17 h1 17 h 20 → (∀ M17 : zM, M17 = zu M15 1 h 6 (M15 1 h1 6) → (∀ M19 : zM, M19 = zu M17 1 h 7 (M17 1 h1 7) → (∀ M21 : zM, M21 = zu M19 1 h 8 (M19 1 h1 8) → (∀ M23 : zM, M23 = zu M21 1 h 9 (M21 1 h1 9) → (∀ M25 : zM, M25 = zu M23 1 h 10 (M23 1 h1 10) → (∀ M27 : zM, M27 = zu M25 1 h 11 (M25 1 h1 11) → (∀ M29 : zM, M29 = zu M27 1 h 12 (M27 1 h1 12) → P M29))))))))))))) ∧ (v2 < 20 → ((0 ≤ v2 ∧ v2 < 20) ∧ (((M 12 h1 v2) = 0 ∨ (M 12 h1 v2) = 1) ∧ ∀ M34 : zM, M34 = zu M 12 h v2 (M 12 h1 v2) → LX1_copyFrom_7 l P h h1 (v2 + 1) M34))))) :
    LX1_copyFrom_7 l P h h1 v2 M :=
(aw_iload_n d_X1_copyFrom_7 rfl rfl 2 rfl
(aw_bipush d_X1_copyFrom_8 rfl (by decide)
(have z1 := H0.1; have e2 := H0.2; aw_icmp_ge d_X1_copyFrom_10 rfl rfl z1 (by decide) (fun c3 => have e5 := e2.1 c3; (aw_aload_n d_X1_copyFrom_31 rfl rfl 1 rfl (by decide)
(aw_getR (k' := 13) (a := 1) (b := 0) (j := h1) d_X1_copyFrom_32 rfl fl1_15 rfl zj1 ⟨by decide, fun h => h⟩
(aw_iconst d_X1_copyFrom_35 rfl
(aw_aload_n d_X1_copyFrom_36 rfl rfl 0 rfl (by decide)
(aw_getR (k' := 13) (a := 1) (b := 0) (j := h) d_X1_copyFrom_37 rfl fl1_15 rfl zj1 ⟨by decide, fun h => h⟩
(aw_iconst d_X1_copyFrom_40 rfl
(aw_bipush d_X1_copyFrom_41 rfl (by decide)
(have e8 := e5 _ rfl; aw_copy d_X1_copyFrom_43 rfl cm1_53 ⟨Nat.le_of_ble_eq_true rfl, Nat.le_of_ble_eq_true rfl⟩ za13 za13 (by decide)
(aw_aload_n d_X1_copyFrom_46 rfl rfl 1 rfl (by decide)
(aw_getR (k' := 14) (a := 1) (b := 0) (j := h1) d_X1_copyFrom_47 rfl fl1_19 rfl zj1 ⟨by decide, fun h => h⟩
(aw_iconst d_X1_copyFrom_50 rfl
(aw_aload_n d_X1_copyFrom_51 rfl rfl 0 rfl (by decide)
(aw_getR (k' := 14) (a := 1) (b := 0) (j := h) d_X1_copyFrom_52 rfl fl1_19 rfl zj1 ⟨by decide, fun h => h⟩
(aw_iconst d_X1_copyFrom_55 rfl
(aw_bipush d_X1_copyFrom_56 rfl (by decide)
(have e10 := e8 _ rfl; aw_copy d_X1_copyFrom_58 rfl cm1_53 ⟨Nat.le_of_ble_eq_true rfl, Nat.le_of_ble_eq_true rfl⟩ za14 za14 (by decide)
(aw_aload_n d_X1_copyFrom_61 rfl rfl 1 rfl (by decide)
(aw_getR (k' := 15) (a := 1) (b := 0) (j := h1) d_X1_copyFrom_62 rfl fl1_22 rfl zj1 ⟨by decide, fun h => h⟩
(aw_iconst d_X1_copyFrom_65 rfl
(aw_aload_n d_X1_copyFrom_66 rfl rfl 0 rfl (by decide)
(aw_getR (k' := 15) (a := 1) (b := 0) (j := h) d_X1_copyFrom_67 rfl fl1_22 rfl zj1 ⟨by decide, fun h => h⟩
(aw_iconst d_X1_copyFrom_70 rfl
(aw_bipush d_X1_copyFrom_71 rfl (by decide)
(have e12 := e10 _ rfl; aw_copy d_X1_copyFrom_73 rfl cm1_53 ⟨Nat.le_of_ble_eq_true rfl, Nat.le_of_ble_eq_true rfl⟩ za15 za15 (by decide)
(aw_aload_n d_X1_copyFrom_76 rfl rfl 1 rfl (by decide)
(aw_getR (k' := 16) (a := 1) (b := 0) (j := h1) d_X1_copyFrom_77 rfl fl1_25 rfl zj1 ⟨by decide, fun h => h⟩
(aw_iconst d_X1_copyFrom_80 rfl
(aw_aload_n d_X1_copyFrom_81 rfl rfl 0 rfl (by decide)
(aw_getR (k' := 16) (a := 1) (b := 0) (j := h) d_X1_copyFrom_82 rfl fl1_25 rfl zj1 ⟨by decide, fun h => h⟩
(aw_iconst d_X1_copyFrom_85 rfl
(aw_bipush d_X1_copyFrom_86 rfl (by decide)
(have e14 := e12 _ rfl; aw_copy d_X1_copyFrom_88 rfl cm1_53 ⟨Nat.le_of_ble_eq_true rfl, Nat.le_of_ble_eq_true rfl⟩ za16 za16 (by decide)
(aw_aload_n d_X1_copyFrom_91 rfl rfl 1 rfl (by decide)
(aw_getR (k' := 17) (a := 1) (b := 0) (j := h1) d_X1_copyFrom_92 rfl fl1_28 rfl zj1 ⟨by decide, fun h => h⟩
(aw_iconst d_X1_copyFrom_95 rfl
(aw_aload_n d_X1_copyFrom_96 rfl rfl 0 rfl (by decide)
(aw_getR (k' := 17) (a := 1) (b := 0) (j := h) d_X1_copyFrom_97 rfl fl1_28 rfl zj1 ⟨by decide, fun h => h⟩
(aw_iconst d_X1_copyFrom_100 rfl
(aw_bipush d_X1_copyFrom_101 rfl (by decide)
(have e16 := e14 _ rfl; aw_copy d_X1_copyFrom_103 rfl cm1_53 ⟨Nat.le_of_ble_eq_true rfl, Nat.le_of_ble_eq_true rfl⟩ za17 za17 (by decide)
(aw_aload_n d_X1_copyFrom_106 rfl rfl 0 rfl (by decide)
(aw_aload_n d_X1_copyFrom_107 rfl rfl 1 rfl (by decide)
(aw_getI (kc := 6) d_X1_copyFrom_108 rfl fl1_31 rfl rfl
(have e18 := e16 _ rfl; aw_put (kc := 6) d_X1_copyFrom_111 rfl fp1_31 rfl rfl rfl rfl
(aw_aload_n d_X1_copyFrom_114 rfl rfl 0 rfl (by decide)
(aw_aload_n d_X1_copyFrom_115 rfl rfl 1 rfl (by decide)
(aw_getI (kc := 7) d_X1_copyFrom_116 rfl fl1_35 rfl rfl
(have e20 := e18 _ rfl; aw_put (kc := 7) d_X1_copyFrom_119 rfl fp1_35 rfl rfl rfl rfl
(aw_aload_n d_X1_copyFrom_122 rfl rfl 0 rfl (by decide)
(aw_aload_n d_X1_copyFrom_123 rfl rfl 1 rfl (by decide)
(aw_getI (kc := 8) d_X1_copyFrom_124 rfl fl1_38 rfl rfl
(have e22 := e20 _ rfl; aw_put (kc := 8) d_X1_copyFrom_127 rfl fp1_38 rfl rfl rfl rfl
(aw_aload_n d_X1_copyFrom_130 rfl rfl 0 rfl (by decide)
(aw_aload_n d_X1_copyFrom_131 rfl rfl 1 rfl (by decide)
(aw_getI (kc := 9) d_X1_copyFrom_132 rfl fl1_41 rfl rfl
(have e24 := e22 _ rfl; aw_put (kc := 9) d_X1_copyFrom_135 rfl fp1_41 rfl rfl rfl rfl
(aw_aload_n d_X1_copyFrom_138 rfl rfl 0 rfl (by decide)
(aw_aload_n d_X1_copyFrom_139 rfl rfl 1 rfl (by decide)
(aw_getI (kc := 10) d_X1_copyFrom_140 rfl fl1_44 rfl rfl
(have e26 := e24 _ rfl; aw_put (kc := 10) d_X1_copyFrom_143 rfl fp1_44 rfl rfl rfl rfl
(aw_aload_n d_X1_copyFrom_146 rfl rfl 0 rfl (by decide)
(aw_aload_n d_X1_copyFrom_147 rfl rfl 1 rfl (by decide)
(aw_getI (kc := 11) d_X1_copyFrom_148 rfl fl1_47 rfl rfl
(have e28 := e26 _ rfl; aw_put (kc := 11) d_X1_copyFrom_151 rfl fp1_47 rfl rfl rfl rfl
(aw_aload_n d_X1_copyFrom_154 rfl rfl 0 rfl (by decide)
(aw_aload_n d_X1_copyFrom_155 rfl rfl 1 rfl (by decide)
(aw_getI (kc := 12) d_X1_copyFrom_156 rfl fl1_50 rfl rfl
(have e30 := e28 _ rfl; aw_put (kc := 12) d_X1_copyFrom_159 rfl fp1_50 rfl rfl rfl rfl
(aw_rv d_X1_copyFrom_162 rfl e30)))))))))))))))))))))))))))))))))))))))))))))))))))))))))))))))))))))) (fun c4 => have e6 := e2.2 c4; (aw_aload_n d_X1_copyFrom_13 rfl rfl 0 rfl (by decide)
(aw_getR (k' := 12) (a := 1) (b := 0) (j := h) d_X1_copyFrom_14 rfl fl1_9 rfl zj1 ⟨by decide, fun h => h⟩
(aw_iload_n d_X1_copyFrom_17 rfl rfl 2 rfl
(aw_aload_n d_X1_copyFrom_18 rfl rfl 1 rfl (by decide)
(aw_getR (k' := 12) (a := 1) (b := 0) (j := h1) d_X1_copyFrom_19 rfl fl1_9 rfl zj1 ⟨by decide, fun h => h⟩
(aw_iload_n d_X1_copyFrom_22 rfl rfl 2 rfl
(have z31 := e6.1; have e32 := e6.2; (aw_zald d_X1_copyFrom_23 rfl za12 z31
(have z33 := e32.1; have e35 := e32.2 _ rfl; aw_zast d_X1_copyFrom_24 rfl za12 z31 z33
(aw_iinc (lv' := [(2, zi (v2 + 1)), (0, zr 1 h), (1, zr 1 h1)]) (y := (v2 + 1)) d_X1_copyFrom_25 rfl 2 rfl (by decide) rfl rfl
(aw_goto d_X1_copyFrom_28 rfl
(aw_sub [1, 2, 0] rfl e35))))))))))))))))
theorem vX1_copyFrom {l : Launch} {P : zM → Prop} {h : Nat} {h1 : Nat} {M : zM}
    (H0 : LX1_copyFrom_7 l P h h1 0 M) :
    CV l m_X1_copyFrom [zr 1 h, zr 1 h1] M P :=
(aw_aload_n d_X1_copyFrom_0 rfl rfl 1 rfl (by decide)
(aw_ifnonnull d_X1_copyFrom_1 rfl (by decide)
(aw_iconst d_X1_copyFrom_5 rfl
(aw_istore_n (lv' := [(2, zi 0), (0, zr 1 h), (1, zr 1 h1)]) d_X1_copyFrom_6 rfl rfl (by decide) rfl
(aw_sub [1, 2, 0] rfl H0)))))
theorem c_X1_append {h : Nat} {t v : Int} (w : hW M h) (ht : 0 ≤ t ∧ t < M 1 h 6) (hu : qun (hS M h) t < 4) : CI l m_X1_append [zr 1 h, zi t, zi v] M (fun x M' => x = qun (hS M h) t + 1 ∧ Fx (kH h) M M' ∧ hW M' h ∧ hS M' h = sAdd (hS M h) t v) := by
  have h1 := w.1
  have h3 := w.2.2 t ht
  have eu : qun (hS M h) t = M 14 h t := by rw [hS_un, if_pos ht]
  have k14 : kH h 14 h := ⟨by omega, rfl⟩
  have k15 : kH h 15 h := ⟨by omega, rfl⟩
  refine vX1_append ⟨⟨w, by omega⟩, ⟨w, by omega⟩, fun e => absurd ht e, fun _ => ⟨by omega, fun _ => ⟨by omega, ?_⟩, fun e => by omega⟩⟩
  intro M1 e1
  have r1 : M1 1 h = M 1 h := by rw [e1, zu_k (by decide)]
  have r12 : M1 12 h = M 12 h := by rw [e1, zu_k (by decide)]
  have r14 : ∀ j, M1 14 h j = if j = t then M 14 h t + 1 else M 14 h j := by intro j; rw [e1, zu_at, eu]
  have w1 : hW M1 h := by
    refine ⟨by rw [r1]; exact h1, fun j hj => by rw [r12]; exact w.2.1 j hj, fun j hj => ?_⟩
    rw [r1] at hj
    rw [r14]
    split
    · omega
    · exact w.2.2 j hj
  refine ⟨⟨w1, ?_⟩, ?_⟩
  · rw [hU, r1, r14, if_pos rfl, eu]
    omega
  intro M2 e2
  have f : Fx (kH h) M M2 := by rw [e2, e1]; exact Fx.zu (Fx.zu Fx.rf k14) k15
  have s1 : M2 1 h = M 1 h := by rw [e2, zu_k (by decide), r1]
  have s12 : M2 12 h = M 12 h := by rw [e2, zu_k (by decide), r12]
  have s14 : ∀ j, M2 14 h j = if j = t then M 14 h t + 1 else M 14 h j := by intro j; rw [e2, zu_k (by decide), r14]
  have s15 : ∀ j, M2 15 h j = if j = 4 * t + M 14 h t then v else M 15 h j := by intro j; rw [e2, zu_at, e1, zu_k (by decide), eu]
  have s13 : M2 13 h = M 13 h := by rw [e2, zu_k (by decide), e1, zu_k (by decide)]
  have s16 : M2 16 h = M 16 h := by rw [e2, zu_k (by decide), e1, zu_k (by decide)]
  have s17 : M2 17 h = M 17 h := by rw [e2, zu_k (by decide), e1, zu_k (by decide)]
  have w2 : hW M2 h := by
    refine ⟨by rw [s1]; exact h1, fun j hj => by rw [s12]; exact w.2.1 j hj, fun j hj => ?_⟩
    rw [s1] at hj
    rw [s14]
    split
    · omega
    · exact w.2.2 j hj
  refine ⟨by rw [s14, if_pos rfl, eu], f, w2, hS_is (fun k hk => ?_) (fun k hk => ?_) (fun j hj => ?_) (fun j hj => ?_) (fun j u hj => ?_) (fun j u hj => ?_)⟩
  · rw [s1]; show _ = qsc (hS M h) k; rw [hS_sc, if_pos hk]
  · show qsc (hS M h) k = 0; rw [hS_sc, if_neg hk]
  · rw [s1] at hj
    rw [s12, s13, s14, s16, s17]
    show _ = qsl (hS M h) j ∧ _ = qgr (hS M h) j ∧ _ = upf _ _ _ _ ∧ _ = qpu (hS M h) j ∧ _ = qtr (hS M h) j
    unfold upf
    rw [hS_sl, hS_gr, hS_un, hS_un, hS_pu, hS_tr]
    simp [hj, ht]
  · rw [s1] at hj
    show qsl (hS M h) j = _ ∧ qgr (hS M h) j = _ ∧ upf _ _ _ _ = _ ∧ qpu (hS M h) j = _ ∧ qtr (hS M h) j = _
    unfold upf
    rw [hS_sl, hS_gr, hS_un, hS_un, hS_pu, hS_tr, if_neg (show ¬ j = t by omega)]
    simp [hj]
  · obtain ⟨u1, u2, u3, u4⟩ := hj
    rw [s1] at u2
    rw [s14] at u4
    rw [s15]
    show _ = upg _ _ _ _ _ _
    unfold upg
    rw [eu, hS_sy]
    by_cases hjt : j = t
    · rw [if_pos hjt] at u4
      subst hjt
      by_cases hu' : u = M 14 h j
      · rw [if_pos (by omega), if_pos ⟨rfl, hu'⟩]
      · rw [if_neg (by omega), if_neg (by omega), if_pos ⟨u1, u2, u3, by omega⟩]
    · rw [if_neg hjt] at u4
      have hj3 := w.2.2 j ⟨u1, u2⟩
      rw [if_neg (by omega), if_neg (by omega), if_pos ⟨u1, u2, u3, u4⟩]
  · show upg _ _ _ _ _ _ = 0
    unfold upg
    rw [eu, hS_sy]
    by_cases hjt : j = t
    · subst hjt
      rw [if_neg, if_neg]
      · rintro ⟨a, b, c, d⟩
        exact hj ⟨a, by rw [s1]; exact b, c, by rw [s14, if_pos rfl]; omega⟩
      · rintro ⟨-, q⟩
        exact hj ⟨ht.1, by rw [s1]; exact ht.2, by omega, by rw [s14, if_pos rfl]; omega⟩
    · rw [if_neg (by omega), if_neg]
      rintro ⟨a, b, c, d⟩
      exact hj ⟨a, by rw [s1]; exact b, c, by rw [s14, if_neg hjt]; exact d⟩
theorem c_X1_dropFirst {h : Nat} {t c : Int} (w : hW M h) (ht : 0 ≤ t ∧ t < M 1 h 6) (hc : 0 ≤ c ∧ c ≤ qun (hS M h) t) : CV l m_X1_dropFirst [zr 1 h, zi t, zi c] M (fun M' => (∀ k i, ¬ ((k = 14 ∨ k = 15) ∧ i = h) → M' k i = M k i) ∧ hW M' h ∧ hS M' h = sDrop (hS M h) t c) := by
  have h1 := w.1
  have h3 := w.2.2 t ht
  have eu : qun (hS M h) t = M 14 h t := by rw [hS_un, if_pos ht]
  rw [eu] at hc
  refine vX1_dropFirst ⟨⟨w, by omega⟩, ⟨w, by omega⟩, fun e => absurd ht e, fun _ => ⟨by omega, fun e => by omega, fun _ => ⟨by omega, fun _ => ?_, fun e => by omega⟩⟩⟩
  rw [eu]
  have loop : ∀ (n : Nat) (u : Int) (M' : zM), (M 14 h t - c - u).toNat = n → 0 ≤ u ∧ u ≤ M 14 h t - c → (∀ k i, ¬ (k = 15 ∧ i = h) → M' k i = M k i) → (∀ j, M' 15 h j = if 4 * t ≤ j ∧ j < 4 * t + u then M 15 h (j + c) else M 15 h j) →
      LX1_dropFirst_28 l (fun M' => (∀ k i, ¬ ((k = 14 ∨ k = 15) ∧ i = h) → M' k i = M k i) ∧ hW M' h ∧ hS M' h = sDrop (hS M h) t c) h t c (M 14 h t - c) u M' := by
    intro n
    induction n with
    | zero =>
      intro u M' hn hu hk h15
      have hu' : u = M 14 h t - c := by omega
      subst hu'
      refine vX1_dropFirst_28 ⟨by omega, by omega, fun _ => ⟨by omega, ?_⟩, fun e => by omega⟩
      intro M2 e2
      have s1 : M2 1 h = M 1 h := by rw [e2, zu_k (by decide), hk _ _ (by omega)]
      have s12 : M2 12 h = M 12 h := by rw [e2, zu_k (by decide), hk _ _ (by omega)]
      have s13 : M2 13 h = M 13 h := by rw [e2, zu_k (by decide), hk _ _ (by omega)]
      have s16 : M2 16 h = M 16 h := by rw [e2, zu_k (by decide), hk _ _ (by omega)]
      have s17 : M2 17 h = M 17 h := by rw [e2, zu_k (by decide), hk _ _ (by omega)]
      have s14 : ∀ j, M2 14 h j = if j = t then M 14 h t - c else M 14 h j := by intro j; rw [e2, zu_at, hk _ _ (by omega)]
      have s15 : ∀ j, M2 15 h j = if 4 * t ≤ j ∧ j < 4 * t + (M 14 h t - c) then M 15 h (j + c) else M 15 h j := by intro j; rw [e2, zu_k (by decide), h15]
      refine ⟨fun k i hki => ?_, ⟨by rw [s1]; exact h1, fun j hj => by rw [s12]; exact w.2.1 j hj, fun j hj => ?_⟩, hS_is (fun k hk => ?_) (fun k hk => ?_) (fun j hj => ?_) (fun j hj => ?_) (fun j u hj => ?_) (fun j u hj => ?_)⟩
      · rw [e2, zu_o _ _ (by omega), hk _ _ (by omega)]
      · rw [s1] at hj
        rw [s14]
        split
        · omega
        · exact w.2.2 j hj
      · rw [s1]; show _ = qsc (hS M h) k; rw [hS_sc, if_pos hk]
      · show qsc (hS M h) k = 0; rw [hS_sc, if_neg hk]
      · rw [s1] at hj
        rw [s12, s13, s14, s16, s17]
        show _ = qsl (hS M h) j ∧ _ = qgr (hS M h) j ∧ _ = upf _ _ _ _ ∧ _ = qpu (hS M h) j ∧ _ = qtr (hS M h) j
        unfold upf
        rw [hS_sl, hS_gr, hS_un, hS_un, hS_pu, hS_tr]
        simp [hj, ht]
      · rw [s1] at hj
        show qsl (hS M h) j = _ ∧ qgr (hS M h) j = _ ∧ upf _ _ _ _ = _ ∧ qpu (hS M h) j = _ ∧ qtr (hS M h) j = _
        unfold upf
        rw [hS_sl, hS_gr, hS_un, hS_un, hS_pu, hS_tr, if_neg (show ¬ j = t by omega)]
        simp [hj]
      · obtain ⟨u1, u2, u3, u4⟩ := hj
        rw [s1] at u2
        rw [s14] at u4
        rw [s15]
        show _ = if _ then _ else _
        rw [eu, hS_sy, hS_sy]
        by_cases hjt : j = t
        · subst hjt
          rw [if_pos rfl] at u4
          rw [if_pos (by omega), if_pos rfl, if_pos (by omega), if_pos ⟨u1, u2, by omega, by omega⟩]
          congr 1
          omega
        · rw [if_neg hjt] at u4
          have hj3 := w.2.2 j ⟨u1, u2⟩
          rw [if_neg (by omega), if_neg hjt, if_pos ⟨u1, u2, u3, u4⟩]
      · show (if j = t then (if 0 ≤ u ∧ u + c < qun (hS M h) t then qsy (hS M h) t (u + c) else 0) else qsy (hS M h) j u) = 0
        rw [eu, hS_sy, hS_sy]
        by_cases hjt : j = t
        · subst hjt
          rw [if_pos rfl, if_neg]
          rintro ⟨a, b⟩
          exact hj ⟨ht.1, by rw [s1]; exact ht.2, a, by rw [s14, if_pos rfl]; omega⟩
        · rw [if_neg hjt, if_neg]
          rintro ⟨a, b, c', d⟩
          exact hj ⟨a, by rw [s1]; exact b, c', by rw [s14, if_neg hjt]; exact d⟩
    | succ n ih =>
      intro u M' hn hu hk h15
      have q1 : M' 1 h = M 1 h := hk _ _ (by omega)
      have q12 : M' 12 h = M 12 h := hk _ _ (by omega)
      have q14 : M' 14 h = M 14 h := hk _ _ (by omega)
      have w' : hW M' h := hW_congr q1 q12 q14 w
      refine vX1_dropFirst_28 ⟨by omega, by omega, fun e => by omega, fun _ => ⟨⟨w', by omega, by omega⟩, ⟨w', ?_⟩, ?_⟩⟩
      · rw [hU, q1, q14]
        omega
      · intro M2 e2
        have hv : qsy (hS M' h) t (u + c) = M 15 h (4 * t + u + c) := by
          rw [hS_sy, if_pos (by rw [hU, q1, q14]; omega), h15]
          split
          · next q => exact absurd q (by omega)
          · rw [← Int.add_assoc]
        refine ih (u + 1) M2 (by omega) (by omega) (fun k i hki => by rw [e2, zu_o _ _ (by omega), hk _ _ hki]) (fun j => ?_)
        rw [e2, zu_at, hv, h15]
        by_cases hj : j = 4 * t + u
        · subst hj
          rw [if_pos rfl, if_pos (by omega)]
        · rw [if_neg hj]
          by_cases h5 : 4 * t ≤ j ∧ j < 4 * t + u
          · rw [if_pos h5, if_pos (by omega)]
          · rw [if_neg h5, if_neg (by omega)]
  exact loop _ 0 M rfl (by omega) (fun _ _ _ => rfl) (fun j => by rw [if_neg (by omega)])
theorem c_X1_trade {h : Nat} {t c m : Int} (w : hW M h) (ht : 0 ≤ t ∧ t < M 1 h 6) (hc : 0 ≤ c ∧ c ≤ qun (hS M h) t) : CV l m_X1_trade [zr 1 h, zi t, zi c, zi m] M (fun M' => Fx (kH h) M M' ∧ hW M' h ∧ hS M' h = sTrade (hS M h) t c m) := by
  have h1 := w.1
  refine vX1_trade ⟨⟨w, by omega⟩, fun _ => ?_, fun e => absurd ht e⟩
  refine (c_X1_dropFirst w ht hc).mono ?_
  rintro M1 ⟨f1, w1, e1⟩
  refine ⟨by omega, ?_⟩
  intro M2 e2
  have q1 : M2 1 h = M 1 h := by rw [e2, zu_k (by decide), f1 _ _ (by omega)]
  have q12 : M2 12 h = M 12 h := by rw [e2, zu_k (by decide), f1 _ _ (by omega)]
  have q16 : M2 16 h = M 16 h := by rw [e2, zu_k (by decide), f1 _ _ (by omega)]
  have p17 : M1 17 h = M 17 h := f1 _ _ (by omega)
  have es : qsl (hS M h) t = M 12 h t := by rw [hS_sl, if_pos ht]
  have hs := w.2.1 t (by omega)
  have key : ∀ M3 : zM, M3 = zu M2 16 h t (M 16 h t + (if qsl (hS M h) t = 1 then m else -m)) → Fx (kH h) M M3 ∧ hW M3 h ∧ hS M3 h = sTrade (hS M h) t c m := by
    intro M3 e3
    have f : Fx (kH h) M M3 := by
      intro k i hk
      have h14 : ¬ (k = 14 ∧ i = h) := fun q => hk ⟨by omega, q.2⟩
      have h15 : ¬ (k = 15 ∧ i = h) := fun q => hk ⟨by omega, q.2⟩
      have h16 : ¬ (k = 16 ∧ i = h) := fun q => hk ⟨by omega, q.2⟩
      have h17 : ¬ (k = 17 ∧ i = h) := fun q => hk ⟨by omega, q.2⟩
      rw [e3, zu_o _ _ h16, e2, zu_o _ _ h17, f1 _ _ (by omega)]
    have r1 : M3 1 h = M1 1 h := by rw [e3, zu_k (by decide), e2, zu_k (by decide)]
    have r12 : M3 12 h = M1 12 h := by rw [e3, zu_k (by decide), e2, zu_k (by decide)]
    have r13 : M3 13 h = M1 13 h := by rw [e3, zu_k (by decide), e2, zu_k (by decide)]
    have r14 : M3 14 h = M1 14 h := by rw [e3, zu_k (by decide), e2, zu_k (by decide)]
    have r15 : M3 15 h = M1 15 h := by rw [e3, zu_k (by decide), e2, zu_k (by decide)]
    have p1 : M1 1 h = M 1 h := f1 _ _ (by omega)
    have p16 : M1 16 h = M 16 h := f1 _ _ (by omega)
    refine ⟨f, hW_congr r1 r12 r14 w1, ?_⟩
    have a1 : qsc (hS M3 h) = qsc (hS M1 h) := by funext k; rw [hS_sc, hS_sc, r1]
    have a2 : qsl (hS M3 h) = qsl (hS M1 h) := by funext k; rw [hS_sl, hS_sl, r1, r12]
    have a3 : qgr (hS M3 h) = qgr (hS M1 h) := by funext k; rw [hS_gr, hS_gr, r1, r13]
    have a4 : qun (hS M3 h) = qun (hS M1 h) := by funext k; rw [hS_un, hS_un, r1, r14]
    have a5 : qsy (hS M3 h) = qsy (hS M1 h) := by funext k u; rw [hS_sy, hS_sy]; unfold hU; rw [r1, r14, r15]
    rw [e1] at a1 a2 a3 a4 a5
    have a6 : qpu (hS M3 h) = upf (qpu (hS M h)) t (qpu (hS M h) t + (if qsl (hS M h) t = 1 then m else -m)) := by
      funext j
      unfold upf
      rw [hS_pu, hS_pu, hS_pu, r1, p1, e3, zu_at, q16]
      by_cases hj : j = t
      · simp [hj, ht]
      · simp [hj]
    have a7 : qtr (hS M3 h) = upf (qtr (hS M h)) t (qtr (hS M h) t + c) := by
      funext j
      unfold upf
      rw [hS_tr, hS_tr, hS_tr, r1, p1, e3, zu_k (by decide), e2, zu_at, p17]
      by_cases hj : j = t
      · simp [hj, ht]
      · simp [hj]
    exact Prod.ext a1 (Prod.ext a2 (Prod.ext a3 (Prod.ext a4 (Prod.ext a5 (Prod.ext a6 a7)))))
  rw [q12, q16]
  refine ⟨by omega, fun h0 M3 e3 => key M3 ?_, fun h0 M3 e3 => key M3 ?_⟩
  · rw [e3, es, if_neg (by omega)]
  · rw [e3, es, if_pos (by omega)]
end

