/-! ===== what the hall takes ===== -/
theorem zsum_mul {g : Int → Int} {c : Int} : ∀ n : Nat, zsum (fun t => g t * c) (n : Int) = zsum g (n : Int) * c
  | 0 => by rw [show ((0 : Nat) : Int) = 0 from rfl, zsum_0, zsum_0, Int.zero_mul]
  | n + 1 => by rw [show ((n + 1 : Nat) : Int) = (n : Int) + 1 by omega, zsum_s (by omega), zsum_s (by omega), zsum_mul n, Int.add_mul]
theorem zsum_sub {g h : Int → Int} : ∀ n : Nat, zsum (fun t => g t - h t) (n : Int) = zsum g (n : Int) - zsum h (n : Int)
  | 0 => by rw [show ((0 : Nat) : Int) = 0 from rfl, zsum_0, zsum_0, zsum_0]; rfl
  | n + 1 => by rw [show ((n + 1 : Nat) : Int) = (n : Int) + 1 by omega, zsum_s (by omega), zsum_s (by omega), zsum_s (by omega), zsum_sub n]; omega
theorem zsum_ad {g h : Int → Int} : ∀ n : Nat, zsum (fun t => g t + h t) (n : Int) = zsum g (n : Int) + zsum h (n : Int)
  | 0 => by rw [show ((0 : Nat) : Int) = 0 from rfl, zsum_0, zsum_0, zsum_0]; rfl
  | n + 1 => by rw [show ((n + 1 : Nat) : Int) = (n : Int) + 1 by omega, zsum_s (by omega), zsum_s (by omega), zsum_s (by omega), zsum_ad n]; omega
theorem cnt_all {R : List Int} {n : Nat} : ∀ d : Nat, (∀ k : Int, 0 ≤ k ∧ k < (d : Int) → 0 ≤ ktr (R.getD k.toNat 0) ∧ ktr (R.getD k.toNat 0) < (n : Int)) → zsum (fun t => cnt R t (d : Int)) (n : Int) = (d : Int)
  | 0, _ => by
    have e : ∀ t, cnt R t ((0 : Nat) : Int) = 0 := fun t => zsum_0
    rw [zsum_congr (g := fun _ => 0) (fun t _ => e t), zsum_c, Int.mul_zero]
    rfl
  | d + 1, h => by
    have hk := h (d : Int) (by omega)
    have e : ∀ t, cnt R t ((d + 1 : Nat) : Int) = cnt R t (d : Int) + (if ktr (R.getD (d : Int).toNat 0) = t then 1 else 0) := fun t => by rw [show ((d + 1 : Nat) : Int) = (d : Int) + 1 by omega, cnt_s (by omega)]
    rw [zsum_congr (g := fun t => cnt R t (d : Int) + (if ktr (R.getD (d : Int).toNat 0) = t then 1 else 0)) (fun t _ => e t), zsum_ad, cnt_all d (fun k hk => h k (by omega)), zsum_pick hk.1, if_pos hk.2]
    omega
/-- a trader's part of what the hall takes -/
noncomputable def tkS (S : zS) (g w t : Int) : Int := if qgr S t = g then (if qsl S t = 1 then -(mny (qB S g) (qA S g) (qfee S) w 1 t) else mny (qB S g) (qA S g) (qfee S) w 0 t) else 0
theorem tkg_sum {S : zS} {g w : Int} (ok : okS S) : zsum (tkS S g w) (qn S) = tkg (qB S g) (qA S g) (qfee S) w := by
  have hn := ok.1.1
  have hb := dN_b (B := qB S g) (A := qA S g) (f := qfee S) (w := w)
  have hl := dN_l (B := qB S g) (A := qA S g) (f := qfee S) (w := w)
  by_cases c3 : w = 3
  · subst c3
    rw [tkg_ref (E := fun t => qgr S t = g) (f := qfee S) ok.1 (fun t => decide (qgr S t = g)) (fun t _ => by simp)]
    refine zsum_congr fun t _ => ?_
    unfold tkS
    by_cases c : qgr S t = g
    · have D : decide (qgr S t = g) = true := by simpa using c
      rw [if_pos c, if_pos D]
    · rw [if_neg c, if_neg (by simpa using c)]
  · have term : ∀ t, 0 ≤ t ∧ t < qn S → tkS S g w t = cnt (qB S g) t (dN (qB S g) (qA S g) (qfee S) w) * dP (qB S g) (qA S g) (qfee S) w - cnt (qA S g) t (dN (qB S g) (qA S g) (qfee S) w) * dG (qB S g) (qA S g) (qfee S) w := by
      intro t ht
      have hm : qgr S t = g → _ := fun e => mny_ref (f := qfee S) (w := w) (E := fun t => qgr S t = g) ok.1 ht e
      unfold tkS
      by_cases c : qgr S t = g
      · rw [if_pos c]
        by_cases s : qsl S t = 1
        · have z : cnt (qB S g) t (dN (qB S g) (qA S g) (qfee S) w) = 0 := cnt_none (noB (E := fun t => qgr S t = g) ok.1 (fun q => q.2.2 s)) ⟨hb.1, hl.1⟩
          rw [if_pos s, (hm c).2 s, if_neg c3, z, Int.zero_mul]
          exact (Int.zero_sub _).symm
        · have z : cnt (qA S g) t (dN (qB S g) (qA S g) (qfee S) w) = 0 := cnt_none (noA (E := fun t => qgr S t = g) ok.1 (fun q => s q.2.2)) ⟨hb.1, hl.2⟩
          rw [if_neg s, (hm c).1 s, if_neg c3, z, Int.zero_mul]
          exact (Int.sub_zero _).symm
      · have z1 : cnt (qB S g) t (dN (qB S g) (qA S g) (qfee S) w) = 0 := cnt_none (noB (E := fun t => qgr S t = g) ok.1 (fun q => c q.2.1)) ⟨hb.1, hl.1⟩
        have z2 : cnt (qA S g) t (dN (qB S g) (qA S g) (qfee S) w) = 0 := cnt_none (noA (E := fun t => qgr S t = g) ok.1 (fun q => c q.2.1)) ⟨hb.1, hl.2⟩
        rw [if_neg c, z1, z2, Int.zero_mul, Int.zero_mul]
        rfl
    obtain ⟨n, en⟩ := Int.eq_ofNat_of_zero_le hn.1
    obtain ⟨d, ed⟩ := Int.eq_ofNat_of_zero_le hb.1
    have kB_ : ∀ k : Int, 0 ≤ k ∧ k < (d : Int) → 0 ≤ ktr ((qB S g).getD k.toNat 0) ∧ ktr ((qB S g).getD k.toNat 0) < (n : Int) := fun k hk => by
      obtain ⟨t, u, c, e⟩ := ((mB_ok (E := fun t => qgr S t = g) ok.1).2 _).mp (at_mem (L := qB S g) (j := k) (by omega))
      rw [e, (kB_d (ok.1.rng c.1)).1]
      have := c.1.1
      have := c.1.2.1
      omega
    have kA_ : ∀ k : Int, 0 ≤ k ∧ k < (d : Int) → 0 ≤ ktr ((qA S g).getD k.toNat 0) ∧ ktr ((qA S g).getD k.toNat 0) < (n : Int) := fun k hk => by
      obtain ⟨t, u, c, e⟩ := ((mA_ok (E := fun t => qgr S t = g) ok.1).2 _).mp (at_mem (L := qA S g) (j := k) (by omega))
      rw [e, (kA_d (ok.1.rng c.1)).1]
      have := c.1.1
      have := c.1.2.1
      omega
    rw [zsum_congr term, en, ed, zsum_sub, zsum_mul, zsum_mul, cnt_all d kB_, cnt_all d kA_]
    unfold tkg
    rw [if_neg c3, ed]
    by_cases z : (d : Int) = 0
    · rw [if_pos z, z, Int.zero_mul, Int.zero_mul]; rfl
    · rw [if_neg z, Int.mul_sub]
theorem tkS_b {S : zS} {g t : Int} {w : Int} (ht : qgr S t = g) : tkS S g w t = if qsl S t = 1 then -(mny (qB S g) (qA S g) (qfee S) w 1 t) else mny (qB S g) (qA S g) (qfee S) w 0 t := if_pos ht
section
variable {l : Launch} {M : zM} {S : zS} {h : Nat} {g w : Int}
def LL_takings_5 (l : Launch) (P : Int → zM → Prop) (c n : Nat) (s0 : Nat) (v1 : Int) (v2 : Int) (v3 : Int) (v4 : Int) (M : zM) : Prop := AW l m_L_takings (zTin m_L_takings 3480 19200 c n P) 5 [(0, zr 64 s0), (1, zi v1), (2, zi v2), (3, zi v3), (4, zi v4)] [] M
theorem vL_takings_5 {l : Launch} {P : Int → zM → Prop} {c n : Nat} {s0 : Nat} {v1 : Int} {v2 : Int} {v3 : Int} {v4 : Int} {M : zM}
    (H0 : (zI v4 ∧ zI (M 64 s0 0) ∧ (((M 64 s0 0) ≤ v4 → P v3 M) ∧ (v4 < (M 64 s0 0) → ((0 ≤ M 64 s0 8 ∧ M 64 s0 8 < M 97 0 71) ∧ ∀ r9 : Nat, (r9 : Int) = M 64 s0 8 → ((0 ≤ v4 ∧ v4 < 21) ∧ (zI (M 71 r9 v4) ∧ zI v1 ∧ (((M 71 r9 v4) ≠ v1 → LL_takings_5 l P c n s0 v1 v2 v3 (v4 + 1) M) ∧ ((M 71 r9 v4) = v1 → ((0 ≤ M 64 s0 7 ∧ M 64 s0 7 < M 97 0 70) ∧ ∀ r21 : Nat, (r21 : Int) = M 64 s0 7 → (zI (M 70 r21 v4) ∧ (((M 70 r21 v4) = 0 → (((c + 174) ≤ 3480 ∧ (n + 960) ≤ 19200) ∧ (CIn l m_L_deal 174 960 [zr 64 s0, zi v4, zi v2, zi (-1)] M (fun x33 M30 => LL_takings_5 l P (c + 174) (n + 960) s0 v1 v2 (v3 + x33) (v4 + 1) M30)))) ∧ ((M 70 r21 v4) ≠ 0 → (((c + 174) ≤ 3480 ∧ (n + 960) ≤ 19200) ∧ (CIn l m_L_deal 174 960 [zr 64 s0, zi v4, zi v2, zi (-1)] M (fun x38 M35 => LL_takings_5 l P (c + 174) (n + 960) s0 v1 v2 (v3 + (-x38)) (v4 + 1) M35)))))))))))))))) :
    LL_takings_5 l P c n s0 v1 v2 v3 v4 M :=
(aw_iload d_L_takings_5 rfl 4 rfl
(aw_aload_n d_L_takings_7 rfl rfl 0 rfl (by decide)
(aw_getI (kc := 0) d_L_takings_8 rfl flL_80 rfl rfl
(have z1 := H0.1; have z2 := H0.2.1; have e3 := H0.2.2; aw_icmp_ge d_L_takings_11 rfl rfl z1 z2 (fun c4 => have e6 := e3.1 c4; (aw_iload_n d_L_takings_64 rfl rfl 3 rfl
(aw_rin d_L_takings_65 rfl e6))) (fun c5 => have e7 := e3.2 c5; (aw_aload_n d_L_takings_14 rfl rfl 0 rfl (by decide)
(have z8 := e7.1; aw_getE (kc := 8) d_L_takings_15 rfl flL_30 rfl rfl (by decide) z8
(fun r9 hqr9 => (have e10 := e7.2 r9 hqr9; (aw_iload d_L_takings_18 rfl 4 rfl
(have z11 := e10.1; aw_ialdG d_L_takings_20 rfl zd71.G (zix_s z11)
(have e12 := e10.2; (aw_iload_n d_L_takings_21 rfl rfl 1 rfl
(have z13 := e12.1; have z14 := e12.2.1; have e15 := e12.2.2; aw_icmp_ne d_L_takings_22 rfl rfl z13 z14 (fun c16 => have e18 := e15.1 c16; (aw_iinc (lv' := [(4, zi (v4 + 1)), (0, zr 64 s0), (1, zi v1), (2, zi v2), (3, zi v3)]) (y := (v4 + 1)) d_L_takings_58 rfl 4 rfl (by decide) rfl rfl
(aw_goto d_L_takings_61 rfl
(aw_sub [1, 2, 3, 4, 0] rfl e18)))) (fun c17 => have e19 := e15.2 c17; (aw_iload_n d_L_takings_25 rfl rfl 3 rfl
(aw_aload_n d_L_takings_26 rfl rfl 0 rfl (by decide)
(have z20 := e19.1; aw_getE (kc := 7) d_L_takings_27 rfl flL_50 rfl rfl (by decide) z20
(fun r21 hqr21 => (have e22 := e19.2 r21 hqr21; (aw_iload d_L_takings_30 rfl 4 rfl
(aw_zaldG d_L_takings_32 rfl zd70.G (zix_s z11)
(have z23 := e22.1; have e24 := e22.2; aw_if_eq d_L_takings_33 rfl rfl z23 (fun c25 => have e27 := e24.1 c25; (aw_aload_n d_L_takings_48 rfl rfl 0 rfl (by decide)
(aw_iload d_L_takings_49 rfl 4 rfl
(aw_iload_n d_L_takings_51 rfl rfl 2 rfl
(aw_iconst d_L_takings_52 rfl
(have z29 := e27.1; have e31 := e27.2; aw_SIn (As := [zr 64 s0, zi v4, zi v2, zi (-1)]) (st := [zi v3]) d_L_takings_53 rfl csL_74 ⟨Nat.le_of_ble_eq_true rfl, Nat.le_of_ble_eq_true rfl⟩ z29 rfl rfl (Nat.le_of_ble_eq_true rfl) (Nat.le_of_ble_eq_true rfl) e31 (fun x33 M30 e32 => (aw_iadd d_L_takings_56 rfl
(aw_istore_n (lv' := [(3, zi (v3 + x33)), (0, zr 64 s0), (1, zi v1), (2, zi v2), (4, zi v4)]) d_L_takings_57 rfl rfl (by decide) rfl
(aw_iinc (lv' := [(4, zi (v4 + 1)), (3, zi (v3 + x33)), (0, zr 64 s0), (1, zi v1), (2, zi v2)]) (y := (v4 + 1)) d_L_takings_58 rfl 4 rfl (by decide) rfl rfl
(aw_goto d_L_takings_61 rfl
(aw_sub [2, 3, 4, 1, 0] rfl e32)))))))))))) (fun c26 => have e28 := e24.2 c26; (aw_aload_n d_L_takings_36 rfl rfl 0 rfl (by decide)
(aw_iload d_L_takings_37 rfl 4 rfl
(aw_iload_n d_L_takings_39 rfl rfl 2 rfl
(aw_iconst d_L_takings_40 rfl
(have z34 := e28.1; have e36 := e28.2; aw_SIn (As := [zr 64 s0, zi v4, zi v2, zi (-1)]) (st := [zi v3]) d_L_takings_41 rfl csL_74 ⟨Nat.le_of_ble_eq_true rfl, Nat.le_of_ble_eq_true rfl⟩ z34 rfl rfl (Nat.le_of_ble_eq_true rfl) (Nat.le_of_ble_eq_true rfl) e36 (fun x38 M35 e37 => (aw_ineg d_L_takings_44 rfl
(aw_goto d_L_takings_45 rfl
(aw_iadd d_L_takings_56 rfl
(aw_istore_n (lv' := [(3, zi (v3 + (-x38))), (0, zr 64 s0), (1, zi v1), (2, zi v2), (4, zi v4)]) d_L_takings_57 rfl rfl (by decide) rfl
(aw_iinc (lv' := [(4, zi (v4 + 1)), (3, zi (v3 + (-x38))), (0, zr 64 s0), (1, zi v1), (2, zi v2)]) (y := (v4 + 1)) d_L_takings_58 rfl 4 rfl (by decide) rfl rfl
(aw_goto d_L_takings_61 rfl
(aw_sub [2, 3, 4, 1, 0] rfl e37)))))))))))))))))))))))))))))))))))))
theorem vL_takings {l : Launch} {P : Int → zM → Prop} {s0 : Nat} {v1 : Int} {v2 : Int} {M : zM}
    (H0 : LL_takings_5 l P 0 0 s0 v1 v2 0 0 M) :
    CIn l m_L_takings 3480 19200 [zr 64 s0, zi v1, zi v2] M P :=
(aw_iconst d_L_takings_0 rfl
(aw_istore_n (lv' := [(3, zi 0), (0, zr 64 s0), (1, zi v1), (2, zi v2)]) d_L_takings_1 rfl rfl (by decide) rfl
(aw_iconst d_L_takings_2 rfl
(aw_istore (lv' := [(4, zi 0), (3, zi 0), (0, zr 64 s0), (1, zi v1), (2, zi v2)]) d_L_takings_3 rfl (by decide) rfl
(aw_sub [2, 3, 4, 1, 0] rfl H0)))))
abbrev tgP (M : zM) (S : zS) (g w : Int) : Int → zM → Prop := fun x M' => x = tkg (qB S g) (qA S g) (qfee S) w ∧ Gr dKs M M' ∧ zSy M'
theorem takings_5 (ok : okS S) (wl : lH M h S) (hg : 0 ≤ g ∧ g < 4) (hw : 0 ≤ w ∧ w ≤ 3) : ∀ (f t c n : Nat) (M1 : zM), (t : Int) + f = qn S → c ≤ 174 * t → n ≤ 960 * t → Gr dKs M M1 → zSy M1 → LL_takings_5 l (tgP M S g w) c n h g w (zsum (tkS S g w) t) t M1 := by
  have hn := wl.n20
  intro f
  induction f with
  | zero =>
    intro t c n M1 ht hc hn' G y
    have w1 := wl.ke G.ke
    refine vL_takings_5 ?_
    rw [w1.n]
    refine ⟨by omega, by omega, fun _ => ⟨?_, G, y⟩, fun q => absurd q (by omega)⟩
    rw [show (t : Int) = qn S by omega]
    exact tkg_sum ok
  | succ f ih =>
    intro t c n M1 ht hc hn' G y
    have w1 := wl.ke G.ke
    have hT : 0 ≤ (t : Int) ∧ (t : Int) < qn S := by omega
    have hgr := ok.2.1 t hT
    have h01 := wl.s01 hT
    have nx : ∀ (c n : Nat) M2 v, c ≤ 174 * (t + 1) → n ≤ 960 * (t + 1) → Gr dKs M M2 → zSy M2 → v = zsum (tkS S g w) t + tkS S g w t → LL_takings_5 l (tgP M S g w) c n h g w v ((t : Int) + 1) M2 := by
      intro c n M2 v hc hn G y hv
      have := ih (t + 1) c n M2 (by omega) hc hn G y
      rw [show ((t + 1 : Nat) : Int) = (t : Int) + 1 by omega, zsum_s (by omega), ← hv] at this
      exact this
    refine vL_takings_5 ?_
    rw [w1.n]
    refine ⟨by omega, by omega, fun q => absurd q (by omega), fun _ => ⟨w1.r8.1, fun r hr => ?_⟩⟩
    obtain rfl := w1.r8.2 r hr
    rw [w1.gr hT]
    refine ⟨w1.t21 hT, by omega, by omega, fun q => nx c n M1 _ (by omega) (by omega) G y ?_, fun q => ⟨w1.r7.1, fun r2 hr2 => ?_⟩⟩
    · unfold tkS
      rw [if_neg q, Int.add_zero]
    obtain rfl := w1.r7.2 r2 hr2
    rw [w1.sl hT]
    refine ⟨by omega, fun s => ⟨by omega, (c_deal ok w1 y hT hw).mono ?_⟩, fun s => ⟨by omega, (c_deal ok w1 y hT hw).mono ?_⟩⟩
    · rintro x M2 ⟨hx, G2, y2⟩
      refine nx _ _ M2 _ (by omega) (by omega) (G.tr G2) y2 ?_
      have s1 : ¬ qsl S t = 1 := by omega
      rw [hx, zb_f s1, tkS_b q, if_neg s1, q]
    · rintro x M2 ⟨hx, G2, y2⟩
      refine nx _ _ M2 _ (by omega) (by omega) (G.tr G2) y2 ?_
      have s1 : qsl S t = 1 := by omega
      rw [hx, zb_1 s1, tkS_b q, if_pos s1, q]
theorem c_takings (ok : okS S) (wl : lH M h S) (y : zSy M) (hg : 0 ≤ g ∧ g < 4) (hw : 0 ≤ w ∧ w ≤ 3) : CIn l m_L_takings 3480 19200 [zr 64 h, zi g, zi w] M (tgP M S g w) := by
  refine vL_takings ?_
  have := takings_5 (l := l) ok wl hg hw (qn S).toNat 0 0 0 M (by have := wl.n20; omega) (by omega) (by omega) Gr.rf y
  rw [show ((0 : Nat) : Int) = 0 from rfl, zsum_0] at this
  exact this
end
