/-! ===== questions, both sides: open, match, entry, prices ===== -/
theorem zsum_term {g : Int → Int} {i n : Int} (h : ∀ j, 0 ≤ j ∧ j < n → 0 ≤ g j) (hi : 0 ≤ i ∧ i < n) : g i ≤ zsum g n := by
  have key : ∀ m : Nat, i + 1 + m ≤ n → g i ≤ zsum g (i + 1 + m) := by
    intro m
    induction m with
    | zero =>
      intro _
      rw [show i + 1 + ((0 : Nat) : Int) = i + 1 by omega, zsum_s hi.1]
      have := zsum_ge (f := g) (n := i) (fun j hj => h j (by omega))
      omega
    | succ m ih =>
      intro hm
      have := ih (by omega)
      have h2 := h (i + 1 + m) (by omega)
      rw [show i + 1 + ((m + 1 : Nat) : Int) = (i + 1 + m) + 1 by omega, zsum_s (by omega)]
      omega
  have := key (n - (i + 1)).toNat (by omega)
  rwa [show i + 1 + (((n - (i + 1)).toNat : Nat) : Int) = n by omega] at this
theorem opN_D {B A : List Int} {f d : Int} (hB : B.Pairwise (· < ·)) (hA : A.Pairwise (· < ·)) (hd : 0 ≤ d) : 0 ≤ opN B A f d ∧ (0 < opD B A f d ↔ opN B A f d ≠ 0) ∧ (opN B A f d ≠ 0 → d < B.length ∧ d < A.length ∧ opD B A f d = gB B d - gA f A d) := by
  have n1 : ∀ i, 0 ≤ zsum (fun j => if d ≤ j ∧ gA f A j < gB B i then 1 else 0) A.length := fun i => zsum_ge fun j _ => by split <;> omega
  have n2 : ∀ i, 0 ≤ (if d ≤ i then zsum (fun j => if d ≤ j ∧ gA f A j < gB B i then 1 else 0) A.length else 0) := fun i => by
    have := n1 i
    split <;> omega
  have n3 : 0 ≤ opN B A f d := zsum_ge fun i _ => n2 i
  by_cases c : (d < B.length ∧ d < A.length) ∧ gA f A d < gB B d
  · have h1 : 1 ≤ opN B A f d := by
      have t1 := zsum_term (g := fun i => if d ≤ i then zsum (fun j => if d ≤ j ∧ gA f A j < gB B i then 1 else 0) A.length else 0) (i := d) (n := B.length) (fun j _ => n2 j) ⟨hd, c.1.1⟩
      have t2 := zsum_term (g := fun j => if d ≤ j ∧ gA f A j < gB B d then 1 else 0) (i := d) (n := A.length) (fun j _ => by split <;> omega) ⟨hd, c.1.2⟩
      rw [if_pos (Int.le_refl d)] at t1
      rw [if_pos ⟨Int.le_refl d, c.2⟩] at t2
      unfold opN
      omega
    have h2 : opD B A f d = gB B d - gA f A d := by rw [opD, if_pos c.1]; omega
    exact ⟨n3, ⟨fun _ => by omega, fun _ => by omega⟩, fun _ => ⟨c.1.1, c.1.2, h2⟩⟩
  · have h1 : opN B A f d = 0 := by
      refine zsum_0s (by omega) fun i hi => ?_
      by_cases c2 : d ≤ i
      · rw [if_pos c2]
        refine zsum_0s (by omega) fun j hj => ?_
        rw [if_neg]
        rintro ⟨c3, c4⟩
        have m1 := gB_mono hB (i := d) (j := i) ⟨hd, c2, hi.2⟩
        have m2 := gA_mono (f := f) hA (i := d) (j := j) ⟨hd, c3, hj.2⟩
        exact c ⟨by omega, by omega⟩
      · rw [if_neg c2]
    have h2 : opD B A f d = 0 := by
      unfold opD
      split
      · next c2 => omega
      · rfl
    exact ⟨n3, ⟨fun q => by omega, fun q => absurd h1 q⟩, fun q => absurd h1 q⟩
section
variable {l : Launch} {M : zM} {S : zS}
theorem gdS (h : okS S) (g : Int) : gd (qB S g) (qA S g) := gd_m h.1
theorem qBp (h : okS S) (g : Int) : (qB S g).Pairwise (· < ·) := (mB_ok h.1).1
theorem qAp (h : okS S) (g : Int) : (qA S g).Pairwise (· < ·) := (mA_ok h.1).1
noncomputable def aOpen (S : zS) (g w : Int) : Int := if ¬ (0 ≤ g ∧ g < 4) ∨ w < 0 ∨ 3 < w then -1 else if w = 0 then opN (qB S g) (qA S g) (qfee S) (dN (qB S g) (qA S g) (qfee S) (qlaw S)) else if w = 1 then opD (qB S g) (qA S g) (qfee S) (dN (qB S g) (qA S g) (qfee S) (qlaw S)) else if 0 < opD (qB S g) (qA S g) (qfee S) (dN (qB S g) (qA S g) (qfee S) (qlaw S)) then (if w = 3 then ktr ((qA S g).getD (dN (qB S g) (qA S g) (qfee S) (qlaw S)).toNat 0) else ktr ((qB S g).getD (dN (qB S g) (qA S g) (qfee S) (qlaw S)).toNat 0)) else -2
theorem aOpen_n {g w : Int} (h : ¬ (0 ≤ g ∧ g < 4) ∨ w < 0 ∨ 3 < w) : aOpen S g w = -1 := by rw [aOpen, if_pos h]
theorem aOpen_i {g w : Int} (h : 0 ≤ g ∧ g < 4) (hw : 0 ≤ w ∧ w ≤ 3) : aOpen S g w = if w = 0 then opN (qB S g) (qA S g) (qfee S) (dN (qB S g) (qA S g) (qfee S) (qlaw S)) else if w = 1 then opD (qB S g) (qA S g) (qfee S) (dN (qB S g) (qA S g) (qfee S) (qlaw S)) else if 0 < opD (qB S g) (qA S g) (qfee S) (dN (qB S g) (qA S g) (qfee S) (qlaw S)) then (if w = 3 then ktr ((qA S g).getD (dN (qB S g) (qA S g) (qfee S) (qlaw S)).toNat 0) else ktr ((qB S g).getD (dN (qB S g) (qA S g) (qfee S) (qlaw S)).toNat 0)) else -2 := by rw [aOpen, if_neg (by omega)]
theorem vX8_open {l : Launch} {P : Int → zM → Prop} {v1 : Int} {v2 : Int} {M : zM}
    (H0 : (zI v1 ∧ ((¬ (0 ≤ v1 ∧ v1 < 4) → P (-1) M) ∧ (0 ≤ v1 ∧ v1 < 4 → (zI v2 ∧ (v2 < 0 → P (-1) M) ∧ (0 ≤ v2 → ((v2 ≤ 3 → (CV l m_X8_settleGrade [zr 8 0, zi v1] M (fun M17 => ((v2 ≠ 0 → (CI l m_X0_openDifference [zr 0 0] M17 (fun x27 M24 => ((v2 ≠ 1 → (zI x27 ∧ (x27 ≤ 0 → P (-2) M24) ∧ (0 < x27 → ((v2 ≠ 3 → ((bkW M24 0 ∧ zI 0 ∧ zI (M24 0 0 8)) ∧ P (rslt M24 0 0 (M24 0 0 8) / 4) M24)) ∧ (v2 = 3 → ((bkW M24 0 ∧ zI 1 ∧ zI (M24 0 0 8)) ∧ P (rslt M24 0 1 (M24 0 0 8) / 4) M24)))))) ∧ (v2 = 1 → P x27 M24))))) ∧ (v2 = 0 → (CI l m_X0_openTwos [zr 0 0] M17 (fun x49 M46 => P x49 M46))))))) ∧ (3 < v2 → P (-1) M)))))))) :
    CI l m_X8_open [zr 8 0, zi v1, zi v2] M P :=
(aw_iload_n d_X8_open_0 rfl rfl 1 rfl
(have z1 := H0.1; have e2 := H0.2; (aw_SI (As := [zi v1]) (st := []) d_X8_open_1 rfl cs8_99 ⟨Nat.le_of_ble_eq_true rfl, Nat.le_of_ble_eq_true rfl⟩ rfl rfl (Nat.le_of_ble_eq_true rfl) (Nat.le_of_ble_eq_true rfl) (s_X8_isGrade z1) (fun _ _ hq => aw_eqs hq
(aw_if_eq d_X8_open_4 rfl rfl zb_I (fun c3 => have e5 := e2.1 (zb_0 c3); (aw_iconst d_X8_open_16 rfl
(aw_ri d_X8_open_17 rfl e5))) (fun c4 => have e6 := e2.2 (zb_n0 c4); (aw_iload_n d_X8_open_7 rfl rfl 2 rfl
(have z7 := e6.1; have e8 := e6.2; aw_if_lt d_X8_open_8 rfl rfl z7 (fun c9 => have e11 := e8.1 c9; (aw_iconst d_X8_open_16 rfl
(aw_ri d_X8_open_17 rfl e11))) (fun c10 => have e12 := e8.2 c10; (aw_iload_n d_X8_open_11 rfl rfl 2 rfl
(aw_iconst d_X8_open_12 rfl
(aw_icmp_le d_X8_open_13 rfl rfl z7 (by decide) (fun c13 => have e15 := e12.1 c13; (aw_aload_n d_X8_open_18 rfl rfl 0 rfl (by decide)
(aw_iload_n d_X8_open_19 rfl rfl 1 rfl
(aw_VV (As := [zi v1]) (st := []) d_X8_open_20 rfl cv8_154 ⟨Nat.le_of_ble_eq_true rfl, Nat.le_of_ble_eq_true rfl⟩ rfl rfl (Nat.le_of_ble_eq_true rfl) (Nat.le_of_ble_eq_true rfl) e15 (fun M17 e18 => (aw_iload_n d_X8_open_23 rfl rfl 2 rfl
(aw_if_ne d_X8_open_24 rfl rfl z7 (fun c20 => have e22 := e18.1 c20; (aw_aload_n d_X8_open_35 rfl rfl 0 rfl (by decide)
(aw_getR (k' := 0) (a := 0) (b := 0) (j := 0) d_X8_open_36 rfl fl8_47 rfl zj0 ⟨by decide, fun _ => by decide⟩
(aw_VI (As := []) (st := []) d_X8_open_39 rfl cv8_273 ⟨Nat.le_of_ble_eq_true rfl, Nat.le_of_ble_eq_true rfl⟩ rfl rfl (Nat.le_of_ble_eq_true rfl) (Nat.le_of_ble_eq_true rfl) e22 (fun x27 M24 e25 => (aw_istore_n (lv' := [(3, zi x27), (0, zr 8 0), (1, zi v1), (2, zi v2)]) d_X8_open_42 rfl rfl (by decide) rfl
(aw_iload_n d_X8_open_43 rfl rfl 3 rfl
(aw_iconst d_X8_open_44 rfl
(aw_icmp_ne d_X8_open_45 rfl rfl z7 (by decide) (fun c28 => have e30 := e25.1 c28; (aw_iload_n d_X8_open_50 rfl rfl 0 rfl
(have z32 := e30.1; have e33 := e30.2; aw_if_le d_X8_open_51 rfl rfl z32 (fun c34 => have e36 := e33.1 c34; (aw_bipush d_X8_open_81 rfl (by decide)
(aw_ri d_X8_open_83 rfl e36))) (fun c35 => have e37 := e33.2 c35; (aw_aload_n d_X8_open_54 rfl rfl 1 rfl (by decide)
(aw_getR (k' := 0) (a := 0) (b := 0) (j := 0) d_X8_open_55 rfl fl8_47 rfl zj0 ⟨by decide, fun _ => by decide⟩
(aw_iload_n d_X8_open_58 rfl rfl 3 rfl
(aw_iconst d_X8_open_59 rfl
(aw_icmp_ne d_X8_open_60 rfl rfl z7 (by decide) (fun c38 => have e40 := e37.1 c38; (aw_iconst d_X8_open_67 rfl
(aw_aload_n d_X8_open_68 rfl rfl 1 rfl (by decide)
(aw_getR (k' := 0) (a := 0) (b := 0) (j := 0) d_X8_open_69 rfl fl8_47 rfl zj0 ⟨by decide, fun _ => by decide⟩
(aw_getI (kc := 8) d_X8_open_72 rfl fl8_157 rfl rfl
(have z42 := e40.1; have e43 := e40.2; (aw_VI (As := [zi 0, zi (M24 0 0 8)]) (st := []) d_X8_open_75 rfl cv8_211 ⟨Nat.le_of_ble_eq_true rfl, Nat.le_of_ble_eq_true rfl⟩ rfl rfl (Nat.le_of_ble_eq_true rfl) (Nat.le_of_ble_eq_true rfl) (s_X0_traderAt z42) (fun _ _ hq => aw_eqs hq
(aw_goto d_X8_open_78 rfl
(aw_ri d_X8_open_83 rfl e43)))))))))) (fun c39 => have e41 := e37.2 c39; (aw_iconst d_X8_open_63 rfl
(aw_goto d_X8_open_64 rfl
(aw_aload_n d_X8_open_68 rfl rfl 1 rfl (by decide)
(aw_getR (k' := 0) (a := 0) (b := 0) (j := 0) d_X8_open_69 rfl fl8_47 rfl zj0 ⟨by decide, fun _ => by decide⟩
(aw_getI (kc := 8) d_X8_open_72 rfl fl8_157 rfl rfl
(have z44 := e41.1; have e45 := e41.2; (aw_VI (As := [zi 1, zi (M24 0 0 8)]) (st := []) d_X8_open_75 rfl cv8_211 ⟨Nat.le_of_ble_eq_true rfl, Nat.le_of_ble_eq_true rfl⟩ rfl rfl (Nat.le_of_ble_eq_true rfl) (Nat.le_of_ble_eq_true rfl) (s_X0_traderAt z44) (fun _ _ hq => aw_eqs hq
(aw_goto d_X8_open_78 rfl
(aw_ri d_X8_open_83 rfl e45)))))))))))))))))))) (fun c29 => have e31 := e25.2 c29; (aw_iload_n d_X8_open_48 rfl rfl 0 rfl
(aw_ri d_X8_open_49 rfl e31)))))))))))) (fun c21 => have e23 := e18.2 c21; (aw_aload_n d_X8_open_27 rfl rfl 0 rfl (by decide)
(aw_getR (k' := 0) (a := 0) (b := 0) (j := 0) d_X8_open_28 rfl fl8_47 rfl zj0 ⟨by decide, fun _ => by decide⟩
(aw_VI (As := []) (st := []) d_X8_open_31 rfl cv8_270 ⟨Nat.le_of_ble_eq_true rfl, Nat.le_of_ble_eq_true rfl⟩ rfl rfl (Nat.le_of_ble_eq_true rfl) (Nat.le_of_ble_eq_true rfl) e23 (fun x49 M46 e47 => (aw_ri d_X8_open_34 rfl e47))))))))))))) (fun c14 => have e16 := e12.2 c14; (aw_iconst d_X8_open_16 rfl
(aw_ri d_X8_open_17 rfl e16)))))))))))))))
def LX9_open_34 (l : Launch) (P : Int → zM → Prop) (v2 : Int) (v3 : Int) (v4 : Int) (M : zM) : Prop := AW l m_X9_open (zTi m_X9_open P) 34 [(0, zr 9 0), (2, zi v2), (3, zi v3), (4, zi v4)] [] M
def LX9_open_49 (l : Launch) (P : Int → zM → Prop) (v2 : Int) (v3 : Int) (v4 : Int) (v5 : Int) (M : zM) : Prop := AW l m_X9_open (zTi m_X9_open P) 49 [(0, zr 9 0), (2, zi v2), (3, zi v3), (4, zi v4), (5, zi v5)] [] M
theorem vX9_open_34 {l : Launch} {P : Int → zM → Prop} {v2 : Int} {v3 : Int} {v4 : Int} {M : zM}
    (H0 : (zI v4 ∧ zI (M 9 0 11) ∧ ((M 9 0 11) ≤ v4 → (zI v2 ∧ (v2 ≠ 0 → ((v2 ≠ 1 → (zI v3 ∧ (v3 ≠ 0 → ((v2 ≠ 2 → ((0 ≤ (M 9 0 18) ∧ (M 9 0 18) < 80) ∧ P (M 34 0 (M 9 0 18)) M)) ∧ (v2 = 2 → ((0 ≤ (M 9 0 18) ∧ (M 9 0 18) < 80) ∧ P (M 31 0 (M 9 0 18)) M)))) ∧ (v3 = 0 → P (-2) M))) ∧ (v2 = 1 → (zI v3 ∧ (v3 ≠ 0 → ((0 ≤ (M 9 0 18) ∧ (M 9 0 18) < 80) ∧ P ((M 33 0 (M 9 0 18)) - (M 36 0 (M 9 0 18))) M)) ∧ (v3 = 0 → P 0 M))))) ∧ (v2 = 0 → P v3 M))) ∧ (v4 < (M 9 0 11) → LX9_open_49 l P v2 v3 v4 (M 9 0 18) M))) :
    LX9_open_34 l P v2 v3 v4 M :=
(aw_iload d_X9_open_34 rfl 3 rfl
(aw_aload_n d_X9_open_36 rfl rfl 0 rfl (by decide)
(aw_getI (kc := 11) d_X9_open_37 rfl fl9_113 rfl rfl
(have z18 := H0.1; have z19 := H0.2.1; have e20 := H0.2.2; aw_icmp_ge d_X9_open_40 rfl rfl z18 z19 (fun c21 => have e23 := e20.1 c21; (aw_iload_n d_X9_open_95 rfl rfl 1 rfl
(have z25 := e23.1; have e26 := e23.2; aw_if_ne d_X9_open_96 rfl rfl z25 (fun c27 => have e29 := e26.1 c27; (aw_iload_n d_X9_open_101 rfl rfl 1 rfl
(aw_iconst d_X9_open_102 rfl
(aw_icmp_ne d_X9_open_103 rfl rfl z25 (by decide) (fun c31 => have e33 := e29.1 c31; (aw_iload_n d_X9_open_134 rfl rfl 2 rfl
(have z35 := e33.1; have e36 := e33.2; aw_if_ne d_X9_open_135 rfl rfl z35 (fun c37 => have e39 := e36.1 c37; (aw_iload_n d_X9_open_141 rfl rfl 1 rfl
(aw_iconst d_X9_open_142 rfl
(aw_icmp_ne d_X9_open_143 rfl rfl z25 (by decide) (fun c41 => have e43 := e39.1 c41; (aw_aload_n d_X9_open_158 rfl rfl 0 rfl (by decide)
(aw_getR (k' := 34) (a := 0) (b := 0) (j := 0) d_X9_open_159 rfl fl9_32 rfl zj0 ⟨by decide, fun _ => by decide⟩
(aw_aload_n d_X9_open_162 rfl rfl 0 rfl (by decide)
(aw_getI (kc := 18) d_X9_open_163 rfl fl9_146 rfl rfl
(have z45 := e43.1; have e46 := e43.2; (aw_iald d_X9_open_166 rfl za34 z45
(aw_ri d_X9_open_167 rfl e46)))))))) (fun c42 => have e44 := e39.2 c42; (aw_aload_n d_X9_open_146 rfl rfl 0 rfl (by decide)
(aw_getR (k' := 31) (a := 0) (b := 0) (j := 0) d_X9_open_147 rfl fl9_23 rfl zj0 ⟨by decide, fun _ => by decide⟩
(aw_aload_n d_X9_open_150 rfl rfl 0 rfl (by decide)
(aw_getI (kc := 18) d_X9_open_151 rfl fl9_146 rfl rfl
(have z47 := e44.1; have e48 := e44.2; (aw_iald d_X9_open_154 rfl za31 z47
(aw_goto d_X9_open_155 rfl
(aw_ri d_X9_open_167 rfl e48))))))))))))) (fun c38 => have e40 := e36.2 c38; (aw_bipush d_X9_open_138 rfl (by decide)
(aw_ri d_X9_open_140 rfl e40)))))) (fun c32 => have e34 := e29.2 c32; (aw_iload_n d_X9_open_106 rfl rfl 2 rfl
(have z49 := e34.1; have e50 := e34.2; aw_if_ne d_X9_open_107 rfl rfl z49 (fun c51 => have e53 := e50.1 c51; (aw_aload_n d_X9_open_114 rfl rfl 0 rfl (by decide)
(aw_getR (k' := 33) (a := 0) (b := 0) (j := 0) d_X9_open_115 rfl fl9_29 rfl zj0 ⟨by decide, fun _ => by decide⟩
(aw_aload_n d_X9_open_118 rfl rfl 0 rfl (by decide)
(aw_getI (kc := 18) d_X9_open_119 rfl fl9_146 rfl rfl
(have z55 := e53.1; have e56 := e53.2; (aw_iald d_X9_open_122 rfl za33 z55
(aw_aload_n d_X9_open_123 rfl rfl 0 rfl (by decide)
(aw_getR (k' := 36) (a := 0) (b := 0) (j := 0) d_X9_open_124 rfl fl9_38 rfl zj0 ⟨by decide, fun _ => by decide⟩
(aw_aload_n d_X9_open_127 rfl rfl 0 rfl (by decide)
(aw_getI (kc := 18) d_X9_open_128 rfl fl9_146 rfl rfl
(aw_iald d_X9_open_131 rfl za36 z55
(aw_isub d_X9_open_132 rfl
(aw_ri d_X9_open_133 rfl e56)))))))))))))) (fun c52 => have e54 := e50.2 c52; (aw_iconst d_X9_open_110 rfl
(aw_goto d_X9_open_111 rfl
(aw_ri d_X9_open_133 rfl e54))))))))))) (fun c28 => have e30 := e26.2 c28; (aw_iload_n d_X9_open_99 rfl rfl 2 rfl
(aw_ri d_X9_open_100 rfl e30)))))) (fun c22 => have e24 := e20.2 c22; (aw_aload_n d_X9_open_43 rfl rfl 0 rfl (by decide)
(aw_getI (kc := 18) d_X9_open_44 rfl fl9_146 rfl rfl
(aw_istore (lv' := [(5, zi (M 9 0 18)), (0, zr 9 0), (2, zi v2), (3, zi v3), (4, zi v4)]) d_X9_open_47 rfl (by decide) rfl
(aw_sub [1, 2, 3, 4, 0] rfl e24)))))))))
theorem vX9_open_49 {l : Launch} {P : Int → zM → Prop} {v2 : Int} {v3 : Int} {v4 : Int} {v5 : Int} {M : zM}
    (H0 : (zI v5 ∧ zI (M 9 0 15) ∧ ((M 9 0 15) ≤ v5 → LX9_open_34 l P v2 v3 (v4 + 1) M) ∧ (v5 < (M 9 0 15) → ((0 ≤ v4 ∧ v4 < 80) ∧ ((0 ≤ v5 ∧ v5 < 80) ∧ (zI (M 33 0 v4) ∧ zI (M 36 0 v5) ∧ ((M 33 0 v4) ≤ (M 36 0 v5) → LX9_open_49 l P v2 (v3 + 0) v4 (v5 + 1) M) ∧ ((M 36 0 v5) < (M 33 0 v4) → LX9_open_49 l P v2 (v3 + 1) v4 (v5 + 1) M))))))) :
    LX9_open_49 l P v2 v3 v4 v5 M :=
(aw_iload d_X9_open_49 rfl 4 rfl
(aw_aload_n d_X9_open_51 rfl rfl 0 rfl (by decide)
(aw_getI (kc := 15) d_X9_open_52 rfl fl9_116 rfl rfl
(have z57 := H0.1; have z58 := H0.2.1; have e59 := H0.2.2; aw_icmp_ge d_X9_open_55 rfl rfl z57 z58 (fun c60 => have e62 := e59.1 c60; (aw_iinc (lv' := [(4, zi (v4 + 1)), (0, zr 9 0), (2, zi v2), (3, zi v3), (5, zi v5)]) (y := (v4 + 1)) d_X9_open_89 rfl 3 rfl (by decide) rfl rfl
(aw_goto d_X9_open_92 rfl
(aw_sub [1, 2, 3, 0] rfl e62)))) (fun c61 => have e63 := e59.2 c61; (aw_iload_n d_X9_open_58 rfl rfl 2 rfl
(aw_aload_n d_X9_open_59 rfl rfl 0 rfl (by decide)
(aw_getR (k' := 33) (a := 0) (b := 0) (j := 0) d_X9_open_60 rfl fl9_29 rfl zj0 ⟨by decide, fun _ => by decide⟩
(aw_iload d_X9_open_63 rfl 3 rfl
(have z64 := e63.1; have e65 := e63.2; (aw_iald d_X9_open_65 rfl za33 z64
(aw_aload_n d_X9_open_66 rfl rfl 0 rfl (by decide)
(aw_getR (k' := 36) (a := 0) (b := 0) (j := 0) d_X9_open_67 rfl fl9_38 rfl zj0 ⟨by decide, fun _ => by decide⟩
(aw_iload d_X9_open_70 rfl 4 rfl
(have z66 := e65.1; have e67 := e65.2; (aw_iald d_X9_open_72 rfl za36 z66
(have z68 := e67.1; have z69 := e67.2.1; have e70 := e67.2.2; aw_icmp_le d_X9_open_73 rfl rfl z68 z69 (fun c71 => have e73 := e70.1 c71; (aw_iconst d_X9_open_80 rfl
(aw_iadd d_X9_open_81 rfl
(aw_istore_n (lv' := [(3, zi (v3 + 0)), (0, zr 9 0), (2, zi v2), (4, zi v4), (5, zi v5)]) d_X9_open_82 rfl rfl (by decide) rfl
(aw_iinc (lv' := [(5, zi (v5 + 1)), (3, zi (v3 + 0)), (0, zr 9 0), (2, zi v2), (4, zi v4)]) (y := (v5 + 1)) d_X9_open_83 rfl 4 rfl (by decide) rfl rfl
(aw_goto d_X9_open_86 rfl
(aw_sub [2, 3, 1, 4, 0] rfl e73))))))) (fun c72 => have e74 := e70.2 c72; (aw_iconst d_X9_open_76 rfl
(aw_goto d_X9_open_77 rfl
(aw_iadd d_X9_open_81 rfl
(aw_istore_n (lv' := [(3, zi (v3 + 1)), (0, zr 9 0), (2, zi v2), (4, zi v4), (5, zi v5)]) d_X9_open_82 rfl rfl (by decide) rfl
(aw_iinc (lv' := [(5, zi (v5 + 1)), (3, zi (v3 + 1)), (0, zr 9 0), (2, zi v2), (4, zi v4)]) (y := (v5 + 1)) d_X9_open_83 rfl 4 rfl (by decide) rfl rfl
(aw_goto d_X9_open_86 rfl
(aw_sub [2, 3, 1, 4, 0] rfl e74)))))))))))))))))))))))))
theorem vX9_open {l : Launch} {P : Int → zM → Prop} {v1 : Int} {v2 : Int} {M : zM}
    (H0 : (zI v1 ∧ ((¬ (0 ≤ v1 ∧ v1 < 4) → P (-1) M) ∧ (0 ≤ v1 ∧ v1 < 4 → (zI v2 ∧ ((zJ v2 ∧ zJ 0 ∧ zJ 3) ∧ ((0 ≤ v2 ∧ v2 ≤ 3 → (CV l m_X9_lays [zr 9 0, zi v1] M (fun M15 => LX9_open_34 l P v2 0 (M15 9 0 18) M15))) ∧ (¬ (0 ≤ v2 ∧ v2 ≤ 3) → P (-1) M)))))))) :
    CI l m_X9_open [zr 9 0, zi v1, zi v2] M P :=
(aw_iload_n d_X9_open_0 rfl rfl 1 rfl
(have z1 := H0.1; have e2 := H0.2; (aw_SI (As := [zi v1]) (st := []) d_X9_open_1 rfl cs9_195 ⟨Nat.le_of_ble_eq_true rfl, Nat.le_of_ble_eq_true rfl⟩ rfl rfl (Nat.le_of_ble_eq_true rfl) (Nat.le_of_ble_eq_true rfl) (s_X9_isGrade z1) (fun _ _ hq => aw_eqs hq
(aw_if_eq d_X9_open_4 rfl rfl zb_I (fun c3 => have e5 := e2.1 (zb_0 c3); (aw_iconst d_X9_open_19 rfl
(aw_ri d_X9_open_20 rfl e5))) (fun c4 => have e6 := e2.2 (zb_n0 c4); (aw_iload_n d_X9_open_7 rfl rfl 2 rfl
(have z7 := e6.1; have e8 := e6.2; (aw_i2l d_X9_open_8 rfl z7
(aw_lconst (x := 0) d_X9_open_9 rfl (by decide)
(aw_ldc2 d_X9_open_10 rfl cl9_86
(have z9 := e8.1; have e10 := e8.2; (aw_SI (As := [zl v2, zl 0, zl 3]) (st := []) d_X9_open_13 rfl cs9_82 ⟨Nat.le_of_ble_eq_true rfl, Nat.le_of_ble_eq_true rfl⟩ rfl rfl (Nat.le_of_ble_eq_true rfl) (Nat.le_of_ble_eq_true rfl) (s_X9_in z9) (fun _ _ hq => aw_eqs hq
(aw_if_ne d_X9_open_16 rfl rfl zb_I (fun c11 => have e13 := e10.1 (zb_n0 c11); (aw_aload_n d_X9_open_21 rfl rfl 0 rfl (by decide)
(aw_iload_n d_X9_open_22 rfl rfl 1 rfl
(aw_VV (As := [zi v1]) (st := []) d_X9_open_23 rfl cv9_180 ⟨Nat.le_of_ble_eq_true rfl, Nat.le_of_ble_eq_true rfl⟩ rfl rfl (Nat.le_of_ble_eq_true rfl) (Nat.le_of_ble_eq_true rfl) e13 (fun M15 e16 => (aw_iconst d_X9_open_26 rfl
(aw_istore_n (lv' := [(3, zi 0), (0, zr 9 0), (1, zi v1), (2, zi v2)]) d_X9_open_27 rfl rfl (by decide) rfl
(aw_aload_n d_X9_open_28 rfl rfl 1 rfl (by decide)
(aw_getI (kc := 18) d_X9_open_29 rfl fl9_146 rfl rfl
(aw_istore (lv' := [(4, zi (M15 9 0 18)), (3, zi 0), (0, zr 9 0), (1, zi v1), (2, zi v2)]) d_X9_open_32 rfl (by decide) rfl
(aw_sub [2, 4, 1, 0] rfl e16))))))))))) (fun c12 => have e14 := e10.2 (zb_0 c12); (aw_iconst d_X9_open_19 rfl
(aw_ri d_X9_open_20 rfl e14))))))))))))))))))
theorem q8_open {g w : Int} (c : CX M S) (zg : zI g) (zw : zI w) : CI l m_X8_open [zr 8 0, zi g, zi w] M (fun x M' => x = aOpen S g w ∧ Fr kScr M M') := by
  have gg := gdS c.2 g
  have hl := gg.1
  have hf := c.2.2.2.1
  refine vX8_open ⟨zg, fun a => ⟨(aOpen_n (.inl a)).symm, Fr.rf⟩, fun a => ⟨zw, fun b => ⟨(aOpen_n (by omega)).symm, Fr.rf⟩, fun b => ⟨fun b2 => ?_, fun b2 => ⟨(aOpen_n (by omega)).symm, Fr.rf⟩⟩⟩⟩
  rw [aOpen_i a ⟨b, b2⟩]
  refine (c_settleGrade c a).mono ?_
  rintro M1 ⟨f1, s1⟩
  have F := f1.scr
  have wk := s1.W gg hf
  have hd := dN_b (B := qB S g) (A := qA S g) (f := qfee S) (w := qlaw S)
  have hdl := dN_l (B := qB S g) (A := qA S g) (f := qfee S) (w := qlaw S)
  have e8 := s1.2.1.2.2.2.2
  have od := opN_D (f := qfee S) (d := dN (qB S g) (qA S g) (qfee S) (qlaw S)) (qBp c.2 g) (qAp c.2 g) hd.1
  have ob : 0 ≤ opD (qB S g) (qA S g) (qfee S) (dN (qB S g) (qA S g) (qfee S) (qlaw S)) ∧ opD (qB S g) (qA S g) (qfee S) (dN (qB S g) (qA S g) (qfee S) (qlaw S)) ≤ 10000 := by
    unfold opD
    split
    · next q =>
      have q1 := gB_in gg (k := dN (qB S g) (qA S g) (qfee S) (qlaw S)) (by omega)
      have q2 := gA_in gg (f := qfee S) (k := dN (qB S g) (qA S g) (qfee S) (qlaw S)) (by omega)
      omega
    · omega
  refine ⟨fun e => ?_, fun e => ?_⟩
  · rw [if_neg e]
    refine (c_X0_openDifference gg hf s1).eq ⟨fun e2 => ?_, fun e2 => ⟨by rw [if_pos e2], F⟩⟩
    rw [if_neg e2]
    refine ⟨by omega, fun q => ⟨by rw [if_neg (by omega)], F⟩, fun q => ?_⟩
    rw [if_pos q]
    have hq := od.2.2 (od.2.1.mp q)
    have t0 := s1.trd (z := 0) (dN (qB S g) (qA S g) (qfee S) (qlaw S)) (by rw [if_pos rfl]; omega)
    have t1 := s1.trd (z := 1) (dN (qB S g) (qA S g) (qfee S) (qlaw S)) (by rw [if_neg (by decide)]; omega)
    rw [if_pos rfl] at t0
    rw [if_neg (by decide)] at t1
    rw [e8]
    exact ⟨fun e3 => ⟨⟨wk, by omega, by omega⟩, by rw [if_neg e3]; exact t0, F⟩, fun e3 => ⟨⟨wk, by omega, by omega⟩, by rw [if_pos e3]; exact t1, F⟩⟩
  · rw [if_pos e]
    exact (c_X0_openTwos gg hf s1 (qAp c.2 g)).eq ⟨rfl, F⟩
theorem q9_open {g w : Int} (h : MX M S) (zg : zI g) (zw : zI w) : CI l m_X9_open [zr 9 0, zi g, zi w] M (fun x M' => x = aOpen S g w ∧ mQ M M') := by
  have ok := h.ok
  have gg := gdS ok g
  have hl := gg.1
  refine vX9_open ⟨zg, fun a => ⟨(aOpen_n (.inl a)).symm, mQ.rf h⟩, fun a => ⟨zw, by omega, fun b => ?_, fun b => ⟨(aOpen_n (by omega)).symm, mQ.rf h⟩⟩⟩
  refine (m_lays h a).mono ?_
  rintro M1 ⟨F, h1, d1⟩
  have hd := dN_b (B := qB S g) (A := qA S g) (f := qfee S) (w := qlaw S)
  have hdl := dN_l (B := qB S g) (A := qA S g) (f := qfee S) (w := qlaw S)
  have e18 := d1.1
  have od := opN_D (f := qfee S) (d := dN (qB S g) (qA S g) (qfee S) (qlaw S)) (qBp ok g) (qAp ok g) hd.1
  have ob : opN (qB S g) (qA S g) (qfee S) (dN (qB S g) (qA S g) (qfee S) (qlaw S)) ≤ 80 * 80 := by
    have := zsum_bd (f := fun i => if dN (qB S g) (qA S g) (qfee S) (qlaw S) ≤ i then zsum (fun j => if dN (qB S g) (qA S g) (qfee S) (qlaw S) ≤ j ∧ gA (qfee S) (qA S g) j < gB (qB S g) i then 1 else 0) (qA S g).length else 0) (n := (qB S g).length) (c := 0) (d := 80) (by omega) (fun i _ => by
      have := zsum_bd (f := fun j => if dN (qB S g) (qA S g) (qfee S) (qlaw S) ≤ j ∧ gA (qfee S) (qA S g) j < gB (qB S g) i then 1 else 0) (n := (qA S g).length) (c := 0) (d := 1) (by omega) (fun j _ => by split <;> omega)
      split <;> omega)
    unfold opN
    omega
  -- the end
  have fin : ∀ n, n = opN (qB S g) (qA S g) (qfee S) (dN (qB S g) (qA S g) (qfee S) (qlaw S)) → zI w ∧ (w ≠ 0 → ((w ≠ 1 → (zI n ∧ (n ≠ 0 → ((w ≠ 2 → ((0 ≤ (M1 9 0 18) ∧ (M1 9 0 18) < 80) ∧ (M1 34 0 (M1 9 0 18) = aOpen S g w ∧ mQ M M1))) ∧ (w = 2 → ((0 ≤ (M1 9 0 18) ∧ (M1 9 0 18) < 80) ∧ (M1 31 0 (M1 9 0 18) = aOpen S g w ∧ mQ M M1))))) ∧ (n = 0 → (-2 = aOpen S g w ∧ mQ M M1)))) ∧ (w = 1 → (zI n ∧ (n ≠ 0 → ((0 ≤ (M1 9 0 18) ∧ (M1 9 0 18) < 80) ∧ (((M1 33 0 (M1 9 0 18)) - (M1 36 0 (M1 9 0 18))) = aOpen S g w ∧ mQ M M1))) ∧ (n = 0 → (0 = aOpen S g w ∧ mQ M M1)))))) ∧ (w = 0 → (n = aOpen S g w ∧ mQ M M1)) := by
    rintro n rfl
    rw [e18, aOpen_i a b]
    refine ⟨zw, fun e => ⟨fun e2 => ⟨by omega, fun q => ?_, fun q => ⟨by rw [if_neg e, if_neg e2, if_neg (fun q2 => od.2.1.mp q2 q)], F⟩⟩, fun e2 => ⟨by omega, fun q => ?_, fun q => ⟨?_, F⟩⟩⟩, fun e => ⟨by rw [if_pos e], F⟩⟩
    · have hq := od.2.2 q
      rw [if_neg e, if_neg e2, if_pos (od.2.1.mpr q), (h1.1.2 _ (by omega)).2.1, (h1.2.1.2 _ (by omega)).2.1]
      exact ⟨fun e3 => ⟨by omega, by rw [if_pos (by omega)], F⟩, fun e3 => ⟨by omega, by rw [if_neg (by omega)], F⟩⟩
    · have hq := od.2.2 q
      rw [if_neg e, if_pos e2, (h1.1.2 _ (by omega)).1, (h1.2.1.2 _ (by omega)).1]
      exact ⟨by omega, hq.2.2.symm, F⟩
    · rw [if_neg e, if_pos e2]
      by_cases q2 : 0 < opD (qB S g) (qA S g) (qfee S) (dN (qB S g) (qA S g) (qfee S) (qlaw S))
      · exact absurd q (od.2.1.mp q2)
      · have : 0 ≤ opD (qB S g) (qA S g) (qfee S) (dN (qB S g) (qA S g) (qfee S) (qlaw S)) := by unfold opD; split <;> omega
        omega
  have loop : ∀ (n : Nat) (i : Int), (((qB S g).length : Int) - i).toNat = n → dN (qB S g) (qA S g) (qfee S) (qlaw S) ≤ i ∧ i ≤ ((qB S g).length : Int) → LX9_open_34 l (fun x M' => x = aOpen S g w ∧ mQ M M') w (zsum (fun i => if dN (qB S g) (qA S g) (qfee S) (qlaw S) ≤ i then zsum (fun j => if dN (qB S g) (qA S g) (qfee S) (qlaw S) ≤ j ∧ gA (qfee S) (qA S g) j < gB (qB S g) i then 1 else 0) (qA S g).length else 0) i) i M1 := by
    intro n
    induction n with
    | zero =>
      intro i hn hi
      have : i = ((qB S g).length : Int) := by omega
      subst this
      refine vX9_open_34 ?_
      rw [h1.1.1]
      exact ⟨by omega, by omega, fun _ => fin _ rfl, fun e => by omega⟩
    | succ n ih =>
      intro i hn hi
      refine vX9_open_34 ?_
      rw [h1.1.1]
      refine ⟨by omega, by omega, fun e => by omega, fun _ => ?_⟩
      have ih2 := ih (i + 1) (by omega) (by omega)
      rw [zsum_s (by omega), if_pos hi.1] at ih2
      have inner : ∀ (m : Nat) (j : Int), (((qA S g).length : Int) - j).toNat = m → dN (qB S g) (qA S g) (qfee S) (qlaw S) ≤ j ∧ j ≤ ((qA S g).length : Int) → LX9_open_49 l (fun x M' => x = aOpen S g w ∧ mQ M M') w (zsum (fun i => if dN (qB S g) (qA S g) (qfee S) (qlaw S) ≤ i then zsum (fun j => if dN (qB S g) (qA S g) (qfee S) (qlaw S) ≤ j ∧ gA (qfee S) (qA S g) j < gB (qB S g) i then 1 else 0) (qA S g).length else 0) i + zsum (fun j => if dN (qB S g) (qA S g) (qfee S) (qlaw S) ≤ j ∧ gA (qfee S) (qA S g) j < gB (qB S g) i then 1 else 0) j) i j M1 := by
        intro m
        induction m with
        | zero =>
          intro j hm hj
          have : j = ((qA S g).length : Int) := by omega
          subst this
          refine vX9_open_49 ?_
          rw [h1.2.1.1]
          exact ⟨by omega, by omega, fun _ => ih2, fun e => by omega⟩
        | succ m ihm =>
          intro j hm hj
          have q1 := gB_in gg (k := i) (by omega)
          have q2 := gA_in gg (f := qfee S) (k := j) (by omega)
          have hf := ok.2.2.1
          refine vX9_open_49 ?_
          rw [h1.2.1.1, (h1.1.2 i (by omega)).1, (h1.2.1.2 j (by omega)).1]
          have ihm2 := ihm (j + 1) (by omega) (by omega)
          rw [zsum_s (by omega), ← Int.add_assoc] at ihm2
          refine ⟨by omega, by omega, fun e => by omega, fun _ => ⟨by omega, by omega, by omega, by omega, fun q => ?_, fun q => ?_⟩⟩
          · rw [if_neg (by omega)] at ihm2; exact ihm2
          · rw [if_pos ⟨hj.1, q⟩] at ihm2; exact ihm2
      have := inner _ (dN (qB S g) (qA S g) (qfee S) (qlaw S)) rfl (by omega)
      rw [zsum_0s (n := dN (qB S g) (qA S g) (qfee S) (qlaw S)) (by omega) (fun j hj => by rw [if_neg (by omega)]), Int.add_zero] at this
      rw [e18]
      exact this
  have := loop _ (dN (qB S g) (qA S g) (qfee S) (qlaw S)) rfl (by omega)
  rw [zsum_0s (n := dN (qB S g) (qA S g) (qfee S) (qlaw S)) (by omega) (fun j hj => by rw [if_neg (by omega)])] at this
  rw [e18]
  exact this
noncomputable def aMatch (S : zS) (g k w : Int) : Int := if ¬ (0 ≤ g ∧ g < 4) ∨ w < 0 ∨ 3 < w then -1 else if k = -1 ∧ w = 0 then dN (qB S g) (qA S g) (qfee S) (qlaw S) else if ¬ (0 ≤ k ∧ k < dN (qB S g) (qA S g) (qfee S) (qlaw S)) then -1 else
  if w = 0 then ktr ((qB S g).getD k.toNat 0) else if w = 1 then kun ((qB S g).getD k.toNat 0) else if w = 2 then ktr ((qA S g).getD k.toNat 0) else kun ((qA S g).getD k.toNat 0)
theorem aMatch_n {g k w : Int} (h : ¬ (0 ≤ g ∧ g < 4) ∨ w < 0 ∨ 3 < w) : aMatch S g k w = -1 := by rw [aMatch, if_pos h]
theorem aMatch_m {g k w : Int} (h : 0 ≤ g ∧ g < 4) (e1 : k = -1) (e2 : w = 0) : aMatch S g k w = dN (qB S g) (qA S g) (qfee S) (qlaw S) := by rw [aMatch, if_neg (by omega), if_pos ⟨e1, e2⟩]
theorem aMatch_o {g k w : Int} (h2 : ¬ (k = -1 ∧ w = 0)) (h3 : ¬ (0 ≤ k ∧ k < dN (qB S g) (qA S g) (qfee S) (qlaw S))) : aMatch S g k w = -1 := by
  unfold aMatch
  by_cases c : ¬ (0 ≤ g ∧ g < 4) ∨ w < 0 ∨ 3 < w
  · rw [if_pos c]
  · rw [if_neg c, if_neg h2, if_pos h3]
theorem aMatch_i {g k w : Int} (h : 0 ≤ g ∧ g < 4) (hw : 0 ≤ w ∧ w ≤ 3) (h3 : 0 ≤ k ∧ k < dN (qB S g) (qA S g) (qfee S) (qlaw S)) : aMatch S g k w = if w = 0 then ktr ((qB S g).getD k.toNat 0) else if w = 1 then kun ((qB S g).getD k.toNat 0) else if w = 2 then ktr ((qA S g).getD k.toNat 0) else kun ((qA S g).getD k.toNat 0) := by
  rw [aMatch, if_neg (by omega), if_neg (by omega), if_neg (fun q => q h3)]
theorem vX8_match {l : Launch} {P : Int → zM → Prop} {v1 : Int} {v2 : Int} {v3 : Int} {M : zM}
    (H0 : (zI v1 ∧ ((¬ (0 ≤ v1 ∧ v1 < 4) → P (-1) M) ∧ (0 ≤ v1 ∧ v1 < 4 → (zI v3 ∧ (v3 < 0 → P (-1) M) ∧ (0 ≤ v3 → ((v3 ≤ 3 → (CV l m_X8_settleGrade [zr 8 0, zi v1] M (fun M17 => (zI v2 ∧ (v2 ≠ (-1) → ((v2 < 0 → P (-1) M17) ∧ (0 ≤ v2 → (zI (M17 0 0 8) ∧ (v2 < (M17 0 0 8) → ((v3 < 2 → (zI (Int.tmod v3 2) ∧ ((Int.tmod v3 2) ≠ 0 → ((bkW M17 0 ∧ zI 0 ∧ zI v2) ∧ P (rslt M17 0 0 v2 % 4) M17)) ∧ ((Int.tmod v3 2) = 0 → ((bkW M17 0 ∧ zI 0 ∧ zI v2) ∧ P (rslt M17 0 0 v2 / 4) M17)))) ∧ (2 ≤ v3 → (zI (Int.tmod v3 2) ∧ ((Int.tmod v3 2) ≠ 0 → ((bkW M17 0 ∧ zI 1 ∧ zI v2) ∧ P (rslt M17 0 1 v2 % 4) M17)) ∧ ((Int.tmod v3 2) = 0 → ((bkW M17 0 ∧ zI 1 ∧ zI v2) ∧ P (rslt M17 0 1 v2 / 4) M17)))))) ∧ ((M17 0 0 8) ≤ v2 → P (-1) M17))))) ∧ (v2 = (-1) → ((v3 ≠ 0 → ((v2 < 0 → P (-1) M17) ∧ (0 ≤ v2 → (zI (M17 0 0 8) ∧ (v2 < (M17 0 0 8) → ((v3 < 2 → (zI (Int.tmod v3 2) ∧ ((Int.tmod v3 2) ≠ 0 → ((bkW M17 0 ∧ zI 0 ∧ zI v2) ∧ P (rslt M17 0 0 v2 % 4) M17)) ∧ ((Int.tmod v3 2) = 0 → ((bkW M17 0 ∧ zI 0 ∧ zI v2) ∧ P (rslt M17 0 0 v2 / 4) M17)))) ∧ (2 ≤ v3 → (zI (Int.tmod v3 2) ∧ ((Int.tmod v3 2) ≠ 0 → ((bkW M17 0 ∧ zI 1 ∧ zI v2) ∧ P (rslt M17 0 1 v2 % 4) M17)) ∧ ((Int.tmod v3 2) = 0 → ((bkW M17 0 ∧ zI 1 ∧ zI v2) ∧ P (rslt M17 0 1 v2 / 4) M17)))))) ∧ ((M17 0 0 8) ≤ v2 → P (-1) M17))))) ∧ (v3 = 0 → P (M17 0 0 8) M17))))))) ∧ (3 < v3 → P (-1) M)))))))) :
    CI l m_X8_match [zr 8 0, zi v1, zi v2, zi v3] M P :=
(aw_iload_n d_X8_match_0 rfl rfl 1 rfl
(have z1 := H0.1; have e2 := H0.2; (aw_SI (As := [zi v1]) (st := []) d_X8_match_1 rfl cs8_99 ⟨Nat.le_of_ble_eq_true rfl, Nat.le_of_ble_eq_true rfl⟩ rfl rfl (Nat.le_of_ble_eq_true rfl) (Nat.le_of_ble_eq_true rfl) (s_X8_isGrade z1) (fun _ _ hq => aw_eqs hq
(aw_if_eq d_X8_match_4 rfl rfl zb_I (fun c3 => have e5 := e2.1 (zb_0 c3); (aw_iconst d_X8_match_16 rfl
(aw_ri d_X8_match_17 rfl e5))) (fun c4 => have e6 := e2.2 (zb_n0 c4); (aw_iload_n d_X8_match_7 rfl rfl 3 rfl
(have z7 := e6.1; have e8 := e6.2; aw_if_lt d_X8_match_8 rfl rfl z7 (fun c9 => have e11 := e8.1 c9; (aw_iconst d_X8_match_16 rfl
(aw_ri d_X8_match_17 rfl e11))) (fun c10 => have e12 := e8.2 c10; (aw_iload_n d_X8_match_11 rfl rfl 3 rfl
(aw_iconst d_X8_match_12 rfl
(aw_icmp_le d_X8_match_13 rfl rfl z7 (by decide) (fun c13 => have e15 := e12.1 c13; (aw_aload_n d_X8_match_18 rfl rfl 0 rfl (by decide)
(aw_iload_n d_X8_match_19 rfl rfl 1 rfl
(aw_VV (As := [zi v1]) (st := []) d_X8_match_20 rfl cv8_154 ⟨Nat.le_of_ble_eq_true rfl, Nat.le_of_ble_eq_true rfl⟩ rfl rfl (Nat.le_of_ble_eq_true rfl) (Nat.le_of_ble_eq_true rfl) e15 (fun M17 e18 => (aw_iload_n d_X8_match_23 rfl rfl 2 rfl
(aw_iconst d_X8_match_24 rfl
(have z20 := e18.1; have e21 := e18.2; aw_icmp_ne d_X8_match_25 rfl rfl z20 (by decide) (fun c22 => have e24 := e21.1 c22; (aw_iload_n d_X8_match_40 rfl rfl 2 rfl
(aw_if_lt d_X8_match_41 rfl rfl z20 (fun c26 => have e28 := e24.1 c26; (aw_iconst d_X8_match_55 rfl
(aw_ri d_X8_match_56 rfl e28))) (fun c27 => have e29 := e24.2 c27; (aw_iload_n d_X8_match_44 rfl rfl 2 rfl
(aw_aload_n d_X8_match_45 rfl rfl 0 rfl (by decide)
(aw_getR (k' := 0) (a := 0) (b := 0) (j := 0) d_X8_match_46 rfl fl8_47 rfl zj0 ⟨by decide, fun _ => by decide⟩
(aw_getI (kc := 8) d_X8_match_49 rfl fl8_157 rfl rfl
(have z30 := e29.1; have e31 := e29.2; aw_icmp_lt d_X8_match_52 rfl rfl z20 z30 (fun c32 => have e34 := e31.1 c32; (aw_iload_n d_X8_match_57 rfl rfl 3 rfl
(aw_iconst d_X8_match_58 rfl
(aw_icmp_lt d_X8_match_59 rfl rfl z7 (by decide) (fun c36 => have e38 := e34.1 c36; (aw_iconst d_X8_match_66 rfl
(aw_istore (lv' := [(4, zi 0), (0, zr 8 0), (1, zi v1), (2, zi v2), (3, zi v3)]) d_X8_match_67 rfl (by decide) rfl
(aw_iload_n d_X8_match_69 rfl rfl 4 rfl
(aw_iconst d_X8_match_70 rfl
(aw_irem d_X8_match_71 rfl z7 (by decide) (by decide)
(have z40 := e38.1; have e41 := e38.2; aw_if_ne d_X8_match_72 rfl rfl z40 (fun c42 => have e44 := e41.1 c42; (aw_aload_n d_X8_match_88 rfl rfl 1 rfl (by decide)
(aw_getR (k' := 0) (a := 0) (b := 0) (j := 0) d_X8_match_89 rfl fl8_47 rfl zj0 ⟨by decide, fun _ => by decide⟩
(aw_iload d_X8_match_92 rfl 0 rfl
(aw_iload_n d_X8_match_94 rfl rfl 3 rfl
(have z46 := e44.1; have e47 := e44.2; (aw_VI (As := [zi 0, zi v2]) (st := []) d_X8_match_95 rfl cv8_214 ⟨Nat.le_of_ble_eq_true rfl, Nat.le_of_ble_eq_true rfl⟩ rfl rfl (Nat.le_of_ble_eq_true rfl) (Nat.le_of_ble_eq_true rfl) (s_X0_unitAt z46) (fun _ _ hq => aw_eqs hq
(aw_ri d_X8_match_98 rfl e47))))))))) (fun c43 => have e45 := e41.2 c43; (aw_aload_n d_X8_match_75 rfl rfl 1 rfl (by decide)
(aw_getR (k' := 0) (a := 0) (b := 0) (j := 0) d_X8_match_76 rfl fl8_47 rfl zj0 ⟨by decide, fun _ => by decide⟩
(aw_iload d_X8_match_79 rfl 0 rfl
(aw_iload_n d_X8_match_81 rfl rfl 3 rfl
(have z48 := e45.1; have e49 := e45.2; (aw_VI (As := [zi 0, zi v2]) (st := []) d_X8_match_82 rfl cv8_211 ⟨Nat.le_of_ble_eq_true rfl, Nat.le_of_ble_eq_true rfl⟩ rfl rfl (Nat.le_of_ble_eq_true rfl) (Nat.le_of_ble_eq_true rfl) (s_X0_traderAt z48) (fun _ _ hq => aw_eqs hq
(aw_goto d_X8_match_85 rfl
(aw_ri d_X8_match_98 rfl e49))))))))))))))))) (fun c37 => have e39 := e34.2 c37; (aw_iconst d_X8_match_62 rfl
(aw_goto d_X8_match_63 rfl
(aw_istore (lv' := [(4, zi 1), (0, zr 8 0), (1, zi v1), (2, zi v2), (3, zi v3)]) d_X8_match_67 rfl (by decide) rfl
(aw_iload_n d_X8_match_69 rfl rfl 4 rfl
(aw_iconst d_X8_match_70 rfl
(aw_irem d_X8_match_71 rfl z7 (by decide) (by decide)
(have z50 := e39.1; have e51 := e39.2; aw_if_ne d_X8_match_72 rfl rfl z50 (fun c52 => have e54 := e51.1 c52; (aw_aload_n d_X8_match_88 rfl rfl 1 rfl (by decide)
(aw_getR (k' := 0) (a := 0) (b := 0) (j := 0) d_X8_match_89 rfl fl8_47 rfl zj0 ⟨by decide, fun _ => by decide⟩
(aw_iload d_X8_match_92 rfl 0 rfl
(aw_iload_n d_X8_match_94 rfl rfl 3 rfl
(have z56 := e54.1; have e57 := e54.2; (aw_VI (As := [zi 1, zi v2]) (st := []) d_X8_match_95 rfl cv8_214 ⟨Nat.le_of_ble_eq_true rfl, Nat.le_of_ble_eq_true rfl⟩ rfl rfl (Nat.le_of_ble_eq_true rfl) (Nat.le_of_ble_eq_true rfl) (s_X0_unitAt z56) (fun _ _ hq => aw_eqs hq
(aw_ri d_X8_match_98 rfl e57))))))))) (fun c53 => have e55 := e51.2 c53; (aw_aload_n d_X8_match_75 rfl rfl 1 rfl (by decide)
(aw_getR (k' := 0) (a := 0) (b := 0) (j := 0) d_X8_match_76 rfl fl8_47 rfl zj0 ⟨by decide, fun _ => by decide⟩
(aw_iload d_X8_match_79 rfl 0 rfl
(aw_iload_n d_X8_match_81 rfl rfl 3 rfl
(have z58 := e55.1; have e59 := e55.2; (aw_VI (As := [zi 1, zi v2]) (st := []) d_X8_match_82 rfl cv8_211 ⟨Nat.le_of_ble_eq_true rfl, Nat.le_of_ble_eq_true rfl⟩ rfl rfl (Nat.le_of_ble_eq_true rfl) (Nat.le_of_ble_eq_true rfl) (s_X0_traderAt z58) (fun _ _ hq => aw_eqs hq
(aw_goto d_X8_match_85 rfl
(aw_ri d_X8_match_98 rfl e59)))))))))))))))))))))) (fun c33 => have e35 := e31.2 c33; (aw_iconst d_X8_match_55 rfl
(aw_ri d_X8_match_56 rfl e35)))))))))))) (fun c23 => have e25 := e21.2 c23; (aw_iload_n d_X8_match_28 rfl rfl 3 rfl
(aw_if_ne d_X8_match_29 rfl rfl z7 (fun c60 => have e62 := e25.1 c60; (aw_iload_n d_X8_match_40 rfl rfl 2 rfl
(aw_if_lt d_X8_match_41 rfl rfl z20 (fun c64 => have e66 := e62.1 c64; (aw_iconst d_X8_match_55 rfl
(aw_ri d_X8_match_56 rfl e66))) (fun c65 => have e67 := e62.2 c65; (aw_iload_n d_X8_match_44 rfl rfl 2 rfl
(aw_aload_n d_X8_match_45 rfl rfl 0 rfl (by decide)
(aw_getR (k' := 0) (a := 0) (b := 0) (j := 0) d_X8_match_46 rfl fl8_47 rfl zj0 ⟨by decide, fun _ => by decide⟩
(aw_getI (kc := 8) d_X8_match_49 rfl fl8_157 rfl rfl
(have z68 := e67.1; have e69 := e67.2; aw_icmp_lt d_X8_match_52 rfl rfl z20 z68 (fun c70 => have e72 := e69.1 c70; (aw_iload_n d_X8_match_57 rfl rfl 3 rfl
(aw_iconst d_X8_match_58 rfl
(aw_icmp_lt d_X8_match_59 rfl rfl z7 (by decide) (fun c74 => have e76 := e72.1 c74; (aw_iconst d_X8_match_66 rfl
(aw_istore (lv' := [(4, zi 0), (0, zr 8 0), (1, zi v1), (2, zi v2), (3, zi v3)]) d_X8_match_67 rfl (by decide) rfl
(aw_iload_n d_X8_match_69 rfl rfl 4 rfl
(aw_iconst d_X8_match_70 rfl
(aw_irem d_X8_match_71 rfl z7 (by decide) (by decide)
(have z78 := e76.1; have e79 := e76.2; aw_if_ne d_X8_match_72 rfl rfl z78 (fun c80 => have e82 := e79.1 c80; (aw_aload_n d_X8_match_88 rfl rfl 1 rfl (by decide)
(aw_getR (k' := 0) (a := 0) (b := 0) (j := 0) d_X8_match_89 rfl fl8_47 rfl zj0 ⟨by decide, fun _ => by decide⟩
(aw_iload d_X8_match_92 rfl 0 rfl
(aw_iload_n d_X8_match_94 rfl rfl 3 rfl
(have z84 := e82.1; have e85 := e82.2; (aw_VI (As := [zi 0, zi v2]) (st := []) d_X8_match_95 rfl cv8_214 ⟨Nat.le_of_ble_eq_true rfl, Nat.le_of_ble_eq_true rfl⟩ rfl rfl (Nat.le_of_ble_eq_true rfl) (Nat.le_of_ble_eq_true rfl) (s_X0_unitAt z84) (fun _ _ hq => aw_eqs hq
(aw_ri d_X8_match_98 rfl e85))))))))) (fun c81 => have e83 := e79.2 c81; (aw_aload_n d_X8_match_75 rfl rfl 1 rfl (by decide)
(aw_getR (k' := 0) (a := 0) (b := 0) (j := 0) d_X8_match_76 rfl fl8_47 rfl zj0 ⟨by decide, fun _ => by decide⟩
(aw_iload d_X8_match_79 rfl 0 rfl
(aw_iload_n d_X8_match_81 rfl rfl 3 rfl
(have z86 := e83.1; have e87 := e83.2; (aw_VI (As := [zi 0, zi v2]) (st := []) d_X8_match_82 rfl cv8_211 ⟨Nat.le_of_ble_eq_true rfl, Nat.le_of_ble_eq_true rfl⟩ rfl rfl (Nat.le_of_ble_eq_true rfl) (Nat.le_of_ble_eq_true rfl) (s_X0_traderAt z86) (fun _ _ hq => aw_eqs hq
(aw_goto d_X8_match_85 rfl
(aw_ri d_X8_match_98 rfl e87))))))))))))))))) (fun c75 => have e77 := e72.2 c75; (aw_iconst d_X8_match_62 rfl
(aw_goto d_X8_match_63 rfl
(aw_istore (lv' := [(4, zi 1), (0, zr 8 0), (1, zi v1), (2, zi v2), (3, zi v3)]) d_X8_match_67 rfl (by decide) rfl
(aw_iload_n d_X8_match_69 rfl rfl 4 rfl
(aw_iconst d_X8_match_70 rfl
(aw_irem d_X8_match_71 rfl z7 (by decide) (by decide)
(have z88 := e77.1; have e89 := e77.2; aw_if_ne d_X8_match_72 rfl rfl z88 (fun c90 => have e92 := e89.1 c90; (aw_aload_n d_X8_match_88 rfl rfl 1 rfl (by decide)
(aw_getR (k' := 0) (a := 0) (b := 0) (j := 0) d_X8_match_89 rfl fl8_47 rfl zj0 ⟨by decide, fun _ => by decide⟩
(aw_iload d_X8_match_92 rfl 0 rfl
(aw_iload_n d_X8_match_94 rfl rfl 3 rfl
(have z94 := e92.1; have e95 := e92.2; (aw_VI (As := [zi 1, zi v2]) (st := []) d_X8_match_95 rfl cv8_214 ⟨Nat.le_of_ble_eq_true rfl, Nat.le_of_ble_eq_true rfl⟩ rfl rfl (Nat.le_of_ble_eq_true rfl) (Nat.le_of_ble_eq_true rfl) (s_X0_unitAt z94) (fun _ _ hq => aw_eqs hq
(aw_ri d_X8_match_98 rfl e95))))))))) (fun c91 => have e93 := e89.2 c91; (aw_aload_n d_X8_match_75 rfl rfl 1 rfl (by decide)
(aw_getR (k' := 0) (a := 0) (b := 0) (j := 0) d_X8_match_76 rfl fl8_47 rfl zj0 ⟨by decide, fun _ => by decide⟩
(aw_iload d_X8_match_79 rfl 0 rfl
(aw_iload_n d_X8_match_81 rfl rfl 3 rfl
(have z96 := e93.1; have e97 := e93.2; (aw_VI (As := [zi 1, zi v2]) (st := []) d_X8_match_82 rfl cv8_211 ⟨Nat.le_of_ble_eq_true rfl, Nat.le_of_ble_eq_true rfl⟩ rfl rfl (Nat.le_of_ble_eq_true rfl) (Nat.le_of_ble_eq_true rfl) (s_X0_traderAt z96) (fun _ _ hq => aw_eqs hq
(aw_goto d_X8_match_85 rfl
(aw_ri d_X8_match_98 rfl e97)))))))))))))))))))))) (fun c71 => have e73 := e69.2 c71; (aw_iconst d_X8_match_55 rfl
(aw_ri d_X8_match_56 rfl e73)))))))))))) (fun c61 => have e63 := e25.2 c61; (aw_aload_n d_X8_match_32 rfl rfl 0 rfl (by decide)
(aw_getR (k' := 0) (a := 0) (b := 0) (j := 0) d_X8_match_33 rfl fl8_47 rfl zj0 ⟨by decide, fun _ => by decide⟩
(aw_getI (kc := 8) d_X8_match_36 rfl fl8_157 rfl rfl
(aw_ri d_X8_match_39 rfl e63)))))))))))))))) (fun c14 => have e16 := e12.2 c14; (aw_iconst d_X8_match_16 rfl
(aw_ri d_X8_match_17 rfl e16)))))))))))))))
theorem vX9_match {l : Launch} {P : Int → zM → Prop} {v1 : Int} {v2 : Int} {v3 : Int} {M : zM}
    (H0 : (zI v1 ∧ ((0 ≤ v1 ∧ v1 < 4 → (CV l m_X9_lays [zr 9 0, zi v1] M (fun M7 => (zI v2 ∧ (v2 ≠ (-1) → (zI ((M7 9 0 18) - 1) ∧ ((zJ v2 ∧ zJ 0 ∧ zJ ((M7 9 0 18) - 1)) ∧ ((0 ≤ v2 ∧ v2 ≤ ((M7 9 0 18) - 1) → (zI v3 ∧ (v3 = 0 → ((0 ≤ v2 ∧ v2 < 80) ∧ P (M7 31 0 v2) M7)) ∧ (v3 = 1 → ((0 ≤ v2 ∧ v2 < 80) ∧ P (M7 32 0 v2) M7)) ∧ (v3 = 2 → ((0 ≤ v2 ∧ v2 < 80) ∧ P (M7 34 0 v2) M7)) ∧ (v3 = 3 → ((0 ≤ v2 ∧ v2 < 80) ∧ P (M7 35 0 v2) M7)) ∧ ((v3 < 0 ∨ 3 < v3) → P (-1) M7))) ∧ (¬ (0 ≤ v2 ∧ v2 ≤ ((M7 9 0 18) - 1)) → P (-1) M7))))) ∧ (v2 = (-1) → (zI v3 ∧ (v3 ≠ 0 → (zI ((M7 9 0 18) - 1) ∧ ((zJ v2 ∧ zJ 0 ∧ zJ ((M7 9 0 18) - 1)) ∧ ((0 ≤ v2 ∧ v2 ≤ ((M7 9 0 18) - 1) → ((v3 = 0 → ((0 ≤ v2 ∧ v2 < 80) ∧ P (M7 31 0 v2) M7)) ∧ (v3 = 1 → ((0 ≤ v2 ∧ v2 < 80) ∧ P (M7 32 0 v2) M7)) ∧ (v3 = 2 → ((0 ≤ v2 ∧ v2 < 80) ∧ P (M7 34 0 v2) M7)) ∧ (v3 = 3 → ((0 ≤ v2 ∧ v2 < 80) ∧ P (M7 35 0 v2) M7)) ∧ ((v3 < 0 ∨ 3 < v3) → P (-1) M7))) ∧ (¬ (0 ≤ v2 ∧ v2 ≤ ((M7 9 0 18) - 1)) → P (-1) M7))))) ∧ (v3 = 0 → P (M7 9 0 18) M7))))))) ∧ (¬ (0 ≤ v1 ∧ v1 < 4) → P (-1) M)))) :
    CI l m_X9_match [zr 9 0, zi v1, zi v2, zi v3] M P :=
(aw_iload_n d_X9_match_0 rfl rfl 1 rfl
(have z1 := H0.1; have e2 := H0.2; (aw_SI (As := [zi v1]) (st := []) d_X9_match_1 rfl cs9_195 ⟨Nat.le_of_ble_eq_true rfl, Nat.le_of_ble_eq_true rfl⟩ rfl rfl (Nat.le_of_ble_eq_true rfl) (Nat.le_of_ble_eq_true rfl) (s_X9_isGrade z1) (fun _ _ hq => aw_eqs hq
(aw_if_ne d_X9_match_4 rfl rfl zb_I (fun c3 => have e5 := e2.1 (zb_n0 c3); (aw_aload_n d_X9_match_9 rfl rfl 0 rfl (by decide)
(aw_iload_n d_X9_match_10 rfl rfl 1 rfl
(aw_VV (As := [zi v1]) (st := []) d_X9_match_11 rfl cv9_180 ⟨Nat.le_of_ble_eq_true rfl, Nat.le_of_ble_eq_true rfl⟩ rfl rfl (Nat.le_of_ble_eq_true rfl) (Nat.le_of_ble_eq_true rfl) e5 (fun M7 e8 => (aw_iload_n d_X9_match_14 rfl rfl 2 rfl
(aw_iconst d_X9_match_15 rfl
(have z10 := e8.1; have e11 := e8.2; aw_icmp_ne d_X9_match_16 rfl rfl z10 (by decide) (fun c12 => have e14 := e11.1 c12; (aw_iload_n d_X9_match_28 rfl rfl 2 rfl
(aw_i2l d_X9_match_29 rfl z10
(aw_lconst (x := 0) d_X9_match_30 rfl (by decide)
(aw_aload_n d_X9_match_31 rfl rfl 0 rfl (by decide)
(aw_getI (kc := 18) d_X9_match_32 rfl fl9_146 rfl rfl
(aw_iconst d_X9_match_35 rfl
(aw_isub d_X9_match_36 rfl
(have z16 := e14.1; have e17 := e14.2; (aw_i2l d_X9_match_37 rfl z16
(have z18 := e17.1; have e19 := e17.2; (aw_SI (As := [zl v2, zl 0, zl ((M7 9 0 18) - 1)]) (st := []) d_X9_match_38 rfl cs9_82 ⟨Nat.le_of_ble_eq_true rfl, Nat.le_of_ble_eq_true rfl⟩ rfl rfl (Nat.le_of_ble_eq_true rfl) (Nat.le_of_ble_eq_true rfl) (s_X9_in z18) (fun _ _ hq => aw_eqs hq
(aw_if_ne d_X9_match_41 rfl rfl zb_I (fun c20 => have e22 := e19.1 (zb_n0 c20); (aw_iload_n d_X9_match_46 rfl rfl 3 rfl
(have z24 := e22.1; have e25 := e22.2; aw_table (offs := [29, 36, 43, 50]) d_X9_match_47 rfl z24 rfl ⟨fun c26 => ⟨76, rfl, have e27 := e25.1 c26; (aw_aload_n d_X9_match_76 rfl rfl 0 rfl (by decide)
(aw_getR (k' := 31) (a := 0) (b := 0) (j := 0) d_X9_match_77 rfl fl9_23 rfl zj0 ⟨by decide, fun _ => by decide⟩
(aw_iload_n d_X9_match_80 rfl rfl 2 rfl
(have z28 := e27.1; have e29 := e27.2; (aw_iald d_X9_match_81 rfl za31 z28
(aw_ri d_X9_match_82 rfl e29))))))⟩, ⟨fun c30 => ⟨83, rfl, have e31 := e25.2.1 c30; (aw_aload_n d_X9_match_83 rfl rfl 0 rfl (by decide)
(aw_getR (k' := 32) (a := 0) (b := 0) (j := 0) d_X9_match_84 rfl fl9_26 rfl zj0 ⟨by decide, fun _ => by decide⟩
(aw_iload_n d_X9_match_87 rfl rfl 2 rfl
(have z32 := e31.1; have e33 := e31.2; (aw_iald d_X9_match_88 rfl za32 z32
(aw_ri d_X9_match_89 rfl e33))))))⟩, ⟨fun c34 => ⟨90, rfl, have e35 := e25.2.2.1 c34; (aw_aload_n d_X9_match_90 rfl rfl 0 rfl (by decide)
(aw_getR (k' := 34) (a := 0) (b := 0) (j := 0) d_X9_match_91 rfl fl9_32 rfl zj0 ⟨by decide, fun _ => by decide⟩
(aw_iload_n d_X9_match_94 rfl rfl 2 rfl
(have z36 := e35.1; have e37 := e35.2; (aw_iald d_X9_match_95 rfl za34 z36
(aw_ri d_X9_match_96 rfl e37))))))⟩, ⟨fun c38 => ⟨97, rfl, have e39 := e25.2.2.2.1 c38; (aw_aload_n d_X9_match_97 rfl rfl 0 rfl (by decide)
(aw_getR (k' := 35) (a := 0) (b := 0) (j := 0) d_X9_match_98 rfl fl9_35 rfl zj0 ⟨by decide, fun _ => by decide⟩
(aw_iload_n d_X9_match_101 rfl rfl 2 rfl
(have z40 := e39.1; have e41 := e39.2; (aw_iald d_X9_match_102 rfl za35 z40
(aw_ri d_X9_match_103 rfl e41))))))⟩, trivial⟩⟩⟩⟩ (fun c42 => have e43 := e25.2.2.2.2 c42; (aw_iconst d_X9_match_104 rfl
(aw_ri d_X9_match_105 rfl e43)))))) (fun c21 => have e23 := e19.2 (zb_0 c21); (aw_iconst d_X9_match_44 rfl
(aw_ri d_X9_match_45 rfl e23))))))))))))))))) (fun c13 => have e15 := e11.2 c13; (aw_iload_n d_X9_match_19 rfl rfl 3 rfl
(have z44 := e15.1; have e45 := e15.2; aw_if_ne d_X9_match_20 rfl rfl z44 (fun c46 => have e48 := e45.1 c46; (aw_iload_n d_X9_match_28 rfl rfl 2 rfl
(aw_i2l d_X9_match_29 rfl z10
(aw_lconst (x := 0) d_X9_match_30 rfl (by decide)
(aw_aload_n d_X9_match_31 rfl rfl 0 rfl (by decide)
(aw_getI (kc := 18) d_X9_match_32 rfl fl9_146 rfl rfl
(aw_iconst d_X9_match_35 rfl
(aw_isub d_X9_match_36 rfl
(have z50 := e48.1; have e51 := e48.2; (aw_i2l d_X9_match_37 rfl z50
(have z52 := e51.1; have e53 := e51.2; (aw_SI (As := [zl v2, zl 0, zl ((M7 9 0 18) - 1)]) (st := []) d_X9_match_38 rfl cs9_82 ⟨Nat.le_of_ble_eq_true rfl, Nat.le_of_ble_eq_true rfl⟩ rfl rfl (Nat.le_of_ble_eq_true rfl) (Nat.le_of_ble_eq_true rfl) (s_X9_in z52) (fun _ _ hq => aw_eqs hq
(aw_if_ne d_X9_match_41 rfl rfl zb_I (fun c54 => have e56 := e53.1 (zb_n0 c54); (aw_iload_n d_X9_match_46 rfl rfl 3 rfl
(aw_table (offs := [29, 36, 43, 50]) d_X9_match_47 rfl z44 rfl ⟨fun c58 => ⟨76, rfl, have e59 := e56.1 c58; (aw_aload_n d_X9_match_76 rfl rfl 0 rfl (by decide)
(aw_getR (k' := 31) (a := 0) (b := 0) (j := 0) d_X9_match_77 rfl fl9_23 rfl zj0 ⟨by decide, fun _ => by decide⟩
(aw_iload_n d_X9_match_80 rfl rfl 2 rfl
(have z60 := e59.1; have e61 := e59.2; (aw_iald d_X9_match_81 rfl za31 z60
(aw_ri d_X9_match_82 rfl e61))))))⟩, ⟨fun c62 => ⟨83, rfl, have e63 := e56.2.1 c62; (aw_aload_n d_X9_match_83 rfl rfl 0 rfl (by decide)
(aw_getR (k' := 32) (a := 0) (b := 0) (j := 0) d_X9_match_84 rfl fl9_26 rfl zj0 ⟨by decide, fun _ => by decide⟩
(aw_iload_n d_X9_match_87 rfl rfl 2 rfl
(have z64 := e63.1; have e65 := e63.2; (aw_iald d_X9_match_88 rfl za32 z64
(aw_ri d_X9_match_89 rfl e65))))))⟩, ⟨fun c66 => ⟨90, rfl, have e67 := e56.2.2.1 c66; (aw_aload_n d_X9_match_90 rfl rfl 0 rfl (by decide)
(aw_getR (k' := 34) (a := 0) (b := 0) (j := 0) d_X9_match_91 rfl fl9_32 rfl zj0 ⟨by decide, fun _ => by decide⟩
(aw_iload_n d_X9_match_94 rfl rfl 2 rfl
(have z68 := e67.1; have e69 := e67.2; (aw_iald d_X9_match_95 rfl za34 z68
(aw_ri d_X9_match_96 rfl e69))))))⟩, ⟨fun c70 => ⟨97, rfl, have e71 := e56.2.2.2.1 c70; (aw_aload_n d_X9_match_97 rfl rfl 0 rfl (by decide)
(aw_getR (k' := 35) (a := 0) (b := 0) (j := 0) d_X9_match_98 rfl fl9_35 rfl zj0 ⟨by decide, fun _ => by decide⟩
(aw_iload_n d_X9_match_101 rfl rfl 2 rfl
(have z72 := e71.1; have e73 := e71.2; (aw_iald d_X9_match_102 rfl za35 z72
(aw_ri d_X9_match_103 rfl e73))))))⟩, trivial⟩⟩⟩⟩ (fun c74 => have e75 := e56.2.2.2.2 c74; (aw_iconst d_X9_match_104 rfl
(aw_ri d_X9_match_105 rfl e75)))))) (fun c55 => have e57 := e53.2 (zb_0 c55); (aw_iconst d_X9_match_44 rfl
(aw_ri d_X9_match_45 rfl e57))))))))))))))))) (fun c47 => have e49 := e45.2 c47; (aw_aload_n d_X9_match_23 rfl rfl 0 rfl (by decide)
(aw_getI (kc := 18) d_X9_match_24 rfl fl9_146 rfl rfl
(aw_ri d_X9_match_27 rfl e49))))))))))))))) (fun c4 => have e6 := e2.2 (zb_0 c4); (aw_iconst d_X9_match_7 rfl
(aw_ri d_X9_match_8 rfl e6))))))))
theorem q8_match {g k w : Int} (c : CX M S) (zg : zI g) (zk : zI k) (zw : zI w) : CI l m_X8_match [zr 8 0, zi g, zi k, zi w] M (fun x M' => x = aMatch S g k w ∧ Fr kScr M M') := by
  have gg := gdS c.2 g
  have hl := gg.1
  refine vX8_match ⟨zg, fun a => ⟨(aMatch_n (.inl a)).symm, Fr.rf⟩, fun a => ⟨zw, fun b => ⟨(aMatch_n (by omega)).symm, Fr.rf⟩, fun b => ⟨fun b2 => ?_, fun b2 => ⟨(aMatch_n (by omega)).symm, Fr.rf⟩⟩⟩⟩
  refine (c_settleGrade c a).mono ?_
  rintro M1 ⟨f1, s1⟩
  have F := f1.scr
  have wk := s1.W gg c.2.2.2.1
  have hd := dN_b (B := qB S g) (A := qA S g) (f := qfee S) (w := qlaw S)
  have hdl := dN_l (B := qB S g) (A := qA S g) (f := qfee S) (w := qlaw S)
  have t0 := fun h => s1.trd (z := 0) k h
  have t1 := fun h => s1.trd (z := 1) k h
  have u0 := s1.1.unt (z := 0) (k := k)
  have u1 := s1.1.unt (z := 1) (k := k)
  rw [if_pos rfl] at t0 u0
  rw [if_pos rfl] at t0
  rw [if_neg (by decide)] at t1 u1
  rw [if_neg (by decide)] at t1
  rw [s1.2.1.2.2.2.2, tmod_n b]
  refine ⟨zk, fun q => ⟨fun q2 => ⟨(aMatch_o (by omega) (by omega)).symm, F⟩, fun q2 => ⟨by omega, fun q3 => ?_, fun q3 => ⟨(aMatch_o (by omega) (by omega)).symm, F⟩⟩⟩, fun q => ⟨fun q2 => ⟨fun q3 => ⟨(aMatch_o (by omega) (by omega)).symm, F⟩, fun q3 => by omega⟩, fun q2 => ⟨(aMatch_m a q q2).symm, F⟩⟩⟩
  rw [aMatch_i a ⟨b, b2⟩ ⟨q2, q3⟩]
  have t0' := t0 (by omega)
  have t1' := t1 (by omega)
  rw [if_pos (by omega)] at u0 u1
  refine ⟨fun e => ⟨by omega, fun e2 => ⟨⟨wk, by omega, zk⟩, ?_, F⟩, fun e2 => ⟨⟨wk, by omega, zk⟩, ?_, F⟩⟩, fun e => ⟨by omega, fun e2 => ⟨⟨wk, by omega, zk⟩, ?_, F⟩, fun e2 => ⟨⟨wk, by omega, zk⟩, ?_, F⟩⟩⟩
  · rw [if_neg (by omega), if_pos (by omega)]; exact u0
  · rw [if_pos (by omega)]; exact t0'
  · rw [if_neg (by omega), if_neg (by omega), if_neg (by omega)]; exact u1
  · rw [if_neg (by omega), if_neg (by omega), if_pos (by omega)]; exact t1'
theorem q9_match {g k w : Int} (h : MX M S) (zg : zI g) (zk : zI k) (zw : zI w) : CI l m_X9_match [zr 9 0, zi g, zi k, zi w] M (fun x M' => x = aMatch S g k w ∧ mQ M M') := by
  have ok := h.ok
  have gg := gdS ok g
  have hl := gg.1
  refine vX9_match ⟨zg, fun a => ?_, fun a => ⟨(aMatch_n (.inl a)).symm, mQ.rf h⟩⟩
  refine (m_lays h a).mono ?_
  rintro M1 ⟨F, h1, d1⟩
  have hd := dN_b (B := qB S g) (A := qA S g) (f := qfee S) (w := qlaw S)
  have hdl := dN_l (B := qB S g) (A := qA S g) (f := qfee S) (w := qlaw S)
  rw [d1.1]
  refine ⟨zk, fun q => ⟨by omega, by omega, fun q2 => ?_, fun q2 => ⟨(aMatch_o (by omega) (by omega)).symm, F⟩⟩, fun q => ⟨zw, fun q2 => ⟨by omega, by omega, fun q3 => by omega, fun q3 => ⟨(aMatch_o (by omega) (by omega)).symm, F⟩⟩, fun q2 => ⟨(aMatch_m a q q2).symm, F⟩⟩⟩
  have r := h1.1.2 k (by omega)
  have r2 := h1.2.1.2 k (by omega)
  have hi := fun hw => aMatch_i (S := S) (w := w) (k := k) a hw (by omega)
  exact ⟨zw, fun e => ⟨by omega, by rw [hi (by omega), if_pos e]; exact r.2.1, F⟩, fun e => ⟨by omega, by rw [hi (by omega), if_neg (by omega), if_pos e]; exact r.2.2, F⟩, fun e => ⟨by omega, by rw [hi (by omega), if_neg (by omega), if_neg (by omega), if_pos e]; exact r2.2.1, F⟩, fun e => ⟨by omega, by rw [hi (by omega), if_neg (by omega), if_neg (by omega), if_neg (by omega)]; exact r2.2.2, F⟩, fun e => ⟨(aMatch_n (.inr e)).symm, F⟩⟩
noncomputable def aEntry (S : zS) (z g : Int) : Int := if 0 ≤ g ∧ g < 4 then (if z = 0 then (if 0 ≤ enB (qB S g) (qA S g) (qfee S) ∧ enB (qB S g) (qA S g) (qfee S) ≤ 9999 then enB (qB S g) (qA S g) (qfee S) else -2) else (if 0 ≤ enA (qB S g) (qA S g) (qfee S) ∧ enA (qB S g) (qA S g) (qfee S) ≤ 9999 then enA (qB S g) (qA S g) (qfee S) else -2)) else -1
theorem vX8_entry {l : Launch} {P : Int → zM → Prop} {v1 : Int} {v2 : Int} {M : zM}
    (H0 : (zI v2 ∧ ((0 ≤ v2 ∧ v2 < 4 → (CV l m_X8_settleGrade [zr 8 0, zi v2] M (fun M7 => (zI v1 ∧ (v1 = 0 → (CI l m_X0_leastEntry [zr 0 0] M7 (fun x19 M16 => (zI x19 ∧ ((¬ (0 ≤ x19 ∧ x19 ≤ 9999) → P (-2) M16) ∧ (0 ≤ x19 ∧ x19 ≤ 9999 → P x19 M16)))))) ∧ (v1 ≠ 0 → (CI l m_X0_greatestEntry [zr 0 0] M7 (fun x29 M26 => (zI x29 ∧ ((¬ (0 ≤ x29 ∧ x29 ≤ 9999) → P (-2) M26) ∧ (0 ≤ x29 ∧ x29 ≤ 9999 → P x29 M26)))))))))) ∧ (¬ (0 ≤ v2 ∧ v2 < 4) → P (-1) M)))) :
    CI l m_X8_entry [zr 8 0, zi v1, zi v2] M P :=
(aw_iload_n d_X8_entry_0 rfl rfl 2 rfl
(have z1 := H0.1; have e2 := H0.2; (aw_SI (As := [zi v2]) (st := []) d_X8_entry_1 rfl cs8_99 ⟨Nat.le_of_ble_eq_true rfl, Nat.le_of_ble_eq_true rfl⟩ rfl rfl (Nat.le_of_ble_eq_true rfl) (Nat.le_of_ble_eq_true rfl) (s_X8_isGrade z1) (fun _ _ hq => aw_eqs hq
(aw_if_ne d_X8_entry_4 rfl rfl zb_I (fun c3 => have e5 := e2.1 (zb_n0 c3); (aw_aload_n d_X8_entry_9 rfl rfl 0 rfl (by decide)
(aw_iload_n d_X8_entry_10 rfl rfl 2 rfl
(aw_VV (As := [zi v2]) (st := []) d_X8_entry_11 rfl cv8_154 ⟨Nat.le_of_ble_eq_true rfl, Nat.le_of_ble_eq_true rfl⟩ rfl rfl (Nat.le_of_ble_eq_true rfl) (Nat.le_of_ble_eq_true rfl) e5 (fun M7 e8 => (aw_iload_n d_X8_entry_14 rfl rfl 1 rfl
(have z10 := e8.1; have e11 := e8.2; aw_if_eq d_X8_entry_15 rfl rfl z10 (fun c12 => have e14 := e11.1 c12; (aw_aload_n d_X8_entry_28 rfl rfl 0 rfl (by decide)
(aw_getR (k' := 0) (a := 0) (b := 0) (j := 0) d_X8_entry_29 rfl fl8_47 rfl zj0 ⟨by decide, fun _ => by decide⟩
(aw_VI (As := []) (st := []) d_X8_entry_32 rfl cv8_338 ⟨Nat.le_of_ble_eq_true rfl, Nat.le_of_ble_eq_true rfl⟩ rfl rfl (Nat.le_of_ble_eq_true rfl) (Nat.le_of_ble_eq_true rfl) e14 (fun x19 M16 e17 => (aw_istore_n (lv' := [(3, zi x19), (0, zr 8 0), (1, zi v1), (2, zi v2)]) d_X8_entry_35 rfl rfl (by decide) rfl
(aw_iload_n d_X8_entry_36 rfl rfl 0 rfl
(have z20 := e17.1; have e21 := e17.2; (aw_SI (As := [zi x19]) (st := []) d_X8_entry_37 rfl cs8_113 ⟨Nat.le_of_ble_eq_true rfl, Nat.le_of_ble_eq_true rfl⟩ rfl rfl (Nat.le_of_ble_eq_true rfl) (Nat.le_of_ble_eq_true rfl) (s_X8_isValue z20) (fun _ _ hq => aw_eqs hq
(aw_if_eq d_X8_entry_40 rfl rfl zb_I (fun c22 => have e24 := e21.1 (zb_0 c22); (aw_bipush d_X8_entry_47 rfl (by decide)
(aw_ri d_X8_entry_49 rfl e24))) (fun c23 => have e25 := e21.2 (zb_n0 c23); (aw_iload_n d_X8_entry_43 rfl rfl 0 rfl
(aw_goto d_X8_entry_44 rfl
(aw_ri d_X8_entry_49 rfl e25))))))))))))))) (fun c13 => have e15 := e11.2 c13; (aw_aload_n d_X8_entry_18 rfl rfl 0 rfl (by decide)
(aw_getR (k' := 0) (a := 0) (b := 0) (j := 0) d_X8_entry_19 rfl fl8_47 rfl zj0 ⟨by decide, fun _ => by decide⟩
(aw_VI (As := []) (st := []) d_X8_entry_22 rfl cv8_335 ⟨Nat.le_of_ble_eq_true rfl, Nat.le_of_ble_eq_true rfl⟩ rfl rfl (Nat.le_of_ble_eq_true rfl) (Nat.le_of_ble_eq_true rfl) e15 (fun x29 M26 e27 => (aw_goto d_X8_entry_25 rfl
(aw_istore_n (lv' := [(3, zi x29), (0, zr 8 0), (1, zi v1), (2, zi v2)]) d_X8_entry_35 rfl rfl (by decide) rfl
(aw_iload_n d_X8_entry_36 rfl rfl 0 rfl
(have z30 := e27.1; have e31 := e27.2; (aw_SI (As := [zi x29]) (st := []) d_X8_entry_37 rfl cs8_113 ⟨Nat.le_of_ble_eq_true rfl, Nat.le_of_ble_eq_true rfl⟩ rfl rfl (Nat.le_of_ble_eq_true rfl) (Nat.le_of_ble_eq_true rfl) (s_X8_isValue z30) (fun _ _ hq => aw_eqs hq
(aw_if_eq d_X8_entry_40 rfl rfl zb_I (fun c32 => have e34 := e31.1 (zb_0 c32); (aw_bipush d_X8_entry_47 rfl (by decide)
(aw_ri d_X8_entry_49 rfl e34))) (fun c33 => have e35 := e31.2 (zb_n0 c33); (aw_iload_n d_X8_entry_43 rfl rfl 0 rfl
(aw_goto d_X8_entry_44 rfl
(aw_ri d_X8_entry_49 rfl e35))))))))))))))))))))))) (fun c4 => have e6 := e2.2 (zb_0 c4); (aw_iconst d_X8_entry_7 rfl
(aw_ri d_X8_entry_8 rfl e6))))))))
theorem vX9_entry {l : Launch} {P : Int → zM → Prop} {v1 : Int} {v2 : Int} {M : zM}
    (H0 : (zI v2 ∧ ((0 ≤ v2 ∧ v2 < 4 → (CV l m_X9_laysOf [zr 9 0, zi (zshl 1 v2)] M (fun M7 => (zI v1 ∧ (v1 = 0 → (zI (M7 9 0 16) ∧ zI (M7 9 0 15) ∧ ((M7 9 0 16) = (M7 9 0 15) → P (-2) M7) ∧ ((M7 9 0 16) ≠ (M7 9 0 15) → (((M7 9 0 16) ≤ 0 → ((0 ≤ (M7 9 0 16) ∧ (M7 9 0 16) < 80) ∧ (zI (M7 36 0 (M7 9 0 16)) ∧ ((M7 36 0 (M7 9 0 16)) ≤ 9999 → P (M7 36 0 (M7 9 0 16)) M7) ∧ (9999 < (M7 36 0 (M7 9 0 16)) → P (-2) M7)))) ∧ (0 < (M7 9 0 16) → ((0 ≤ ((M7 9 0 16) - 1) ∧ ((M7 9 0 16) - 1) < 80) ∧ ((0 ≤ (M7 9 0 16) ∧ (M7 9 0 16) < 80) ∧ (zI (M7 33 0 ((M7 9 0 16) - 1)) ∧ zI (M7 36 0 (M7 9 0 16)) ∧ ((M7 36 0 (M7 9 0 16)) ≤ (M7 33 0 ((M7 9 0 16) - 1)) → (((M7 36 0 (M7 9 0 16)) ≤ 9999 → P (M7 36 0 (M7 9 0 16)) M7) ∧ (9999 < (M7 36 0 (M7 9 0 16)) → P (-2) M7))) ∧ ((M7 33 0 ((M7 9 0 16) - 1)) < (M7 36 0 (M7 9 0 16)) → P (-2) M7))))))))) ∧ (v1 ≠ 0 → (zI (M7 9 0 16) ∧ zI (M7 9 0 11) ∧ ((M7 9 0 16) = (M7 9 0 11) → P (-2) M7) ∧ ((M7 9 0 16) ≠ (M7 9 0 11) → (((M7 9 0 16) ≤ 0 → ((0 ≤ (M7 9 0 16) ∧ (M7 9 0 16) < 80) ∧ (zI ((M7 33 0 (M7 9 0 16)) - (M7 27 0 181)) ∧ (0 ≤ ((M7 33 0 (M7 9 0 16)) - (M7 27 0 181)) → P ((M7 33 0 (M7 9 0 16)) - (M7 27 0 181)) M7) ∧ (((M7 33 0 (M7 9 0 16)) - (M7 27 0 181)) < 0 → P (-2) M7)))) ∧ (0 < (M7 9 0 16) → ((0 ≤ (M7 9 0 16) ∧ (M7 9 0 16) < 80) ∧ ((0 ≤ ((M7 9 0 16) - 1) ∧ ((M7 9 0 16) - 1) < 80) ∧ (zI (M7 33 0 (M7 9 0 16)) ∧ zI (M7 36 0 ((M7 9 0 16) - 1)) ∧ ((M7 36 0 ((M7 9 0 16) - 1)) ≤ (M7 33 0 (M7 9 0 16)) → (zI ((M7 33 0 (M7 9 0 16)) - (M7 27 0 181)) ∧ (0 ≤ ((M7 33 0 (M7 9 0 16)) - (M7 27 0 181)) → P ((M7 33 0 (M7 9 0 16)) - (M7 27 0 181)) M7) ∧ (((M7 33 0 (M7 9 0 16)) - (M7 27 0 181)) < 0 → P (-2) M7))) ∧ ((M7 33 0 (M7 9 0 16)) < (M7 36 0 ((M7 9 0 16) - 1)) → P (-2) M7))))))))))))) ∧ (¬ (0 ≤ v2 ∧ v2 < 4) → P (-1) M)))) :
    CI l m_X9_entry [zr 9 0, zi v1, zi v2] M P :=
(aw_iload_n d_X9_entry_0 rfl rfl 2 rfl
(have z1 := H0.1; have e2 := H0.2; (aw_SI (As := [zi v2]) (st := []) d_X9_entry_1 rfl cs9_195 ⟨Nat.le_of_ble_eq_true rfl, Nat.le_of_ble_eq_true rfl⟩ rfl rfl (Nat.le_of_ble_eq_true rfl) (Nat.le_of_ble_eq_true rfl) (s_X9_isGrade z1) (fun _ _ hq => aw_eqs hq
(aw_if_ne d_X9_entry_4 rfl rfl zb_I (fun c3 => have e5 := e2.1 (zb_n0 c3); (aw_aload_n d_X9_entry_9 rfl rfl 0 rfl (by decide)
(aw_iconst d_X9_entry_10 rfl
(aw_iload_n d_X9_entry_11 rfl rfl 2 rfl
(aw_ishl d_X9_entry_12 rfl zshl_h
(aw_VV (As := [zi (zshl 1 v2)]) (st := []) d_X9_entry_13 rfl cv9_139 ⟨Nat.le_of_ble_eq_true rfl, Nat.le_of_ble_eq_true rfl⟩ rfl rfl (Nat.le_of_ble_eq_true rfl) (Nat.le_of_ble_eq_true rfl) e5 (fun M7 e8 => (aw_aload_n d_X9_entry_16 rfl rfl 0 rfl (by decide)
(aw_getI (kc := 16) d_X9_entry_17 rfl fl9_133 rfl rfl
(aw_istore_n (lv' := [(3, zi (M7 9 0 16)), (0, zr 9 0), (1, zi v1), (2, zi v2)]) d_X9_entry_20 rfl rfl (by decide) rfl
(aw_iload_n d_X9_entry_21 rfl rfl 2 rfl
(have z10 := e8.1; have e11 := e8.2; aw_if_eq d_X9_entry_22 rfl rfl z10 (fun c12 => have e14 := e11.1 c12; (aw_iload_n d_X9_entry_87 rfl rfl 0 rfl
(aw_aload_n d_X9_entry_88 rfl rfl 1 rfl (by decide)
(aw_getI (kc := 15) d_X9_entry_89 rfl fl9_116 rfl rfl
(have z16 := e14.1; have z17 := e14.2.1; have e18 := e14.2.2; aw_icmp_eq d_X9_entry_92 rfl rfl z16 z17 (fun c19 => have e21 := e18.1 c19; (aw_bipush d_X9_entry_116 rfl (by decide)
(aw_ri d_X9_entry_118 rfl e21))) (fun c20 => have e22 := e18.2 c20; (aw_iload_n d_X9_entry_95 rfl rfl 0 rfl
(aw_if_le d_X9_entry_96 rfl rfl z16 (fun c23 => have e25 := e22.1 c23; (aw_aload_n d_X9_entry_119 rfl rfl 1 rfl (by decide)
(aw_getR (k' := 36) (a := 0) (b := 0) (j := 0) d_X9_entry_120 rfl fl9_38 rfl zj0 ⟨by decide, fun _ => by decide⟩
(aw_iload_n d_X9_entry_123 rfl rfl 0 rfl
(have z27 := e25.1; have e28 := e25.2; (aw_iald d_X9_entry_124 rfl za36 z27
(aw_sipush d_X9_entry_125 rfl (by decide)
(have z29 := e28.1; have e30 := e28.2; aw_icmp_le d_X9_entry_128 rfl rfl z29 (by decide) (fun c31 => have e33 := e30.1 c31; (aw_aload_n d_X9_entry_136 rfl rfl 1 rfl (by decide)
(aw_getR (k' := 36) (a := 0) (b := 0) (j := 0) d_X9_entry_137 rfl fl9_38 rfl zj0 ⟨by decide, fun _ => by decide⟩
(aw_iload_n d_X9_entry_140 rfl rfl 0 rfl
(aw_iald d_X9_entry_141 rfl za36 z27
(aw_ri d_X9_entry_142 rfl e33)))))) (fun c32 => have e34 := e30.2 c32; (aw_bipush d_X9_entry_131 rfl (by decide)
(aw_goto d_X9_entry_133 rfl
(aw_ri d_X9_entry_142 rfl e34)))))))))))) (fun c24 => have e26 := e22.2 c24; (aw_aload_n d_X9_entry_99 rfl rfl 1 rfl (by decide)
(aw_getR (k' := 33) (a := 0) (b := 0) (j := 0) d_X9_entry_100 rfl fl9_29 rfl zj0 ⟨by decide, fun _ => by decide⟩
(aw_iload_n d_X9_entry_103 rfl rfl 0 rfl
(aw_iconst d_X9_entry_104 rfl
(aw_isub d_X9_entry_105 rfl
(have z35 := e26.1; have e36 := e26.2; (aw_iald d_X9_entry_106 rfl za33 z35
(aw_aload_n d_X9_entry_107 rfl rfl 1 rfl (by decide)
(aw_getR (k' := 36) (a := 0) (b := 0) (j := 0) d_X9_entry_108 rfl fl9_38 rfl zj0 ⟨by decide, fun _ => by decide⟩
(aw_iload_n d_X9_entry_111 rfl rfl 0 rfl
(have z37 := e36.1; have e38 := e36.2; (aw_iald d_X9_entry_112 rfl za36 z37
(have z39 := e38.1; have z40 := e38.2.1; have e41 := e38.2.2; aw_icmp_ge d_X9_entry_113 rfl rfl z39 z40 (fun c42 => have e44 := e41.1 c42; (aw_aload_n d_X9_entry_119 rfl rfl 1 rfl (by decide)
(aw_getR (k' := 36) (a := 0) (b := 0) (j := 0) d_X9_entry_120 rfl fl9_38 rfl zj0 ⟨by decide, fun _ => by decide⟩
(aw_iload_n d_X9_entry_123 rfl rfl 0 rfl
(aw_iald d_X9_entry_124 rfl za36 z37
(aw_sipush d_X9_entry_125 rfl (by decide)
(aw_icmp_le d_X9_entry_128 rfl rfl z40 (by decide) (fun c46 => have e48 := e44.1 c46; (aw_aload_n d_X9_entry_136 rfl rfl 1 rfl (by decide)
(aw_getR (k' := 36) (a := 0) (b := 0) (j := 0) d_X9_entry_137 rfl fl9_38 rfl zj0 ⟨by decide, fun _ => by decide⟩
(aw_iload_n d_X9_entry_140 rfl rfl 0 rfl
(aw_iald d_X9_entry_141 rfl za36 z37
(aw_ri d_X9_entry_142 rfl e48)))))) (fun c47 => have e49 := e44.2 c47; (aw_bipush d_X9_entry_131 rfl (by decide)
(aw_goto d_X9_entry_133 rfl
(aw_ri d_X9_entry_142 rfl e49))))))))))) (fun c43 => have e45 := e41.2 c43; (aw_bipush d_X9_entry_116 rfl (by decide)
(aw_ri d_X9_entry_118 rfl e45))))))))))))))))))))))))) (fun c13 => have e15 := e11.2 c13; (aw_iload_n d_X9_entry_25 rfl rfl 0 rfl
(aw_aload_n d_X9_entry_26 rfl rfl 1 rfl (by decide)
(aw_getI (kc := 11) d_X9_entry_27 rfl fl9_113 rfl rfl
(have z50 := e15.1; have z51 := e15.2.1; have e52 := e15.2.2; aw_icmp_eq d_X9_entry_30 rfl rfl z50 z51 (fun c53 => have e55 := e52.1 c53; (aw_bipush d_X9_entry_54 rfl (by decide)
(aw_ri d_X9_entry_56 rfl e55))) (fun c54 => have e56 := e52.2 c54; (aw_iload_n d_X9_entry_33 rfl rfl 0 rfl
(aw_if_le d_X9_entry_34 rfl rfl z50 (fun c57 => have e59 := e56.1 c57; (aw_aload_n d_X9_entry_57 rfl rfl 1 rfl (by decide)
(aw_getR (k' := 33) (a := 0) (b := 0) (j := 0) d_X9_entry_58 rfl fl9_29 rfl zj0 ⟨by decide, fun _ => by decide⟩
(aw_iload_n d_X9_entry_61 rfl rfl 0 rfl
(have z61 := e59.1; have e62 := e59.2; (aw_iald d_X9_entry_62 rfl za33 z61
(aw_aload_n d_X9_entry_63 rfl rfl 1 rfl (by decide)
(aw_getR (k' := 27) (a := 0) (b := 0) (j := 0) d_X9_entry_64 rfl fl9_7 rfl zj0 ⟨by decide, fun _ => by decide⟩
(aw_sipush d_X9_entry_67 rfl (by decide)
(aw_iald d_X9_entry_70 rfl za27 (by decide)
(aw_isub d_X9_entry_71 rfl
(aw_istore (lv' := [(4, zi ((M7 33 0 (M7 9 0 16)) - (M7 27 0 181))), (3, zi (M7 9 0 16)), (0, zr 9 0), (1, zi v1), (2, zi v2)]) d_X9_entry_72 rfl (by decide) rfl
(aw_iload d_X9_entry_74 rfl 0 rfl
(have z63 := e62.1; have e64 := e62.2; aw_if_ge d_X9_entry_76 rfl rfl z63 (fun c65 => have e67 := e64.1 c65; (aw_iload d_X9_entry_84 rfl 0 rfl
(aw_ri d_X9_entry_86 rfl e67))) (fun c66 => have e68 := e64.2 c66; (aw_bipush d_X9_entry_79 rfl (by decide)
(aw_goto d_X9_entry_81 rfl
(aw_ri d_X9_entry_86 rfl e68)))))))))))))))))) (fun c58 => have e60 := e56.2 c58; (aw_aload_n d_X9_entry_37 rfl rfl 1 rfl (by decide)
(aw_getR (k' := 33) (a := 0) (b := 0) (j := 0) d_X9_entry_38 rfl fl9_29 rfl zj0 ⟨by decide, fun _ => by decide⟩
(aw_iload_n d_X9_entry_41 rfl rfl 0 rfl
(have z69 := e60.1; have e70 := e60.2; (aw_iald d_X9_entry_42 rfl za33 z69
(aw_aload_n d_X9_entry_43 rfl rfl 1 rfl (by decide)
(aw_getR (k' := 36) (a := 0) (b := 0) (j := 0) d_X9_entry_44 rfl fl9_38 rfl zj0 ⟨by decide, fun _ => by decide⟩
(aw_iload_n d_X9_entry_47 rfl rfl 0 rfl
(aw_iconst d_X9_entry_48 rfl
(aw_isub d_X9_entry_49 rfl
(have z71 := e70.1; have e72 := e70.2; (aw_iald d_X9_entry_50 rfl za36 z71
(have z73 := e72.1; have z74 := e72.2.1; have e75 := e72.2.2; aw_icmp_ge d_X9_entry_51 rfl rfl z73 z74 (fun c76 => have e78 := e75.1 c76; (aw_aload_n d_X9_entry_57 rfl rfl 1 rfl (by decide)
(aw_getR (k' := 33) (a := 0) (b := 0) (j := 0) d_X9_entry_58 rfl fl9_29 rfl zj0 ⟨by decide, fun _ => by decide⟩
(aw_iload_n d_X9_entry_61 rfl rfl 0 rfl
(aw_iald d_X9_entry_62 rfl za33 z69
(aw_aload_n d_X9_entry_63 rfl rfl 1 rfl (by decide)
(aw_getR (k' := 27) (a := 0) (b := 0) (j := 0) d_X9_entry_64 rfl fl9_7 rfl zj0 ⟨by decide, fun _ => by decide⟩
(aw_sipush d_X9_entry_67 rfl (by decide)
(aw_iald d_X9_entry_70 rfl za27 (by decide)
(aw_isub d_X9_entry_71 rfl
(aw_istore (lv' := [(4, zi ((M7 33 0 (M7 9 0 16)) - (M7 27 0 181))), (3, zi (M7 9 0 16)), (0, zr 9 0), (1, zi v1), (2, zi v2)]) d_X9_entry_72 rfl (by decide) rfl
(aw_iload d_X9_entry_74 rfl 0 rfl
(have z80 := e78.1; have e81 := e78.2; aw_if_ge d_X9_entry_76 rfl rfl z80 (fun c82 => have e84 := e81.1 c82; (aw_iload d_X9_entry_84 rfl 0 rfl
(aw_ri d_X9_entry_86 rfl e84))) (fun c83 => have e85 := e81.2 c83; (aw_bipush d_X9_entry_79 rfl (by decide)
(aw_goto d_X9_entry_81 rfl
(aw_ri d_X9_entry_86 rfl e85))))))))))))))))) (fun c77 => have e79 := e75.2 c77; (aw_bipush d_X9_entry_54 rfl (by decide)
(aw_ri d_X9_entry_56 rfl e79))))))))))))))))))))))))))))))))))))) (fun c4 => have e6 := e2.2 (zb_0 c4); (aw_iconst d_X9_entry_7 rfl
(aw_ri d_X9_entry_8 rfl e6))))))))
theorem q8_entry {z g : Int} (c : CX M S) (hz : z = 0 ∨ z = 1) (zg : zI g) : CI l m_X8_entry [zr 8 0, zi z, zi g] M (fun x M' => x = aEntry S z g ∧ Fr kScr M M') := by
  have gg := gdS c.2 g
  have hl := gg.1
  have hf := c.2.2.2.1
  have hb := tT_b (f := qfee S) (B := qB S g) (A := qA S g)
  refine vX8_entry ⟨zg, fun a => ?_, fun a => ⟨by rw [aEntry, if_neg a], Fr.rf⟩⟩
  rw [aEntry, if_pos a]
  refine (c_settleGrade c a).mono ?_
  rintro M1 ⟨f1, s1⟩
  have F := f1.scr
  refine ⟨by omega, fun e => ?_, fun e => ?_⟩
  · rw [if_pos e]
    refine (c_X0_leastEntry gg hf s1).eq ⟨?_, fun q => ⟨by rw [if_neg q], F⟩, fun q => ⟨by rw [if_pos q], F⟩⟩
    unfold enB
    split
    · next q => have := gA_in gg (f := qfee S) (k := tT (qfee S) (qB S g) (qA S g)) (by omega); omega
    · omega
  · rw [if_neg e]
    refine (c_X0_greatestEntry gg hf s1).eq ⟨?_, fun q => ⟨by rw [if_neg q], F⟩, fun q => ⟨by rw [if_pos q], F⟩⟩
    unfold enA
    split
    · next q => have := gB_in gg (k := tT (qfee S) (qB S g) (qA S g)) (by omega); omega
    · omega
theorem q9_entry {z g : Int} (h : MX M S) (hz : z = 0 ∨ z = 1) (zg : zI g) : CI l m_X9_entry [zr 9 0, zi z, zi g] M (fun x M' => x = aEntry S z g ∧ mQ M M') := by
  have ok := h.ok
  have gg := gdS ok g
  have hl := gg.1
  have hf := ok.2.2.1
  refine vX9_entry ⟨zg, fun a => ?_, fun a => ⟨by rw [aEntry, if_neg a], mQ.rf h⟩⟩
  rw [aEntry, if_pos a]
  refine (m_laysOf h a).mono ?_
  rintro M1 ⟨F, h1⟩
  have hb := tT_b (f := qfee S) (B := qB S g) (A := qA S g)
  have hx := h.q F
  rw [h1.2.2.1, h1.1.1, h1.2.1.1, hx.fee]
  refine ⟨by omega, fun e => ?_, fun e => ?_⟩
  · rw [if_pos e]
    refine ⟨by omega, by omega, fun q => ⟨?_, F⟩, fun q => ?_⟩
    · rw [show enB (qB S g) (qA S g) (qfee S) = -1 by rw [enB, if_neg (by omega)]]; rfl
    · have q2 := gA_in gg (f := qfee S) (k := tT (qfee S) (qB S g) (qA S g)) (by omega)
      rw [(h1.2.1.2 _ (show 0 ≤ tT (qfee S) (qB S g) (qA S g) ∧ tT (qfee S) (qB S g) (qA S g) < ((qA S g).length : Int) by omega)).1]
      refine ⟨fun p => ⟨by omega, by omega, fun p2 => ⟨?_, F⟩, fun p2 => ⟨?_, F⟩⟩, fun p => ?_⟩
      · rw [show enB (qB S g) (qA S g) (qfee S) = gA (qfee S) (qA S g) (tT (qfee S) (qB S g) (qA S g)) by rw [enB, if_pos ⟨by omega, .inl (by omega)⟩], if_pos (by omega)]
      · rw [show enB (qB S g) (qA S g) (qfee S) = gA (qfee S) (qA S g) (tT (qfee S) (qB S g) (qA S g)) by rw [enB, if_pos ⟨by omega, .inl (by omega)⟩], if_neg (by omega)]
      · have q1 := gB_in gg (k := tT (qfee S) (qB S g) (qA S g) - 1) (by omega)
        rw [(h1.1.2 _ (show 0 ≤ tT (qfee S) (qB S g) (qA S g) - 1 ∧ tT (qfee S) (qB S g) (qA S g) - 1 < ((qB S g).length : Int) by omega)).1]
        refine ⟨by omega, by omega, by omega, by omega, fun p2 => ⟨fun p3 => ⟨?_, F⟩, fun p3 => ⟨?_, F⟩⟩, fun p2 => ⟨?_, F⟩⟩
        · rw [show enB (qB S g) (qA S g) (qfee S) = gA (qfee S) (qA S g) (tT (qfee S) (qB S g) (qA S g)) by rw [enB, if_pos ⟨by omega, .inr p2⟩], if_pos (by omega)]
        · rw [show enB (qB S g) (qA S g) (qfee S) = gA (qfee S) (qA S g) (tT (qfee S) (qB S g) (qA S g)) by rw [enB, if_pos ⟨by omega, .inr p2⟩], if_neg (by omega)]
        · rw [show enB (qB S g) (qA S g) (qfee S) = -1 by rw [enB, if_neg (by omega)]]; rfl
  · rw [if_neg e]
    refine ⟨by omega, by omega, fun q => ⟨?_, F⟩, fun q => ?_⟩
    · rw [show enA (qB S g) (qA S g) (qfee S) = -1 by rw [enA, if_neg (by omega)]]; rfl
    · have q2 := gB_in gg (k := tT (qfee S) (qB S g) (qA S g)) (by omega)
      rw [(h1.1.2 _ (show 0 ≤ tT (qfee S) (qB S g) (qA S g) ∧ tT (qfee S) (qB S g) (qA S g) < ((qB S g).length : Int) by omega)).1]
      refine ⟨fun p => ⟨by omega, by omega, fun p2 => ⟨?_, F⟩, fun p2 => ⟨?_, F⟩⟩, fun p => ?_⟩
      · rw [show enA (qB S g) (qA S g) (qfee S) = gB (qB S g) (tT (qfee S) (qB S g) (qA S g)) - qfee S by rw [enA, if_pos ⟨by omega, .inl (by omega)⟩], if_pos (by omega)]
      · rw [show enA (qB S g) (qA S g) (qfee S) = gB (qB S g) (tT (qfee S) (qB S g) (qA S g)) - qfee S by rw [enA, if_pos ⟨by omega, .inl (by omega)⟩], if_neg (by omega)]
      · have q1 := gA_in gg (f := qfee S) (k := tT (qfee S) (qB S g) (qA S g) - 1) (by omega)
        rw [(h1.2.1.2 _ (show 0 ≤ tT (qfee S) (qB S g) (qA S g) - 1 ∧ tT (qfee S) (qB S g) (qA S g) - 1 < ((qA S g).length : Int) by omega)).1]
        refine ⟨by omega, by omega, by omega, by omega, fun p2 => ⟨by omega, fun p3 => ⟨?_, F⟩, fun p3 => ⟨?_, F⟩⟩, fun p2 => ⟨?_, F⟩⟩
        · rw [show enA (qB S g) (qA S g) (qfee S) = gB (qB S g) (tT (qfee S) (qB S g) (qA S g)) - qfee S by rw [enA, if_pos ⟨by omega, .inr p2⟩], if_pos (by omega)]
        · rw [show enA (qB S g) (qA S g) (qfee S) = gB (qB S g) (tT (qfee S) (qB S g) (qA S g)) - qfee S by rw [enA, if_pos ⟨by omega, .inr p2⟩], if_neg (by omega)]
        · rw [show enA (qB S g) (qA S g) (qfee S) = -1 by rw [enA, if_neg (by omega)]]; rfl
end
