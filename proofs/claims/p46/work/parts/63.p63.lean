/-! ===== close: what is asked; the class ===== -/
theorem say1_c {g : Int → Int} {R : List Int} {t c : Int} : ∀ n : Nat, (∀ k : Int, 0 ≤ k ∧ k < (n : Int) → 0 ≤ g k ∧ g k ≤ c) → 0 ≤ say1 g R t n ∧ say1 g R t n ≤ c * cnt R t n
  | 0, _ => by
    show 0 ≤ zsum _ 0 ∧ zsum _ 0 ≤ c * zsum _ 0
    rw [zsum_0, zsum_0]
    omega
  | n + 1, h => by
    have ih := say1_c (g := g) (R := R) (t := t) (c := c) n (fun k hk => h k (by omega))
    have hk := h n (by omega)
    rw [show ((n + 1 : Nat) : Int) = (n : Int) + 1 by omega, cnt_s (by omega)]
    have e : say1 g R t ((n : Int) + 1) = say1 g R t n + (if ktr (R.getD (n : Int).toNat 0) = t then g n else 0) := zsum_s (by omega)
    rw [e, Int.mul_add]
    split
    · omega
    · omega
theorem mny_c {S : zS} (ok : okS S) {g t : Int} {z : Int} (hz : z = 0 ∨ z = 1) : -1000000 ≤ mny (qB S g) (qA S g) (qfee S) (qlaw S) z t ∧ mny (qB S g) (qA S g) (qfee S) (qlaw S) z t ≤ 1000000 := by
  have c4 : cnt (qB S g) t (dN (qB S g) (qA S g) (qfee S) (qlaw S)) ≤ 4 ∧ cnt (qA S g) t (dN (qB S g) (qA S g) (qfee S) (qlaw S)) ≤ 4 := cnt_4 ok.1
  have gd : gd (qB S g) (qA S g) := gd_m ok.1
  have hf := ok.2.2.1
  generalize qB S g = B at *
  generalize qA S g = A at *
  generalize qfee S = f at *
  generalize qlaw S = w at *
  have hb := tT_b (f := f) (B := B) (A := A)
  have hd := dN_b (B := B) (A := A) (f := f) (w := w)
  have w1 := tW_in (f := f) gd hf.1
  have w2 := tW_in (f := f) (gd_len (t := t) gd) hf.1
  have ew : mWo B A f t = tW f (B.filter (fun x => !decide (ktr x = t))) (A.filter (fun x => !decide (ktr x = t))) := rfl
  have c1 := cnt_b (R := B) (t := t) hd.1
  have c2 := cnt_b (R := A) (t := t) hd.1
  have s1 := say1_c (g := gB B) (R := B) (t := t) (c := 9999) (dN B A f w).toNat (fun k hk => gB_in gd (by omega))
  have s2 := say1_c (g := gA f A) (R := A) (t := t) (c := 10499) (dN B A f w).toNat (fun k hk => by have := gA_in gd (f := f) (k := k) (by omega); omega)
  rw [show (((dN B A f w).toNat : Nat) : Int) = dN B A f w by omega] at s1 s2
  have hT : cnt B t (dN B A f w) ≠ 0 ∨ cnt A t (dN B A f w) ≠ 0 → tT f B A ≠ 0 := by
    intro c e
    have : dN B A f w = 0 := by omega
    rw [this] at c
    rcases c with c | c <;> exact c rfl
  rcases hz with rfl | rfl
  · rw [mny_0]
    by_cases e : cnt B t (dN B A f w) = 0
    · rw [if_pos e]; omega
    · rw [if_neg e]
      have hp := dP_b (w := w) gd hf (hT (.inl e))
      by_cases e3 : w = 3
      · rw [if_pos e3]; omega
      · rw [if_neg e3]
        have := mul_bd (a := cnt B t (dN B A f w)) (b := dP B A f w) (m := 4) (lo := 0) (hi := 20000) (by omega) hp.1 (by omega) (by omega)
        omega
  · rw [mny_1]
    by_cases e : cnt A t (dN B A f w) = 0
    · rw [if_pos e]; omega
    · rw [if_neg e]
      have hp := dP_b (w := w) gd hf (hT (.inr e))
      by_cases e3 : w = 3
      · rw [if_pos e3]
        have := mul_bd (a := cnt A t (dN B A f w)) (b := f) (m := 4) (lo := 0) (hi := 500) (by omega) hf (by omega) (by omega)
        omega
      · rw [if_neg e3]
        have := mul_bd (a := cnt A t (dN B A f w)) (b := dG B A f w) (m := 4) (lo := -500) (hi := 20000) (by omega) hp.2 (by omega) (by omega)
        omega
noncomputable def cT (S : zS) (g t : Int) : Int := cnt (if zb (qsl S t = 1) = 0 then qB S g else qA S g) t (dN (qB S g) (qA S g) (qfee S) (qlaw S))
noncomputable def mT (S : zS) (g t : Int) : Int := mny (qB S g) (qA S g) (qfee S) (qlaw S) (zb (qsl S t = 1)) t
noncomputable def sTrd (S : zS) (g : Int) : Nat → zS
  | 0 => S
  | k + 1 => sTrade (sTrd S g k) (k : Int) (cT S g (k : Int)) (mT S g (k : Int))
noncomputable def aClose (A : zY) (g : Int) : Int × zY :=
  if ¬ (0 ≤ g ∧ g < 4) then (-1, A) else if dN (qB (yS A) g) (qA (yS A) g) (qfee (yS A)) (qlaw (yS A)) = 0 then (-2, A)
  else (dN (qB (yS A) g) (qA (yS A) g) (qfee (yS A)) (qlaw (yS A)), yPut A (sNote (sTrd (yS A) g (qn (yS A)).toNat) (dN (qB (yS A) g) (qA (yS A) g) (qfee (yS A)) (qlaw (yS A))) (tkg (qB (yS A) g) (qA (yS A) g) (qfee (yS A)) (qlaw (yS A)))))
theorem sTrd_s {S : zS} {g : Int} : ∀ k : Nat, qsc (sTrd S g k) = qsc S ∧ qsl (sTrd S g k) = qsl S ∧ qgr (sTrd S g k) = qgr S ∧ (∀ t, (k : Int) ≤ t → qun (sTrd S g k) t = qun S t)
  | 0 => ⟨rfl, rfl, rfl, fun _ _ => rfl⟩
  | k + 1 => by
    obtain ⟨h1, h2, h3, h4⟩ := sTrd_s (S := S) (g := g) k
    refine ⟨h1, h2, h3, fun t ht => ?_⟩
    show upf (qun (sTrd S g k)) (k : Int) _ t = _
    unfold upf
    rw [if_neg (by omega)]
    exact h4 t (by omega)
theorem cT_b {S : zS} (ok : okS S) {g t : Int} (ht : 0 ≤ t ∧ t < qn S) : 0 ≤ cT S g t ∧ cT S g t ≤ qun S t := by
  have hd := dN_b (B := qB S g) (A := qA S g) (f := qfee S) (w := qlaw S)
  have hl := dN_l (B := qB S g) (A := qA S g) (f := qfee S) (w := qlaw S)
  have hu := ok.1.2.1 t ht
  unfold cT
  by_cases s : qsl S t = 1
  · rw [zb_1 s, if_neg (by decide)]
    have b := cnt_b (R := qA S g) (t := t) hd.1
    refine ⟨b.1, ?_⟩
    by_cases c : qgr S t = g
    · exact (ownA (f := qfee S) (E := fun t => qgr S t = g) ok.1 ht c s ⟨hd.1, hl.2⟩).2
    · have e : cnt (qA S g) t (dN (qB S g) (qA S g) (qfee S) (qlaw S)) = 0 := cnt_none (noA (E := fun t => qgr S t = g) ok.1 (fun q => c q.2.1)) ⟨hd.1, hl.2⟩
      omega
  · rw [zb_f s, if_pos rfl]
    have b := cnt_b (R := qB S g) (t := t) hd.1
    refine ⟨b.1, ?_⟩
    by_cases c : qgr S t = g
    · exact (ownB (E := fun t => qgr S t = g) ok.1 ht c s ⟨hd.1, hl.1⟩).2
    · have e : cnt (qB S g) t (dN (qB S g) (qA S g) (qfee S) (qlaw S)) = 0 := cnt_none (noB (E := fun t => qgr S t = g) ok.1 (fun q => c q.2.1)) ⟨hd.1, hl.1⟩
      omega
section
variable {l : Launch} {M : zM} {A : zY} {kk : Int}
def LX8_close_40 (l : Launch) (P : Int → zM → Prop) (v2 : Int) (M : zM) : Prop := AW l m_X8_close (zTi m_X8_close P) 40 [(0, zr 8 0), (2, zi v2)] [] M
theorem vX8_close_40 {l : Launch} {P : Int → zM → Prop} {v2 : Int} {M : zM}
    (H0 : (zI v2 ∧ zI (M 1 0 6) ∧ ((M 1 0 6) ≤ v2 → (CI l m_X0_takings [zr 0 0] M (fun x29 M26 => (CV l m_X1_noteClose [zr 1 0, zi (M 0 0 8), zi x29] M26 (fun M30 => P (M30 0 0 8) M30))))) ∧ (v2 < (M 1 0 6) → ((hW M 0 ∧ zI v2) ∧ (CI l m_X0_doneOf [zr 0 0, zi (zb (qsl (hS M 0) v2 = 1)), zi v2] M (fun x38 M35 => (CI l m_X0_moneyOf [zr 0 0, zi (zb (qsl (hS M 0) v2 = 1)), zi v2] M35 (fun x42 M39 => (CV l m_X1_trade [zr 1 0, zi v2, zi x38, zi x42] M39 (fun M43 => LX8_close_40 l P (v2 + 1) M43)))))))))) :
    LX8_close_40 l P v2 M :=
(aw_iload_n d_X8_close_40 rfl rfl 1 rfl
(aw_aload_n d_X8_close_41 rfl rfl 0 rfl (by decide)
(aw_getR (k' := 1) (a := 0) (b := 0) (j := 0) d_X8_close_42 rfl fl8_12 rfl zj0 ⟨by decide, fun _ => by decide⟩
(aw_getI (kc := 6) d_X8_close_45 rfl fl8_98 rfl rfl
(have z19 := H0.1; have z20 := H0.2.1; have e21 := H0.2.2; aw_icmp_ge d_X8_close_48 rfl rfl z19 z20 (fun c22 => have e24 := e21.1 c22; (aw_aload_n d_X8_close_92 rfl rfl 0 rfl (by decide)
(aw_getR (k' := 1) (a := 0) (b := 0) (j := 0) d_X8_close_93 rfl fl8_12 rfl zj0 ⟨by decide, fun _ => by decide⟩
(aw_aload_n d_X8_close_96 rfl rfl 0 rfl (by decide)
(aw_getR (k' := 0) (a := 0) (b := 0) (j := 0) d_X8_close_97 rfl fl8_47 rfl zj0 ⟨by decide, fun _ => by decide⟩
(aw_getI (kc := 8) d_X8_close_100 rfl fl8_157 rfl rfl
(aw_aload_n d_X8_close_103 rfl rfl 0 rfl (by decide)
(aw_getR (k' := 0) (a := 0) (b := 0) (j := 0) d_X8_close_104 rfl fl8_47 rfl zj0 ⟨by decide, fun _ => by decide⟩
(aw_VI (As := []) (st := [zi (M 0 0 8), zr 1 0]) d_X8_close_107 rfl cv8_172 ⟨Nat.le_of_ble_eq_true rfl, Nat.le_of_ble_eq_true rfl⟩ rfl rfl (Nat.le_of_ble_eq_true rfl) (Nat.le_of_ble_eq_true rfl) e24 (fun x29 M26 e27 => (aw_VV (As := [zi (M 0 0 8), zi x29]) (st := []) d_X8_close_110 rfl cv8_175 ⟨Nat.le_of_ble_eq_true rfl, Nat.le_of_ble_eq_true rfl⟩ rfl rfl (Nat.le_of_ble_eq_true rfl) (Nat.le_of_ble_eq_true rfl) e27 (fun M30 e31 => (aw_aload_n d_X8_close_113 rfl rfl 0 rfl (by decide)
(aw_getR (k' := 0) (a := 0) (b := 0) (j := 0) d_X8_close_114 rfl fl8_47 rfl zj0 ⟨by decide, fun _ => by decide⟩
(aw_getI (kc := 8) d_X8_close_117 rfl fl8_157 rfl rfl
(aw_ri d_X8_close_120 rfl e31)))))))))))))))) (fun c23 => have e25 := e21.2 c23; (aw_aload_n d_X8_close_51 rfl rfl 0 rfl (by decide)
(aw_getR (k' := 1) (a := 0) (b := 0) (j := 0) d_X8_close_52 rfl fl8_12 rfl zj0 ⟨by decide, fun _ => by decide⟩
(aw_iload_n d_X8_close_55 rfl rfl 1 rfl
(have z33 := e25.1; have e34 := e25.2; (aw_VI (As := [zi v2]) (st := []) d_X8_close_56 rfl cv8_160 ⟨Nat.le_of_ble_eq_true rfl, Nat.le_of_ble_eq_true rfl⟩ rfl rfl (Nat.le_of_ble_eq_true rfl) (Nat.le_of_ble_eq_true rfl) (s_X1_isSeller z33) (fun _ _ hq => aw_eqs hq
(aw_istore_n (lv' := [(3, zi (zb (qsl (hS M 0) v2 = 1))), (0, zr 8 0), (2, zi v2)]) d_X8_close_59 rfl rfl (by decide) rfl
(aw_aload_n d_X8_close_60 rfl rfl 1 rfl (by decide)
(aw_getR (k' := 1) (a := 0) (b := 0) (j := 0) d_X8_close_61 rfl fl8_12 rfl zj0 ⟨by decide, fun _ => by decide⟩
(aw_iload_n d_X8_close_64 rfl rfl 2 rfl
(aw_aload_n d_X8_close_65 rfl rfl 1 rfl (by decide)
(aw_getR (k' := 0) (a := 0) (b := 0) (j := 0) d_X8_close_66 rfl fl8_47 rfl zj0 ⟨by decide, fun _ => by decide⟩
(aw_iload_n d_X8_close_69 rfl rfl 0 rfl
(aw_iload_n d_X8_close_70 rfl rfl 2 rfl
(aw_VI (As := [zi (zb (qsl (hS M 0) v2 = 1)), zi v2]) (st := [zi v2, zr 1 0]) d_X8_close_71 rfl cv8_163 ⟨Nat.le_of_ble_eq_true rfl, Nat.le_of_ble_eq_true rfl⟩ rfl rfl (Nat.le_of_ble_eq_true rfl) (Nat.le_of_ble_eq_true rfl) e34 (fun x38 M35 e36 => (aw_aload_n d_X8_close_74 rfl rfl 1 rfl (by decide)
(aw_getR (k' := 0) (a := 0) (b := 0) (j := 0) d_X8_close_75 rfl fl8_47 rfl zj0 ⟨by decide, fun _ => by decide⟩
(aw_iload_n d_X8_close_78 rfl rfl 0 rfl
(aw_iload_n d_X8_close_79 rfl rfl 2 rfl
(aw_VI (As := [zi (zb (qsl (hS M 0) v2 = 1)), zi v2]) (st := [zi x38, zi v2, zr 1 0]) d_X8_close_80 rfl cv8_166 ⟨Nat.le_of_ble_eq_true rfl, Nat.le_of_ble_eq_true rfl⟩ rfl rfl (Nat.le_of_ble_eq_true rfl) (Nat.le_of_ble_eq_true rfl) e36 (fun x42 M39 e40 => (aw_VV (As := [zi v2, zi x38, zi x42]) (st := []) d_X8_close_83 rfl cv8_169 ⟨Nat.le_of_ble_eq_true rfl, Nat.le_of_ble_eq_true rfl⟩ rfl rfl (Nat.le_of_ble_eq_true rfl) (Nat.le_of_ble_eq_true rfl) e40 (fun M43 e44 => (aw_iinc (lv' := [(2, zi (v2 + 1)), (3, zi (zb (qsl (hS M 0) v2 = 1))), (0, zr 8 0)]) (y := (v2 + 1)) d_X8_close_86 rfl 2 rfl (by decide) rfl rfl
(aw_goto d_X8_close_89 rfl
(aw_sub [2, 0] rfl e44)))))))))))))))))))))))))))))))))
theorem vX8_close {l : Launch} {P : Int → zM → Prop} {v1 : Int} {M : zM}
    (H0 : (zI v1 ∧ ((0 ≤ v1 ∧ v1 < 4 → (CV l m_X8_settleGrade [zr 8 0, zi v1] M (fun M7 => (zI (M7 0 0 8) ∧ ((M7 0 0 8) ≠ 0 → (CV l m_X2_remember [zr 2 0, zr 1 0] M7 (fun M16 => LX8_close_40 l P 0 M16))) ∧ ((M7 0 0 8) = 0 → P (-2) M7))))) ∧ (¬ (0 ≤ v1 ∧ v1 < 4) → P (-1) M)))) :
    CI l m_X8_close [zr 8 0, zi v1] M P :=
(aw_iload_n d_X8_close_0 rfl rfl 1 rfl
(have z1 := H0.1; have e2 := H0.2; (aw_SI (As := [zi v1]) (st := []) d_X8_close_1 rfl cs8_99 ⟨Nat.le_of_ble_eq_true rfl, Nat.le_of_ble_eq_true rfl⟩ rfl rfl (Nat.le_of_ble_eq_true rfl) (Nat.le_of_ble_eq_true rfl) (s_X8_isGrade z1) (fun _ _ hq => aw_eqs hq
(aw_if_ne d_X8_close_4 rfl rfl zb_I (fun c3 => have e5 := e2.1 (zb_n0 c3); (aw_aload_n d_X8_close_9 rfl rfl 0 rfl (by decide)
(aw_iload_n d_X8_close_10 rfl rfl 1 rfl
(aw_VV (As := [zi v1]) (st := []) d_X8_close_11 rfl cv8_154 ⟨Nat.le_of_ble_eq_true rfl, Nat.le_of_ble_eq_true rfl⟩ rfl rfl (Nat.le_of_ble_eq_true rfl) (Nat.le_of_ble_eq_true rfl) e5 (fun M7 e8 => (aw_aload_n d_X8_close_14 rfl rfl 0 rfl (by decide)
(aw_getR (k' := 0) (a := 0) (b := 0) (j := 0) d_X8_close_15 rfl fl8_47 rfl zj0 ⟨by decide, fun _ => by decide⟩
(aw_getI (kc := 8) d_X8_close_18 rfl fl8_157 rfl rfl
(have z10 := e8.1; have e11 := e8.2; aw_if_ne d_X8_close_21 rfl rfl z10 (fun c12 => have e14 := e11.1 c12; (aw_aload_n d_X8_close_27 rfl rfl 0 rfl (by decide)
(aw_getR (k' := 2) (a := 0) (b := 0) (j := 0) d_X8_close_28 rfl fl8_26 rfl zj0 ⟨by decide, fun _ => by decide⟩
(aw_aload_n d_X8_close_31 rfl rfl 0 rfl (by decide)
(aw_getR (k' := 1) (a := 0) (b := 0) (j := 0) d_X8_close_32 rfl fl8_12 rfl zj0 ⟨by decide, fun _ => by decide⟩
(aw_VV (As := [zr 1 0]) (st := []) d_X8_close_35 rfl cv8_103 ⟨Nat.le_of_ble_eq_true rfl, Nat.le_of_ble_eq_true rfl⟩ rfl rfl (Nat.le_of_ble_eq_true rfl) (Nat.le_of_ble_eq_true rfl) e14 (fun M16 e17 => (aw_iconst d_X8_close_38 rfl
(aw_istore_n (lv' := [(2, zi 0), (0, zr 8 0), (1, zi v1)]) d_X8_close_39 rfl rfl (by decide) rfl
(aw_sub [1, 0] rfl e17)))))))))) (fun c13 => have e15 := e11.2 c13; (aw_bipush d_X8_close_24 rfl (by decide)
(aw_ri d_X8_close_26 rfl e15)))))))))))) (fun c4 => have e6 := e2.2 (zb_0 c4); (aw_iconst d_X8_close_7 rfl
(aw_ri d_X8_close_8 rfl e6))))))))
theorem a8_close {g : Int} (h : cSt M A) (w : wfY kk A) (zk : kk ≤ 1000) (zg : zI g) : CI l m_X8_close [zr 8 0, zi g] M (rC (aClose A g) M) := by
  have ok := w.1.ok
  have cx : CX M (yS A) := ⟨h.1, ok⟩
  have n0 := w.1.1
  refine vX8_close ⟨zg, fun a => ?_, fun a => ?_⟩
  · refine (c_settleGrade cx a).mono ?_
    rintro M1 ⟨f1, s1⟩
    have h1 := h.scr f1.scr
    have e8 : M1 0 0 8 = dN (qB (yS A) g) (qA (yS A) g) (qfee (yS A)) (qlaw (yS A)) := s1.2.1.2.2.2.2
    have d := dN_b (B := qB (yS A) g) (A := qA (yS A) g) (f := qfee (yS A)) (w := qlaw (yS A))
    have t := tT_b (f := qfee (yS A)) (B := qB (yS A) g) (A := qA (yS A) g)
    have hl : (qB (yS A) g).length ≤ 80 := B_len ok.1 (mB_ok (E := fun t => qgr (yS A) t = g) ok.1)
    have md1 : ∀ k i, isMd k → M1 k i = M k i := fun k i hk => f1 k i (fun q => by have := q.1; unfold isMd at hk; omega)
    rw [e8]
    unfold aClose
    rw [if_neg (by omega)]
    refine ⟨by omega, fun b => ?_, fun b => ?_⟩
    · rw [if_neg b]
      refine (c_X2_remember h1 w.2.1).mono ?_
      rintro M2 ⟨h2, f2⟩
      have s2 : bkS M2 0 (qB (yS A) g) (qA (yS A) g) (qfee (yS A)) (qlaw (yS A)) := s1.of (f2 0 0 (by unfold kRm; omega)) (f2 10 0 (by unfold kRm; omega)) (f2 11 0 (by unfold kRm; omega))
      have loop : ∀ (n k : Nat) (M' : zM), (qn (yS A)).toNat - k = n → (k : Int) ≤ qn (yS A) → Fx (kH 0) M2 M' → hW M' 0 → hS M' 0 = sTrd (yS A) g k → LX8_close_40 l (rC (dN (qB (yS A) g) (qA (yS A) g) (qfee (yS A)) (qlaw (yS A)), yPut A (sNote (sTrd (yS A) g (qn (yS A)).toNat) (dN (qB (yS A) g) (qA (yS A) g) (qfee (yS A)) (qlaw (yS A))) (tkg (qB (yS A) g) (qA (yS A) g) (qfee (yS A)) (qlaw (yS A))))) M) (k : Int) M' := by
        intro n
        induction n with
        | zero =>
          intro k M' hn hk f wk e
          have ek : (qn (yS A)).toNat = k := by omega
          have st := sTrd_s (S := yS A) (g := g) k
          have s3 : bkS M' 0 (qB (yS A) g) (qA (yS A) g) (qfee (yS A)) (qlaw (yS A)) := s2.of (f 0 0 (fun q => by have := q.1; omega)) (f 10 0 (fun q => by have := q.1; omega)) (f 11 0 (fun q => by have := q.1; omega))
          have e6 : M' 1 0 6 = qn (yS A) := by rw [← hS_n M' 0, e]; exact congrFun st.1 0
          have tb := tkg_b (w := qlaw (yS A)) (gd_m (E := fun t => qgr (yS A) t = g) ok.1) ok.2.2.1
          refine vX8_close_40 ?_
          rw [e6]
          refine ⟨by omega, by omega, fun _ => ?_, fun q => by omega⟩
          refine (c_X0_takings ok.1 ok.2.2.1 ok.2.2.2 s3).mono ?_
          rintro x M3 ⟨rfl, rfl⟩
          have e38 : M3 0 0 8 = dN (qB (yS A) g) (qA (yS A) g) (qfee (yS A)) (qlaw (yS A)) := s3.2.1.2.2.2.2
          have e11 : M3 1 0 11 = qsc (yS A) 5 := by
            have : qsc (hS M3 0) 5 = M3 1 0 11 := rfl
            rw [← this, e]; exact congrFun st.1 5
          have e12 : M3 1 0 12 = qsc (yS A) 6 := by
            have : qsc (hS M3 0) 6 = M3 1 0 12 := rfl
            rw [← this, e]; exact congrFun st.1 6
          have w5 := w.1.2.2.2.1
          have w6 := w.1.2.2.2.2.1
          rw [e38]
          have tb' : -160000000 ≤ tkg (qB (yS A) g) (qA (yS A) g) (qfee (yS A)) (qlaw (yS A)) ∧ tkg (qB (yS A) g) (qA (yS A) g) (qfee (yS A)) (qlaw (yS A)) ≤ 160000000 := tb
          refine (c_X1_noteClose wk (by rw [e11]; omega) (by rw [e12]; omega) (by omega)).mono ?_
          rintro M4 ⟨f4, w4, e4⟩
          rw [e] at e4
          rw [ek]
          refine ⟨?_, h2.hall (f.tr f4) w4 e4, fun k i hk => (md_H f4 k i hk).trans ((md_H f k i hk).trans ((md_rm f2 k i hk).trans (md1 k i hk)))⟩
          rw [f4 0 0 (fun q => by have := q.1; omega)]
          exact e38
        | succ n ih =>
          intro k M' hn hk f wk e
          have st := sTrd_s (S := yS A) (g := g) k
          have s3 : bkS M' 0 (qB (yS A) g) (qA (yS A) g) (qfee (yS A)) (qlaw (yS A)) := s2.of (f 0 0 (fun q => by have := q.1; omega)) (f 10 0 (fun q => by have := q.1; omega)) (f 11 0 (fun q => by have := q.1; omega))
          have e6 : M' 1 0 6 = qn (yS A) := by rw [← hS_n M' 0, e]; exact congrFun st.1 0
          have sl : qsl (hS M' 0) (k : Int) = qsl (yS A) (k : Int) := by rw [e]; exact congrFun st.2.1 _
          have cb := cT_b ok (g := g) (t := (k : Int)) (by omega)
          refine vX8_close_40 ?_
          rw [e6, sl]
          refine ⟨by omega, by omega, fun q => by omega, fun _ => ⟨⟨wk, by omega⟩, ?_⟩⟩
          refine (c_X0_doneOf (B := qB (yS A) g) (A := qA (yS A) g) (gd_m ok.1) ok.2.2.1 s3 zb_01 (by omega)).mono ?_
          rintro x M3 ⟨ex, e3⟩
          rw [e3]
          refine (c_X0_moneyOf (B := qB (yS A) g) (A := qA (yS A) g) (gd_m ok.1) ok.2.2.1 ok.2.2.2 s3 zb_01 (by omega)).mono ?_
          rintro y M4 ⟨ey, e4⟩
          rw [e4]
          have ex' : x = cT (yS A) g (k : Int) := ex
          have ey' : y = mT (yS A) g (k : Int) := ey
          rw [ex', ey']
          have un : qun (hS M' 0) (k : Int) = qun (yS A) (k : Int) := by rw [e]; exact st.2.2.2 _ (Int.le_refl _)
          refine (c_X1_trade wk (by rw [e6]; omega) (by rw [un]; exact cb)).mono ?_
          rintro M5 ⟨f5, w5, e5⟩
          rw [e] at e5
          have := ih (k + 1) M5 (by omega) (by omega) (f.tr f5) w5 e5
          rw [show ((k + 1 : Nat) : Int) = (k : Int) + 1 by omega] at this
          exact this
      exact loop _ 0 M2 rfl (by omega) Fx.rf h2.1.1 h2.1.2
    · rw [if_pos b]
      exact ⟨rfl, h1, md1⟩
  · unfold aClose
    rw [if_pos a]
    exact rC.st h
end

