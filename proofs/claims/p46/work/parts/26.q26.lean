/-! ===== the class: takings, by what each is worth ===== -/
theorem zsum_pm {g h k m : Int → Int} {n : Int} : zsum (fun t => ((g t - h t) + k t) - m t) n = ((zsum g n - zsum h n) + zsum k n) - zsum m n := by
  have key : ∀ j : Nat, zsumN (fun t => ((g t - h t) + k t) - m t) j = ((zsumN g j - zsumN h j) + zsumN k j) - zsumN m j := by
    intro j
    induction j with
    | zero => rfl
    | succ j ih => rw [zsumN, zsumN, zsumN, zsumN, zsumN, ih]; omega
  exact key n.toNat
theorem zsum_pick {a c : Int} (ha : 0 ≤ a) : ∀ n : Nat, zsum (fun t => if a = t then c else 0) (n : Int) = if a < (n : Int) then c else 0
  | 0 => by
    show zsum _ 0 = _
    rw [zsum_0, if_neg (by omega)]
  | n + 1 => by
    rw [show ((n + 1 : Nat) : Int) = (n : Int) + 1 by omega, zsum_s (by omega), zsum_pick ha n]
    by_cases e : a = (n : Int)
    · rw [if_neg (by omega), if_pos e, if_pos (by omega)]; omega
    · rw [if_neg e]
      by_cases e2 : a < (n : Int)
      · rw [if_pos e2, if_pos (by omega)]; omega
      · rw [if_neg e2, if_neg (by omega)]; omega
theorem ktr_b (x : Int) : 0 ≤ ktr x ∧ ktr x < 20 := by
  unfold ktr
  omega
/-- what each trader's ones say, all together: what all say -/
theorem say1_all {g : Int → Int} {R : List Int} : ∀ n : Nat, zsum (fun t => say1 g R t (n : Int)) 20 = zsum g (n : Int)
  | 0 => by
    show zsum (fun t => say1 g R t 0) 20 = zsum g 0
    rw [zsum_0]
    exact zsum_0s (by omega) (fun _ _ => rfl)
  | n + 1 => by
    have e : (fun t => say1 g R t ((n + 1 : Nat) : Int)) = (fun t => ((say1 g R t (n : Int) - 0) + (if ktr (R.getD n 0) = t then g n else 0)) - 0) := by
      funext t
      rw [show ((n + 1 : Nat) : Int) = (n : Int) + 1 by omega, say1_s (by omega), Int.toNat_natCast]
      omega
    have z0 : zsum (fun _ => (0 : Int)) 20 = 0 := zsum_0s (by omega) (fun _ _ => rfl)
    have b := ktr_b (R.getD n 0)
    have p := zsum_pick (a := ktr (R.getD n 0)) (c := g n) b.1 20
    rw [if_pos (by omega)] at p
    have p' : zsum (fun t => if ktr (R.getD n 0) = t then g n else 0) 20 = g n := p
    rw [e, zsum_pm, z0, p', say1_all n, show ((n + 1 : Nat) : Int) = (n : Int) + 1 by omega, zsum_s (by omega)]
    omega
theorem cnt_mul {R : List Int} {t f : Int} : ∀ n : Nat, cnt R t (n : Int) * f = say1 (fun _ => f) R t (n : Int)
  | 0 => by
    show zsum _ 0 * f = zsum _ 0
    rw [zsum_0, zsum_0, Int.zero_mul]
  | n + 1 => by
    rw [show ((n + 1 : Nat) : Int) = (n : Int) + 1 by omega, cnt_s (by omega), say1_s (by omega), Int.add_mul, cnt_mul n]
    split
    · rw [Int.one_mul]
    · rw [Int.zero_mul]
theorem zsum_c {f : Int} : ∀ n : Nat, zsum (fun _ => f) (n : Int) = (n : Int) * f
  | 0 => by
    show zsum _ 0 = (0 : Int) * f
    rw [zsum_0, Int.zero_mul]
  | n + 1 => by
    rw [show ((n + 1 : Nat) : Int) = (n : Int) + 1 by omega, zsum_s (by omega), zsum_c n, Int.add_mul, Int.one_mul]
theorem say1_0 {g : Int → Int} {R : List Int} {t n : Int} (hn : 0 ≤ n) (h : cnt R t n = 0) : say1 g R t n = 0 :=
  zsum_0s hn fun k hk => if_neg (cnt_0 hn h k hk)
theorem tW_sum {f : Int} {B A : List Int} : ∀ n : Nat, (n : Int) ≤ tT f B A → (zsum (gB B) (n : Int) - zsum (gA f A) (n : Int)) + tW f (B.drop n) (A.drop n) = tW f B A
  | 0, _ => by
    show (zsum _ 0 - zsum _ 0) + _ = _
    rw [zsum_0, zsum_0, List.drop_zero, List.drop_zero]
    omega
  | n + 1, h => by
    have ih := tW_sum (f := f) (B := B) (A := A) n (by omega)
    have b := tT_b (f := f) (B := B) (A := A)
    have s := (tT_step (f := f) (B := B) (A := A) (k := (n : Int)) (by omega) (by omega) (by omega) (tT_g ⟨by omega, by omega⟩)).2
    rw [Int.toNat_natCast, show ((n : Int) + 1).toNat = n + 1 by omega] at s
    rw [show ((n + 1 : Nat) : Int) = (n : Int) + 1 by omega, zsum_s (by omega), zsum_s (by omega)]
    omega
theorem tW_all {f : Int} {B A : List Int} : zsum (gB B) (tT f B A) - zsum (gA f A) (tT f B A) = tW f B A := by
  have b := tT_b (f := f) (B := B) (A := A)
  have h := tW_sum (f := f) (B := B) (A := A) (tT f B A).toNat (by omega)
  have e : (((tT f B A).toNat : Nat) : Int) = tT f B A := by omega
  have st := (tT_stop (f := f) (B := B) (A := A) (k := tT f B A) b.1 (fun h1 h2 => tT_l h1 h2)).2
  rw [st, e] at h
  omega
section
variable {l : Launch} {M : zM} {S : zS} {E : Int → Prop} {v : Int → Int → Int} {b : Nat} {f w : Int}
theorem mny_apart {t : Int} (ok : okM S v) : mny (mB S E v) (mA S E v) f 3 0 t - mny (mB S E v) (mA S E v) f 3 1 t = ((say1 (gB (mB S E v)) (mB S E v) t (tT f (mB S E v) (mA S E v)) - say1 (gA f (mA S E v)) (mA S E v) t (tT f (mB S E v) (mA S E v))) + cnt (mA S E v) t (tT f (mB S E v) (mA S E v)) * f) - (tW f (mB S E v) (mA S E v) - mWo (mB S E v) (mA S E v) f t) := by
  have tb := tT_b (f := f) (B := mB S E v) (A := mA S E v)
  rw [mny_0, mny_1, dN_3]
  by_cases c : qsl S t = 1
  · have hB := cnt_none (R := mB S E v) (t := t) (n := tT f (mB S E v) (mA S E v)) (noB ok (fun q => q.2.2 c)) (by omega)
    rw [if_pos hB, say1_0 tb.1 hB]
    by_cases c2 : cnt (mA S E v) t (tT f (mB S E v) (mA S E v)) = 0
    · rw [if_pos c2, say1_0 tb.1 c2, c2, mWo_none ok (fun q => absurd c q) (fun _ => c2), Int.zero_mul]
      omega
    · rw [if_neg c2, if_pos rfl]
      omega
  · have hA := cnt_none (R := mA S E v) (t := t) (n := tT f (mB S E v) (mA S E v)) (noA ok (fun q => c q.2.2)) (by omega)
    rw [if_pos hA, say1_0 (g := gA f (mA S E v)) tb.1 hA, hA, Int.zero_mul]
    by_cases c2 : cnt (mB S E v) t (tT f (mB S E v) (mA S E v)) = 0
    · rw [if_pos c2, say1_0 tb.1 c2, mWo_none ok (fun _ => c2) (fun q => absurd q c)]
      omega
    · rw [if_neg c2, if_pos rfl]
      omega
theorem tkg_apart (ok : okM S v) : (tW f (mB S E v) (mA S E v) + tT f (mB S E v) (mA S E v) * f) - zsum (fun t => tW f (mB S E v) (mA S E v) - mWo (mB S E v) (mA S E v) f t) 20 = tkg (mB S E v) (mA S E v) f 3 := by
  have tb := tT_b (f := f) (B := mB S E v) (A := mA S E v)
  rw [tkg, if_pos rfl, zsum_congr (fun t _ => mny_apart (t := t) (f := f) (E := E) ok), zsum_pm]
  have e : (((tT f (mB S E v) (mA S E v)).toNat : Nat) : Int) = tT f (mB S E v) (mA S E v) := by omega
  have s1 := say1_all (g := gB (mB S E v)) (R := mB S E v) (tT f (mB S E v) (mA S E v)).toNat
  have s2 := say1_all (g := gA f (mA S E v)) (R := mA S E v) (tT f (mB S E v) (mA S E v)).toNat
  have s3 := say1_all (g := fun _ => f) (R := mA S E v) (tT f (mB S E v) (mA S E v)).toNat
  have s4 : zsum (fun t => cnt (mA S E v) t (tT f (mB S E v) (mA S E v)) * f) 20 = zsum (fun t => say1 (fun _ => f) (mA S E v) t (tT f (mB S E v) (mA S E v))) 20 := zsum_congr fun t _ => by
    have := cnt_mul (R := mA S E v) (t := t) (f := f) (tT f (mB S E v) (mA S E v)).toNat
    rwa [e] at this
  have s5 := zsum_c (f := f) (tT f (mB S E v) (mA S E v)).toNat
  have s6 := tW_all (f := f) (B := mB S E v) (A := mA S E v)
  rw [e] at s1 s2 s3 s5
  rw [s1, s2, s4, s3, s5]
  omega
theorem c_X0_takings (ok : okM S v) (hf : 0 ≤ f ∧ f ≤ 500) (hw : 0 ≤ w ∧ w ≤ 3) (s : bkS M b (mB S E v) (mA S E v) f w) :
    CI l m_X0_takings [zr 0 b] M (fun x M' => x = tkg (mB S E v) (mA S E v) f w ∧ M' = M) := by
  have g := gd_m (E := E) ok
  have h1 := dN_b (B := mB S E v) (A := mA S E v) (f := f) (w := w)
  have h2 := tT_b (f := f) (B := mB S E v) (A := mA S E v)
  have h3 := g.1
  have e4 := s.2.1.1
  have e5 := s.2.1.2.1
  have e7 := s.2.1.2.2.2.1
  have e8 := s.2.1.2.2.2.2
  have loop : ∀ (n : Nat) (k : Int), (20 - k).toNat = n → 0 ≤ k ∧ k ≤ 20 → w = 3 → LX0_takings_51 l (fun x M' => x = tkg (mB S E v) (mA S E v) f w ∧ M' = M) b ((tW f (mB S E v) (mA S E v) + tT f (mB S E v) (mA S E v) * f) - zsum (fun t => tW f (mB S E v) (mA S E v) - mWo (mB S E v) (mA S E v) f t) k) k M := by
    intro n
    induction n with
    | zero =>
      intro k hn hk w3
      have : k = 20 := by omega
      subst this
      subst w3
      exact vX0_takings_51 ⟨by omega, fun _ => ⟨tkg_apart ok, rfl⟩, fun e => by omega⟩
    | succ n ih =>
      intro k hn hk w3
      refine vX0_takings_51 ⟨by omega, fun e => by omega, fun _ => ?_⟩
      refine (c_X0_worthWithout g hf s (by omega)).eq ?_
      have ih2 := ih (k + 1) (by omega) (by omega) w3
      rw [zsum_s hk.1, ← Int.sub_sub] at ih2
      rw [e7]
      exact ih2
  refine vX0_takings ⟨by omega, fun c => ?_, fun c => ⟨by omega, fun c2 => ⟨?_, rfl⟩, fun c2 => ⟨?_, rfl⟩⟩⟩
  · have w3 : w = 3 := by omega
    have := loop _ 0 rfl (by omega) w3
    rw [zsum_0, Int.sub_zero] at this
    rw [e7, e8, e4, w3, dN_3, ← w3]
    exact this
  · have hT : tT f (mB S E v) (mA S E v) ≠ 0 := by omega
    have hp := s.2.2 hT (by omega)
    rw [tkg, if_neg (by omega), if_neg (by omega), hp.1, hp.2, e8]
  · rw [tkg, if_neg (by omega), if_pos (by omega)]
end

