/-! ===== the law's loop: the end of an act ===== -/
section
variable {l : Launch} {P : lwG} {M : zM} {A : zY} {S0 : zS} {h r : Nat} {v3 i kk d v6 : Int} {c n : Nat}
/-- the loop goes on -/
def goOn (l : Launch) (P : lwG) (i : Int) (C N : Nat) : Prop := ∀ (M : zM) (A : zY) (h : Nat) (v3 kk : Int) (c n : Nat), lwI M A h v3 (i + 1) kk → c ≤ C → n ≤ N → LL_law_82 l P c n h v3 1 (i + 1) M
theorem law_1279 {C N : Nat} (nx : goOn l P i C N) (I : lwI M A h v3 (i + 1) kk) (hc : c ≤ C) (hn : n ≤ N) : LL_law_1279 l P c n h v3 1 i M := vL_law_1279 (nx M A h v3 kk c n I hc hn)
theorem law_1191 {C N : Nat} (nx : goOn l P i C N) (hC : C ≤ 400000 ∧ N ≤ 4000000) (hi : 0 ≤ i ∧ i < 26) (J : lwJ M A S0 h r v3 (i + 1) kk d) (hc : c + 8 ≤ C) (hn : n + 1616 ≤ N) : LL_law_1191 l P c n h v3 1 i v6 r d M := by
  obtain ⟨I, ⟨wr, gr⟩, hd, hd1⟩ := J
  refine vL_law_1191 ⟨by decide, fun z => absurd z (by decide), fun _ => ⟨by omega, (c_same (I.sm (by omega)) I.1.1).mono ?_⟩⟩
  rintro x M1 ⟨hx, L1, C1⟩
  have I1 : lwI M1 A h v3 (i + 1) kk := I.go L1 C1 I.1.2.1 I.1.2.2.2.2 rfl ⟨rfl, rfl⟩
  rw [hx]
  refine ⟨by decide, fun z => absurd z (by decide), fun _ => ?_⟩
  refine vL_law_1211 ⟨by omega, fun _ => law_1279 nx I1 (by omega) (by omega), fun z => ⟨by decide, fun q => absurd q (by decide), fun _ => ⟨fun _ => law_1279 nx I1 (by omega) (by omega), fun _ => ?_⟩⟩⟩
  obtain ⟨⟨u1, u2⟩, ar, ak⟩ := hd1 (by omega)
  have ok := I.1.2.1.1.ok
  refine vL_law_1231 ((sm.count (M := M1) (M1 := M1) (A := A) ⟨Lr.rf, C1⟩ ok (by decide)).mono ?_)
  rintro x M2 ⟨hx, L2, C2⟩
  have hx : x = yhc A := hx
  rw [hx]
  have hb := I.1.2.1.2.1
  refine vL_law_1238 ((a8_undo C2 I.1.2.1).mono ?_)
  rintro x M3 ⟨hx, C3, f3⟩
  have eu : aUndo A = (yhc A - 1, yTake A) := if_pos u1
  have wu := w_undo I.1.2.1
  rw [eu] at hx C3 wu
  have hx : x = yhc A - 1 := hx
  rw [hx]
  refine ⟨by omega, by omega, fun z => absurd rfl z, fun _ => ?_⟩
  have k13 : Ke M1 M3 := L2.ke.tr (Lr.md (K := []) f3).ke
  have k03 : Ke M M3 := L1.ke.tr k13
  have es : yS (yTake A) = S0 := u2
  have hh := I.2.1.1.1.1.1
  have I3 : lwI M3 (yTake A) r v3 (i + 1) kk := by
    refine ⟨⟨C3, wu, I.1.2.2.1, I.1.2.2.2.1, I.1.2.2.2.2⟩, by rw [es]; exact ⟨wr.ke k03, gr⟩, ?_, ?_⟩
    · have e97 : ∀ q : Nat, q ∉ sK3 → M3 97 0 q = M1 97 0 q := fun q hq => ((Lr.md (K := []) f3).2.2 q (by simp)).trans (L2.2.2 q hq)
      have q0 : M3 97 0 64 = M1 97 0 64 := e97 64 (by decide)
      have q1 : M3 97 0 70 = M1 97 0 70 := e97 70 (by decide)
      have q2 : M3 97 0 71 = M1 97 0 71 := e97 71 (by decide)
      have q3 : M3 97 0 72 = M1 97 0 72 := e97 72 (by decide)
      have q4 : M3 97 0 73 = M1 97 0 73 := e97 73 (by decide)
      unfold zSy
      rw [q0, q1, q2, q3, q4]
      exact I1.2.2.1
    · rcases I.2.2.2 with q | ⟨q1, q2, q3, q4, q5⟩
      · exact .inl q
      · exact .inr ⟨q1, q2, q3.ke k03, q4, (ak q1).ke k03 q3.1.1.1 wr.1.1.1⟩
  refine vL_law_1256 ⟨by decide, fun z => absurd z (by decide), fun _ => ⟨by omega, (c_same (I3.sm (by omega)) C3).mono ?_⟩⟩
  rintro x M4 ⟨hx, L4, C4⟩
  rw [hx]
  exact ⟨by decide, fun z => absurd z (by decide), fun _ => law_1279 nx (I3.go L4 C4 wu I3.1.2.2.2.2 rfl ⟨rfl, rfl⟩) (by omega) (by omega)⟩
end
