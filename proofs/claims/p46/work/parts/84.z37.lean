/-! ===== the law's loop: fee and law ===== -/
/-- the law's side between the class's act and its own -/
def lwL (M : zM) (A : zY) (h r : Nat) (v3 i kk : Int) : Prop := (wfY kk A ∧ 0 ≤ kk ∧ kk ≤ i ∧ ytn A = 0) ∧ (lH M h (yS A) ∧ gH (yS A) i) ∧ zSy M ∧ kpI M A h v3 i ∧ lH M r (yS A) ∧ ap M r h ∧ (0 ≤ v3 → ap M v3.toNat r)
theorem zSy.md {M M' : zM} (y : zSy M) (f : ∀ k i, isMd k → M' k i = M k i) : zSy M' := y.of (f 97 0 (Or.inr (by decide)))
theorem lwB.l {M N : zM} {A : zY} {h r : Nat} {v3 i kk : Int} (B : lwB M A h r v3 i kk) (f : ∀ k i, isMd k → N k i = M k i) : lwL N A h r v3 i kk := by
  obtain ⟨I, wr, ar, ak⟩ := B
  have k : Ke M N := (Lr.md (K := []) f).ke
  have hh := I.2.1.1.1.1.1
  have hr := wr.1.1.1
  refine ⟨I.1.2, ⟨I.2.1.1.ke k, I.2.1.2⟩, I.2.2.1.md f, ?_, wr.ke k, ar.ke k hr hh, fun z => ?_⟩
  · rcases I.2.2.2 with q | ⟨q1, q2, q3, q4, q5⟩
    · exact .inl q
    · exact .inr ⟨q1, q2, q3.ke k, q4, q5.ke k q3.1.1.1 hh⟩
  · rcases I.2.2.2 with q | ⟨q1, q2, q3, q4, q5⟩
    · omega
    · exact (ak z).ke k q3.1.1.1 hr
theorem lwL.put {M M' : zM} {A : zY} {h r : Nat} {v3 i kk kk' : Int} {S' : zS} (B : lwL M A h r v3 i kk) (C : cSt M' (yPut A S')) (X : Hx M M' h) (y : zSy M') (w : lH M' h S') (g : gH S' (i + 1)) (wf : wfY kk' (yPut A S')) (hk : 0 ≤ kk' ∧ kk' ≤ i + 1) : lwJ M' (yPut A S') (yS A) h r v3 (i + 1) kk' 1 := by
  obtain ⟨I1, ⟨I2, I3⟩, I4, I5, wr, ar, ak⟩ := B
  have hh := I2.1.1.1
  have hr := wr.1.1.1
  refine ⟨⟨⟨C, wf, hk.1, hk.2, I1.2.2.2⟩, ⟨w, g⟩, y, ?_⟩, ⟨wr.hx X ar.1 ar.2, I3.le (by omega)⟩, .inr rfl, fun _ => ⟨⟨?_, ?_⟩, ar.hx X hr hh, fun z => ?_⟩⟩
  · rcases I5 with q | ⟨q1, q2, q3, q4, q5⟩
    · exact .inl q
    · exact .inr ⟨q1, q2, q3.hx X q5.1 q5.2, q4.le (by omega), q5.hx X q3.1.1.1 hh⟩
  · have := I1.1.2.1.1
    show 0 < min (yhc A + 1) 10
    omega
  · exact show (if (0 : Int) = 0 then yS A else yhf A (0 - 1)) = yS A from if_pos rfl
  · rcases I5 with q | ⟨q1, q2, q3, q4, q5⟩
    · omega
    · exact (ak z).hx X q3.1.1.1 hr
theorem lwL.no {M M' : zM} {A : zY} {h r : Nat} {v3 i kk : Int} (B : lwL M A h r v3 i kk) (C : cSt M' A) (X : Hx M M' h) (y : zSy M') (w : lH M' h (yS A)) : lwJ M' A (yS A) h r v3 (i + 1) kk 0 := by
  obtain ⟨I1, ⟨I2, I3⟩, I4, I5, wr, ar, ak⟩ := B
  have hh := I2.1.1.1
  refine ⟨⟨⟨C, I1.1, I1.2.1, by have := I1.2.2.1; omega, I1.2.2.2⟩, ⟨w, I3.le (by omega)⟩, y, ?_⟩, ⟨wr.hx X ar.1 ar.2, I3.le (by omega)⟩, .inl rfl, fun z => absurd z (by decide)⟩
  rcases I5 with q | ⟨q1, q2, q3, q4, q5⟩
  · exact .inl q
  · exact .inr ⟨q1, q2, q3.hx X q5.1 q5.2, q4.le (by omega), q5.hx X q3.1.1.1 hh⟩
theorem gH.sc {S : zS} {i j x : Int} (h : gH S i) (hj : j = 2 ∨ (j = 1 ∧ 0 ≤ x ∧ x < 10)) : gH (sSc S j x) (i + 1) := by
  have n0 : qn (sSc S j x) = qn S := sSc_o (by omega)
  have e : ∀ k, k ≠ j → qsc (sSc S j x) k = qsc S k := fun k hk => sSc_o hk
  obtain ⟨⟨x1, x2, x3⟩, h2, h3, h4⟩ := h
  refine ⟨⟨?_, ?_, ?_⟩, ?_, ?_, ?_⟩
  · rw [n0, e 3 (by omega)]; exact x1
  · rw [e 4 (by omega), e 5 (by omega)]; exact x2
  · rw [n0, e 5 (by omega)]; exact x3
  · rcases hj with c | ⟨c, d⟩
    · rw [show qfee (sSc S j x) = qfee S from e 1 (by omega)]; exact h2
    · rw [show qfee (sSc S j x) = x by rw [c]; exact show (if (1 : Int) = 1 then x else qsc S 1) = x from if_pos rfl]; exact d
  · rw [n0]; exact h3
  · unfold pot at h4 ⊢
    rw [n0]
    have : qun (sSc S j x) = qun S := rfl
    rw [this]
    omega
section
variable {l : Launch} {P : lwG} {M : zM} {A : zY} {h r : Nat} {v3 i kk v6 : Int} {c n : Nat}
theorem law_916 {C N : Nat} (nx : goOn l P i C N) (hC : C ≤ 400000 ∧ N ≤ 4000000) (hi : 0 ≤ i ∧ i < 26) (B : lwB M A h r v3 i kk) (hc : c + 8 ≤ C) (hn : n + 1616 ≤ N) : LL_law_916 l P c n h v3 i v6 r M := by
  have w := B.1.2.1.1
  have wf := B.1.1.2.1
  have C0 := B.1.1.1
  have kb := B.1.1.2.2
  have hf : zI (qfee (yS A)) := by have := wf.1.2.1; omega
  have vf := tmod_b (x := zushr v6 8) (m := 5) (zus_nn (k := 8) (by decide)) (by decide)
  generalize ef : Int.tmod (zushr v6 8) 5 = f at vf
  have fin : ∀ (N1 M2 : zM) (A' : zY) (d : Int), (∀ k i, isMd k → N1 k i = M k i) → cSt N1 A' → ((d = 0 ∧ A' = A ∧ f = qfee (yS A)) ∨ (d = 1 ∧ A' = yPut A (sSc (yS A) 1 f))) → M2 = zu N1 64 h 1 f → LL_law_1191 l P c n h v3 1 i v6 r d M2 := by
    intro N1 M2 A' d g C1 hd e2
    have L := B.l g
    have w1 := L.2.1.1
    have o : ∀ k i, k ≠ 64 → M2 k i = N1 k i := fun k i z => by rw [e2]; exact zu_o k i (fun q => z q.1)
    have X : Hx N1 M2 h := Hx.rf.zu e2 (.inl ⟨rfl, rfl, by decide⟩)
    have y2 : zSy M2 := L.2.2.1.of (o 97 0 (by decide))
    have C2 : cSt M2 A' := C1.lw fun k i hk => o k i (by omega)
    have w2 := (w1.fld (by decide) e2).1
    rcases hd with ⟨rfl, rfl, q⟩ | ⟨rfl, rfl⟩
    · rw [q] at w2
      have e : sSc (yS A') 1 (qfee (yS A')) = yS A' := sSc_i
      rw [e] at w2
      exact law_1191 nx hC hi (L.no C2 X y2 w2) hc hn
    · exact law_1191 nx hC hi (L.put C2 X y2 w2 (B.1.2.1.2.sc (.inr ⟨rfl, by omega⟩)) (wf_put wf (wf_fee wf.1 (by omega))) (by omega)) hc hn
  have bad : ∀ B : zY, aFeeA B 501 = (-1, B) := fun B => if_pos (by decide)
  refine vL_law_916 ?_
  rw [ef, show M 64 h 1 = qfee (yS A) from w.sc (by decide)]
  refine ⟨by omega, hf, fun q => vL_law_941 ((a8_fee C0 wf (by omega)).mono ?_), fun q => vL_law_941 ((a8_fee C0 wf (by omega)).mono ?_)⟩
  · rintro x M1 ⟨hx, C1, f1⟩
    have e : aFeeA A f = (-2, A) := by unfold aFeeA; rw [if_neg (by omega), if_pos q.symm]
    rw [e] at hx C1
    have hx : x = -2 := hx
    rw [hx]
    refine ⟨by decide, fun _ => ⟨by decide, fun z => absurd rfl z, fun _ => (a8_fee C1 wf (by decide)).mono ?_⟩, fun z => absurd rfl z⟩
    rintro x M2 ⟨hx, C2, f2⟩
    rw [bad] at hx C2
    have hx : x = -1 := hx
    rw [hx]
    refine ⟨by decide, fun z => absurd rfl z, fun _ => vL_law_982 fun M3 e3 => fin M2 M3 A 0 (fun k i hk => (f2 k i hk).trans (f1 k i hk)) C2 (.inl ⟨rfl, rfl, q⟩) e3⟩
  · rintro x M1 ⟨hx, C1, f1⟩
    have e : aFeeA A f = (qfee (yS A), yPut A (sSc (yS A) 1 f)) := by unfold aFeeA; rw [if_neg (by omega), if_neg (fun z => q z.symm)]
    rw [e] at hx C1
    have hx : x = qfee (yS A) := hx
    have wf1 : wfY kk (yPut A (sSc (yS A) 1 f)) := wf_put wf (wf_fee wf.1 (by omega))
    rw [hx, show M1 64 h 1 = qfee (yS A) from (w.ke (Lr.md (K := []) f1).ke).sc (by decide)]
    refine ⟨by decide, fun z => absurd z (by decide), fun _ => ⟨hf, hf, fun z => absurd rfl z, fun _ => (a8_fee C1 wf1 (by decide)).mono ?_⟩⟩
    rintro x M2 ⟨hx, C2, f2⟩
    rw [bad] at hx C2
    have hx : x = -1 := hx
    rw [hx]
    refine ⟨by decide, fun z => absurd rfl z, fun _ => vL_law_982 fun M3 e3 => fin M2 M3 _ 1 (fun k i hk => (f2 k i hk).trans (f1 k i hk)) C2 (.inr ⟨rfl, rfl⟩) e3⟩
theorem law_991 {C N : Nat} (nx : goOn l P i C N) (hC : C ≤ 400000 ∧ N ≤ 4000000) (hi : 0 ≤ i ∧ i < 26) (B : lwB M A h r v3 i kk) (hc : c + 8 ≤ C) (hn : n + 1616 ≤ N) : LL_law_991 l P c n h v3 i v6 r M := by
  have w := B.1.2.1.1
  have wf := B.1.1.2.1
  have C0 := B.1.1.1
  have kb := B.1.1.2.2
  have hf : zI (qlaw (yS A)) := by have := wf.1.2.2.1; omega
  have vf := tmod_b (x := zushr v6 8) (m := 4) (zus_nn (k := 8) (by decide)) (by decide)
  generalize ef : Int.tmod (zushr v6 8) 4 = f at vf
  have fin : ∀ (N1 M2 : zM) (A' : zY) (d : Int), (∀ k i, isMd k → N1 k i = M k i) → cSt N1 A' → ((d = 0 ∧ A' = A ∧ f = qlaw (yS A)) ∨ (d = 1 ∧ A' = yPut A (sSc (yS A) 2 f))) → M2 = zu N1 64 h 2 f → LL_law_1191 l P c n h v3 1 i v6 r d M2 := by
    intro N1 M2 A' d g C1 hd e2
    have L := B.l g
    have w1 := L.2.1.1
    have o : ∀ k i, k ≠ 64 → M2 k i = N1 k i := fun k i z => by rw [e2]; exact zu_o k i (fun q => z q.1)
    have X : Hx N1 M2 h := Hx.rf.zu e2 (.inl ⟨rfl, rfl, by decide⟩)
    have y2 : zSy M2 := L.2.2.1.of (o 97 0 (by decide))
    have C2 : cSt M2 A' := C1.lw fun k i hk => o k i (by omega)
    have w2 := (w1.fld (by decide) e2).1
    rcases hd with ⟨rfl, rfl, q⟩ | ⟨rfl, rfl⟩
    · rw [q] at w2
      have e : sSc (yS A') 2 (qlaw (yS A')) = yS A' := sSc_i
      rw [e] at w2
      exact law_1191 nx hC hi (L.no C2 X y2 w2) hc hn
    · exact law_1191 nx hC hi (L.put C2 X y2 w2 (B.1.2.1.2.sc (.inl rfl)) (wf_put wf (wf_law wf.1 (by omega))) (by omega)) hc hn
  have bad : ∀ B : zY, aLawA B (-1) = (-1, B) := fun B => if_pos (by decide)
  refine vL_law_991 ?_
  rw [ef, show M 64 h 2 = qlaw (yS A) from w.sc (by decide)]
  refine ⟨by omega, hf, fun q => vL_law_1016 ((a8_law C0 wf (by omega)).mono ?_), fun q => vL_law_1016 ((a8_law C0 wf (by omega)).mono ?_)⟩
  · rintro x M1 ⟨hx, C1, f1⟩
    have e : aLawA A f = (-2, A) := by unfold aLawA; rw [if_neg (by omega), if_pos q.symm]
    rw [e] at hx C1
    have hx : x = -2 := hx
    rw [hx]
    refine ⟨by decide, fun _ => ⟨by decide, fun z => absurd rfl z, fun _ => (a8_law C1 wf (by decide)).mono ?_⟩, fun z => absurd rfl z⟩
    rintro x M2 ⟨hx, C2, f2⟩
    rw [bad] at hx C2
    have hx : x = -1 := hx
    rw [hx]
    refine ⟨by decide, fun z => absurd rfl z, fun _ => vL_law_1055 fun M3 e3 => fin M2 M3 A 0 (fun k i hk => (f2 k i hk).trans (f1 k i hk)) C2 (.inl ⟨rfl, rfl, q⟩) e3⟩
  · rintro x M1 ⟨hx, C1, f1⟩
    have e : aLawA A f = (qlaw (yS A), yPut A (sSc (yS A) 2 f)) := by unfold aLawA; rw [if_neg (by omega), if_neg (fun z => q z.symm)]
    rw [e] at hx C1
    have hx : x = qlaw (yS A) := hx
    have wf1 : wfY kk (yPut A (sSc (yS A) 2 f)) := wf_put wf (wf_law wf.1 (by omega))
    rw [hx, show M1 64 h 2 = qlaw (yS A) from (w.ke (Lr.md (K := []) f1).ke).sc (by decide)]
    refine ⟨by decide, fun z => absurd z (by decide), fun _ => ⟨hf, hf, fun z => absurd rfl z, fun _ => (a8_law C1 wf1 (by decide)).mono ?_⟩⟩
    rintro x M2 ⟨hx, C2, f2⟩
    rw [bad] at hx C2
    have hx : x = -1 := hx
    rw [hx]
    refine ⟨by decide, fun z => absurd rfl z, fun _ => vL_law_1055 fun M3 e3 => fin M2 M3 _ 1 (fun k i hk => (f2 k i hk).trans (f1 k i hk)) C2 (.inr ⟨rfl, rfl⟩) e3⟩
end
