/-! ===== the law's loop: may it be said? ===== -/
section
variable {l : Launch} {P : lwG} {M : zM} {A : zY} {h r : Nat} {v3 i kk v6 t is nn vv : Int} {c n : Nat}
theorem law_434 {C N : Nat} (nx : goOn l P i C N) (hC : C ≤ 400000 ∧ N ≤ 4000000) (hi : 0 ≤ i ∧ i < 26) (B : lwB M A h r v3 i kk) (T : tqS (yS A) t is nn vv) (hc : c + 9 ≤ C) (hn : n + 1620 ≤ N) : LL_law_434 l P c n h v3 i v6 r t is nn vv M := by
  have w := B.1.2.1.1
  have wf := B.1.1.2.1
  have hn20 := w.n20
  have hv := T.2.1
  have ht := T.1
  rcases T.2.2 with ⟨e1, hq, e2⟩ | ⟨e1, hq, e2⟩
  · subst e1
    subst e2
    have hT : 0 ≤ t ∧ t < qn (yS A) := ⟨ht.1, hq⟩
    have h4 := w.un4 hT
    have h01 := w.s01 hT
    have noA : 4 ≤ qun (yS A) t → aAdd A t vv = ((if (1 : Int) = 0 then -1 else if qun (yS A) t = 4 then -2 else -3 : Int), A) := fun q => by
      unfold aAdd
      rw [if_neg (fun z => z hT), if_neg (by omega), if_pos q, if_neg (by decide), if_pos (by omega)]
    have noB : qun (yS A) t < 4 → ¬ fitP (yS A) t (qun (yS A) t) vv → aAdd A t vv = ((if (1 : Int) = 0 then -1 else if qun (yS A) t = 4 then -2 else -3 : Int), A) := fun q f => by
      unfold aAdd
      rw [if_neg (fun z => z hT), if_neg (by omega), if_neg (by omega), if_pos f, if_neg (by decide), if_neg (by omega)]
    have nq : ¬ qU (yS A) t (qun (yS A) t + 1) := fun q => by have := q.2.2.2; omega
    refine vL_law_434 ⟨by decide, fun z => absurd z (by decide), fun _ => ⟨by omega, fun q => vL_law_481 (law_484n nx hC hi B T (noA q) hc hn), fun q => ⟨fun z => ?_, fun z => ⟨w.r7.1, fun x7 q7 => ?_⟩⟩⟩⟩
    · refine law_484y nx hC hi B hT q hv ⟨fun y => ?_, fun y => absurd y nq⟩ hc hn
      have := y.2.2.1
      omega
    · obtain rfl := w.r7.2 x7 q7
      refine ⟨w.t21 hT, w.r11.1, fun U qU_ => ?_⟩
      obtain rfl := w.r11.2 U qU_
      refine ⟨(w.rr hT).1, fun x qx => ?_⟩
      obtain rfl := (w.rr hT).2 x qx
      have hs := B.1.2.1.2.2.2.1 t (qun (yS A) t - 1) hT (by omega)
      rw [w.un hT, w.sl hT, w.sy hT (u := qun (yS A) t - 1) (by omega)]
      refine ⟨by omega, (c_goesOn h01 (by omega) (by omega)).mono ?_⟩
      rintro x M' ⟨hx, eM⟩
      rw [eM]
      by_cases s : qsl (yS A) t = 0
      · rw [if_pos s] at hx
        by_cases d : vv ≤ qsy (yS A) t (qun (yS A) t - 1)
        · rw [zb_1 d] at hx
          rw [hx]
          refine ⟨by decide, fun z => absurd z (by decide), fun _ => law_484y nx hC hi B hT q hv ⟨fun _ => ⟨fun y => by omega, fun _ => d⟩, fun y => absurd y nq⟩ hc hn⟩
        · rw [zb_f d] at hx
          rw [hx]
          refine ⟨by decide, fun _ => vL_law_481 (law_484n nx hC hi B T (noB q fun f => d ((f.1 ⟨hT.1, hT.2, by omega, by omega⟩).2 (by omega))) hc hn), fun z => absurd rfl z⟩
      · rw [if_neg s] at hx
        by_cases d : qsy (yS A) t (qun (yS A) t - 1) ≤ vv
        · rw [zb_1 d] at hx
          rw [hx]
          refine ⟨by decide, fun z => absurd z (by decide), fun _ => law_484y nx hC hi B hT q hv ⟨fun _ => ⟨fun _ => d, fun y => by omega⟩, fun y => absurd y nq⟩ hc hn⟩
        · rw [zb_f d] at hx
          rw [hx]
          refine ⟨by decide, fun _ => vL_law_481 (law_484n nx hC hi B T (noB q fun f => d ((f.1 ⟨hT.1, hT.2, by omega, by omega⟩).1 (by omega))) hc hn), fun z => absurd rfl z⟩
  · subst e1
    refine vL_law_434 ⟨by decide, fun _ => vL_law_481 (law_484n nx hC hi B T ?_ hc hn), fun z => absurd rfl z⟩
    unfold aAdd
    rw [if_pos (by omega), if_pos rfl]
end
