theorem ic64 : Cond.instantiable RX9 12 ∈ zTB := zti 672 (by decide +kernel) (by decide +kernel)
theorem ic65 : Cond.instantiable RX10 9 ∈ zTB := zti 1115 (by decide +kernel) (by decide +kernel)
theorem ic66 : Cond.instantiable RJ0 4 ∈ zTB := zti 939 (by decide +kernel) (by decide +kernel)
theorem ic67 : Cond.instantiable RJ4 4 ∈ zTB := zti 756 (by decide +kernel) (by decide +kernel)
/-! ===== the start: what the launch gives ===== -/
theorem st_prim {args : Array Value} {s : State} {ty : FieldType} (h : (Cond.arrayClass ty).before args s = true) : ∃ cA : ClassId, ArrOfT s cA ty ∧ s.vm.findClass ("[" ++ ty.toString) = some cA := by
  obtain ⟨c, k, comp, h1, h2, h3⟩ := Cond.arrayClass_spec h
  exact ⟨c, fun n z => ⟨fun k h => (by cases h), k, h2, comp, h3⟩, h1⟩
theorem st_obj {args : Array Value} {s : State} {C : String} (h : (Cond.arrayOver (.object C)).before args s = true) : ∃ cA : ClassId, ArrOfT s cA (.object C) ∧ va_RA s cA (.object C) := by
  obtain ⟨comp, c, k, f1, -, h2, h3, h4⟩ := Cond.arrayOver_spec h
  exact ⟨c, fun n z => ⟨fun k h => (by cases h), k, h2, comp, h3⟩, k, comp, h2, h3, f1, h4⟩
theorem st_ai {args : Array Value} {s : State} (h : (Cond.arrayOver (.array .int)).before args s = true) : zAI s := by
  simp only [Cond.before, Cond.holds, Cond.value, beq_iff_eq] at h
  have e1 : (FieldType.array .int).toString = "[I" := by decide +kernel
  have e2 : "[" ++ "[I" = "[[I" := by decide +kernel
  cases hc : s.vm.findClass "[I" with
  | none => simp [hc, e1] at h
  | some comp =>
    simp only [hc, e1, e2, Option.bind_some, Option.bind_eq_some_iff, Option.map_eq_some_iff] at h
    obtain ⟨c, hi, k, hk, hb⟩ := h
    obtain ⟨hlt, hp, -⟩ := Array.findIdx?_eq_some_iff_getElem.mp hi
    have hkk : s.vm.classes[c] = k := (Array.getElem?_eq_some_iff.mp hk).2
    rw [hkk] at hp
    cases hkind : k.kind with
    | array component ty =>
      rw [hkind] at hb hp
      simp at hb hp
      exact ⟨comp, c, k, hc, hi, hk, by rw [hkind, hp, hb.1], hb.2⟩
    | _ => rw [hkind] at hb; simp at hb
theorem st_rr {args : Array Value} {s : State} (h : (Cond.arrayOver (.array .int)).before args s = true) : ∃ cA : ClassId, ArrOfT s cA (.array .int) ∧ va_RA s cA (.array .int) := by
  obtain ⟨comp, c, k, f1, f2, h2, h3, h4⟩ := st_ai h
  exact ⟨c, fun n z => ⟨fun k h => (by cases h), k, h2, comp, h3⟩, h4⟩
theorem st_cs {args : Array Value} {s : State} (hts : ∀ w ∈ zTB, w.before args s = true) (ho : (Cond.arrayOver (.object "TradeHall$Hall")).before args s = true) (hr : (Cond.arrayOver (.array .int)).before args s = true) : ∃ cs : Nat → ClassId, ∀ (k : Nat) (q : ClassId × FieldType), (nty cs)[k]? = some q → ArrOfT s q.1 q.2 ∧ va_RA s q.1 q.2 := by
  obtain ⟨c0, a0, b0⟩ := st_prim (hts _ an_int)
  obtain ⟨c1, a1, b1⟩ := st_prim (hts _ an_boolean)
  obtain ⟨c2, a2, b2⟩ := st_prim (hts _ an_byte)
  obtain ⟨c3, a3, b3⟩ := st_prim (hts _ an_long)
  obtain ⟨c4, a4, b4⟩ := st_obj ho
  obtain ⟨c5, a5, b5⟩ := st_rr hr
  refine ⟨fun i => match i with | 0 => c0 | 1 => c1 | 2 => c2 | 3 => c3 | 4 => c4 | _ => c5, fun k q hq => ?_⟩
  match k, hq with
  | 0, hq => cases hq; exact ⟨a0, b0⟩
  | 1, hq => cases hq; exact ⟨a1, b1⟩
  | 2, hq => cases hq; exact ⟨a2, b2⟩
  | 3, hq => cases hq; exact ⟨a3, b3⟩
  | 4, hq => cases hq; exact ⟨a4, b4⟩
  | 5, hq => cases hq; exact ⟨a5, b5⟩
  | k + 6, hq => cases hq
theorem st_D {args : Array Value} {s : State} (hts : ∀ w ∈ zTB, w.before args s = true) : ∃ D : va_G, ∀ (c : Nat) (q : vw_C), vwCl[c]? = some q → u_Kn s q.1 q.2.1 q.2.2 (D.1 c) (D.2 c) := by
  obtain ⟨c0, i0, k0⟩ := u_known (N := 11) hts inT0 (hts _ ic0)
  obtain ⟨c1, i1, k1⟩ := u_known (N := 13) hts inT1 (hts _ ic1)
  obtain ⟨c2, i2, k2⟩ := u_known (N := 3) hts inT2 (hts _ ic2)
  obtain ⟨c3, i3, k3⟩ := u_known (N := 2) hts inT3 (hts _ ic3)
  obtain ⟨c4, i4, k4⟩ := u_known (N := 3) hts inT4 (hts _ ic4)
  obtain ⟨c5, i5, k5⟩ := u_known (N := 3) hts inT5 (hts _ ic5)
  obtain ⟨c6, i6, k6⟩ := u_known (N := 2) hts inT6 (hts _ ic6)
  obtain ⟨c7, i7, k7⟩ := u_known (N := 7) hts inT7 (hts _ ic7)
  obtain ⟨c8, i8, k8⟩ := u_known (N := 11) hts inT8 (hts _ ic8)
  obtain ⟨c9, i9, k9⟩ := u_known (N := 12) hts inT64 (hts _ ic64)
  obtain ⟨c10, i10, k10⟩ := u_known (N := 9) hts inT65 (hts _ ic65)
  obtain ⟨c11, i11, k11⟩ := u_known (N := 4) hts inT66 (hts _ ic66)
  obtain ⟨c12, i12, k12⟩ := u_known (N := 4) hts inT67 (hts _ ic67)
  refine ⟨(fun k => match k with | 0 => c0 | 1 => c1 | 2 => c2 | 3 => c3 | 4 => c4 | 5 => c5 | 6 => c6 | 7 => c7 | 8 => c8 | 9 => c9 | 10 => c10 | 11 => c11 | _ => c12, fun k => match k with | 0 => i0 | 1 => i1 | 2 => i2 | 3 => i3 | 4 => i4 | 5 => i5 | 6 => i6 | 7 => i7 | 8 => i8 | 9 => i9 | 10 => i10 | 11 => i11 | _ => i12), fun c q hq => ?_⟩
  match c, hq with
  | 0, hq => cases hq; exact k0
  | 1, hq => cases hq; exact k1
  | 2, hq => cases hq; exact k2
  | 3, hq => cases hq; exact k3
  | 4, hq => cases hq; exact k4
  | 5, hq => cases hq; exact k5
  | 6, hq => cases hq; exact k6
  | 7, hq => cases hq; exact k7
  | 8, hq => cases hq; exact k8
  | 9, hq => cases hq; exact k9
  | 10, hq => cases hq; exact k10
  | 11, hq => cases hq; exact k11
  | 12, hq => cases hq; exact k12
  | c + 13, hq => cases hq
def tmS : Nat → Term := fun i => match i with
  | 0 => .string "TradeHall$Tape" 59
  | 1 => .string "TradeHall$Tape" 69
  | 2 => .string "TradeHall$Tape" 71
  | 3 => .string "TradeHall$Tape" 77
  | 4 => .string "TradeHall" 409
  | 5 => .string "TradeHall" 403
  | 6 => .string "TradeHall" 405
  | 7 => .string "TradeHall" 407
  | 8 => .string "TradeHallLaw$Hall" 77
  | 9 => .string "TradeHallLaw$Hall" 75
  | 10 => .string "TradeHallLaw$Hall" 91
  | 11 => .string "TradeHallLaw$Hall" 95
  | 12 => .string "TradeHallLaw$Hall" 67
  | 13 => .string "TradeHallLaw$Hall" 69
  | 14 => .string "TradeHallLaw$Hall" 89
  | _ => .string "TradeHallLaw$Hall" 93
set_option maxRecDepth 100000
theorem st_zl : ∀ i, i < 16 → zsLen.getD i 0 ≤ 16 := by decide +kernel
def exL : List Nat := [215, 224, 235, 244, 296, 254, 268, 281, 357, 336, 399, 443, 310, 323, 378, 420]
theorem st_ex1 : ∀ i, i < 16 → (flatC (Cond.and given_1 narrow_1))[exL.getD i 0]? = some (Cond.exactly (tmS i) "java/lang/String") := by decide +kernel
theorem st_co1 : ∀ i, i < 16 → (flatC (Cond.and given_1 narrow_1))[exL.getD i 0 + 1]? = some (Cond.eq (.field (tmS i) "java/lang/String" "coder" "B") (.int 0)) := by decide +kernel
theorem st_ar1 : ∀ i, i < 16 → (flatC (Cond.and given_1 narrow_1))[exL.getD i 0 + 2]? = some (Cond.arrayOf (.field (tmS i) "java/lang/String" "value" "[B") .byte) := by decide +kernel
theorem st_le1 : ∀ i, i < 16 → (flatC (Cond.and given_1 narrow_1))[exL.getD i 0 + 3]? = some (Cond.eq (.length (.field (tmS i) "java/lang/String" "value" "[B")) (.int (Int32.ofNat (zsLen.getD i 0)))) := by decide +kernel
theorem st_el1 : ∀ i, i < 16 → ∀ j, j < zsLen.getD i 0 → (flatC (Cond.and given_1 narrow_1))[exL.getD i 0 + 4 + j]? = some (Cond.eq (.elem (.field (tmS i) "java/lang/String" "value" "[B") (.int (Int32.ofNat j))) (.int ((zsByt.getD i []).getD j 0))) := by decide +kernel
theorem st_ex (i : Nat) (h : i < 16) : Cond.exactly (tmS i) "java/lang/String" ∈ flatC (Cond.and given_1 narrow_1) := List.mem_of_getElem? (st_ex1 i h)
theorem st_co (i : Nat) (h : i < 16) : Cond.eq (.field (tmS i) "java/lang/String" "coder" "B") (.int 0) ∈ flatC (Cond.and given_1 narrow_1) := List.mem_of_getElem? (st_co1 i h)
theorem st_ar (i : Nat) (h : i < 16) : Cond.arrayOf (.field (tmS i) "java/lang/String" "value" "[B") .byte ∈ flatC (Cond.and given_1 narrow_1) := List.mem_of_getElem? (st_ar1 i h)
theorem st_le (i : Nat) (h : i < 16) : Cond.eq (.length (.field (tmS i) "java/lang/String" "value" "[B")) (.int (Int32.ofNat (zsLen.getD i 0))) ∈ flatC (Cond.and given_1 narrow_1) := List.mem_of_getElem? (st_le1 i h)
theorem st_el (i : Nat) (h : i < 16) (j : Nat) (hj : j < zsLen.getD i 0) : Cond.eq (.elem (.field (tmS i) "java/lang/String" "value" "[B") (.int (Int32.ofNat j))) (.int ((zsByt.getD i []).getD j 0)) ∈ flatC (Cond.and given_1 narrow_1) := List.mem_of_getElem? (st_el1 i h j hj)
def neL : List (Nat × Nat × Nat) := [(0, 1, 234), (0, 2, 242), (0, 3, 251), (0, 4, 303), (0, 5, 264), (0, 6, 276), (0, 7, 290), (0, 8, 367), (0, 9, 347), (0, 10, 407), (0, 11, 451), (0, 12, 315), (0, 13, 327), (0, 14, 387), (0, 15, 429), (1, 2, 243), (1, 3, 252), (1, 4, 304), (1, 5, 265), (1, 6, 277), (1, 7, 291), (1, 8, 368), (1, 9, 348), (1, 10, 408), (1, 11, 452), (1, 12, 316), (1, 13, 328), (1, 14, 388), (1, 15, 430), (2, 3, 253), (2, 4, 305), (2, 5, 266), (2, 6, 278), (2, 7, 292), (2, 8, 369), (2, 9, 349), (2, 10, 409), (2, 11, 453), (2, 12, 317), (2, 13, 329), (2, 14, 389), (2, 15, 431), (3, 4, 306), (3, 5, 267), (3, 6, 279), (3, 7, 293), (3, 8, 370), (3, 9, 350), (3, 10, 410), (3, 11, 454), (3, 12, 318), (3, 13, 330), (3, 14, 390), (3, 15, 432), (4, 8, 374), (4, 9, 354), (4, 10, 414), (4, 11, 458), (4, 12, 322), (4, 13, 334), (4, 14, 394), (4, 15, 436), (5, 4, 307), (5, 6, 280), (5, 7, 294), (5, 8, 371), (5, 9, 351), (5, 10, 411), (5, 11, 455), (5, 12, 319), (5, 13, 331), (5, 14, 391), (5, 15, 433), (6, 4, 308), (6, 7, 295), (6, 8, 372), (6, 9, 352), (6, 10, 412), (6, 11, 456), (6, 12, 320), (6, 13, 332), (6, 14, 392), (6, 15, 434), (7, 4, 309), (7, 8, 373), (7, 9, 353), (7, 10, 413), (7, 11, 457), (7, 12, 321), (7, 13, 333), (7, 14, 393), (7, 15, 435), (8, 10, 418), (8, 11, 462), (8, 14, 398), (8, 15, 440), (9, 8, 377), (9, 10, 417), (9, 11, 461), (9, 14, 397), (9, 15, 439), (10, 11, 464), (10, 15, 442), (12, 8, 375), (12, 9, 355), (12, 10, 415), (12, 11, 459), (12, 13, 335), (12, 14, 395), (12, 15, 437), (13, 8, 376), (13, 9, 356), (13, 10, 416), (13, 11, 460), (13, 14, 396), (13, 15, 438), (14, 10, 419), (14, 11, 463), (14, 15, 441), (15, 11, 465)]
theorem st_ne1 : ∀ q ∈ neL, (flatC (Cond.and given_1 narrow_1))[q.2.2]? = some (Cond.not (Cond.eq (tmS q.1) (tmS q.2.1))) := by decide +kernel
theorem st_ne2 : ∀ i, i < 16 → ∀ j, j < 16 → i ≠ j → ((∃ q ∈ neL, q.1 = i ∧ q.2.1 = j) ∨ (∃ q ∈ neL, q.1 = j ∧ q.2.1 = i)) := by decide +kernel
theorem st_ne (i : Nat) (hi : i < 16) (j : Nat) (hj : j < 16) (h : i ≠ j) : (Cond.not (Cond.eq (tmS i) (tmS j)) ∈ flatC (Cond.and given_1 narrow_1) ∨ Cond.not (Cond.eq (tmS j) (tmS i)) ∈ flatC (Cond.and given_1 narrow_1)) := by
  rcases st_ne2 i hi j hj h with ⟨q, hq, rfl, rfl⟩ | ⟨q, hq, rfl, rfl⟩
  · exact .inl (List.mem_of_getElem? (st_ne1 q hq))
  · exact .inr (List.mem_of_getElem? (st_ne1 q hq))
theorem st_S {args : Array Value} {s : State} (hpre : (Cond.and given_1 narrow_1).before args s = true) {A : Nat → Prop} (hA : ∀ a : Nat, a < s.heap.size → ¬ A a) : ∃ adK adV : Nat → Nat, vk_S 16 zsLen zsByt adK adV A s s.heap ∧ ∀ i : Nat, i < 16 → (tmS i).eval args s none [] s = some (.ref (adK i)) := by
  have hs := flat_of_before _ hpre
  refine vk_Sof (tm := tmS) (fun i hi => ?_) (fun i hi => hs _ (st_ex i hi)) (fun i hi => hs _ (st_co i hi)) (fun i hi => hs _ (st_ar i hi)) (fun i hi => hs _ (st_le i hi)) (fun i hi j hj => hs _ (st_el i hi j hj)) (fun i j hi hj hne => (st_ne i hi j hj hne).imp (hs _) (hs _)) hA
  have h1 : zsLen.getD i 0 ≤ 16 := st_zl i hi
  omega
theorem st_same {args : Array Value} {s : State} {a b : Term} {x : Nat} (h : (Cond.eq a b).before args s = true) (ha : a.eval args s none [] s = some (.ref x)) : b.eval args s none [] s = some (.ref x) := by
  cases hb : b.eval args s none [] s with
  | none => simp [Cond.before, Cond.holds, Cond.value, ha, hb] at h
  | some y =>
    cases y with
    | ref z =>
      simp [Cond.before, Cond.holds, Cond.value, ha, hb] at h
      subst h
      rfl
    | _ => simp [Cond.before, Cond.holds, Cond.value, ha, hb] at h
theorem st_R {args : Array Value} {s : State} (hT : ∀ w ∈ tables_1, w.before args s = true) (hpre : (Cond.and given_1 narrow_1).before args s = true) {adK : Nat → Nat} (hS : ∀ i : Nat, i < 16 → (tmS i).eval args s none [] s = some (.ref (adK i))) : ∀ q ∈ zsRefs, vk_R q.1 q.2.1 q.2.2.1 (adK q.2.2.2) s := by
  have hs := flat_of_before _ hpre
  have r0 : vk_R "TradeHall" 403 "middle" (adK 5) s := vk_R.of (hT _ (List.mem_of_getElem? (i := 437) (by decide +kernel))) (hS 5 (by decide))
  have r1 : vk_R "TradeHall" 405 "less" (adK 6) s := vk_R.of (hT _ (List.mem_of_getElem? (i := 438) (by decide +kernel))) (hS 6 (by decide))
  have r2 : vk_R "TradeHall" 407 "apart" (adK 7) s := vk_R.of (hT _ (List.mem_of_getElem? (i := 439) (by decide +kernel))) (hS 7 (by decide))
  have r3 : vk_R "TradeHall" 409 "cut" (adK 4) s := vk_R.of (hT _ (List.mem_of_getElem? (i := 440) (by decide +kernel))) (hS 4 (by decide))
  have r4 : vk_R "TradeHall$Letters" 26 "seller" (adK 1) s := vk_R.of (hT _ (List.mem_of_getElem? (i := 1066) (by decide +kernel))) (st_same (hs (Cond.eq (.string "TradeHall$Tape" 69) (.string "TradeHall$Letters" 26)) (List.mem_of_getElem? (i := 555) (by decide +kernel))) (hS 1 (by decide)))
  have r5 : vk_R "TradeHall$Letters" 28 "buyer" (adK 0) s := vk_R.of (hT _ (List.mem_of_getElem? (i := 1067) (by decide +kernel))) (st_same (hs (Cond.eq (.string "TradeHall$Tape" 59) (.string "TradeHall$Letters" 28)) (List.mem_of_getElem? (i := 582) (by decide +kernel))) (hS 0 (by decide)))
  have r6 : vk_R "TradeHall$Letters" 52 "fee" (adK 2) s := vk_R.of (hT _ (List.mem_of_getElem? (i := 1089) (by decide +kernel))) (st_same (hs (Cond.eq (.string "TradeHall$Tape" 71) (.string "TradeHall$Letters" 52)) (List.mem_of_getElem? (i := 611) (by decide +kernel))) (hS 2 (by decide)))
  have r7 : vk_R "TradeHall$Letters" 56 "law" (adK 3) s := vk_R.of (hT _ (List.mem_of_getElem? (i := 1090) (by decide +kernel))) (st_same (hs (Cond.eq (.string "TradeHall$Tape" 77) (.string "TradeHall$Letters" 56)) (List.mem_of_getElem? (i := 640) (by decide +kernel))) (hS 3 (by decide)))
  have r8 : vk_R "TradeHall$Tape" 59 "buyer" (adK 0) s := vk_R.of (hT _ (List.mem_of_getElem? (i := 313) (by decide +kernel))) (hS 0 (by decide))
  have r9 : vk_R "TradeHall$Tape" 69 "seller" (adK 1) s := vk_R.of (hT _ (List.mem_of_getElem? (i := 423) (by decide +kernel))) (hS 1 (by decide))
  have r10 : vk_R "TradeHall$Tape" 71 "fee" (adK 2) s := vk_R.of (hT _ (List.mem_of_getElem? (i := 424) (by decide +kernel))) (hS 2 (by decide))
  have r11 : vk_R "TradeHall$Tape" 77 "law" (adK 3) s := vk_R.of (hT _ (List.mem_of_getElem? (i := 429) (by decide +kernel))) (hS 3 (by decide))
  have r12 : vk_R "TradeHallLaw$Hall" 67 ";" (adK 12) s := vk_R.of (hT _ (List.mem_of_getElem? (i := 785) (by decide +kernel))) (hS 12 (by decide))
  have r13 : vk_R "TradeHallLaw$Hall" 69 "" (adK 13) s := vk_R.of (hT _ (List.mem_of_getElem? (i := 786) (by decide +kernel))) (hS 13 (by decide))
  have r14 : vk_R "TradeHallLaw$Hall" 75 "seller " (adK 9) s := vk_R.of (hT _ (List.mem_of_getElem? (i := 880) (by decide +kernel))) (hS 9 (by decide))
  have r15 : vk_R "TradeHallLaw$Hall" 77 "buyer " (adK 8) s := vk_R.of (hT _ (List.mem_of_getElem? (i := 881) (by decide +kernel))) (hS 8 (by decide))
  have r16 : vk_R "TradeHallLaw$Hall" 89 ";fee " (adK 14) s := vk_R.of (hT _ (List.mem_of_getElem? (i := 927) (by decide +kernel))) (hS 14 (by decide))
  have r17 : vk_R "TradeHallLaw$Hall" 91 "fee " (adK 10) s := vk_R.of (hT _ (List.mem_of_getElem? (i := 928) (by decide +kernel))) (hS 10 (by decide))
  have r18 : vk_R "TradeHallLaw$Hall" 93 ";law " (adK 15) s := vk_R.of (hT _ (List.mem_of_getElem? (i := 929) (by decide +kernel))) (hS 15 (by decide))
  have r19 : vk_R "TradeHallLaw$Hall" 95 "law " (adK 11) s := vk_R.of (hT _ (List.mem_of_getElem? (i := 930) (by decide +kernel))) (hS 11 (by decide))
  have r20 : vk_R "TradeHallLaw$Hall" 97 "middle" (adK 5) s := vk_R.of (hT _ (List.mem_of_getElem? (i := 931) (by decide +kernel))) (st_same (hs (Cond.eq (.string "TradeHall" 403) (.string "TradeHallLaw$Hall" 97)) (List.mem_of_getElem? (i := 480) (by decide +kernel))) (hS 5 (by decide)))
  have r21 : vk_R "TradeHallLaw$Hall" 99 "less" (adK 6) s := vk_R.of (hT _ (List.mem_of_getElem? (i := 932) (by decide +kernel))) (st_same (hs (Cond.eq (.string "TradeHall" 405) (.string "TradeHallLaw$Hall" 99)) (List.mem_of_getElem? (i := 505) (by decide +kernel))) (hS 6 (by decide)))
  have r22 : vk_R "TradeHallLaw$Hall" 101 "apart" (adK 7) s := vk_R.of (hT _ (List.mem_of_getElem? (i := 933) (by decide +kernel))) (st_same (hs (Cond.eq (.string "TradeHall" 407) (.string "TradeHallLaw$Hall" 101)) (List.mem_of_getElem? (i := 532) (by decide +kernel))) (hS 7 (by decide)))
  exact List.forall_mem_cons.mpr ⟨r0, List.forall_mem_cons.mpr ⟨r1, List.forall_mem_cons.mpr ⟨r2, List.forall_mem_cons.mpr ⟨r3, List.forall_mem_cons.mpr ⟨r4, List.forall_mem_cons.mpr ⟨r5, List.forall_mem_cons.mpr ⟨r6, List.forall_mem_cons.mpr ⟨r7, List.forall_mem_cons.mpr ⟨r8, List.forall_mem_cons.mpr ⟨r9, List.forall_mem_cons.mpr ⟨r10, List.forall_mem_cons.mpr ⟨r11, List.forall_mem_cons.mpr ⟨r12, List.forall_mem_cons.mpr ⟨r13, List.forall_mem_cons.mpr ⟨r14, List.forall_mem_cons.mpr ⟨r15, List.forall_mem_cons.mpr ⟨r16, List.forall_mem_cons.mpr ⟨r17, List.forall_mem_cons.mpr ⟨r18, List.forall_mem_cons.mpr ⟨r19, List.forall_mem_cons.mpr ⟨r20, List.forall_mem_cons.mpr ⟨r21, List.forall_mem_cons.mpr ⟨r22, fun _ h => absurd h List.not_mem_nil⟩⟩⟩⟩⟩⟩⟩⟩⟩⟩⟩⟩⟩⟩⟩⟩⟩⟩⟩⟩⟩⟩⟩
theorem st_Z {args : Array Value} {s : State} (hT : ∀ w ∈ tables_1, w.before args s = true) (hpre : (Cond.and given_1 narrow_1).before args s = true) {A : Nat → Prop} (hA : ∀ a : Nat, a < s.heap.size → ¬ A a) : va_Z "java/lang/String" "COMPACT_STRINGS" "Z" (.int 1) A s s.heap ∧ ∃ f t : Nat, va_Z "jdk/internal/util/Preconditions" "SIOOBE_FORMATTER" "Ljava/util/function/BiFunction;" (if f = 0 then .null else .ref t) A s s.heap := by
  have hs := flat_of_before _ hpre
  refine ⟨va_Zof (hT _ (List.mem_of_getElem? (i := 327) (by decide +kernel))) (hT _ (List.mem_of_getElem? (i := 14) (by decide +kernel))) (va_eqt (hs _ (by decide +kernel))) hA, ?_⟩
  rcases va_Zqof (C := "jdk/internal/util/Preconditions") (n := "SIOOBE_FORMATTER") (d := "Ljava/util/function/BiFunction;") (hT _ (List.mem_of_getElem? (i := 343) (by decide +kernel))) (hT _ (List.mem_of_getElem? (i := 19) (by decide +kernel))) (hs _ (by decide +kernel)) hA with h | ⟨t, h⟩
  · exact ⟨0, 0, h⟩
  · exact ⟨1, t, h⟩
theorem st_DigitTens1 : (flatC (Cond.and given_1 narrow_1))[113]? = some (Cond.arrayOf (.static "java/lang/Integer" "DigitTens" "[B") .byte) := by decide +kernel
theorem st_DigitTens2 : (flatC (Cond.and given_1 narrow_1))[114]? = some (Cond.eq (.length (.static "java/lang/Integer" "DigitTens" "[B")) (.int (Int32.ofNat 100))) := by decide +kernel
theorem st_DigitTens3 : ∀ j, j < 100 → (flatC (Cond.and given_1 narrow_1))[115 + j]? = some (Cond.eq (.elem (.static "java/lang/Integer" "DigitTens" "[B") (.int (Int32.ofNat j))) (.int (Int32.ofInt (48 + (j : Int) / 10)))) := by decide +kernel
theorem st_DigitTens {args : Array Value} {s : State} (hT : ∀ w ∈ tables_1, w.before args s = true) (hpre : (Cond.and given_1 narrow_1).before args s = true) {A : Nat → Prop} (hA : ∀ a : Nat, a < s.heap.size → ¬ A a) : ∃ t : Nat, va_Z "java/lang/Integer" "DigitTens" "[B" (.ref t) A s s.heap ∧ va_T .byte t 100 (fun j => .int (Int32.ofInt (48 + (j : Int) / 10))) A s s.heap := by
  have hs := flat_of_before _ hpre
  obtain ⟨t, h1, h2⟩ := va_Tof (f := fun j => .int (Int32.ofInt (48 + (j : Int) / 10))) (by decide) (hs _ (List.mem_of_getElem? st_DigitTens1)) (va_eqt (hs _ (List.mem_of_getElem? st_DigitTens2))) (fun j hj => va_eqt (hs _ (List.mem_of_getElem? (st_DigitTens3 j hj)))) hA
  exact ⟨t, va_Zof (hT _ (List.mem_of_getElem? (i := 898) (by decide +kernel))) (hT _ (List.mem_of_getElem? (i := 21) (by decide +kernel))) h1 hA, h2⟩
theorem st_DigitOnes1 : (flatC (Cond.and given_1 narrow_1))[10]? = some (Cond.arrayOf (.static "java/lang/Integer" "DigitOnes" "[B") .byte) := by decide +kernel
theorem st_DigitOnes2 : (flatC (Cond.and given_1 narrow_1))[11]? = some (Cond.eq (.length (.static "java/lang/Integer" "DigitOnes" "[B")) (.int (Int32.ofNat 100))) := by decide +kernel
theorem st_DigitOnes3 : ∀ j, j < 100 → (flatC (Cond.and given_1 narrow_1))[12 + j]? = some (Cond.eq (.elem (.static "java/lang/Integer" "DigitOnes" "[B") (.int (Int32.ofNat j))) (.int (Int32.ofInt (48 + (j : Int) % 10)))) := by decide +kernel
theorem st_DigitOnes {args : Array Value} {s : State} (hT : ∀ w ∈ tables_1, w.before args s = true) (hpre : (Cond.and given_1 narrow_1).before args s = true) {A : Nat → Prop} (hA : ∀ a : Nat, a < s.heap.size → ¬ A a) : ∃ t : Nat, va_Z "java/lang/Integer" "DigitOnes" "[B" (.ref t) A s s.heap ∧ va_T .byte t 100 (fun j => .int (Int32.ofInt (48 + (j : Int) % 10))) A s s.heap := by
  have hs := flat_of_before _ hpre
  obtain ⟨t, h1, h2⟩ := va_Tof (f := fun j => .int (Int32.ofInt (48 + (j : Int) % 10))) (by decide) (hs _ (List.mem_of_getElem? st_DigitOnes1)) (va_eqt (hs _ (List.mem_of_getElem? st_DigitOnes2))) (fun j hj => va_eqt (hs _ (List.mem_of_getElem? (st_DigitOnes3 j hj)))) hA
  exact ⟨t, va_Zof (hT _ (List.mem_of_getElem? (i := 896) (by decide +kernel))) (hT _ (List.mem_of_getElem? (i := 21) (by decide +kernel))) h1 hA, h2⟩
theorem st_Fc {args : Array Value} {s : State} (hT : ∀ w ∈ tables_1, w.before args s = true) : zFc s := ⟨va_Fw.of (hT _ (List.mem_of_getElem? (i := 1000) (by decide +kernel))) (hT _ (List.mem_of_getElem? (i := 999) (by decide +kernel))) (hT _ (List.mem_of_getElem? (i := 1004) (by decide +kernel))) (hT _ (List.mem_of_getElem? (i := 1003) (by decide +kernel))) (hT _ (List.mem_of_getElem? (i := 1001) (by decide +kernel))), va_Fw.of (hT _ (List.mem_of_getElem? (i := 1012) (by decide +kernel))) (hT _ (List.mem_of_getElem? (i := 1011) (by decide +kernel))) (hT _ (List.mem_of_getElem? (i := 1015) (by decide +kernel))) (hT _ (List.mem_of_getElem? (i := 1014) (by decide +kernel))) (hT _ (List.mem_of_getElem? (i := 1001) (by decide +kernel)))⟩
theorem st_priv {args : Array Value} {s : State} {C : String} {y y0 : MethodName} (hsel : (Cond.selects C y0 y0).before args s = true) (hcls : y0.cls = y.cls) (hy : y.cls ≠ "java/lang/invoke/MethodHandle" ∧ y.cls ≠ "java/lang/invoke/VarHandle") (hpriv : (Cond.privateMethod y).before args s = true) (hinst : (Cond.instanceMethod y).before args s = true) : (Cond.selects C y y).before args s = true := by
  obtain ⟨c, r0, m0, hc, -, hn0, -, mk0, hk0, hi0⟩ := Cond.selects_spec hsel
  obtain ⟨mk, methM, hnamed, hmethM, -, -⟩ := Cond.instanceMethod_spec hinst
  have hfound : s.methodFound? y.cls y.name y.desc = some mk := State.methodFound?_of_named hnamed hy
  have hcls' : mk.cls = m0.cls := by
    have a := findClass_of_methodNamed hnamed
    have b := findClass_of_methodNamed hn0
    rw [hcls] at b
    exact Option.some.inj (a.symm.trans b)
  have hsel' : selectMethod {} s.vm c mk = .method mk := selectMethod_private hmethM (Cond.privateMethod_at hpriv mk methM hnamed hmethM)
  simp only [Cond.before, Cond.holds, Cond.value, hc, hfound, hnamed, hsel', hcls', hk0]
  simp; exact hi0
theorem st_TB {args : Array Value} {s : State} (hts : ∀ w ∈ lw_tbl, w.before args s = true) (hT : ∀ w ∈ tables_1, w.before args s = true) : ∀ w ∈ zTB, w.before args s = true := by
  have p0 : (Cond.selects "java/lang/StringBuilder" yJ5_ensureCapacityInternal_d00df yJ5_ensureCapacityInternal_d00df).before args s = true := st_priv (y0 := ⟨"java/lang/AbstractStringBuilder", "isLatin1", "()Z"⟩) (hT _ (List.mem_of_getElem? (i := 828) (by decide +kernel))) (by decide +kernel) (by decide +kernel) (hT _ (List.mem_of_getElem? (i := 799) (by decide +kernel))) (hT _ (List.mem_of_getElem? (i := 800) (by decide +kernel)))
  have p1 : (Cond.selects "java/lang/StringBuilder" yJ5_putStringAt_47b60 yJ5_putStringAt_47b60).before args s = true := st_priv (y0 := ⟨"java/lang/AbstractStringBuilder", "isLatin1", "()Z"⟩) (hT _ (List.mem_of_getElem? (i := 828) (by decide +kernel))) (by decide +kernel) (by decide +kernel) (hT _ (List.mem_of_getElem? (i := 847) (by decide +kernel))) (hT _ (List.mem_of_getElem? (i := 848) (by decide +kernel)))
  have p2 : (Cond.selects "java/lang/StringBuilder" yJ5_inflateIfNeededFor_a7421 yJ5_inflateIfNeededFor_a7421).before args s = true := st_priv (y0 := ⟨"java/lang/AbstractStringBuilder", "isLatin1", "()Z"⟩) (hT _ (List.mem_of_getElem? (i := 828) (by decide +kernel))) (by decide +kernel) (by decide +kernel) (hT _ (List.mem_of_getElem? (i := 851) (by decide +kernel))) (hT _ (List.mem_of_getElem? (i := 852) (by decide +kernel)))
  intro w hw
  rcases List.mem_append.mp hw with h | h
  · rcases List.mem_cons.mp h with rfl | h
    · exact p0
    · rcases List.mem_cons.mp h with rfl | h
      · exact p1
      · rcases List.mem_cons.mp h with rfl | h
        · exact p2
        · cases h
  · exact hts w (List.mem_filter.mp h).1
