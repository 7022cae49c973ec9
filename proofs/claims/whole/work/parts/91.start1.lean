/-! ===== the start: what the launch gives ===== -/
theorem st_prim {args : Array Value} {s : State} {ty : FieldType} (h : (Cond.arrayClass ty).before args s = true) : ∃ cA : ClassId, ArrOfT s cA ty ∧ s.vm.findClass ("[" ++ ty.toString) = some cA := by
  obtain ⟨c, k, comp, h1, h2, h3⟩ := Cond.arrayClass_spec h
  exact ⟨c, fun n z => ⟨fun k h => (by cases h), k, h2, comp, h3⟩, h1⟩
theorem st_obj {args : Array Value} {s : State} {C : String} (h : (Cond.arrayOver (.object C)).before args s = true) : ∃ cA : ClassId, ArrOfT s cA (.object C) ∧ va_RA s cA (.object C) := by
  obtain ⟨comp, c, k, f1, -, h2, h3, h4⟩ := Cond.arrayOver_spec h
  exact ⟨c, fun n z => ⟨fun k h => (by cases h), k, h2, comp, h3⟩, k, comp, h2, h3, f1, h4⟩
theorem st_cs {args : Array Value} {s : State} (hts : ∀ w ∈ zTB, w.before args s = true) (ho : (Cond.arrayOver (.object "TradeHall$Hall")).before args s = true) : ∃ cs : Nat → ClassId, ∀ (k : Nat) (q : ClassId × FieldType), (nty cs)[k]? = some q → ArrOfT s q.1 q.2 ∧ va_RA s q.1 q.2 := by
  obtain ⟨c0, a0, b0⟩ := st_prim (hts _ ac_int)
  obtain ⟨c1, a1, b1⟩ := st_prim (hts _ ac_boolean)
  obtain ⟨c2, a2, b2⟩ := st_prim (hts _ ac_byte)
  obtain ⟨c3, a3, b3⟩ := st_prim (hts _ ac_long)
  obtain ⟨c4, a4, b4⟩ := st_obj ho
  refine ⟨fun i => match i with | 0 => c0 | 1 => c1 | 2 => c2 | 3 => c3 | _ => c4, fun k q hq => ?_⟩
  match k, hq with
  | 0, hq => cases hq; exact ⟨a0, b0⟩
  | 1, hq => cases hq; exact ⟨a1, b1⟩
  | 2, hq => cases hq; exact ⟨a2, b2⟩
  | 3, hq => cases hq; exact ⟨a3, b3⟩
  | 4, hq => cases hq; exact ⟨a4, b4⟩
  | k + 5, hq => cases hq
theorem st_D {args : Array Value} {s : State} (hts : ∀ w ∈ zTB, w.before args s = true) : ∃ D : va_G, ∀ (c : Nat) (q : vw_C), vwCl[c]? = some q → u_Kn s q.1 q.2.1 q.2.2 (D.1 c) (D.2 c) := by
  obtain ⟨c0, i0, k0⟩ := u_known (N := 11) hts inT0 (hts _ ic0)
  obtain ⟨c1, i1, k1⟩ := u_known (N := 13) hts inT1 (hts _ ic1)
  obtain ⟨c2, i2, k2⟩ := u_known (N := 3) hts inT2 (hts _ ic2)
  obtain ⟨c3, i3, k3⟩ := u_known (N := 2) hts inT3 (hts _ ic3)
  obtain ⟨c4, i4, k4⟩ := u_known (N := 3) hts inT4 (hts _ ic4)
  obtain ⟨c5, i5, k5⟩ := u_known (N := 3) hts inT5 (hts _ ic5)
  obtain ⟨c6, i6, k6⟩ := u_known (N := 2) hts inT6 (hts _ ic6)
  obtain ⟨c7, i7, k7⟩ := u_known (N := 7) hts inT7 (hts _ ic7)
  obtain ⟨c8, i8, k8⟩ := u_known (N := 11) hts inT8 (hts _ ic8)
  obtain ⟨c9, i9, k9⟩ := u_known (N := 44) hts inT9 (hts _ ic9)
  refine ⟨(fun k => match k with | 0 => c0 | 1 => c1 | 2 => c2 | 3 => c3 | 4 => c4 | 5 => c5 | 6 => c6 | 7 => c7 | 8 => c8 | _ => c9, fun k => match k with | 0 => i0 | 1 => i1 | 2 => i2 | 3 => i3 | 4 => i4 | 5 => i5 | 6 => i6 | 7 => i7 | 8 => i8 | _ => i9), fun c q hq => ?_⟩
  match c, hq with
  | 0, hq => cases hq; exact k0
  | 1, hq => cases hq; exact k1
  | 2, hq => cases hq; exact k2
  | 3, hq => cases hq; exact k3
  | 4, hq => cases hq; exact k4
  | 5, hq => cases hq; exact k5
  | 6, hq => cases hq; exact k6
  | 7, hq => cases hq; exact k7
  | 8, hq => cases hq; exact k8
  | 9, hq => cases hq; exact k9
  | c + 10, hq => cases hq
def tmS : Nat → Term := fun i => match i with
  | 0 => .string "TradeHall$Tape" 59
  | 1 => .string "TradeHall$Tape" 69
  | 2 => .string "TradeHall$Tape" 71
  | 3 => .string "TradeHall$Tape" 77
  | 4 => .string "TradeHall" 409
  | 5 => .string "TradeHall" 403
  | 6 => .string "TradeHall" 405
  | 7 => .string "TradeHall" 407
  | 8 => .string "TradeHallModel" 340
  | 9 => .string "TradeHallModel" 338
  | 10 => .string "TradeHallModel" 352
  | _ => .string "TradeHallModel" 354
set_option maxRecDepth 100000
theorem st_ex : ∀ i, i < 12 → Cond.exactly (tmS i) "java/lang/String" ∈ flatC (Cond.and given_1 narrow_1) := by decide +kernel
theorem st_co : ∀ i, i < 12 → Cond.eq (.field (tmS i) "java/lang/String" "coder" "B") (.int 0) ∈ flatC (Cond.and given_1 narrow_1) := by decide +kernel
theorem st_ar : ∀ i, i < 12 → Cond.arrayOf (.field (tmS i) "java/lang/String" "value" "[B") .byte ∈ flatC (Cond.and given_1 narrow_1) := by decide +kernel
theorem st_le : ∀ i, i < 12 → Cond.eq (.length (.field (tmS i) "java/lang/String" "value" "[B")) (.int (Int32.ofNat (zsLen.getD i 0))) ∈ flatC (Cond.and given_1 narrow_1) := by decide +kernel
theorem st_el : ∀ i, i < 12 → ∀ j, j < zsLen.getD i 0 → Cond.eq (.elem (.field (tmS i) "java/lang/String" "value" "[B") (.int (Int32.ofNat j))) (.int ((zsByt.getD i []).getD j 0)) ∈ flatC (Cond.and given_1 narrow_1) := by decide +kernel
def neL : List (Nat × Nat × Nat) := [(0, 1, 28), (0, 2, 36), (0, 3, 45), (0, 4, 97), (0, 5, 58), (0, 6, 70), (0, 7, 84), (0, 8, 208), (0, 9, 186), (0, 10, 229), (0, 11, 251), (1, 2, 37), (1, 3, 46), (1, 4, 98), (1, 5, 59), (1, 6, 71), (1, 7, 85), (1, 8, 209), (1, 9, 187), (1, 10, 230), (1, 11, 252), (2, 3, 47), (2, 4, 99), (2, 5, 60), (2, 6, 72), (2, 7, 86), (2, 8, 210), (2, 9, 188), (2, 10, 231), (2, 11, 253), (3, 4, 100), (3, 5, 61), (3, 6, 73), (3, 7, 87), (3, 8, 211), (3, 9, 189), (3, 10, 232), (3, 11, 254), (4, 8, 215), (4, 9, 193), (4, 10, 236), (4, 11, 258), (5, 4, 101), (5, 6, 74), (5, 7, 88), (5, 8, 212), (5, 9, 190), (5, 10, 233), (5, 11, 255), (6, 4, 102), (6, 7, 89), (6, 8, 213), (6, 9, 191), (6, 10, 234), (6, 11, 256), (7, 4, 103), (7, 8, 214), (7, 9, 192), (7, 10, 235), (7, 11, 257), (8, 10, 242), (8, 11, 264), (9, 8, 220), (9, 10, 241), (9, 11, 263), (10, 11, 265)]
theorem st_ne1 : ∀ q ∈ neL, (flatC (Cond.and given_1 narrow_1))[q.2.2]? = some (Cond.not (Cond.eq (tmS q.1) (tmS q.2.1))) := by decide +kernel
theorem st_ne2 : ∀ i, i < 12 → ∀ j, j < 12 → i ≠ j → ((∃ q ∈ neL, q.1 = i ∧ q.2.1 = j) ∨ (∃ q ∈ neL, q.1 = j ∧ q.2.1 = i)) := by decide +kernel
theorem st_ne (i : Nat) (hi : i < 12) (j : Nat) (hj : j < 12) (h : i ≠ j) : (Cond.not (Cond.eq (tmS i) (tmS j)) ∈ flatC (Cond.and given_1 narrow_1) ∨ Cond.not (Cond.eq (tmS j) (tmS i)) ∈ flatC (Cond.and given_1 narrow_1)) := by
  rcases st_ne2 i hi j hj h with ⟨q, hq, rfl, rfl⟩ | ⟨q, hq, rfl, rfl⟩
  · exact .inl (List.mem_of_getElem? (st_ne1 q hq))
  · exact .inr (List.mem_of_getElem? (st_ne1 q hq))
theorem st_S {args : Array Value} {s : State} (hpre : (Cond.and given_1 narrow_1).before args s = true) {A : Nat → Prop} (hA : ∀ a : Nat, a < s.heap.size → ¬ A a) : ∃ adK adV : Nat → Nat, vk_S 12 zsLen zsByt adK adV A s s.heap ∧ ∀ i : Nat, i < 12 → (tmS i).eval args s none [] s = some (.ref (adK i)) := by
  have hs := flat_of_before _ hpre
  refine vk_Sof (tm := tmS) (fun i hi => ?_) (fun i hi => hs _ (st_ex i hi)) (fun i hi => hs _ (st_co i hi)) (fun i hi => hs _ (st_ar i hi)) (fun i hi => hs _ (st_le i hi)) (fun i hi j hj => hs _ (st_el i hi j hj)) (fun i j hi hj hne => (st_ne i hi j hj hne).imp (hs _) (hs _)) hA
  have h1 : zsLen.getD i 0 ≤ 12 := zl_b hi
  omega
theorem st_same {args : Array Value} {s : State} {a b : Term} {x : Nat} (h : (Cond.eq a b).before args s = true) (ha : a.eval args s none [] s = some (.ref x)) : b.eval args s none [] s = some (.ref x) := by
  cases hb : b.eval args s none [] s with
  | none => simp [Cond.before, Cond.holds, Cond.value, ha, hb] at h
  | some y =>
    cases y with
    | ref z =>
      simp [Cond.before, Cond.holds, Cond.value, ha, hb] at h
      subst h
      rfl
    | _ => simp [Cond.before, Cond.holds, Cond.value, ha, hb] at h
theorem st_R {args : Array Value} {s : State} (hT : ∀ w ∈ tables_1, w.before args s = true) (hpre : (Cond.and given_1 narrow_1).before args s = true) {adK : Nat → Nat} (hS : ∀ i : Nat, i < 12 → (tmS i).eval args s none [] s = some (.ref (adK i))) : ∀ q ∈ zsRefs, vk_R q.1 q.2.1 q.2.2.1 (adK q.2.2.2) s := by
  have hs := flat_of_before _ hpre
  have r0 : vk_R "TradeHall" 403 "middle" (adK 5) s := vk_R.of (hT _ (List.mem_of_getElem? (i := 455) (by decide +kernel))) (hS 5 (by decide))
  have r1 : vk_R "TradeHall" 405 "less" (adK 6) s := vk_R.of (hT _ (List.mem_of_getElem? (i := 456) (by decide +kernel))) (hS 6 (by decide))
  have r2 : vk_R "TradeHall" 407 "apart" (adK 7) s := vk_R.of (hT _ (List.mem_of_getElem? (i := 457) (by decide +kernel))) (hS 7 (by decide))
  have r3 : vk_R "TradeHall" 409 "cut" (adK 4) s := vk_R.of (hT _ (List.mem_of_getElem? (i := 458) (by decide +kernel))) (hS 4 (by decide))
  have r4 : vk_R "TradeHall$Letters" 26 "seller" (adK 1) s := vk_R.of (hT _ (List.mem_of_getElem? (i := 893) (by decide +kernel))) (st_same (hs (Cond.eq (.string "TradeHall$Tape" 69) (.string "TradeHall$Letters" 26)) (List.mem_of_getElem? (i := 115) (by decide +kernel))) (hS 1 (by decide)))
  have r5 : vk_R "TradeHall$Letters" 28 "buyer" (adK 0) s := vk_R.of (hT _ (List.mem_of_getElem? (i := 894) (by decide +kernel))) (st_same (hs (Cond.eq (.string "TradeHall$Tape" 59) (.string "TradeHall$Letters" 28)) (List.mem_of_getElem? (i := 131) (by decide +kernel))) (hS 0 (by decide)))
  have r6 : vk_R "TradeHall$Letters" 52 "fee" (adK 2) s := vk_R.of (hT _ (List.mem_of_getElem? (i := 916) (by decide +kernel))) (st_same (hs (Cond.eq (.string "TradeHall$Tape" 71) (.string "TradeHall$Letters" 52)) (List.mem_of_getElem? (i := 149) (by decide +kernel))) (hS 2 (by decide)))
  have r7 : vk_R "TradeHall$Letters" 56 "law" (adK 3) s := vk_R.of (hT _ (List.mem_of_getElem? (i := 917) (by decide +kernel))) (st_same (hs (Cond.eq (.string "TradeHall$Tape" 77) (.string "TradeHall$Letters" 56)) (List.mem_of_getElem? (i := 167) (by decide +kernel))) (hS 3 (by decide)))
  have r8 : vk_R "TradeHall$Tape" 59 "buyer" (adK 0) s := vk_R.of (hT _ (List.mem_of_getElem? (i := 331) (by decide +kernel))) (hS 0 (by decide))
  have r9 : vk_R "TradeHall$Tape" 69 "seller" (adK 1) s := vk_R.of (hT _ (List.mem_of_getElem? (i := 441) (by decide +kernel))) (hS 1 (by decide))
  have r10 : vk_R "TradeHall$Tape" 71 "fee" (adK 2) s := vk_R.of (hT _ (List.mem_of_getElem? (i := 442) (by decide +kernel))) (hS 2 (by decide))
  have r11 : vk_R "TradeHall$Tape" 77 "law" (adK 3) s := vk_R.of (hT _ (List.mem_of_getElem? (i := 447) (by decide +kernel))) (hS 3 (by decide))
  have r12 : vk_R "TradeHallModel" 327 "cut" (adK 4) s := vk_R.of (hT _ (List.mem_of_getElem? (i := 1529) (by decide +kernel))) (st_same (hs (Cond.eq (.string "TradeHall" 409) (.string "TradeHallModel" 327)) (List.mem_of_getElem? (i := 280) (by decide +kernel))) (hS 4 (by decide)))
  have r13 : vk_R "TradeHallModel" 329 "middle" (adK 5) s := vk_R.of (hT _ (List.mem_of_getElem? (i := 1530) (by decide +kernel))) (st_same (hs (Cond.eq (.string "TradeHall" 403) (.string "TradeHallModel" 329)) (List.mem_of_getElem? (i := 303) (by decide +kernel))) (hS 5 (by decide)))
  have r14 : vk_R "TradeHallModel" 331 "less" (adK 6) s := vk_R.of (hT _ (List.mem_of_getElem? (i := 1531) (by decide +kernel))) (st_same (hs (Cond.eq (.string "TradeHall" 405) (.string "TradeHallModel" 331)) (List.mem_of_getElem? (i := 329) (by decide +kernel))) (hS 6 (by decide)))
  have r15 : vk_R "TradeHallModel" 333 "apart" (adK 7) s := vk_R.of (hT _ (List.mem_of_getElem? (i := 1532) (by decide +kernel))) (st_same (hs (Cond.eq (.string "TradeHall" 407) (.string "TradeHallModel" 333)) (List.mem_of_getElem? (i := 357) (by decide +kernel))) (hS 7 (by decide)))
  have r16 : vk_R "TradeHallModel" 338 "seller " (adK 9) s := vk_R.of (hT _ (List.mem_of_getElem? (i := 1512) (by decide +kernel))) (hS 9 (by decide))
  have r17 : vk_R "TradeHallModel" 340 "buyer " (adK 8) s := vk_R.of (hT _ (List.mem_of_getElem? (i := 1513) (by decide +kernel))) (hS 8 (by decide))
  have r18 : vk_R "TradeHallModel" 352 "fee " (adK 10) s := vk_R.of (hT _ (List.mem_of_getElem? (i := 1524) (by decide +kernel))) (hS 10 (by decide))
  have r19 : vk_R "TradeHallModel" 354 "law " (adK 11) s := vk_R.of (hT _ (List.mem_of_getElem? (i := 1525) (by decide +kernel))) (hS 11 (by decide))
  have r20 : vk_R "TradeHallModel" 433 "buyer" (adK 0) s := vk_R.of (hT _ (List.mem_of_getElem? (i := 1621) (by decide +kernel))) (st_same (hs (Cond.eq (.string "TradeHall$Tape" 59) (.string "TradeHallModel" 433)) (List.mem_of_getElem? (i := 379) (by decide +kernel))) (hS 0 (by decide)))
  have r21 : vk_R "TradeHallModel" 439 "seller" (adK 1) s := vk_R.of (hT _ (List.mem_of_getElem? (i := 1651) (by decide +kernel))) (st_same (hs (Cond.eq (.string "TradeHall$Tape" 69) (.string "TradeHallModel" 439)) (List.mem_of_getElem? (i := 410) (by decide +kernel))) (hS 1 (by decide)))
  have r22 : vk_R "TradeHallModel" 441 "fee" (adK 2) s := vk_R.of (hT _ (List.mem_of_getElem? (i := 1652) (by decide +kernel))) (st_same (hs (Cond.eq (.string "TradeHall$Tape" 71) (.string "TradeHallModel" 441)) (List.mem_of_getElem? (i := 439) (by decide +kernel))) (hS 2 (by decide)))
  have r23 : vk_R "TradeHallModel" 446 "law" (adK 3) s := vk_R.of (hT _ (List.mem_of_getElem? (i := 1657) (by decide +kernel))) (st_same (hs (Cond.eq (.string "TradeHall$Tape" 77) (.string "TradeHallModel" 446)) (List.mem_of_getElem? (i := 469) (by decide +kernel))) (hS 3 (by decide)))
  exact List.forall_mem_cons.mpr ⟨r0, List.forall_mem_cons.mpr ⟨r1, List.forall_mem_cons.mpr ⟨r2, List.forall_mem_cons.mpr ⟨r3, List.forall_mem_cons.mpr ⟨r4, List.forall_mem_cons.mpr ⟨r5, List.forall_mem_cons.mpr ⟨r6, List.forall_mem_cons.mpr ⟨r7, List.forall_mem_cons.mpr ⟨r8, List.forall_mem_cons.mpr ⟨r9, List.forall_mem_cons.mpr ⟨r10, List.forall_mem_cons.mpr ⟨r11, List.forall_mem_cons.mpr ⟨r12, List.forall_mem_cons.mpr ⟨r13, List.forall_mem_cons.mpr ⟨r14, List.forall_mem_cons.mpr ⟨r15, List.forall_mem_cons.mpr ⟨r16, List.forall_mem_cons.mpr ⟨r17, List.forall_mem_cons.mpr ⟨r18, List.forall_mem_cons.mpr ⟨r19, List.forall_mem_cons.mpr ⟨r20, List.forall_mem_cons.mpr ⟨r21, List.forall_mem_cons.mpr ⟨r22, List.forall_mem_cons.mpr ⟨r23, fun _ h => absurd h List.not_mem_nil⟩⟩⟩⟩⟩⟩⟩⟩⟩⟩⟩⟩⟩⟩⟩⟩⟩⟩⟩⟩⟩⟩⟩⟩
theorem st_Z {args : Array Value} {s : State} (hT : ∀ w ∈ tables_1, w.before args s = true) (hpre : (Cond.and given_1 narrow_1).before args s = true) {A : Nat → Prop} (hA : ∀ a : Nat, a < s.heap.size → ¬ A a) : va_Z "java/lang/String" "COMPACT_STRINGS" "Z" (.int 1) A s s.heap ∧ ∃ f t : Nat, va_Z "jdk/internal/util/Preconditions" "SIOOBE_FORMATTER" "Ljava/util/function/BiFunction;" (if f = 0 then .null else .ref t) A s s.heap := by
  have hs := flat_of_before _ hpre
  refine ⟨va_Zof (hT _ (List.mem_of_getElem? (i := 345) (by decide +kernel))) (hT _ (List.mem_of_getElem? (i := 11) (by decide +kernel))) (va_eqt (hs _ (by decide +kernel))) hA, ?_⟩
  rcases va_Zqof (C := "jdk/internal/util/Preconditions") (n := "SIOOBE_FORMATTER") (d := "Ljava/util/function/BiFunction;") (hT _ (List.mem_of_getElem? (i := 361) (by decide +kernel))) (hT _ (List.mem_of_getElem? (i := 13) (by decide +kernel))) (hs _ (by decide +kernel)) hA with h | ⟨t, h⟩
  · exact ⟨0, 0, h⟩
  · exact ⟨1, t, h⟩
