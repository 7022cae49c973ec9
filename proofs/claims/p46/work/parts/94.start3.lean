/-! ===== the law: its start ===== -/
theorem d_L_law_0 : dec m_L_law 0 = .ok (.new 19, 3) := by decide +kernel
theorem d_L_law_3 : dec m_L_law 3 = .ok (.dup, 1) := by decide +kernel
theorem d_L_law_4 : dec m_L_law 4 = .ok (.invokespecial 143, 3) := by decide +kernel
theorem clL_19 : Cond.classLink "TradeHallLaw" 19 "TradeHall" ∈ zTB := zti 23 (by decide +kernel) (by decide +kernel)
theorem cIL_143 : zCI "TradeHallLaw" 143 m_X8_init := ⟨⟨by decide +kernel, zti 27 (by decide +kernel) (by decide +kernel), zti 1 (by decide +kernel) (by decide +kernel), ⟨by decide +kernel, by decide +kernel⟩, by decide +kernel, Or.inl (zti 25 (by decide +kernel) (by decide +kernel))⟩, zti 26 (by decide +kernel) (by decide +kernel), rfl, rfl⟩
set_option maxRecDepth 100000 in
theorem whole_start {p : Program} {e : Env} {s : State} {m : MethodId} {below : List Frame} {meth : Method} {c : Code} (l : Launch) {b L : Nat} {xs : Nat → Int32} (hnm : meth.name = m_L_law.1.name) (C0 : lw_At p s m meth c b L xs) : W p l e room_1 s m #[Value.ref b] below meth c s.heap [] 0 0 (lw_Z below #[Value.ref b] s) (entryFrame m ([Value.ref b] : List Value).toArray 16) := by
  obtain ⟨hx, hb, hr, hml, hown, hts, hX, hbl, hlo, hpre⟩ := C0
  have hT : ∀ w ∈ tables_1, w.before #[Value.ref b] s = true := fun w hw => hts w (List.mem_append_right _ hw)
  have hTB : ∀ w ∈ zTB, w.before #[Value.ref b] s = true := st_TB hts hT
  have hAO : (Cond.arrayOver (.object "TradeHall$Hall")).before #[Value.ref b] s = true := hT _ (List.mem_of_getElem? (i := 132) (by decide +kernel))
  have hAI : (Cond.arrayOver (.array .int)).before #[Value.ref b] s = true := hT _ (List.mem_of_getElem? (i := 678) (by decide +kernel))
  obtain ⟨D, hD0⟩ := st_D hTB
  obtain ⟨cs, hcs⟩ := st_cs hTB hAO hAI
  have hN : ∀ w ∈ znest, va_Nw w s := fun w hw => va_Nw.of (List.all_eq_true.mp znest_tab w hw) (hT w (List.mem_filter.mp hw).1)
  have hK : nK D cs s := ⟨⟨hD0, hcs⟩, hN, va_AO.of hAO⟩
  have hA : ∀ q : Nat, s.heap.size ≤ q → (fun q : Nat => s.heap.size ≤ q) q := fun _ h => h
  have hP : va_P D vwCl [] s.heap := fun k q h => by simp at h
  have hD : va_D (fun q : Nat => s.heap.size ≤ q) [] := ⟨fun i j p q hi => by simp at hi, fun k q h => by simp at h⟩
  have hS : va_S (fun q : Nat => s.heap.size ≤ q) s.heap s.heap [] := va_S.rf
  have hown' : s.vm.findClass m_L_law.1.cls = some m.cls := hown
  have hl := lv_entry ([.ref b]) (n := 16) (Nat.le_of_ble_eq_true rfl)
  rw [lg_entry_eq]
  generalize (lg_sl ([.ref b]) ++ List.replicate (16 - (lg_sl ([.ref b])).length) Slot.unset).toArray = ls at hl ⊢
  have hl : lv_has ls 16 [(0, .ref b)] := hl
  have hb' : c.code = m_L_law.2.1 := hb
  have hml' : c.maxLocals = m_L_law.2.2.1 := hml
  refine nw_make (X := m_L_law) (Y := m_X8_init) (k := 8) (C := RX8) (T := TX8) (N := 11) (n_X8 l D cs) hx hb' hml' hTB hown' rfl inT8 tyX8 tyX8_ok nf8 clL_19 ic8 ini8 cIL_143 ⟨Nat.le_of_ble_eq_true rfl, Nat.le_of_ble_eq_true rfl⟩ (Nat.le_of_ble_eq_true rfl) hl.1 hK hP hD hS hA (Nat.le_of_ble_eq_true rfl) (Nat.le_of_ble_eq_true rfl) d_L_law_0 d_L_law_3 d_L_law_4 (fun o8 v8 H locs h8 hP hD hS => ?_)
  have hA0 : ∀ a : Nat, a < s.heap.size → ¬ (fun q : Nat => s.heap.size ≤ q) a := fun a h1 h2 => Nat.not_le.mpr h1 h2
  obtain ⟨kA, kV, hvs, hve⟩ := st_S (A := fun q : Nat => s.heap.size ≤ q) hpre hA0
  have hvr := st_R hT hpre hve
  obtain ⟨hz1, f, t, hz2⟩ := st_Z (A := fun q : Nat => s.heap.size ≤ q) hT hpre hA0
  obtain ⟨d2, hd2⟩ := st_DigitTens (A := fun q : Nat => s.heap.size ≤ q) hT hpre hA0
  obtain ⟨d3, hd3⟩ := st_DigitOnes (A := fun q : Nat => s.heap.size ≤ q) hT hpre hA0
  obtain ⟨ad, e8, ⟨eb, et, e2, e3, ef⟩, ek, ev, hW⟩ := st_world h8 hP hD b t d2 d3 f kA kV L xs
  have zk : zK (D, ad, cs, L, xs, [], s.heap.size) s s.heap := by
    refine ⟨⟨hD0, hcs⟩, hN, ?_, ?_, hz1, ?_, ?_, ?_, ?_, st_ai hAI, st_Fc hT, ?_⟩
    · have e1 : zsA (D, ad, cs, L, xs, [], s.heap.size) = kA := funext ek
      have e2 : zsV (D, ad, cs, L, xs, [], s.heap.size) = kV := funext ev
      rw [e1, e2]
      exact hvs
    · intro q hq
      have e1 : zsA (D, ad, cs, L, xs, [], s.heap.size) q.2.2.2 = kA q.2.2.2 := ek _
      rw [e1]
      exact hvr q hq
    · show va_X (ad 60 0) L xs s s.heap
      rw [eb]
      exact hX
    · show va_Z "jdk/internal/util/Preconditions" "SIOOBE_FORMATTER" "Ljava/util/function/BiFunction;" (if 63 = 63 then (if 0 = 0 then (if ad 63 0 = 0 then .null else .ref (ad 60 1)) else .null) else .ref (ad 63 0)) (fun q : Nat => s.heap.size ≤ q) s s.heap
      rw [if_pos rfl, if_pos rfl, ef, et]
      exact hz2
    · show ad 60 0 < s.heap.size
      rw [eb]
      exact hbl
    · show ¬ (s.heap.size ≤ ad 60 0)
      rw [eb]
      exact Nat.not_le.mpr hbl
    · intro q hq
      rcases List.mem_cons.mp hq with rfl | hq
      · show va_Z "java/lang/Integer" "DigitTens" "[B" (.ref (ad 60 2)) (fun q : Nat => s.heap.size ≤ q) s s.heap ∧ va_T .byte (ad 60 2) 100 (fun j => .int (Int32.ofInt (48 + (j : Int) / 10))) (fun q : Nat => s.heap.size ≤ q) s s.heap
        rw [e2]
        exact hd2
      · rcases List.mem_cons.mp hq with rfl | hq
        · show va_Z "java/lang/Integer" "DigitOnes" "[B" (.ref (ad 60 3)) (fun q : Nat => s.heap.size ≤ q) s s.heap ∧ va_T .byte (ad 60 3) 100 (fun j => .int (Int32.ofInt (48 + (j : Int) % 10))) (fun q : Nat => s.heap.size ≤ q) s s.heap
          rw [e3]
          exact hd3
        · cases hq
  have hlz : lv_has ls m_L_law.2.2.1 (zlv (D, ad, cs, L, xs, [], s.heap.size) [(0, zr 60 0)]) := by
    have e : zlv (D, ad, cs, L, xs, [], s.heap.size) [(0, zr 60 0)] = [(0, .ref b)] := by
      show [(0, Value.ref (ad 60 0))] = _
      rw [eb]
    rw [e]
    exact hl
  have lp : AW l m_L_law (lwT ((D, ad, cs, L, xs, [], s.heap.size), 120, 4830) 120 4830) 7 [(0, zr 60 0)] [zr 8 0] zM0 := law_7 (by decide) (by decide)
  have go := lp (D, ad, cs, L, xs, [], s.heap.size) p e s m #[Value.ref b] below meth c H locs ls ⟨hx, hb', hml', hown', hTB, hr, hlo, zk, ⟨hnm, Nat.le_refl _⟩, Nat.le_of_ble_eq_true rfl, Nat.le_of_ble_eq_true rfl⟩ hW hS hlz (fun q hq => by
    rcases List.mem_cons.mp hq with rfl | hq
    · show if 60 ≤ 60 ∧ 60 < 64 then 0 < zcnt 60 else (60, 0) ∈ zall (D, ad, cs, L, xs, [], s.heap.size)
      rw [if_pos (by decide)]
      decide
    · cases hq) (fun v hv => by
    rcases List.mem_cons.mp hv with rfl | hv
    · show if 60 ≤ 8 ∧ 8 < 64 then 0 < zcnt 8 else (8, 0) ∈ zall (D, ad, cs, L, xs, [], s.heap.size)
      rw [if_neg (by decide)]
      exact List.mem_append_left _ (zlocs_mem.mpr ⟨by decide, by decide⟩)
    · cases hv)
  have go2 : W p l e room_1 s m #[Value.ref b] below meth c H locs 120 4830 (zPo (lwT ((D, ad, cs, L, xs, [], s.heap.size), 120, 4830) 120 4830) (D, ad, cs, L, xs, [], s.heap.size) s #[Value.ref b] below) (F0 m 7 ls [.ref (ad 8 0)]) := go
  rw [e8] at go2
  intro T hT2 X
  obtain ⟨t2, a1, g', x1, b1⟩ := go2 T hT2 X
  have b2 : lwC ((D, ad, cs, L, xs, [], s.heap.size), 120, 4830) g' s #[Value.ref b] → lw_Z below #[Value.ref b] s t2 := b1
  refine ⟨t2, a1, b2 ⟨⟨b, rfl⟩, fun q hq => ?_⟩⟩
  rw [x1.A] at hq
  exact hq
