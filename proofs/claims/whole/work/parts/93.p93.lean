/-! ===== the law: its loop ===== -/
section
variable {l : Launch} {G : lwG}
theorem law_loop (hL : sL G ≤ 3072) : ∀ (f : Nat) (v3 kk : Int) (M : zM) (A : zY), 3078 - v3 < f → (0 ≤ v3 ∧ v3 ≤ 3078) → lI v3 kk M A → LL_law_18 l G v3 M := by
  intro f
  induction f with
  | zero =>
    intro v3 kk M A hf hv I
    omega
  | succ f ih =>
    intro v3 kk M A hf hv I
    refine cL_18 ⟨hv.1, by omega, hL⟩ I fun v => ?_
    intro M' A' kk' I'
    have v2 := v.2.1
    exact ih (v3 + 6) kk' M' A' (by omega) (by omega) I'
def zM0 : zM := fun _ _ _ => 0
def zY0 : zY := (zE, (0, fun _ => zE), (fun _ => 0, fun _ => zE), (0, fun _ => 0))
theorem hW0 (h : Nat) : hW zM0 h := ⟨⟨Int.le_refl _, show (0 : Int) ≤ 20 by decide⟩, fun _ _ => .inl rfl, fun _ _ => ⟨Int.le_refl _, show (0 : Int) ≤ 4 by decide⟩⟩
theorem hS0 (h : Nat) : hS zM0 h = zE := hS_E fun _ _ => rfl
theorem cSt0 : cSt zM0 zY0 := by
  refine ⟨⟨hW0 0, hS0 0⟩, hW0 1, ⟨⟨Int.le_refl _, show (0 : Int) < 10 by decide⟩, rfl, fun i hi => ?_⟩, ⟨rfl, fun q => ?_, fun q => ?_⟩, rfl, fun i hi => ?_⟩
  · have hi' : 0 ≤ i ∧ i < 0 := hi
    omega
  · have q' : (0 : Int) = 1 := q
    omega
  · have q' : (0 : Int) = 1 := q
    omega
  · have hi' : 0 ≤ i ∧ i < 0 := hi
    omega
theorem mSt0 : mSy zM0 zY0 := by
  have en : qn zE = 0 := rfl
  have ve := mv_eq (M := zM0) (S := zE) zE_zo (by rw [en]; omega) (fun j hj => rfl) (fun t ht => by rw [en] at ht; omega) (fun t u q => by
    have a := q.1
    have b := q.2.1
    rw [en] at b
    omega)
  refine ⟨⟨ve, ⟨rfl, fun i hi => ?_⟩, ⟨⟨rfl, rfl⟩, fun q => ?_, fun q => ?_⟩, ⟨rfl, fun i hi => ?_⟩, rfl, rfl⟩, show (-1000 : Int) ≤ 0 ∧ (0 : Int) ≤ 1000 by decide⟩
  · have hi' : 0 ≤ i ∧ i < 0 := hi
    omega
  · have q' : (0 : Int) = 1 := q
    omega
  · have q' : (0 : Int) = 1 := q
    omega
  · have hi' : 0 ≤ i ∧ i < 0 := hi
    omega
theorem wfY0 : wfY 0 zY0 := by
  refine ⟨zE_wf (Int.le_refl _), show (0 : Int) ≤ 0 ∧ (0 : Int) ≤ 10 by decide, fun i hi => ?_, fun s hs => .inl rfl, show (0 : Int) ≤ 0 ∧ (0 : Int) ≤ 400 by decide, fun i hi => ?_⟩
  · have hi' : 0 ≤ i ∧ i < 0 := hi
    omega
  · have hi' : 0 ≤ i ∧ i < 0 := hi
    omega
theorem lI0 : lI 0 0 zM0 zY0 := ⟨⟨cSt0, mSt0⟩, wfY0, by decide⟩
end
/-! ===== the law: its start ===== -/
set_option maxRecDepth 100000 in
theorem whole_start {p : Program} {e : Env} {s : State} {m : MethodId} {below : List Frame} {meth : Method} {c : Code} (l : Launch) (hflags : l.flags = flags0) {b L : Nat} {xs : Nat → Int32} (hL : L ≤ 3072) (C0 : lw_At p s m meth c b L xs) : W p l e room_1 s m #[Value.ref b] below meth c s.heap [] 0 0 (lw_Z below #[Value.ref b] s) (entryFrame m ([Value.ref b] : List Value).toArray 4) := by
  obtain ⟨hx, hb, hr, hml, hown, hts, hX, hbl, hlo, hpre⟩ := C0
  have hT : ∀ w ∈ tables_1, w.before #[Value.ref b] s = true := fun w hw => hts w (List.mem_append_right _ hw)
  have hTB : ∀ w ∈ zTB, w.before #[Value.ref b] s = true := fun w hw => hts w (List.mem_filter.mp hw).1
  have hAO : (Cond.arrayOver (.object "TradeHall$Hall")).before #[Value.ref b] s = true := hT _ (List.mem_of_getElem? (i := 128) (by decide +kernel))
  obtain ⟨D, hD0⟩ := st_D hTB
  obtain ⟨cs, hcs⟩ := st_cs hTB hAO
  have hN : ∀ w ∈ znest, va_Nw w s := fun w hw => va_Nw.of (List.all_eq_true.mp znest_tab w hw) (hT w (List.mem_filter.mp hw).1)
  have hK : nK D cs s := ⟨⟨hD0, hcs⟩, hN, va_AO.of hAO⟩
  have hA : ∀ q : Nat, s.heap.size ≤ q → (fun q : Nat => s.heap.size ≤ q) q := fun _ h => h
  have hP : va_P D vwCl [] s.heap := fun k q h => by simp at h
  have hD : va_D (fun q : Nat => s.heap.size ≤ q) [] := ⟨fun i j p q hi => by simp at hi, fun k q h => by simp at h⟩
  have hS : va_S (fun q : Nat => s.heap.size ≤ q) s.heap s.heap [] := va_S.rf
  have hown' : s.vm.findClass m_L_law.1.cls = some m.cls := hown
  have hl := lv_entry ([.ref b]) (n := 4) (Nat.le_of_ble_eq_true rfl)
  rw [lg_entry_eq]
  generalize (lg_sl ([.ref b]) ++ List.replicate (4 - (lg_sl ([.ref b])).length) Slot.unset).toArray = ls at hl ⊢
  have hl : lv_has ls 4 [(0, .ref b)] := hl
  have hb' : c.code = m_L_law.2.1 := hb
  have hml' : c.maxLocals = m_L_law.2.2.1 := hml
  refine nw_make (X := m_L_law) (Y := m_X8_init) (k := 8) (C := RX8) (T := TX8) (N := 11) (n_X8 l D cs) hx hb' hml' hTB hown' rfl inT8 tyX8 tyX8_ok nf8 clL_7 ic8 ini8 cIL_9 ⟨Nat.le_of_ble_eq_true rfl, Nat.le_of_ble_eq_true rfl⟩ (Nat.le_of_ble_eq_true rfl) hl.1 hK hP hD hS hA (Nat.le_of_ble_eq_true rfl) (Nat.le_of_ble_eq_true rfl) d_L_law_0 d_L_law_3 d_L_law_4 (fun o8 v8 H locs h8 hP hD hS => ?_)
  refine lv_astore_n hx hb' d_L_law_7 rfl hl (Nat.le_of_ble_eq_true rfl) rfl (fun ls1 hl1 => ?_)
  refine nw_make (X := m_L_law) (Y := m_X9_init) (k := 9) (C := RX9) (T := TX9) (N := 44) (n_X9 l D cs) hx hb' hml' hTB hown' rfl inT9 tyX9 tyX9_ok nf9 clL_10 ic9 ini9 cIL_12 ⟨Nat.le_of_ble_eq_true rfl, Nat.le_of_ble_eq_true rfl⟩ (Nat.le_of_ble_eq_true rfl) hl1.1 hK hP hD hS hA (Nat.le_of_ble_eq_true rfl) (Nat.le_of_ble_eq_true rfl) d_L_law_8 d_L_law_11 d_L_law_12 (fun o9 v9 H locs h9 hP hD hS => ?_)
  refine lv_astore_n hx hb' d_L_law_15 rfl hl1 (Nat.le_of_ble_eq_true rfl) rfl (fun ls2 hl2 => ?_)
  refine lv_iconst (v := Int32.ofInt 0) hx hb' d_L_law_16 rfl ?_
  refine lv_istore_n hx hb' d_L_law_17 rfl hl2 (Nat.le_of_ble_eq_true rfl) rfl (fun ls3 hl3 => ?_)
  refine va_forget (fun q hq => hS.2.2 q hq) ?_
  have hA0 : ∀ a : Nat, a < s.heap.size → ¬ (fun q : Nat => s.heap.size ≤ q) a := fun a h1 h2 => Nat.not_le.mpr h1 h2
  obtain ⟨kA, kV, hvs, hve⟩ := st_S (A := fun q : Nat => s.heap.size ≤ q) hpre hA0
  have hvr := st_R hT hpre hve
  obtain ⟨hz1, f, t, hz2⟩ := st_Z (A := fun q : Nat => s.heap.size ≤ q) hT hpre hA0
  obtain ⟨ad, ⟨e8, e9⟩, ⟨eb, et, ef⟩, ek, ev, hW, hz⟩ := st_world h8 h9 hP hD b t f kA kV L xs
  have hz' : ∀ q, zA (D, ad, cs, L, xs) q → s.heap.size ≤ q := hz
  have hnb : ¬ zA (D, ad, cs, L, xs) b := fun q => Nat.not_le.mpr hbl (hz' _ q)
  have zk : zK (D, ad, cs, L, xs) s s.heap := by
    have hvs' := hvs.narrow hz'
    refine ⟨⟨hD0, hcs⟩, hN, ?_, ?_, hz1.narrow hz', ?_, ?_, ?_, ?_⟩
    · have e1 : zsA (D, ad, cs, L, xs) = kA := funext ek
      have e2 : zsV (D, ad, cs, L, xs) = kV := funext ev
      rw [e1, e2]
      exact hvs'
    · intro q hq
      have e1 : zsA (D, ad, cs, L, xs) q.2.2.2 = kA q.2.2.2 := ek _
      rw [e1]
      exact hvr q hq
    · show va_X (ad 60 0) L xs s s.heap
      rw [eb]
      exact hX
    · show va_Z "jdk/internal/util/Preconditions" "SIOOBE_FORMATTER" "Ljava/util/function/BiFunction;" (if 63 = 63 then (if ad 63 0 = 0 then .null else .ref (ad 60 1)) else .ref (ad 63 0)) (zA (D, ad, cs, L, xs)) s s.heap
      rw [if_pos rfl, ef, et]
      exact hz2.narrow hz'
    · show ad 60 0 < s.heap.size
      rw [eb]
      exact hbl
    · show ¬ zA (D, ad, cs, L, xs) (ad 60 0)
      rw [eb]
      exact hnb
  have hSf : va_S (zA (D, ad, cs, L, xs)) s.heap H [] := ⟨hS.1, fun q h1 h2 => hS.2.1 q h1 (fun h3 => Nat.not_le.mpr h1 h3), fun _ h => by cases h⟩
  have hlz : lv_has ls3 m_L_law.2.2.1 (zlv (D, ad, cs, L, xs) [(0, zr 60 0), (1, zr 8 0), (2, zr 9 0), (3, zi 0)]) := by
    have e : zlv (D, ad, cs, L, xs) [(0, zr 60 0), (1, zr 8 0), (2, zr 9 0), (3, zi 0)] = [(0, .ref b), (1, .ref o8), (2, .ref o9), (3, .int (Int32.ofInt 0))] := by
      show [(0, Value.ref (ad 60 0)), (1, Value.ref (ad 8 0)), (2, Value.ref (ad 9 0)), (3, Value.int (Int32.ofInt 0))] = _
      rw [eb, e8, e9]
    rw [e]
    exact lv_sub hl3 [3, 2, 1, 0] rfl
  have lp : AW l m_L_law (lwT ((D, ad, cs, L, xs), 143, 8940)) 18 [(0, zr 60 0), (1, zr 8 0), (2, zr 9 0), (3, zi 0)] [] zM0 := law_loop (l := l) (G := ((D, ad, cs, L, xs), 143, 8940)) (show ((L : Nat) : Int) ≤ 3072 by omega) 4000 0 0 zM0 zY0 (by omega) (by omega) lI0
  have go := lp (D, ad, cs, L, xs) p e s m #[Value.ref b] below meth c H [] ls3 ⟨hx, hb', hml', hown', hTB, hr, hlo, zk, Nat.le_of_ble_eq_true rfl, Nat.le_of_ble_eq_true rfl⟩ hW hSf hlz (fun q hq => by
    rcases List.mem_cons.mp hq with rfl | hq
    · show 0 < zcnt 60
      decide
    · rcases List.mem_cons.mp hq with rfl | hq
      · show 0 < zcnt 8
        decide
      · rcases List.mem_cons.mp hq with rfl | hq
        · show 0 < zcnt 9
          decide
        · rcases List.mem_cons.mp hq with rfl | hq
          · trivial
          · cases hq) (fun v hv => by cases hv)
  intro T hT2 X
  obtain ⟨t2, a1, b1⟩ := go T hT2 X
  have b2 : lwC ((D, ad, cs, L, xs), 143, 8940) (D, ad, cs, L, xs) s #[Value.ref b] → lw_Z below #[Value.ref b] s t2 := b1
  exact ⟨t2, a1, b2 ⟨rfl, by show #[Value.ref b] = #[Value.ref (ad 60 0)]; rw [eb], hz', Nat.le_of_ble_eq_true rfl, Nat.le_of_ble_eq_true rfl⟩⟩
