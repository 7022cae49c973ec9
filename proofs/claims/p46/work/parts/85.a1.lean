/-! ===== objects made: rows ===== -/
abbrev nty (cs : Nat → ClassId) : List (ClassId × FieldType) := [(cs 0, .int), (cs 1, .boolean), (cs 2, .byte), (cs 3, .long), (cs 4, .object "TradeHall$Hall"), (cs 5, .array .int)]
def nK (D : va_G) (cs : Nat → ClassId) (U : State) : Prop := va_K D vwCl (nty cs) U ∧ (∀ w ∈ znest, va_Nw w U) ∧ va_AO "TradeHall$Hall" U
theorem nK.go {D : va_G} {cs : Nat → ClassId} {s U : State} (h : nK D cs s) (hW : s.WarmedH U.vm) : nK D cs U := ⟨h.1.moved hW.alike, znest_warm hW h.2.1, h.2.2.moved hW.alike⟩
theorem nK.same {D : va_G} {cs : Nat → ClassId} {s U : State} (hv : s.vm = U.vm) (h : nK D cs s) : nK D cs U := by
  have ha : s.vm.Alike U.vm := by rw [hv]; exact Vm.Alike.refl U.vm
  exact ⟨h.1.moved ha, fun w hw => va_Nw.same (List.all_eq_true.mp znest_tab w hw) hv (h.2.1 w hw), h.2.2.moved ha⟩
/-- a new object of the kind k: its fields -/
def nfs (k : Nat) : List Value := (zlay k).map fun o => match o with | none => .int (Int32.ofInt 0) | some _ => .null
def nPre (D : va_G) (cs : Nat → ClassId) (k sz h0 : Nat) (U : State) : Prop := U.heap.size = sz ∧ va_P D vwCl [(h0, .inr (k, nfs k))] U.heap ∧ nK D cs U
abbrev nA (k h0 sz : Nat) : Nat → Prop := va_A [(h0, .inr (k, nfs k))] sz
def nB (D : va_G) (k sz h0 : Nat) (ws : va_W) (t : State) : Prop := va_P D vwCl ws t.heap ∧ va_D (nA k h0 sz) ws
abbrev nRm (Y : zD) (mc ms : Nat) : Room := { frames := Y.2.2.2.2.1, cells := mc, slots := ms, locals := Y.2.2.2.2.2 }
/-- the constructor Y of the kind k: what it makes -/
def NCt (l : Launch) (Y : zD) (k mc ms : Nat) (D : va_G) (cs : Nat → ClassId) (Sh : Nat → va_W → Prop) : Prop :=
  ∀ sz h0, Met l Y.1 (zwd Y) (nRm Y mc ms) (va_Pc [.ref h0] (nPre D cs k sz h0)) (va_Qv (Sh h0) (nB D k sz h0) (nA k h0 sz)) mc ms (nA k h0 sz)
theorem nPre_blind {D : va_G} {cs : Nat → ClassId} {k sz h0 : Nat} {As : List Value} : FrameBlind (va_Pc As (nPre D cs k sz h0)) := by
  intro a U f mk h
  exact ⟨h.1, h.2.1, h.2.2.1, nK.same (s := U) (U := U.calling f mk a) rfl h.2.2.2⟩
theorem va_one {a : Nat} {e : va_E} {sz : Nat} : va_D (va_A [(a, e)] sz) [(a, e)] := by
  refine ⟨fun i j p q hi hj _ => ?_, fun k q hk => va_A.in hk⟩
  have h1 : i < 1 := (List.getElem?_eq_some_iff.mp hi).1
  have h2 : j < 1 := (List.getElem?_eq_some_iff.mp hj).1
  omega
theorem va_nd_range : ∀ n, va_nd (List.range n) = true := by
  have key : ∀ l : List Nat, l.Nodup → va_nd l = true := by
    intro l
    induction l with
    | nil => intro _; rfl
    | cons a l ih =>
      intro h
      rw [List.nodup_cons] at h
      simp only [va_nd, Bool.and_eq_true, decide_eq_true_eq]
      exact ⟨h.1, ih h.2⟩
  exact fun n => key _ List.nodup_range
theorem range_map {α : Type} (ws : List α) (x : List α) : (List.range ws.length).map (fun i => (ws ++ x)[i]?) = ws.map some := by
  refine List.ext_getElem? fun i => ?_
  rw [List.getElem?_map, List.getElem?_map]
  by_cases h : i < ws.length
  · rw [List.getElem?_range h]
    show some ((ws ++ x)[i]?) = _
    rw [List.getElem?_append_left h, List.getElem?_eq_getElem h]
    rfl
  · rw [List.getElem?_eq_none (by rw [List.length_range]; omega), List.getElem?_eq_none (by omega)]
    rfl
/-- the pool entry ix of own is the constructor Y -/
def zCI (own : String) (ix : Nat) (Y : zD) : Prop := zCB own ix Y 0 ∧ Cond.instanceMethod Y.1 ∈ zTB ∧ Y.1.name = "<init>" ∧ Y.2.2.2.1 = none
section
variable {p : Program} {l : Launch} {e : Env} {R : Room} {s : State} {m : MethodId} {args : Array Value} {below : List Frame} {meth : Method} {c : Code} {H : Heap} {locs : List Loc} {cells slots : Nat} {Q : State → Prop}
variable {X : zD} {pc : Nat} {ls : Array Slot} {rest : List Value} {D : va_G} {cs : Nat → ClassId} {A : Nat → Prop} {ws : va_W} {H0 : Heap}
theorem nw_arr (hexec : p.tables.exec = Jvm.exec) (hb : c.code = X.2.1) (hts : ∀ w ∈ zTB, w.before args s = true) {atype : ArrayType} {ty : FieldType} (hty : newarray.typeOf atype = ty) (harr : Cond.arrayClass ty ∈ zTB)
    (hK : nK D cs s) (t0 : Nat) {cA : ClassId} (ht : (nty cs)[t0]? = some (cA, ty)) (hra : ∀ (U : State) (c : ClassId), va_RA U c ty → U.vm.findClass ("[" ++ ty.toString) = some c)
    (hP : va_P D vwCl ws H) (hD : va_D A ws) (hS : va_S A H0 H locs) (hA : ∀ q, H0.size ≤ q → A q)
    {n : Int32} {N' : Nat} {a0 : vp_A} (ha : ∀ cA : ClassId, vp_cell cA a0 = arrV cA N' (fun _ => defaultValue ty)) (hn : ¬ n < 0) (hN : n.toNatClampNeg = N') (hbytes : N' * componentBytes ty ≤ 536870912) (hcells : cells + 1 ≤ R.cells) (hslots : slots + N' ≤ R.slots) (hdg : dec X pc = .ok (.newarray atype, 2))
    (kk : ∀ (q : Nat) (H1 : Heap), va_P D vwCl (ws ++ [(q, .inl (cA, a0))]) H1 → va_D A (ws ++ [(q, .inl (cA, a0))]) → va_S A H0 H1 locs →
      W p l e R s m args below meth c H1 locs (cells + 1) (slots + N') Q (F0 m (pc + 2) ls (.ref q :: rest))) : W p l e R s m args below meth c H locs cells slots Q (F0 m pc ls (.int n :: rest)) := by
  refine va_newa hexec hb (hts _ (by rw [hty]; exact harr)) hty hK.1 hP hD hS hA ha hn hN hbytes hcells hslots hdg fun q cA' H1 K1 P1 D1 S1 => ?_
  have h2 := hra _ _ (K1.2 (nty cs).length (cA', ty) (by rw [List.getElem?_append_right (Nat.le_refl _), Nat.sub_self]; rfl)).2
  have h3 := hra _ _ (hK.1.2 t0 _ ht).2
  have e : cA' = cA := Option.some.inj (h2.symm.trans h3)
  subst e
  exact kk q H1 P1 D1 S1
theorem nw_arrq (hexec : p.tables.exec = Jvm.exec) (hb : c.code = X.2.1) (hts : ∀ w ∈ zTB, w.before args s = true) (hown : s.vm.findClass X.1.cls = some m.cls) {index : Nat} (hcl : Cond.classLink X.1.cls index "TradeHall$Hall" ∈ zTB)
    (hK : nK D cs s) (hP : va_P D vwCl ws H) (hD : va_D A ws) (hS : va_S A H0 H locs) (hA : ∀ q, H0.size ≤ q → A q)
    {n : Int32} {N' : Nat} (hn : ¬ n < 0) (hN : n.toNatClampNeg = N') (hbytes : N' * 4 ≤ 536870912) (hcells : cells + 1 ≤ R.cells) (hslots : slots + N' ≤ R.slots) (hdg : dec X pc = .ok (.anewarray index, 3))
    (kk : ∀ (q : Nat) (H1 : Heap), va_P D vwCl (ws ++ [(q, .inl (cs 4, N', .inr (.inr (.inr (.inr (fun _ => none))))))]) H1 → va_D A (ws ++ [(q, .inl (cs 4, N', .inr (.inr (.inr (.inr (fun _ => none))))))]) → va_S A H0 H1 locs →
      W p l e R s m args below meth c H1 locs (cells + 1) (slots + N') Q (F0 m (pc + 3) ls (.ref q :: rest))) : W p l e R s m args below meth c H locs cells slots Q (F0 m pc ls (.int n :: rest)) := by
  refine va_newq hexec hb hown (hts _ hcl) hK.2.2 hK.1 hP hD hS hA hn hN hbytes hcells hslots hdg fun q cA' H1 K1 P1 D1 S1 => ?_
  obtain ⟨-, -, -, -, -, h2⟩ := (K1.2 (nty cs).length (cA', .object "TradeHall$Hall") (by rw [List.getElem?_append_right (Nat.le_refl _), Nat.sub_self]; rfl)).2
  obtain ⟨-, -, -, -, -, h3⟩ := (hK.1.2 4 (cs 4, .object "TradeHall$Hall") rfl).2
  have e : cA' = cs 4 := Option.some.inj (h2.symm.trans h3)
  subst e
  exact kk q H1 P1 D1 S1
theorem nw_make {Y : zD} {k mc ms N ix ix2 : Nat} {C : String} {T : u_T} {Sh : Nat → va_W → Prop} (hM : NCt l Y k mc ms D cs Sh)
    (hexec : p.tables.exec = Jvm.exec) (hb : c.code = X.2.1) (hml : c.maxLocals = X.2.2.1) (hts : ∀ w ∈ zTB, w.before args s = true) (hown : s.vm.findClass X.1.cls = some m.cls)
    (hc : vwCl[k]? = some (C, T, N)) (hin : ∀ w ∈ u_ws C T N, w ∈ zTB) (ty : Nat → FieldType) (hty : ∀ k, k < N → parseFieldDescriptor (T k).2.2.1 = some (ty k)) (hfs : ∀ j, j < N → defaultValue (ty j) = vp_V (nfs k) j)
    (hcl : Cond.classLink X.1.cls ix C ∈ zTB) (hinst : Cond.instantiable C N ∈ zTB) (hini : Cond.initialized C ∈ zTB) (hci : zCI X.1.cls ix2 Y)
    (hroom : Y.2.2.2.2.1 + 1 ≤ R.frames ∧ 8 + (Y.2.2.1 + 11) + Y.2.2.2.2.2 ≤ R.locals) (hcat : ((Value.ref 0 :: rest).map fun v => v.category).sum ≤ 8) (hlv : ls.size = X.2.2.1)
    (hK : nK D cs s) (hP : va_P D vwCl ws H) (hD : va_D A ws) (hS : va_S A H0 H locs) (hA : ∀ q, H0.size ≤ q → A q)
    (hcells : cells + 1 + mc ≤ R.cells) (hslots : slots + N + ms ≤ R.slots) (hd0 : dec X pc = .ok (.new ix, 3)) (hd1 : dec X (pc + 3) = .ok (.dup, 1)) (hd2 : dec X (pc + 4) = .ok (.invokespecial ix2, 3))
    (kk : ∀ (q : Nat) (w1 : va_W) (H1 : Heap) (locs1 : List Loc), Sh q w1 → va_P D vwCl (ws ++ w1) H1 → va_D A (ws ++ w1) → va_S A H0 H1 locs1 →
      W p l e R s m args below meth c H1 locs1 (cells + 1 + mc) (slots + N + ms) Q (F0 m (pc + 7) ls (.ref q :: rest))) : W p l e R s m args below meth c H locs cells slots Q (F0 m pc ls rest) := by
  obtain ⟨⟨hpl, hcode, hini2, hy, hdesc, hlink⟩, hinm, hnm, hret⟩ := hci
  refine va_new (ci := k) (fs := nfs k) (C := C) (T := T) (N := N) hexec hb hts hin ty hty hown (hts _ hcl) (hts _ hinst) (hts _ hini) hK.1 hP hD hS hA hc hfs (by omega) (by omega) hd0 fun q H1 P1 D1 S1 => ?_
  refine lv_dup hexec hb hd1 rfl ?_
  have hPc : va_P D vwCl [(q, .inr (k, nfs k))] H1 := P1.sub [ws.length] (by simp)
  have hF : ∀ x, va_A [(q, .inr (k, nfs k))] H1.size x → A x := va_free (wc := [(q, .inr (k, nfs k))]) D1 S1 hA [ws.length] (by simp)
  have cat2 : ((Value.ref q :: rest).map fun v => v.category).sum ≤ 8 := hcat
  have pre : PreS s H1 (va_Pc [.ref q] (nPre D cs k H1.size q)) (.ref q :: []) := ⟨nPre_blind, fun U hU hW => ⟨rfl, by rw [hU], by rw [hU]; exact hPc, hK.go hW⟩⟩
  have join : ∀ (u : va_W) (t : State) (H2 : Heap) (locs2 : List Loc), t.heap = H2 → s.vm.Alike t.vm → Sh q u → nB D k H1.size q u t → H1.size ≤ H2.size → (∀ x : Nat, x < H1.size → ¬ va_A [(q, .inr (k, nfs k))] H1.size x → H2[x]? = H1[x]?) → va_S A H0 H2 locs2 → W p l e R s m args below meth c H2 locs2 (cells + 1 + mc) (slots + N + ms) Q (F0 m (pc + 3 + 1 + 3) ls (.ref q :: rest)) := by
    intro u t H2 locs2 ht hvm hsh hB hz hk hS2
    obtain ⟨hP1, hD1⟩ := hB
    rw [ht] at hP1
    obtain ⟨P2, D2⟩ := va_join (wr := ws) (w1 := u) P1 D1 [ws.length] (List.range ws.length) (wc := [(q, .inr (k, nfs k))]) (by simp) (range_map ws _) (va_nd_range _) (fun i hi hj => by
      rw [List.mem_range] at hi
      rw [List.mem_singleton] at hj
      omega) hk hF hP1 hD1
    exact kk q u H2 locs2 hsh P2 D2 hS2
  obtain ⟨Yn, Yc, Yl, Yr, Yf, Ylo⟩ := Y
  have hret' : Yr = none := hret
  subst hret'
  rcases hlink with hlink | ⟨hst', hlink⟩
  · exact va_callv (va_runI (As := []) (rest := .ref q :: rest) ⟨hexec, hb, hml, hown, hts⟩ (hM H1.size q) (cwI (ws' := zTB) 0 hts (zgoodIn hcode) rfl rfl rfl (hts _ hini2) (hts _ hlink) (hts _ hinm) hnm ⟨hy.1, hy.2, hdesc⟩ hroom) pre rfl rfl hlv rfl (lv_room cat2) hd2 ⟨by omega, by omega⟩) S1 (fun x _ h => hF x h) hF join
  · exact va_callv (va_runIN (As := []) (rest := .ref q :: rest) (Ts := zTB) (own := X.1.cls) ⟨hexec, hb, hml, hown, hts⟩ (hM H1.size q) ⟨va_cnB (ws' := zTB) 0 hts (zgoodIn hcode) rfl rfl rfl (hK.2.1 _ hlink) (hts _ hini2) ⟨hy.1, hy.2, hdesc⟩ hroom, hnm, hts _ hinm⟩ pre rfl rfl hlv rfl (lv_room cat2) hd2 ⟨by omega, by omega⟩) S1 (fun x _ h => hF x h) hF join
theorem nw_field {k N L j t0 ix : Nat} {C : String} {T : u_T} {fs : List Value} {h0 : Nat} (hexec : p.tables.exec = Jvm.exec) (hb : c.code = X.2.1) (hts : ∀ w ∈ zTB, w.before args s = true) (hown : s.vm.findClass X.1.cls = some m.cls) (hin : meth.name = "<init>") (hK : nK D cs s)
    (hc : vwCl[k]? = some (C, T, N)) (hinT : ∀ w ∈ u_ws C T N, w ∈ zTB) (ty0 : Nat → FieldType) (hty : ∀ k, k < N → parseFieldDescriptor (T k).2.2.1 = some (ty0 k)) (hnm : ∀ a, a < N → ∀ b, b < N → a ≠ b → (T a).2.1 ≠ (T b).2.1)
    {atype : ArrayType} {ty : FieldType} {cA : ClassId} (hat : newarray.typeOf atype = ty) (harr : Cond.arrayClass ty ∈ zTB) (ht : (nty cs)[t0]? = some (cA, ty)) (hra : ∀ (U : State) (c : ClassId), va_RA U c ty → U.vm.findClass ("[" ++ ty.toString) = some c)
    {n : Int} {v : Int32} {N' : Nat} {a0 : vp_A} (ha : ∀ cA : ClassId, vp_cell cA a0 = arrV cA N' (fun _ => defaultValue ty)) (hn : ¬ v < 0) (hN : v.toNatClampNeg = N') (hbytes : N' * componentBytes ty ≤ 536870912)
    (hlv : lv_has ls X.2.2.1 [(0, .ref h0)]) (hd0 : dec X pc = .ok (.aload_n 0, 1))
    (hd1 : (L = 2 ∧ dec X (pc + 1) = .ok (.bipush n, 2) ∧ (Int8.ofInt n).toInt32 = v) ∨ (L = 3 ∧ dec X (pc + 1) = .ok (.sipush n, 3) ∧ (Int16.ofInt n).toInt32 = v) ∨ (L = 1 ∧ dec X (pc + 1) = .ok (.iconst n, 1) ∧ Int32.ofInt n = v))
    (hd2 : dec X (pc + 1 + L) = .ok (.newarray atype, 2)) (hd3 : dec X (pc + 1 + L + 2) = .ok (.putfield ix, 3))
    (hj : j < N) (hdecl : (T j).1 = X.1.cls) (hlink : Cond.fieldLink X.1.cls ix X.1.cls (T j).2.1 (T j).2.2.1 ∈ zTB) (hfin : (T j).2.2.2 = true) {fty : FieldType} (hfd : parseFieldDescriptor (T j).2.2.1 = some fty) (hnar : ∀ q : Nat, narrow fty (.ref q) = .ref q) (hfit : ∀ q : Nat, fits fty (.ref q) = true)
    (hlen : fs.length = N) (hP : va_P D vwCl ((h0, .inr (k, fs)) :: ws) H) (hD : va_D A ((h0, .inr (k, fs)) :: ws)) (hS : va_S A H0 H locs) (hA : ∀ q, H0.size ≤ q → A q) (hcells : cells + 1 ≤ R.cells) (hslots : slots + N' ≤ R.slots)
    (kk : ∀ (q : Nat) (H1 : Heap) (locs1 : List Loc) (fs1 : List Value) (ws1 : va_W), fs1 = fs.set j (.ref q) → ws1 = ws ++ [(q, .inl (cA, a0))] → fs1.length = N → va_P D vwCl ((h0, .inr (k, fs1)) :: ws1) H1 → va_D A ((h0, .inr (k, fs1)) :: ws1) → va_S A H0 H1 locs1 →
      W p l e R s m args below meth c H1 locs1 (cells + 1) (slots + N') Q (F0 m (pc + 1 + L + 2 + 3) ls [])) : W p l e R s m args below meth c H locs cells slots Q (F0 m pc ls []) := by
  refine lv_aload_n hexec hb hd0 rfl (lv_at hlv 0 rfl) ?_
  have push : W p l e R s m args below meth c H locs cells slots Q (F0 m (pc + 1 + L) ls [.int v, .ref h0]) → W p l e R s m args below meth c H locs cells slots Q (F0 m (pc + 1) ls [.ref h0]) := by
    intro k0
    rcases hd1 with ⟨rfl, d, e⟩ | ⟨rfl, d, e⟩ | ⟨rfl, d, e⟩
    · exact lv_bipush hexec hb d e k0
    · exact lv_sipush hexec hb d e k0
    · exact lv_iconst hexec hb d e k0
  refine push ?_
  refine nw_arr (X := X) hexec hb hts hat harr hK t0 ht hra hP hD hS hA ha hn hN hbytes hcells hslots hd2 (fun q H1 P1 D1 S1 => ?_)
  refine va_putF (D := D) (cl := vwCl) (ci := k) (v := .ref q) (ty := fty) (C := C) (T := T) (N := N) (ref := X.1.cls) hexec hb hts hinT ty0 hty hnm hown hK.1 P1 D1 S1 0 rfl hc j hj (hts _ hlink) (by rw [hdecl]; exact fun _ h => h) hfin hin hdecl hfd (hnar q) (hfit q) (by rw [hlen]; exact hj) hd3 (fun H2 locs2 P2 D2 S2 => ?_)
  exact kk q H2 locs2 _ _ rfl rfl (by rw [List.length_set]; exact hlen) P2 D2 S2
theorem nw_mfield {Y : zD} {k N j ix : Nat} {C : String} {T : u_T} {fs : List Value} {h0 k1 mc ms N1 ix1 ix2 : Nat} {C1 : String} {T1 : u_T} {Sh : Nat → va_W → Prop} (hM : NCt l Y k1 mc ms D cs Sh)
    (hexec : p.tables.exec = Jvm.exec) (hb : c.code = X.2.1) (hml : c.maxLocals = X.2.2.1) (hts : ∀ w ∈ zTB, w.before args s = true) (hown : s.vm.findClass X.1.cls = some m.cls) (hin : meth.name = "<init>") (hK : nK D cs s)
    (hc : vwCl[k]? = some (C, T, N)) (hinT : ∀ w ∈ u_ws C T N, w ∈ zTB) (ty0 : Nat → FieldType) (hty : ∀ k, k < N → parseFieldDescriptor (T k).2.2.1 = some (ty0 k)) (hnm : ∀ a, a < N → ∀ b, b < N → a ≠ b → (T a).2.1 ≠ (T b).2.1)
    (hc1 : vwCl[k1]? = some (C1, T1, N1)) (hin1 : ∀ w ∈ u_ws C1 T1 N1, w ∈ zTB) (ty1 : Nat → FieldType) (hty1 : ∀ k, k < N1 → parseFieldDescriptor (T1 k).2.2.1 = some (ty1 k)) (hfs : ∀ j, j < N1 → defaultValue (ty1 j) = vp_V (nfs k1) j)
    (hcl : Cond.classLink X.1.cls ix1 C1 ∈ zTB) (hinst : Cond.instantiable C1 N1 ∈ zTB) (hini : Cond.initialized C1 ∈ zTB) (hci : zCI X.1.cls ix2 Y)
    (hroom : Y.2.2.2.2.1 + 1 ≤ R.frames ∧ 8 + (Y.2.2.1 + 11) + Y.2.2.2.2.2 ≤ R.locals)
    (hlv : lv_has ls X.2.2.1 [(0, .ref h0)]) (hd0 : dec X pc = .ok (.aload_n 0, 1)) (hd1 : dec X (pc + 1) = .ok (.new ix1, 3)) (hd2 : dec X (pc + 1 + 3) = .ok (.dup, 1)) (hd3 : dec X (pc + 1 + 4) = .ok (.invokespecial ix2, 3)) (hd4 : dec X (pc + 1 + 7) = .ok (.putfield ix, 3))
    (hj : j < N) (hdecl : (T j).1 = X.1.cls) (hlink : Cond.fieldLink X.1.cls ix X.1.cls (T j).2.1 (T j).2.2.1 ∈ zTB) (hfin : (T j).2.2.2 = true) {fty : FieldType} (hfd : parseFieldDescriptor (T j).2.2.1 = some fty) (hnar : ∀ q : Nat, narrow fty (.ref q) = .ref q) (hfit : ∀ q : Nat, fits fty (.ref q) = true)
    (hlen : fs.length = N) (hP : va_P D vwCl ((h0, .inr (k, fs)) :: ws) H) (hD : va_D A ((h0, .inr (k, fs)) :: ws)) (hS : va_S A H0 H locs) (hA : ∀ q, H0.size ≤ q → A q) (hcells : cells + 1 + mc ≤ R.cells) (hslots : slots + N1 + ms ≤ R.slots)
    (kk : ∀ (q : Nat) (w1 : va_W) (H1 : Heap) (locs1 : List Loc) (fs1 : List Value) (ws1 : va_W), Sh q w1 → fs1 = fs.set j (.ref q) → ws1 = ws ++ w1 → fs1.length = N → va_P D vwCl ((h0, .inr (k, fs1)) :: ws1) H1 → va_D A ((h0, .inr (k, fs1)) :: ws1) → va_S A H0 H1 locs1 →
      W p l e R s m args below meth c H1 locs1 (cells + 1 + mc) (slots + N1 + ms) Q (F0 m (pc + 1 + 7 + 3) ls [])) : W p l e R s m args below meth c H locs cells slots Q (F0 m pc ls []) := by
  refine lv_aload_n hexec hb hd0 rfl (lv_at hlv 0 rfl) ?_
  refine nw_make (X := X) (Y := Y) (k := k1) (C := C1) (T := T1) (N := N1) hM hexec hb hml hts hown hc1 hin1 ty1 hty1 hfs hcl hinst hini hci hroom (show 1 + (1 + 0) ≤ 8 by decide) hlv.1 hK hP hD hS hA hcells hslots hd1 hd2 hd3 (fun q w1 H1 locs1 sh P1 D1 S1 => ?_)
  refine va_putF (D := D) (cl := vwCl) (ci := k) (v := .ref q) (ty := fty) (C := C) (T := T) (N := N) (ref := X.1.cls) hexec hb hts hinT ty0 hty hnm hown hK.1 P1 D1 S1 0 rfl hc j hj (hts _ hlink) (by rw [hdecl]; exact fun _ h => h) hfin hin hdecl hfd (hnar q) (hfit q) (by rw [hlen]; exact hj) hd4 (fun H2 locs2 P2 D2 S2 => ?_)
  exact kk q w1 H2 locs2 _ _ sh rfl rfl (by rw [List.length_set]; exact hlen) P2 D2 S2
end
