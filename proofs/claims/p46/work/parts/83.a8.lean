/-! ===== rows: what is made ===== -/
/-- the next of kind k, its places f -/
def zmg (M : zM) (k i : Nat) (f : Int → Int) : zM := fun k' i' j' => if k' = 97 ∧ i' = 0 ∧ j' = (k : Int) then (i : Int) + 1 else if k' = k ∧ i' = i then f j' else M k' i' j'
/-- a new cell's place: -1 where references lie -/
def zdf (k : Nat) (j : Int) : Int := if (zrp k j).isSome then -1 else 0
/-- as new cells are; n: the length of an array -/
def zmk (M : zM) (k i : Nat) (n : Int) : zM := zmg M k i fun j => if j < 0 then n else zdf k j
/-- like the cell i0 -/
def zcl (M : zM) (k i i0 : Nat) : zM := zmg M k i (M k i0)
def zN (g : zG) (k i q : Nat) : zG := (g.1, fun k' i' => if k' = k ∧ i' = i then q else g.2.1 k' i', g.2.2.1, g.2.2.2.1, g.2.2.2.2.1, zgo g ++ [(k, i)], zgn g)
theorem zmg_c {M : zM} {k i : Nat} {f : Int → Int} : zmg M k i f 97 0 (k : Int) = (i : Int) + 1 := if_pos ⟨rfl, rfl, rfl⟩
theorem zmg_n {M : zM} {k i : Nat} {f : Int → Int} {q : Int} (hk : k ≠ 97) (h : q ≠ (k : Int)) : zmg M k i f 97 0 q = M 97 0 q := by
  unfold zmg
  rw [if_neg (fun z => h z.2.2), if_neg (fun z => hk z.1.symm)]
theorem zmg_s {M : zM} {k i : Nat} {f : Int → Int} (hk : k ≠ 97) : zmg M k i f k i = f := by
  funext j
  unfold zmg
  rw [if_neg (fun z => hk z.1), if_pos ⟨rfl, rfl⟩]
theorem zmg_o {M : zM} {k i k' i' : Nat} {f : Int → Int} (h : ¬ (k' = k ∧ i' = i)) (h97 : k' ≠ 97) : zmg M k i f k' i' = M k' i' := by
  funext j
  unfold zmg
  rw [if_neg (fun z => h97 z.1), if_neg h]
theorem zmg_ge {M : zM} {k i : Nat} {f : Int → Int} (hk : k ≠ 97) (hi : (i : Int) = M 97 0 k) (q : Int) : M 97 0 q ≤ zmg M k i f 97 0 q := by
  by_cases h : q = (k : Int)
  · subst h; rw [zmg_c]; omega
  · rw [zmg_n hk h]; exact Int.le_refl _
theorem zO_nin {g : zG} {M : zM} {k i : Nat} (hO : zO g M) (hi : (i : Int) = M 97 0 k) : (k, i) ∉ zgo g := fun h => by
  have := ((hO.2.1 k i).mp h).2
  omega
theorem zN_X {g : zG} {k i q : Nat} (hk : 64 ≤ k) (hn : (k, i) ∉ zgo g) : zX g (zN g k i q) := by
  refine ⟨rfl, rfl, rfl, rfl, rfl, fun x hx => List.mem_append_left _ hx, fun k' i' h => if_neg ?_⟩
  rintro ⟨rfl, rfl⟩
  rcases h with h | h
  · omega
  · exact hn h
theorem zN_O {g : zG} {M : zM} {k i q : Nat} {f : Int → Int} (hO : zO g M) (hk : 64 ≤ k ∧ k < 96) (hi : (i : Int) = M 97 0 k) (hf : ∀ (j : Int) (k' : Nat), 0 ≤ j → zrp k j = some k' → f j < M 97 0 k') : zO (zN g k i q) (zmg M k i f) := by
  have h97 : k ≠ 97 := by omega
  refine ⟨?_, fun k' i' => ?_, ?_, fun q => Int.le_trans (hO.2.2.2 q) (zmg_ge h97 hi _)⟩
  · show (zgo g ++ [(k, i)]).Nodup
    rw [List.nodup_append]
    refine ⟨hO.1, by simp, ?_⟩
    intro x h1 y h2 e
    rw [List.mem_singleton] at h2
    subst h2; subst e
    exact zO_nin hO hi h1
  · show (k', i') ∈ zgo g ++ [(k, i)] ↔ _
    rw [List.mem_append, hO.2.1, List.mem_singleton]
    by_cases e : k' = k
    · subst e
      rw [zmg_c]
      constructor
      · rintro (⟨a, b⟩ | h)
        · exact ⟨a, by omega⟩
        · cases h; exact ⟨hk, by omega⟩
      · rintro ⟨a, b⟩
        by_cases e2 : i' = i
        · subst e2; exact Or.inr rfl
        · exact Or.inl ⟨a, by omega⟩
    · rw [zmg_n h97 (by omega)]
      constructor
      · rintro (h | h)
        · exact h
        · cases h; exact absurd rfl e
      · exact fun h => Or.inl h
  · intro k2 i2 j2 k' h1 h2 h3 h4
    refine Int.lt_of_lt_of_le ?_ (zmg_ge h97 hi k')
    by_cases e : k2 = k ∧ i2 = i
    · obtain ⟨rfl, rfl⟩ := e
      rw [zmg_s h97]
      exact hf j2 k' h3 h4
    · rw [zmg_o e (by omega)]
      refine hO.2.2.1 k2 i2 j2 k' h1 ?_ h3 h4
      by_cases e1 : k2 = k
      · subst e1
        rw [zmg_c] at h2
        have : i2 ≠ i := fun q => e ⟨rfl, q⟩
        omega
      · rw [zmg_n h97 (by omega)] at h2
        exact h2
theorem zent_N0 {g : zG} {M : zM} {k i q k' i' : Nat} (hO : zO g M) (hk : 64 ≤ k ∧ k < 96) (hi : (i : Int) = M 97 0 k) (hm : (k', i') ∈ zall g) : zent (zN g k i q) M k' i' = zent g M k' i' := by
  have hX := zN_X (q := q) hk.1 (zO_nin hO hi)
  have a7 := hX.2.2.2.2.2.2
  have hd : ∀ (kk : Nat) (r : Int), (64 ≤ kk ∧ kk < 96) → r < M 97 0 kk → zdo (zN g k i q) kk r = zdo g kk r := by
    intro kk r h1 h2
    unfold zdo
    split
    · rfl
    · next h => rw [a7 kk r.toNat (.inr ((hO.2.1 _ _).mpr ⟨h1, by omega⟩))]
  have hin : 64 ≤ k' → k' < 96 ∧ (i' : Int) < M 97 0 k' := fun h => by
    rcases List.mem_append.mp hm with z | z
    · have := (zlocs_mem.mp z).1; omega
    · have := (hO.2.1 _ _).mp z; omega
  unfold zent
  by_cases ho : zob k'
  · rw [if_pos ho, if_pos ho]
    have e : zfl (zN g k i q) M k' i' = zfl g M k' i' := by
      unfold zfl
      refine List.ext_getElem? fun j => ?_
      rw [List.getElem?_mapIdx, List.getElem?_mapIdx]
      cases hl : (zlay k')[j]? with
      | none => rfl
      | some o =>
        cases o with
        | none => rfl
        | some p =>
          obtain ⟨k2, a, b⟩ := p
          show some (zfv (zN g k i q) M k' i' j (some (k2, a, b))) = some (zfv g M k' i' j (some (k2, a, b)))
          congr 1
          unfold zfv
          dsimp only
          rcases zlay_f hl with h | h
          · rw [if_neg h.1, if_neg h.1, a7 k2 _ (.inl (by omega))]
          · obtain ⟨rfl, h2, h3⟩ := h
            have h5 := hin h2.1
            rw [if_pos rfl, if_pos rfl, hd k2 _ h3 (hO.2.2.1 k' i' j k2 ⟨h2.1, h5.1⟩ h5.2 (by omega) (zrp_r ho hl))]
    rw [e]
  · rw [if_neg ho, if_neg ho]
    have e : zarr (zN g k i q) M k' i' = zarr g M k' i' := by
      unfold zarr
      by_cases h3 : zety k' = 3
      · rw [if_pos h3, if_pos h3]
      · rw [if_neg h3, if_neg h3]
        by_cases h4 : zety k' = 4
        · rw [if_pos h4, if_pos h4]
          congr 4
          funext j
          rw [a7 1 _ (.inl (by omega))]
        · rw [if_neg h4, if_neg h4]
          by_cases h5 : zety k' = 5
          · rw [if_pos h5, if_pos h5]
            congr 4
            funext j
            have h6 := zety_5 h5
            have h7 := hin h6.1.1
            exact hd _ _ h6.2 (hO.2.2.1 k' i' j (zel k') h6.1 h7.2 (by omega) (by unfold zrp; rw [if_pos h5]))
          · rw [if_neg h5, if_neg h5]
    rw [e]
    rfl
theorem zws_new {g : zG} {M : zM} {k i q : Nat} {f : Int → Int} (hO : zO g M) (hk : 64 ≤ k ∧ k < 96) (hi : (i : Int) = M 97 0 k) : zws (zN g k i q) (zmg M k i f) = zws g M ++ [(q, zent (zN g k i q) (zmg M k i f) k i)] := by
  have hX := zN_X (q := q) hk.1 (zO_nin hO hi)
  unfold zws
  have e : zall (zN g k i q) = zall g ++ [(k, i)] := by
    show zlocs ++ (zgo g ++ [(k, i)]) = _
    rw [List.append_assoc]
  rw [e, List.map_append, List.map_cons, List.map_nil]
  congr 1
  · refine List.map_congr_left fun x hx => ?_
    obtain ⟨k', i'⟩ := x
    have h1 : k' < 60 ∨ (k', i') ∈ zgo g := by
      rcases List.mem_append.mp hx with z | z
      · exact Or.inl (zlocs_mem.mp z).1
      · exact Or.inr z
    have h2 : ¬ (k' = k ∧ i' = i) := by
      rintro ⟨rfl, rfl⟩
      rcases h1 with h | h
      · omega
      · exact zO_nin hO hi h
    have h3 : k' ≠ 97 := by
      rcases h1 with h | h
      · omega
      · have := ((hO.2.1 _ _).mp h).1; omega
    show ((zN g k i q).2.1 k' i', zent (zN g k i q) (zmg M k i f) k' i') = (g.2.1 k' i', zent g M k' i')
    rw [hX.2.2.2.2.2.2 k' i' (by rcases h1 with h | h; exact .inl (by omega); exact .inr h), zent_congr (M := zmg M k i f) (zmg_o h2 h3), zent_N0 hO hk hi hx]
  · show [((if k = k ∧ i = i then q else g.2.1 k i), _)] = _
    rw [if_pos ⟨rfl, rfl⟩]
section
variable {l : Launch} {X : zD} {T : zT} {pc pc' : Nat} {lv lv' : List (Nat × zV)} {st st' : List zV} {M M' : zM}
theorem zgrow {g : zG} {p : Program} {e : Jvm.Env} {s : State} {m : MethodId} {args : Array Value} {below : List Frame} {meth : Method} {c : Code} {H1 : Heap} {locs : List Loc} {ls : Array Slot} {k i q a b : Nat} {f : Int → Int} {E : va_E}
    (hC : zC X T g p s m args meth c) (hO : zO g M) (hk : 64 ≤ k ∧ k < 96) (hi : (i : Int) = M 97 0 k) (hf : ∀ (j : Int) (k' : Nat), 0 ≤ j → zrp k j = some k' → f j < M 97 0 k') (hrm : T.2.1 + a ≤ T.1.cells ∧ T.2.2.1 + b ≤ T.1.slots)
    (h1 : va_P g.1 vwCl (zws g M ++ [(q, E)]) H1) (h2 : va_D (zA g) (zws g M ++ [(q, E)])) (h3 : va_S (zA g) s.heap H1 locs) (hE : zent (zN g k i q) (zmg M k i f) k i = E)
    (hlv : lv_has ls X.2.2.1 (zlv g lv)) (hol : ∀ q ∈ lv, zok g q.2) (host : ∀ v ∈ st, zok g v) (kk : AW l X (zT2 T a b) pc' lv (zr k i :: st) (zmg M k i f)) :
    W p l e T.1 s m args below meth c H1 locs (T.2.1 + a) (T.2.2.1 + b) (zPo T g s args below) (F0 m pc' ls (.ref q :: st.map (zcv g))) := by
  have hX := zN_X (q := q) hk.1 (zO_nin hO hi)
  have eW := zws_new (q := q) (f := f) hO hk hi
  rw [hE] at eW
  have h := kk (zN g k i q) p e s m args below meth c H1 locs ls (zC.of2 (hX.C hC) hrm) ⟨by rw [eW]; exact h1, by rw [eW, hX.A]; exact h2, zN_O hO hk hi hf⟩ (by rw [hX.A]; exact h3) (by rw [hX.lv hol]; exact hlv) (fun q hq => hX.ok (hol q hq))
    (zok1 (zok_of (by omega) (List.mem_append_right _ (List.mem_append_right _ (List.mem_singleton.mpr rfl)))) (fun v hv => hX.ok (host v hv)))
  have e1 : ((zr k i :: st).map (zcv (zN g k i q))) = .ref q :: st.map (zcv g) := by
    rw [List.map_cons, zcv_r (by omega), hX.st host]
    show Value.ref (if k = k ∧ i = i then q else g.2.1 k i) :: _ = _
    rw [if_pos ⟨rfl, rfl⟩]
  rw [e1] at h
  exact zWm h (zPo.of hX)
/-- an object's fields when it is made -/
def zdl (k : Nat) : List Value := (zlay k).map fun o => match o with
  | none => .int 0
  | some _ => .null
theorem zent_ob0 {g : zG} {k i q : Nat} {n : Int} (ho : zob k) (hk : 64 ≤ k ∧ k < 96) : zent (zN g k i q) (zmk M k i n) k i = .inr (zci k, zdl k) := by
  rw [zent_ob ho]
  congr 2
  unfold zfl zdl
  refine List.ext_getElem? fun j => ?_
  rw [List.getElem?_mapIdx, List.getElem?_map]
  have e : zmk M k i n k i j = zdf k j := by
    unfold zmk
    rw [zmg_s (by omega), if_neg (by omega)]
  cases hl : (zlay k)[j]? with
  | none => rfl
  | some o =>
    cases o with
    | none =>
      show some (Value.int (Int32.ofInt (zmk M k i n k i j))) = some (Value.int 0)
      rw [e, zdf, zrp_no ho hl]
      rfl
    | some p =>
      obtain ⟨k2, a, b⟩ := p
      show some (zfv (zN g k i q) (zmk M k i n) k i j (some (k2, a, b))) = some Value.null
      unfold zfv
      dsimp only
      rcases zlay_f hl with h | h
      · omega
      · obtain ⟨rfl, -, -⟩ := h
        rw [if_pos rfl, e, zdf, zrp_r ho hl]
        rfl
/-- the pool entry ix of own is the class of kind k, of n fields -/
def zNW (own : String) (ix k n : Nat) : Prop := ∃ (C : String) (TT : u_T) (ty : Nat → FieldType), vwCl[zci k]? = some (C, TT, n) ∧ zob k ∧ (64 ≤ k ∧ k < 96) ∧ (∀ w ∈ u_ws C TT n, w ∈ zTB) ∧ (∀ k, k < n → parseFieldDescriptor (TT k).2.2.1 = some (ty k)) ∧
  Cond.classLink own ix C ∈ zTB ∧ Cond.instantiable C n ∈ zTB ∧ Cond.initialized C ∈ zTB ∧ ∀ j, j < n → defaultValue (ty j) = vp_V (zdl k) j
theorem zmk_f {k : Nat} {n : Int} (hO : ∀ k : Nat, 0 ≤ M 97 0 k) : ∀ (j : Int) (k' : Nat), 0 ≤ j → zrp k j = some k' → (if j < 0 then n else zdf k j) < M 97 0 k' := by
  intro j k' h1 h2
  have := hO k'
  rw [if_neg (by omega), zdf, h2]
  show (-1 : Int) < _
  omega
theorem aw_new {ix k n : Nat} (hd : dec X pc = .ok (.new ix, 3)) (hp : pc + 3 = pc') (hc : zNW X.1.cls ix k n) (hrm : T.2.1 + 1 ≤ T.1.cells ∧ T.2.2.1 + n ≤ T.1.slots) (kk : ∀ i : Nat, (i : Int) = M 97 0 k → AW l X (zT2 T 1 n) pc' lv (zr k i :: st) (zmk M k i 0)) : AW l X T pc lv st M := by
  subst hp
  intro g p e s m args below meth c H locs ls hC hW hS hlv hol host
  obtain ⟨C, TT, ty, hcl, hob, hk, hin, hty, hlink, hinst, hini, hdf⟩ := hc
  obtain ⟨hx, hb, hml, hown, hts, hr, hlo, hK, hnm, hcl1, hsl1⟩ := id hC
  have h0 := hW.2.2.2.2.2 k
  obtain ⟨i, hi⟩ : ∃ i : Nat, (i : Int) = M 97 0 k := ⟨(M 97 0 k).toNat, by omega⟩
  refine va_new (ci := zci k) (fs := zdl k) hx hb hts hin ty hty hown (hts _ hlink) (hts _ hinst) (hts _ hini) hK.1 hW.1 hW.2.1 hS (fun q hq => Nat.le_trans hnm.2 hq) hcl hdf hrm.1 hrm.2 hd (fun q H1 h1 h2 h3 => ?_)
  exact zgrow hC hW.2.2 hk hi (zmk_f hW.2.2.2.2.2) hrm h1 h2 h3 (zent_ob0 hob hk) hlv hol host (kk i hi)
theorem zent_ar0 {g : zG} {k i q t : Nat} {n : Int} (hk : zad k t) (ht : t < 3) (hl : zlen k = 0 ∨ (zlen k : Int) = n) : zent (zN g k i q) (zmk M k i n) k i = .inl (g.2.2.1 t, n.toNat, .inl fun _ => 0) := by
  have h2 := hk.2
  have h3 := hk.G.1.2.2
  rw [zent_arr h3, zarr_i (by omega), hk.2]
  have e1 : zln (zmk M k i n) k i = n.toNat := by
    unfold zln
    have : zmk M k i n k i (-1) = n := by
      unfold zmk
      rw [zmg_s (by omega), if_pos (by omega)]
    rw [this]
    split <;> omega
  have e2 : (fun j : Nat => Int32.ofInt (zmk M k i n k i (j : Int))) = fun _ => 0 := by
    funext j
    unfold zmk
    rw [zmg_s (by omega), if_neg (by omega), zdf, zrp_na h3 (by omega)]
    rfl
  rw [e1, e2]
  rfl
def zat (t : Nat) (a : ArrayType) : Prop := (t = 0 ∧ a = .int) ∨ (t = 1 ∧ a = .boolean) ∨ (t = 2 ∧ a = .byte)
theorem aw_newa {k t : Nat} {n : Int} {a : ArrayType} (hd : dec X pc = .ok (.newarray a, 2)) (hp : pc + 2 = pc') (hk : zad k t) (ht : zat t a) (ha : Cond.arrayClass (newarray.typeOf a) ∈ zTB) (hn : 0 ≤ n ∧ n ≤ 1000000) (hl : zlen k = 0 ∨ (zlen k : Int) = n)
    (hrm : T.2.1 + 1 ≤ T.1.cells ∧ T.2.2.1 + n.toNat ≤ T.1.slots) (kk : ∀ i : Nat, (i : Int) = M 97 0 k → AW l X (zT2 T 1 n.toNat) pc' lv (zr k i :: st) (zmk M k i n)) : AW l X T pc lv (zi n :: st) M := by
  subst hp
  intro g p e s m args below meth c H locs ls hC hW hS hlv hol host
  obtain ⟨hx, hb, hml, hown, hts, hr, hlo, hK, hnm, hcl1, hsl1⟩ := id hC
  have h0 := hW.2.2.2.2.2 k
  obtain ⟨i, hi⟩ : ∃ i : Nat, (i : Int) = M 97 0 k := ⟨(M 97 0 k).toNat, by omega⟩
  have e0 : (Int32.ofInt n).toNatClampNeg = n.toNat := by rw [Int32.toNatClampNeg_ofInt_of_le (by omega) (by omega)]
  have ng : ¬ Int32.ofInt n < 0 := fun h => by
    rw [Int32.lt_iff_toInt_lt, Int32.toInt_ofInt_of_le (by omega) (by omega)] at h
    have : (0 : Int32).toInt = 0 := rfl
    omega
  have host' := zokt host
  rcases ht with ⟨rfl, rfl⟩ | ⟨rfl, rfl⟩ | ⟨rfl, rfl⟩
  · refine va_newa (atype := .int) (ty := .int) (a0 := (n.toNat, .inl fun _ => 0)) hx hb (hts _ ha) rfl hK.1 hW.1 hW.2.1 hS (fun q hq => Nat.le_trans hnm.2 hq) (fun _ => rfl) ng e0 (by show _ * 4 ≤ _; omega) hrm.1 hrm.2 hd (fun q cA H1 hK' h1 h2 h3 => ?_)
    have f1 := va_nm_int (hK'.2 6 (cA, .int) rfl).2
    have f2 := va_nm_int (hK.1.2 0 _ rfl).2
    cases f1.symm.trans f2
    exact zgrow hC hW.2.2 (by omega) hi (zmk_f hW.2.2.2.2.2) hrm h1 h2 h3 (zent_ar0 hk (by decide) hl) hlv hol host' (kk i hi)
  · refine va_newa (atype := .boolean) (ty := .boolean) (a0 := (n.toNat, .inl fun _ => 0)) hx hb (hts _ ha) rfl hK.1 hW.1 hW.2.1 hS (fun q hq => Nat.le_trans hnm.2 hq) (fun _ => rfl) ng e0 (by show _ * 1 ≤ _; omega) hrm.1 hrm.2 hd (fun q cA H1 hK' h1 h2 h3 => ?_)
    have f1 := va_nm_boolean (hK'.2 6 (cA, .boolean) rfl).2
    have f2 := va_nm_boolean (hK.1.2 1 _ rfl).2
    cases f1.symm.trans f2
    exact zgrow hC hW.2.2 (by omega) hi (zmk_f hW.2.2.2.2.2) hrm h1 h2 h3 (zent_ar0 hk (by decide) hl) hlv hol host' (kk i hi)
  · refine va_newa (atype := .byte) (ty := .byte) (a0 := (n.toNat, .inl fun _ => 0)) hx hb (hts _ ha) rfl hK.1 hW.1 hW.2.1 hS (fun q hq => Nat.le_trans hnm.2 hq) (fun _ => rfl) ng e0 (by show _ * 1 ≤ _; omega) hrm.1 hrm.2 hd (fun q cA H1 hK' h1 h2 h3 => ?_)
    have f1 := va_nm_byte (hK'.2 6 (cA, .byte) rfl).2
    have f2 := va_nm_byte (hK.1.2 2 _ rfl).2
    cases f1.symm.trans f2
    exact zgrow hC hW.2.2 (by omega) hi (zmk_f hW.2.2.2.2.2) hrm h1 h2 h3 (zent_ar0 hk (by decide) hl) hlv hol host' (kk i hi)
theorem zent_rr0 {g : zG} {k i q : Nat} {n : Int} (hk : zad k 5) (hl : zlen k = 0 ∨ (zlen k : Int) = n) : zent (zN g k i q) (zmk M k i n) k i = .inl (g.2.2.1 5, n.toNat, .inr (.inr (.inr (.inr fun _ => none)))) := by
  have h2 := hk.2
  rw [zent_arr hk.G.1.2.2, zarr_r hk.2, hk.2]
  have e1 : zln (zmk M k i n) k i = n.toNat := by
    unfold zln
    have : zmk M k i n k i (-1) = n := by
      unfold zmk
      rw [zmg_s (by omega), if_pos (by omega)]
    rw [this]
    split <;> omega
  have e2 : (fun j : Nat => zdo (zN g k i q) (zel k) (zmk M k i n k i (j : Int))) = fun _ => none := by
    funext j
    unfold zmk
    rw [zmg_s (by omega), if_neg (by omega), zdf]
    unfold zrp
    rw [if_pos hk.2]
    rfl
  rw [e1, e2]
  rfl
theorem aw_anewa {ix k : Nat} {n : Int} (hd : dec X pc = .ok (.anewarray ix, 3)) (hp : pc + 3 = pc') (hk : zad k 5) (hc : Cond.classLink X.1.cls ix "[I" ∈ zTB) (hn : 0 ≤ n ∧ n ≤ 1000000) (hl : zlen k = 0 ∨ (zlen k : Int) = n)
    (hrm : T.2.1 + 1 ≤ T.1.cells ∧ T.2.2.1 + n.toNat ≤ T.1.slots) (kk : ∀ i : Nat, (i : Int) = M 97 0 k → AW l X (zT2 T 1 n.toNat) pc' lv (zr k i :: st) (zmk M k i n)) : AW l X T pc lv (zi n :: st) M := by
  subst hp
  intro g p e s m args below meth c H locs ls hC hW hS hlv hol host
  obtain ⟨hx, hb, hml, hown, hts, hr, hlo, hK, hnm, hcl1, hsl1⟩ := id hC
  have h0 := hW.2.2.2.2.2 k
  obtain ⟨i, hi⟩ : ∃ i : Nat, (i : Int) = M 97 0 k := ⟨(M 97 0 k).toNat, by omega⟩
  have e0 : (Int32.ofInt n).toNatClampNeg = n.toNat := by rw [Int32.toNatClampNeg_ofInt_of_le (by omega) (by omega)]
  have ng : ¬ Int32.ofInt n < 0 := fun h => by
    rw [Int32.lt_iff_toInt_lt, Int32.toInt_ofInt_of_le (by omega) (by omega)] at h
    have : (0 : Int32).toInt = 0 := rfl
    omega
  have es : (FieldType.array .int).toString = "[I" := by decide +kernel
  have hlink : (Cond.classLink X.1.cls ix (FieldType.array .int).toString).before args s = true := by rw [es]; exact hts _ hc
  refine W.anewA (t := .int) hx hb hown hlink (zAI.ao hK.2.2.2.2.2.2.2.2.2.1) rfl hd rfl ng (by rw [e0]; omega) hrm.1 (by rw [e0]; exact hrm.2) (fun cA kA comp f1 f2 f3 f4 => ?_)
  rw [e0]
  have c5 : s.vm.findClass ("[" ++ (FieldType.array .int).toString) = some (g.2.2.1 5) := (hK.1.2 5 _ rfl).2
  cases f1.symm.trans c5
  have hcell : ({ cls := g.2.2.1 5, slots := Array.replicate n.toNat .null, vm := .none } : Cell) = vp_cell (g.2.2.1 5) (n.toNat, .inr (.inr (.inr (.inr fun _ => none)))) := by rw [arrV_new]; rfl
  rw [hcell]
  generalize hH1 : H.push (vp_cell (g.2.2.1 5) (n.toNat, .inr (.inr (.inr (.inr fun _ => none))))) = H1
  have z1 : H1.size = H.size + 1 := by rw [← hH1, Array.size_push]
  have e1 : H1[H.size]? = some (vp_cell (g.2.2.1 5) (n.toNat, .inr (.inr (.inr (.inr fun _ => none))))) := by rw [← hH1, Array.getElem?_push_size]
  have o1 : ∀ q : Nat, q < H.size → H1[q]? = H[q]? := fun q hq => by rw [← hH1, Array.getElem?_push, if_neg (Nat.ne_of_lt hq)]
  have hkp : ∀ (k : Nat) (y : Nat × va_E), (zws g M)[k]? = some y → H1[y.1]? = H[y.1]? := fun k y hy => o1 y.1 ((hW.1 k y hy).lt)
  have h1 : va_P g.1 vwCl (zws g M ++ [(H.size, .inl (g.2.2.1 5, n.toNat, .inr (.inr (.inr (.inr fun _ => none)))))]) H1 := (hW.1.kept hkp).app (fun k y hy => by
    have hz : k < 1 := (List.getElem?_eq_some_iff.mp hy).1
    rw [show k = 0 by omega] at hy
    cases hy
    exact e1)
  exact zgrow hC hW.2.2 (by omega) hi (zmk_f hW.2.2.2.2.2) hrm h1 (hW.2.1.push hW.1 rfl (Nat.le_trans hnm.2 hS.1)) ⟨Nat.le_trans hS.1 (by omega), fun y h1 h2 => (o1 y (Nat.lt_of_lt_of_le h1 hS.1)).trans (hS.2.1 y h1 h2), hS.2.2⟩ (zent_rr0 hk hl) hlv hol (zokt host) (kk i hi)
end
