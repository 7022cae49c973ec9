/-! ===== rows: Math, block moves, strings, the script ===== -/
section
variable {l : Launch} {X : zD} {T : zT} {pc pc' : Nat} {lv lv' : List (Nat × zV)} {st st' : List zV} {M M' : zM}
theorem zmin_i {x y : Int} (hx : zI x) (hy : zI y) : (if Int32.ofInt y < Int32.ofInt x then Int32.ofInt y else Int32.ofInt x) = Int32.ofInt (min x y) := by
  by_cases h : y < x
  · rw [if_pos ((zI_lt hy hx).mpr h), Int.min_eq_right (by omega)]
  · rw [if_neg (fun q => h ((zI_lt hy hx).mp q)), Int.min_eq_left (by omega)]
theorem zmin_l {x y : Int} (hx : zJ x) (hy : zJ y) : (if Int64.ofInt y < Int64.ofInt x then Int64.ofInt y else Int64.ofInt x) = Int64.ofInt (min x y) := by
  by_cases h : y < x
  · rw [if_pos ((zJ_lt hy hx).mpr h), Int.min_eq_right (by omega)]
  · rw [if_neg (fun q => h ((zJ_lt hy hx).mp q)), Int.min_eq_left (by omega)]
theorem aw_min {ix : Nat} {x y : Int} (hd : dec X pc = .ok (.invokestatic ix, 3)) (hp : pc + 3 = pc') (hc : zMn X.1.cls ix) (hroom : 1 ≤ T.1.frames ∧ zsz st + 13 ≤ T.1.locals) (hx : zI x) (hy : zI y) (kk : AW l X T pc' lv (zi (min x y) :: st) M) : AW l X T pc lv (zi y :: zi x :: st) M := by
  subst hp
  refine AW.go (fun _ h _ => zok1i (zokt (zokt h))) ?_ kk
  intro g p e s m args below meth c H locs ls Q hC hW hS hlv host hk
  obtain ⟨hx', hb, hml, hown, hts, hr', hlo, hK, hnm, hcl1, hsl1⟩ := id hC
  refine va_mmin hx' hb (hml.trans hlv.1.symm) hown (hts _ hc.1) (hts _ hc.2.1) (hts _ hc.2.2.1) (hts _ hc.2.2.2) hroom.1 (by rw [zst_cat]; exact hroom.2) hcl1 hsl1 hd ?_
  rw [zmin_i hx hy]
  exact hk
def zMnL (own : String) (ix : Nat) : Prop := Cond.methodLink own ix Lib.MathLoose.min_long.x ∈ zTB ∧ Cond.static Lib.MathLoose.min_long.x ∈ zTB ∧ Cond.initialized "java/lang/Math" ∈ zTB ∧ Cond.code Lib.MathLoose.min_long.x Lib.MathLoose.min_long.code 4 (some .long) ∈ zTB
theorem zlen_sm (k : Nat) : zlen k ≤ 1000000 := by
  have h : ∀ n ∈ zlenL, n ≤ 1000000 := by decide
  unfold zlen
  rw [List.getD_eq_getElem?_getD]
  cases hq : zlenL[k]? with
  | none => simp
  | some n => exact h n (List.mem_of_getElem? hq)
theorem aw_minL {ix : Nat} {x y : Int} (hd : dec X pc = .ok (.invokestatic ix, 3)) (hp : pc + 3 = pc') (hc : zMnL X.1.cls ix) (hroom : 1 ≤ T.1.frames ∧ zsz st + 15 ≤ T.1.locals) (hx : zJ x) (hy : zJ y) (kk : AW l X T pc' lv (zl (min x y) :: st) M) : AW l X T pc lv (zl y :: zl x :: st) M := by
  subst hp
  refine AW.go (fun _ h _ => zok1l (zokt (zokt h))) ?_ kk
  intro g p e s m args below meth c H locs ls Q hC hW hS hlv host hk
  obtain ⟨hx', hb, hml, hown, hts, hr', hlo, hK, hnm, hcl1, hsl1⟩ := id hC
  refine va_mmin_long hx' hb (hml.trans hlv.1.symm) hown (hts _ hc.1) (hts _ hc.2.1) (hts _ hc.2.2.1) (hts _ hc.2.2.2) hroom.1 (by rw [zst_cat]; exact hroom.2) hcl1 hsl1 hd ?_
  rw [zmin_l hx hy]
  exact hk
-- System.arraycopy of int arrays, from 0 to 0
def zCp (own : String) (ix : Nat) : Prop := Cond.methodLink own ix arraycopyName ∈ zTB ∧ Cond.native arraycopyName ∈ zTB ∧ Cond.static arraycopyName ∈ zTB ∧ Cond.initialized "java/lang/System" ∈ zTB
/-- a block of an array moved, from s0 on, to d0 on -/
def zcq (M : zM) (k0 i0 : Nat) (s0 : Int) (k1 i1 : Nat) (d0 n : Int) : zM := fun k i j => if k = k1 ∧ i = i1 ∧ d0 ≤ j ∧ j < d0 + n then M k0 i0 (s0 + (j - d0)) else M k i j
theorem zcq_o {M : zM} {k0 i0 k1 i1 : Nat} {s0 d0 n : Int} : ∀ k' i', ¬ (k' = k1 ∧ i' = i1) → zcq M k0 i0 s0 k1 i1 d0 n k' i' = M k' i' := by
  intro k' i' h
  funext j
  exact if_neg fun q => h ⟨q.1, q.2.1⟩
theorem zcp_q {M : zM} {k0 i0 k1 i1 : Nat} {n : Int} : zcp M k0 i0 k1 i1 n = zcq M k0 i0 0 k1 i1 0 n := by
  funext k i j
  unfold zcp zcq
  simp only [Int.zero_add, Int.sub_zero]
theorem zcq_O {g : zG} {M : zM} {k0 i0 k1 i1 : Nat} {s0 d0 n : Int} (hO : zO g M) (hk : k1 ≠ 97) (hr : ∀ j, zrp k1 j = none) : zO g (zcq M k0 i0 s0 k1 i1 d0 n) := by
  have e : ∀ q, zcq M k0 i0 s0 k1 i1 d0 n 97 0 q = M 97 0 q := fun q => if_neg fun z => hk z.1.symm
  refine hO.u (fun q => e q) ?_
  intro k i j k' h1 h2 h3 h4
  rw [e] at h2 ⊢
  by_cases c : k = k1
  · rw [c, hr] at h4; cases h4
  · rw [show zcq M k0 i0 s0 k1 i1 d0 n k i j = M k i j from if_neg fun z => c z.1]
    exact hO.2.2.1 k i j k' h1 h2 h3 h4
/-- what an int, boolean, byte array may hold -/
def zft (t : Nat) (x : Int) : Prop := t = 0 ∨ (t = 1 ∧ (x = 0 ∨ x = 1)) ∨ (t = 2 ∧ -128 ≤ x ∧ x < 128)
theorem zft_b {x : Int} (h : -128 ≤ x ∧ x < 128) : fits .byte (.int (Int32.ofInt x)) = true := by
  show (decide (-128 ≤ Int32.ofInt x) && decide (Int32.ofInt x ≤ 127)) = true
  rw [Bool.and_eq_true, decide_eq_true_eq, decide_eq_true_eq, Int32.le_iff_toInt_le, Int32.le_iff_toInt_le, Int32.toInt_ofInt_of_le (by omega) (by omega)]
  have e1 : (-128 : Int32).toInt = -128 := by decide
  have e2 : (127 : Int32).toInt = 127 := by decide
  omega
/-- System.arraycopy between int, boolean or byte arrays -/
theorem aw_copyG {ix k0 i0 k1 i1 t : Nat} {s0 d0 n : Int} (hd : dec X pc = .ok (.invokestatic ix, 3)) (hp : pc + 3 = pc') (hc : zCp X.1.cls ix) (hroom : 1 ≤ T.1.frames ∧ zsz st + 18 ≤ T.1.locals) (ht : t < 3) (hk0 : zaG k0 t) (hk1 : zaG k1 t) (hn : 0 ≤ n ∧ 0 ≤ s0 ∧ 0 ≤ d0 ∧ s0 + n ≤ (zln M k0 i0 : Nat) ∧ d0 + n ≤ (zln M k1 i1 : Nat)) (hl0 : zln M k0 i0 ≤ 1000000) (hl1 : zln M k1 i1 ≤ 1000000) (hft : ∀ j : Int, s0 ≤ j → j < s0 + n → zft t (M k0 i0 j)) (kk : AW l X T pc' lv st (zcq M k0 i0 s0 k1 i1 d0 n)) : AW l X T pc lv (zi n :: zi d0 :: zr k1 i1 :: zi s0 :: zr k0 i0 :: st) M := by
  subst hp
  intro g p e s m args below meth c H locs ls hC hW hS hlv hol host
  obtain ⟨hx', hb, hml, hown, hts, hr', hlo, hK, hnm, hcl1, hsl1⟩ := id hC
  obtain ⟨q1, hq1⟩ := zws_at hk1.1.1 (host (zr k1 i1) (by simp))
  obtain ⟨q0, hq0⟩ := zws_at hk0.1.1 (host (zr k0 i0) (by simp))
  have he0 := zws_get (g := g) (M := M) hq0
  have he1 := zws_get (g := g) (M := M) hq1
  have z0 := hk0.2
  have z1 := hk1.2
  rw [zent_arr hk0.1.2.2, zarr_i (by omega), hk0.2] at he0
  rw [zent_arr hk1.1.2.2, zarr_i (by omega), hk1.2] at he1
  have cl : ∀ x : Int, 0 ≤ x → x ≤ 1000000 → (((Int32.ofInt x).toNatClampNeg : Nat) : Int) = x := fun x h1 h2 => by
    rw [Int32.toNatClampNeg_ofInt_of_le (by omega) (by omega)]
    omega
  have en := cl n (by omega) (by omega)
  have es := cl s0 (by omega) (by omega)
  have ed := cl d0 (by omega) (by omega)
  have ng : ∀ x : Int, 0 ≤ x → x ≤ 1000000 → ¬ Int32.ofInt x < 0 := fun x h1 h2 h => by
    rw [Int32.lt_iff_toInt_lt, Int32.toInt_ofInt_of_le (by omega) (by omega)] at h
    have : (0 : Int32).toInt = 0 := rfl
    omega
  have hln : zln (zcq M k0 i0 s0 k1 i1 d0 n) k1 i1 = zln M k1 i1 := by
    unfold zln
    rw [show zcq M k0 i0 s0 k1 i1 d0 n k1 i1 (-1) = M k1 i1 (-1) from if_neg fun z => by omega]
  have hs := zws_set (g := g) hW.2.2 hq1 (M := M) (M' := zcq M k0 i0 s0 k1 i1 d0 n) zcq_o
  rw [zent_arr hk1.1.2.2, zarr_i (by omega), hk1.2, hln] at hs
  have hcpy : (va_cpy (fun j : Nat => Int32.ofInt (M k0 i0 (j : Int))) (fun j : Nat => Int32.ofInt (M k1 i1 (j : Int))) (Int32.ofInt s0).toNatClampNeg (Int32.ofInt d0).toNatClampNeg (Int32.ofInt n).toNatClampNeg) = fun j : Nat => Int32.ofInt (zcq M k0 i0 s0 k1 i1 d0 n k1 i1 (j : Int)) := by
    funext j
    unfold va_cpy zcq
    by_cases h : d0 ≤ (j : Int) ∧ (j : Int) < d0 + n
    · rw [if_pos (by omega), if_pos ⟨rfl, rfl, h.1, h.2⟩]
      refine congrArg (fun q : Int => Int32.ofInt (M k0 i0 q)) ?_
      omega
    · rw [if_neg (by omega), if_neg (by rintro ⟨-, -, q⟩; exact h q)]
  rw [List.map_cons, List.map_cons, List.map_cons, List.map_cons, List.map_cons, zcv_r (by omega), zcv_r (by omega)]
  obtain ⟨ty, hty⟩ : ∃ ty, (ztys g)[t]? = some (g.2.2.1 t, ty) ∧ ((t = 0 ∧ ty = .int) ∨ (t = 1 ∧ ty = .boolean) ∨ (t = 2 ∧ ty = .byte)) := by
    match t, ht with
    | 0, _ => exact ⟨_, rfl, Or.inl ⟨rfl, rfl⟩⟩
    | 1, _ => exact ⟨_, rfl, Or.inr (Or.inl ⟨rfl, rfl⟩)⟩
    | 2, _ => exact ⟨_, rfl, Or.inr (Or.inr ⟨rfl, rfl⟩)⟩
  refine va_copyi (sp := Int32.ofInt s0) (dp := Int32.ofInt d0) (n := Int32.ofInt n) (ty := ty) hx' hb (hml.trans hlv.1.symm) hown (hts _ hc.1) (hts _ hc.2.1) (hts _ hc.2.2.1) (hts _ hc.2.2.2) hK.1 hW.1 hW.2.1 hS q0 q1 t t he0 he1 hty.1 hty.1 (by rcases hty.2 with ⟨-, h⟩ | ⟨-, h⟩ | ⟨-, h⟩ <;> rw [h] <;> rfl) (ng _ (by omega) (by omega)) (ng _ (by omega) (by omega)) (ng _ (by omega) (by omega)) ?_ ?_ (fun i hi => ?_) hroom.1 (by rw [zst_cat]; exact hroom.2) hd (fun H1 locs1 h1 h2 h3 => ?_)
  · omega
  · omega
  · have h := hft ((((Int32.ofInt s0).toNatClampNeg + i : Nat)) : Int) (by omega) (by omega)
    rcases hty.2 with ⟨h1, h2⟩ | ⟨h1, h2⟩ | ⟨h1, h2⟩ <;> rw [h2]
    · rfl
    · have : M k0 i0 (((Int32.ofInt s0).toNatClampNeg + i : Nat) : Int) = 0 ∨ M k0 i0 (((Int32.ofInt s0).toNatClampNeg + i : Nat) : Int) = 1 := by unfold zft at h; omega
      rcases this with e | e <;> rw [e] <;> decide
    · exact zft_b (by unfold zft at h; omega)
  · rw [hcpy, hs] at h1 h2
    exact kk g p e s m args below meth c H1 locs1 ls hC ⟨h1, h2, zcq_O hW.2.2 hk1.1.2.1 (fun j => zrp_na hk1.1.2.2 (by omega))⟩ h3 hlv hol (zokt (zokt (zokt (zokt (zokt host)))))
theorem aw_copy {ix k0 i0 k1 i1 : Nat} {n : Int} (hd : dec X pc = .ok (.invokestatic ix, 3)) (hp : pc + 3 = pc') (hc : zCp X.1.cls ix) (hroom : 1 ≤ T.1.frames ∧ zsz st + 18 ≤ T.1.locals) (hk0 : zar k0 0) (hk1 : zar k1 0) (hn : 0 < n ∧ n ≤ (zlen k0 : Nat) ∧ n ≤ (zlen k1 : Nat)) (kk : AW l X T pc' lv st (zcp M k0 i0 k1 i1 n)) : AW l X T pc lv (zi n :: zi 0 :: zr k1 i1 :: zi 0 :: zr k0 i0 :: st) M := by
  have l0 := zlen_sm k0
  have l1 := zlen_sm k1
  have e0 : zln M k0 i0 = zlen k0 := zln_s (by omega)
  have e1 : zln M k1 i1 = zlen k1 := zln_s (by omega)
  refine aw_copyG hd hp hc hroom (by decide : 0 < 3) hk0.G hk1.G (by rw [e0, e1]; omega) (by omega) (by omega) (fun _ _ _ => Or.inl rfl) ?_
  rw [← zcp_q]
  exact kk
-- strings: their bytes
theorem aw_compact {ix : Nat} (hd : dec X pc = .ok (.getstatic ix, 3)) (hp : pc + 3 = pc') (hc : Cond.fieldLink X.1.cls ix "java/lang/String" "COMPACT_STRINGS" "Z" ∈ zTB) (kk : AW l X T pc' lv (zi 1 :: st) M) : AW l X T pc lv st M := by
  subst hp
  refine AW.go (fun _ h _ => zok1i h) ?_ kk
  intro g p e s m args below meth c H locs ls Q hC hW hS hlv host hk
  obtain ⟨hx', hb, hml, hown, hts, hr', hlo, hK, hnm, hcl1, hsl1⟩ := id hC
  exact va_gets hx' hb hK.2.2.2.2.1 hS hown (hts _ hc) (fun x h => h) hd hk
theorem aw_former {ix : Nat} (hd : dec X pc = .ok (.getstatic ix, 3)) (hp : pc + 3 = pc') (hc : Cond.fieldLink X.1.cls ix "jdk/internal/util/Preconditions" "SIOOBE_FORMATTER" "Ljava/util/function/BiFunction;" ∈ zTB) (kk : AW l X T pc' lv (zr 63 0 :: st) M) : AW l X T pc lv st M := by
  subst hp
  refine AW.go (fun _ h _ => zok1 (v := zr 63 0) (zok_n (by decide) (show 0 < zcnt 63 by decide)) h) ?_ kk
  intro g p e s m args below meth c H locs ls Q hC hW hS hlv host hk
  obtain ⟨hx', hb, hml, hown, hts, hr', hlo, hK, hnm, hcl1, hsl1⟩ := id hC
  rw [List.map_cons] at hk
  exact va_gets hx' hb hK.2.2.2.2.2.2.1 hS hown (hts _ hc) (fun x h => h) hd hk
theorem zok_m {g : zG} {k i : Nat} (hk : 60 ≤ k ∧ k < 64) (h : zok g (zr k i)) : i < zcnt k := by
  have h' : if 60 ≤ k ∧ k < 64 then i < zcnt k else (k, i) ∈ zall g := h
  rwa [if_pos hk] at h'
theorem zs_lt {g : zG} {i : Nat} {st : List zV} (h : ∀ v ∈ zr 61 i :: st, zok g v) : i < zsN := zok_m (by decide) (h _ List.mem_cons_self)
theorem aw_coder {ix i : Nat} (hd : dec X pc = .ok (.getfield ix, 3)) (hp : pc + 3 = pc') (hc : Cond.fieldLink X.1.cls ix "java/lang/String" "coder" "B" ∈ zTB) (kk : AW l X T pc' lv (zi 0 :: st) M) : AW l X T pc lv (zr 61 i :: st) M := by
  subst hp
  refine AW.go (fun _ h _ => zok1i (zokt h)) ?_ kk
  intro g p e s m args below meth c H locs ls Q hC hW hS hlv host hk
  obtain ⟨hx', hb, hml, hown, hts, hr', hlo, hK, hnm, hcl1, hsl1⟩ := id hC
  rw [List.map_cons, zcv_r (by decide)]
  exact vk_getf hx' hb (hK.2.2.1.1 i (zs_lt host)).2.1 hS hown (hts _ hc) (fun x h => h) hd hk
theorem aw_value {ix i : Nat} (hd : dec X pc = .ok (.getfield ix, 3)) (hp : pc + 3 = pc') (hc : Cond.fieldLink X.1.cls ix "java/lang/String" "value" "[B" ∈ zTB) (kk : AW l X T pc' lv (zr 62 i :: st) M) : AW l X T pc lv (zr 61 i :: st) M := by
  subst hp
  refine AW.go (fun _ h _ => zok1 (v := zr 62 i) (zok_n (by decide) (show i < zcnt 62 from zs_lt h)) (zokt h)) ?_ kk
  intro g p e s m args below meth c H locs ls Q hC hW hS hlv host hk
  obtain ⟨hx', hb, hml, hown, hts, hr', hlo, hK, hnm, hcl1, hsl1⟩ := id hC
  rw [List.map_cons, zcv_r (by decide)] at hk
  rw [List.map_cons, zcv_r (by decide)]
  exact vk_getf hx' hb (hK.2.2.1.1 i (zs_lt host)).2.2.1 hS hown (hts _ hc) (fun x h => h) hd hk
theorem aw_slen {i : Nat} (hd : dec X pc = .ok (.arraylength, 1)) (hp : pc + 1 = pc') (kk : AW l X T pc' lv (zi (zsLen.getD i 0 : Nat) :: st) M) : AW l X T pc lv (zr 62 i :: st) M := by
  subst hp
  refine AW.go (fun _ h _ => zok1i (zokt h)) ?_ kk
  intro g p e s m args below meth c H locs ls Q hC hW hS hlv host hk
  obtain ⟨hx', hb, hml, hown, hts, hr', hlo, hK, hnm, hcl1, hsl1⟩ := id hC
  rw [List.map_cons, zcv_r (by decide)]
  have hi : i < zsN := zok_m (k := 62) (by decide) (host _ List.mem_cons_self)
  exact va_tlen hx' hb (hK.2.2.1.1 i hi).2.2.2 hS (by rw [← Int32.ofInt_eq_ofNat]) hd hk
theorem aw_sbyte {i : Nat} {j z : Int} (hd : dec X pc = .ok (.baload, 1)) (hp : pc + 1 = pc') (hj : 0 ≤ j ∧ j < (zsLen.getD i 0 : Nat)) (hz : (zsByt.getD i []).getD j.toNat 0 = Int32.ofInt z) (hs : zsLen.getD i 0 < 2000000000) (kk : AW l X T pc' lv (zi z :: st) M) : AW l X T pc lv (zi j :: zr 62 i :: st) M := by
  subst hp
  refine AW.go (fun _ h _ => zok1i (zokt (zokt h))) ?_ kk
  intro g p e s m args below meth c H locs ls Q hC hW hS hlv host hk
  obtain ⟨hx', hb, hml, hown, hts, hr', hlo, hK, hnm, hcl1, hsl1⟩ := id hC
  rw [List.map_cons, List.map_cons, zcv_r (by decide)]
  have hi : i < zsN := zok_m (k := 62) (by decide) (host (zr 62 i) (List.mem_cons_of_mem _ List.mem_cons_self))
  have e := zcl_of (j := j) (by omega)
  refine va_tb hx' hb (hK.2.2.1.1 i hi).2.2.2 hS (zin_of (by omega) hj) (v := .int (Int32.ofInt z)) ?_ hd hk
  show Value.int _ = _
  rw [show (Int32.ofInt j).toNatClampNeg = j.toNat by omega, hz]
theorem aw_callT {Y : zD} {ix n i : Nat} {As st0 : List zV} {Q : Option zV → zM → Prop} (hd : dec X pc = .ok (.invokevirtual ix, 3)) (hp : pc + 3 = pc') (hc : zCB X.1.cls ix Y n ∧ Cond.instanceMethod Y.1 ∈ zTB ∧ Cond.selects Y.1.cls Y.1 Y.1 ∈ zTB ∧ Y.1.cls = "java/lang/String") (hroom : Y.2.2.2.2.1 + 1 ≤ T.1.frames ∧ 8 + (Y.2.2.1 + 11) + Y.2.2.2.2.2 ≤ T.1.locals)
    (hst : As.reverse ++ zr 61 i :: st = st0) (hn : As.length = n) (hsz : zsz (zr 61 i :: As) ≤ Y.2.2.1) (hcat : zsz st ≤ 8) (hcall : CW l Y (zr 61 i :: As) M Q) (kk : ∀ r M', Q r M' → AW l X T pc' lv (r.toList ++ st) M') : AW l X T pc lv st0 M := by
  subst hp; subst hst
  intro g p e s m args below meth c H locs ls hC hW hS hlv hol host
  obtain ⟨⟨hpl, hcode, hini, hy, hdesc, hlink⟩, hinst, hsel, hstr⟩ := hc
  have hargs : ∀ v ∈ zr 61 i :: As, zok g v := fun v hv => by
    rcases List.mem_cons.mp hv with rfl | hv
    · exact host _ (List.mem_append_right _ List.mem_cons_self)
    · exact host _ (List.mem_append_left _ (List.mem_reverse.mpr hv))
  have hM := CWn.met (mc := 0) (ms := 0) hcall hpl hsz g hargs
  obtain ⟨hx, hb, hml, hown, hts, hr, hlo, hK, hnm, hcl1, hsl1⟩ := id hC
  have hrecv := vk_recv hK.2.2.1 (zs_lt hargs) hS
  rw [← hstr] at hrecv
  have hstack : ((As.reverse ++ zr 61 i :: st).map (zcv g)) = (As.map (zcv g)).reverse ++ .ref (g.2.1 61 i) :: st.map (zcv g) := by
    rw [List.map_append, List.map_reverse, List.map_cons, zcv_r (by omega)]
  rw [hstack]
  have hPre : PreV s H Y.1.cls (g.2.1 61 i) (zPc g (zr 61 i :: As) M) (As.map (zcv g)) := ⟨zPc_blind _ _ _, hrecv, fun U hU hW' => ⟨by rw [List.map_cons, zcv_r (by omega)], by rw [hU]; exact hW, by rw [hU]; exact hK.go hW' hS, by rw [hU]; exact Nat.le_trans hnm.2 hS.1⟩⟩
  have hokst : ∀ v ∈ st, zok g v := fun v hv => host v (List.mem_append_right _ (List.mem_cons_of_mem _ hv))
  have hD : Y.1.cls = Y.1.cls ∧ Y.1.cls ≠ "java/lang/invoke/MethodHandle" ∧ Y.1.cls ≠ "java/lang/invoke/VarHandle" ∧ (parseMethodDescriptor Y.1.desc).map (fun d => d.parameters.length) = some n := ⟨rfl, hy.1, hy.2, hdesc⟩
  rcases hlink with hlink | ⟨hst', hlink⟩
  · refine zrun hC hS hlv hol hokst ⟨hcl1, hsl1⟩ (va_runV (As := As.map (zcv g)) (rest := st.map (zcv g)) ⟨hx, hb, hml, hown, hts⟩ hM (cwV (ws' := zTB) n hts ?_ rfl rfl rfl hD hroom) hPre rfl (by rw [List.length_map]; exact hn) hlv.1 rfl (lv_room (by rw [zst_cat]; exact hcat)) hd ⟨hcl1, hsl1⟩) kk
    intro w hw
    rcases List.mem_append.mp hw with hw | hw
    · have : w ∈ zTB := by
        simp only [List.mem_cons, List.not_mem_nil, or_false] at hw
        rcases hw with rfl | rfl | rfl | rfl <;> assumption
      exact ⟨this, zgood this⟩
    · exact zgoodIn hcode w hw
  · exact zrun hC hS hlv hol hokst ⟨hcl1, hsl1⟩ (va_runVN (As := As.map (zcv g)) (rest := st.map (zcv g)) (Ts := zTB) (own := X.1.cls) ⟨hx, hb, hml, hown, hts⟩ hM ⟨va_cnB (ws' := zTB) n hts (zgoodIn hcode) rfl rfl rfl (hK.2.1 _ hlink) (hts _ hini) ⟨hy.1, hy.2, hdesc⟩ hroom, hts _ hinst, hts _ hsel⟩ hPre rfl (by rw [List.length_map]; exact hn) hlv.1 rfl (lv_room (by rw [zst_cat]; exact hcat)) hd ⟨hcl1, hsl1⟩) kk
theorem aw_i2c {x : Int} (hd : dec X pc = .ok (.i2c, 1)) (hp : pc + 1 = pc') (hx : 0 ≤ x ∧ x < 65536) (kk : AW l X T pc' lv (zi x :: st) M) : AW l X T pc lv (zi x :: st) M := by
  subst hp
  refine AW.go (fun _ h _ => h) ?_ kk
  intro g p e s m args below meth c H locs ls Q hC hW hS hlv host hk
  refine lv_i2c (v := Int32.ofInt x) hC.1 hC.2.1 hd ?_ hk
  obtain ⟨n, rfl⟩ := Int.eq_ofNat_of_zero_le hx.1
  have hn : n < 65536 := by omega
  show ((Int32.ofInt (n : Int)).toUInt32 % 65536).toInt32 = Int32.ofInt (n : Int)
  rw [Int32.ofInt_eq_ofNat]
  have h1 := pk_char (nI n)
  rw [show (nI n).toBitVec.toNat = n from pk_tn (by omega), Nat.mod_eq_of_lt hn] at h1
  exact h1
-- the script
theorem aw_sld {j z : Int} (hd : dec X pc = .ok (.iaload, 1)) (hp : pc + 1 = pc') (P : zG → Prop) (hP : ∀ g, P g → 0 ≤ j ∧ j < (g.2.2.2.1 : Nat) ∧ g.2.2.2.1 < 2000000000 ∧ g.2.2.2.2.1 j.toNat = Int32.ofInt z)
    (hT : ∀ g p s m args meth c, zC X T g p s m args meth c → P g) (kk : AW l X T pc' lv (zi z :: st) M) : AW l X T pc lv (zi j :: zr 60 0 :: st) M := by
  subst hp
  refine AW.go (fun _ h _ => zok1i (zokt (zokt h))) ?_ kk
  intro g p e s m args below meth c H locs ls Q hC hW hS hlv host hk
  obtain ⟨h1, h2, h3, h4⟩ := hP g (hT _ _ _ _ _ _ _ hC)
  obtain ⟨hx', hb, hml, hown, hts, hr', hlo, hK, hnm, hcl1, hsl1⟩ := id hC
  rw [List.map_cons, List.map_cons, zcv_r (by decide)]
  have e := zcl_of (j := j) (by omega)
  refine va_sld hx' hb hK.2.2.2.2.2.1 hK.2.2.2.2.2.2.2.1 hK.2.2.2.2.2.2.2.2.1 hS (zin_of (by omega) ⟨h1, h2⟩) hd ?_
  rw [show (Int32.ofInt j).toNatClampNeg = j.toNat by omega, h4]
  exact hk
end
