/-! ===== rows: constants, locals, arithmetic, branches ===== -/
abbrev zI (x : Int) : Prop := -2147483648 ≤ x ∧ x < 2147483648
abbrev zJ (x : Int) : Prop := -9223372036854775808 ≤ x ∧ x < 9223372036854775808
theorem zI_lt {x y : Int} (hx : zI x) (hy : zI y) : Int32.ofInt x < Int32.ofInt y ↔ x < y := by
  rw [Int32.lt_iff_toInt_lt, Int32.toInt_ofInt_of_le (by omega) (by omega), Int32.toInt_ofInt_of_le (by omega) (by omega)]
theorem zI_le {x y : Int} (hx : zI x) (hy : zI y) : Int32.ofInt x ≤ Int32.ofInt y ↔ x ≤ y := by
  rw [Int32.le_iff_toInt_le, Int32.toInt_ofInt_of_le (by omega) (by omega), Int32.toInt_ofInt_of_le (by omega) (by omega)]
theorem zI_eq {x y : Int} (hx : zI x) (hy : zI y) : Int32.ofInt x = Int32.ofInt y ↔ x = y := by
  rw [← Int32.toInt_inj, Int32.toInt_ofInt_of_le (by omega) (by omega), Int32.toInt_ofInt_of_le (by omega) (by omega)]
theorem zJ_lt {x y : Int} (hx : zJ x) (hy : zJ y) : Int64.ofInt x < Int64.ofInt y ↔ x < y := by
  rw [Int64.lt_iff_toInt_lt, Int64.toInt_ofInt_of_le (by omega) (by omega), Int64.toInt_ofInt_of_le (by omega) (by omega)]
theorem zJ_eq {x y : Int} (hx : zJ x) (hy : zJ y) : Int64.ofInt x = Int64.ofInt y ↔ x = y := by
  rw [← Int64.toInt_inj, Int64.toInt_ofInt_of_le (by omega) (by omega), Int64.toInt_ofInt_of_le (by omega) (by omega)]
theorem zI0 : zI 0 := by omega
theorem zi0 : Int32.ofInt 0 = 0 := rfl
theorem zin_of {j : Int} {n : Nat} (hn : n ≤ 2000000000) (h : 0 ≤ j ∧ j < n) : vp_in (Int32.ofInt j) n := by
  rw [vp_in_iff, Int32.toInt_ofInt_of_le (by omega) (by omega)]
  exact h
theorem zcl_of {j : Int} (h : 0 ≤ j ∧ j < 2000000000) : (((Int32.ofInt j).toNatClampNeg : Nat) : Int) = j := by
  rw [Int32.toNatClampNeg_ofInt_of_le (by omega) (by omega)]
  omega
def zcat : zV → Nat
  | .inr (.inl _) => 2
  | .inr (.inr (.inl _)) => 2
  | _ => 1
theorem zcat_cv (g : zG) (v : zV) : (zcv g v).category = zcat v := by
  rcases v with x | x | x | ⟨k, i⟩
  · rfl
  · rfl
  · rfl
  · show (if k = 63 then (if i = 0 then (if g.2.1 63 0 = 0 then Value.null else Value.ref (g.2.1 60 1)) else Value.null) else Value.ref (g.2.1 k i)).category = 1
    by_cases h : k = 63
    · rw [if_pos h]
      by_cases h3 : i = 0
      · rw [if_pos h3]
        by_cases h2 : g.2.1 63 0 = 0
        · rw [if_pos h2]; rfl
        · rw [if_neg h2]; rfl
      · rw [if_neg h3]; rfl
    · rw [if_neg h]; rfl
/-- a store into the listed locals -/
def zst (lv : List (Nat × zV)) (i : Nat) (v : zV) : List (Nat × zV) := (i, v) :: lv.filter fun q => !(q.1 == i) && !(q.1 + 1 == i && zcat q.2 == 2) && !(zcat v == 2 && q.1 == i + 1)
theorem zst_lv1 {g : zG} {lv : List (Nat × zV)} {i : Nat} {v : zV} (h : zcat v = 1) : (i, zcv g v) :: (zlv g lv).filter (fun q => !(q.1 == i) && !(q.1 + 1 == i && q.2.category == 2)) = zlv g (zst lv i v) := by
  simp only [zlv, zst, List.map_cons, List.filter_map, List.cons.injEq, true_and]
  refine congrArg _ (List.filter_congr fun q _ => ?_)
  simp [zcat_cv, h, Function.comp]
theorem zst_lv2 {g : zG} {lv : List (Nat × zV)} {i : Nat} {v : zV} (h : zcat v = 2) : (i, zcv g v) :: (zlv g lv).filter (fun q => !(q.1 == i) && (!(q.1 == i + 1) && !(q.1 + 1 == i && q.2.category == 2))) = zlv g (zst lv i v) := by
  simp only [zlv, zst, List.map_cons, List.filter_map, List.cons.injEq, true_and]
  refine congrArg _ (List.filter_congr fun q _ => ?_)
  simp only [Function.comp, zcat_cv, h]
  cases q.1 == i <;> cases q.1 + 1 == i <;> cases q.1 == i + 1 <;> cases zcat q.2 == 2 <;> rfl
theorem zst_ok {g : zG} {lv : List (Nat × zV)} {i : Nat} {v : zV} (hv : zok g v) (h : ∀ q ∈ lv, zok g q.2) : ∀ q ∈ zst lv i v, zok g q.2 := by
  intro q hq
  rcases List.mem_cons.mp hq with rfl | hq
  · exact hv
  · exact h q (List.mem_filter.mp hq).1
theorem zlv_at {g : zG} {lv : List (Nat × zV)} {n i : Nat} {v : zV} (h : lv[n]? = some (i, v)) : (zlv g lv)[n]? = some (i, zcv g v) := by simp [zlv, h]
theorem zok1 {g : zG} {v : zV} {st : List zV} (hv : zok g v) (h : ∀ v ∈ st, zok g v) : ∀ w ∈ v :: st, zok g w := fun w hw => (List.mem_cons.mp hw).elim (fun e => e ▸ hv) (h w)
theorem zokt {g : zG} {v : zV} {st : List zV} (h : ∀ w ∈ v :: st, zok g w) : ∀ w ∈ st, zok g w := fun w hw => h w (List.mem_cons_of_mem _ hw)
section
variable {l : Launch} {X : zD} {T : zT} {pc pc' : Nat} {lv lv' : List (Nat × zV)} {st st' : List zV} {M M' : zM}
theorem zok1i {g : zG} {x : Int} {st : List zV} (h : ∀ v ∈ st, zok g v) : ∀ w ∈ zi x :: st, zok g w := zok1 (v := zi x) trivial h
theorem zok1l {g : zG} {x : Int} {st : List zV} (h : ∀ v ∈ st, zok g v) : ∀ w ∈ zl x :: st, zok g w := zok1 (v := zl x) trivial h
theorem zok1d {g : zG} {x : UInt64} {st : List zV} (h : ∀ v ∈ st, zok g v) : ∀ w ∈ zd x :: st, zok g w := zok1 (v := zd x) trivial h
/-- fewer of the locals -/
theorem aw_sub (ks : List Nat) (h : ks.filterMap (fun k => lv[k]?) = lv') (kk : AW l X T pc lv' st M) : AW l X T pc lv st M := by
  intro g p e s m args below meth c H locs ls hC hW hS hlv hol host
  refine kk g p e s m args below meth c H locs ls hC hW hS (lv_sub hlv ks ?_) (fun q hq => ?_) host
  · subst h
    simp only [lv_pick, zlv, List.map_filterMap, List.getElem?_map]
  · subst h
    obtain ⟨k, -, hk⟩ := List.mem_filterMap.mp hq
    exact hol q (List.mem_of_getElem? hk)
theorem aw_memeq (h : M = M') (kk : AW l X T pc lv st M') : AW l X T pc lv st M := h ▸ kk
theorem aw_topeq {x y : Int} (h : x = y) (kk : AW l X T pc lv (zi y :: st) M) : AW l X T pc lv (zi x :: st) M := h ▸ kk
/-- an int is what it is modulo 2^32 -/
theorem aw_wrap {x y : Int} (h : (x - y) % 4294967296 = 0) (kk : AW l X T pc lv (zi y :: st) M) : AW l X T pc lv (zi x :: st) M := by
  intro g p e s m args below meth c H locs ls hC hW hS hlv hol host
  have e1 : Int32.ofInt x = Int32.ofInt y := by
    obtain ⟨k, hk⟩ : ∃ k : Int, x = y + 4294967296 * k := ⟨(x - y) / 4294967296, by omega⟩
    rw [hk, Int32.ofInt_add, Int32.ofInt_mul, show Int32.ofInt 4294967296 = 0 by decide, Int32.zero_mul, Int32.add_zero]
  have k1 := kk g p e s m args below meth c H locs ls hC hW hS hlv hol (zok1i (zokt host))
  simp only [List.map_cons, zcv] at k1 ⊢
  rw [e1]
  exact k1

theorem aw_iconst {n : Int} (hd : dec X pc = .ok (.iconst n, 1)) (hp : pc + 1 = pc') (kk : AW l X T pc' lv (zi n :: st) M) : AW l X T pc lv (st) M := by
  subst hp
  refine AW.go (fun _ h _ => zok1i h) ?_ kk
  intro g p e s m args below meth c H locs ls Q hC hW hS hlv host hk
  exact lv_iconst hC.1 hC.2.1 hd rfl hk
theorem aw_bipush {n : Int} (hd : dec X pc = .ok (.bipush n, 2)) (hp : pc + 2 = pc') (hv : (Int8.ofInt n).toInt32 = Int32.ofInt n) (kk : AW l X T pc' lv (zi n :: st) M) : AW l X T pc lv (st) M := by
  subst hp
  refine AW.go (fun _ h _ => zok1i h) ?_ kk
  intro g p e s m args below meth c H locs ls Q hC hW hS hlv host hk
  exact lv_bipush (v := Int32.ofInt n) hC.1 hC.2.1 hd hv hk
theorem aw_sipush {n : Int} (hd : dec X pc = .ok (.sipush n, 3)) (hp : pc + 3 = pc') (hv : (Int16.ofInt n).toInt32 = Int32.ofInt n) (kk : AW l X T pc' lv (zi n :: st) M) : AW l X T pc lv (st) M := by
  subst hp
  refine AW.go (fun _ h _ => zok1i h) ?_ kk
  intro g p e s m args below meth c H locs ls Q hC hW hS hlv host hk
  exact lv_sipush (v := Int32.ofInt n) hC.1 hC.2.1 hd hv hk
theorem aw_ldc {ix : Nat} {n : Int} (hd : dec X pc = .ok (.ldc ix, 2)) (hp : pc + 2 = pc') (hc : Cond.constant X.1.cls ix (Int32.ofInt n) ∈ zTB) (kk : AW l X T pc' lv (zi n :: st) M) : AW l X T pc lv (st) M := by
  subst hp
  refine AW.go (fun _ h _ => zok1i h) ?_ kk
  intro g p e s m args below meth c H locs ls Q hC hW hS hlv host hk
  exact lv_ldc hC.1 hC.2.1 hC.2.2.2.1 (hC.2.2.2.2.1 _ hc) hd hk
theorem aw_ldc2 {ix : Nat} {n : Int} (hd : dec X pc = .ok (.ldc2_w ix, 3)) (hp : pc + 3 = pc') (hc : Cond.constantLong X.1.cls ix (Int64.ofInt n) ∈ zTB) (kk : AW l X T pc' lv (zl n :: st) M) : AW l X T pc lv (st) M := by
  subst hp
  refine AW.go (fun _ h _ => zok1l h) ?_ kk
  intro g p e s m args below meth c H locs ls Q hC hW hS hlv host hk
  exact lv_ldc2 hC.1 hC.2.1 hC.2.2.2.1 (hC.2.2.2.2.1 _ hc) hd hk
theorem aw_ldc2d {ix : Nat} {n : UInt64} (hd : dec X pc = .ok (.ldc2_w ix, 3)) (hp : pc + 3 = pc') (hc : Cond.constantDouble X.1.cls ix n ∈ zTB) (kk : AW l X T pc' lv (zd n :: st) M) : AW l X T pc lv (st) M := by
  subst hp
  refine AW.go (fun _ h _ => zok1d h) ?_ kk
  intro g p e s m args below meth c H locs ls Q hC hW hS hlv host hk
  exact lv_ldc2d hC.1 hC.2.1 hC.2.2.2.1 (hC.2.2.2.2.1 _ hc) hd hk
theorem aw_lconst {n : Fin 2} {x : Int} (hd : dec X pc = .ok (.lconst n, 1)) (hp : pc + 1 = pc') (hv : Int64.ofNat (n : Nat) = Int64.ofInt x) (kk : AW l X T pc' lv (zl x :: st) M) : AW l X T pc lv (st) M := by
  subst hp
  refine AW.go (fun _ h _ => zok1l h) ?_ kk
  intro g p e s m args below meth c H locs ls Q hC hW hS hlv host hk
  exact lv_lconst hC.1 hC.2.1 hd hv hk
theorem aw_iload {i : Nat} {x : Int} (hd : dec X pc = .ok (.iload i, 2)) (hp : pc + 2 = pc') (n : Nat) (hl : lv[n]? = some (i, zi x)) (kk : AW l X T pc' lv (zi x :: st) M) : AW l X T pc lv (st) M := by
  subst hp
  refine AW.go (fun _ h _ => zok1i h) ?_ kk
  intro g p e s m args below meth c H locs ls Q hC hW hS hlv host hk
  exact lv_iload hC.1 hC.2.1 hd (lv_at hlv n (zlv_at hl)) hk
theorem aw_iload_n {i : Nat} {x : Int} {f : Fin 4} (hd : dec X pc = .ok (.iload_n f, 1)) (hp : pc + 1 = pc') (hi : (f : Nat) = i) (n : Nat) (hl : lv[n]? = some (i, zi x)) (kk : AW l X T pc' lv (zi x :: st) M) : AW l X T pc lv (st) M := by
  subst hp
  refine AW.go (fun _ h _ => zok1i h) ?_ kk
  intro g p e s m args below meth c H locs ls Q hC hW hS hlv host hk
  exact lv_iload_n hC.1 hC.2.1 hd hi (lv_at hlv n (zlv_at hl)) hk
theorem aw_aload {i k j : Nat} (hd : dec X pc = .ok (.aload i, 2)) (hp : pc + 2 = pc') (n : Nat) (hl : lv[n]? = some (i, zr k j)) (hk0 : k ≠ 63) (kk : AW l X T pc' lv (zr k j :: st) M) : AW l X T pc lv (st) M := by
  subst hp
  refine AW.go (fun _ h hl0 => zok1 (hl0 _ (List.mem_of_getElem? hl)) h) ?_ kk
  intro g p e s m args below meth c H locs ls Q hC hW hS hlv host hk
  rw [List.map_cons, zcv_r hk0] at hk
  exact lv_aload hC.1 hC.2.1 hd (lv_at hlv n ((zlv_at hl).trans (by rw [zcv_r hk0]))) hk
theorem aw_aload_n {i k j : Nat} {f : Fin 4} (hd : dec X pc = .ok (.aload_n f, 1)) (hp : pc + 1 = pc') (hi : (f : Nat) = i) (n : Nat) (hl : lv[n]? = some (i, zr k j)) (hk0 : k ≠ 63) (kk : AW l X T pc' lv (zr k j :: st) M) : AW l X T pc lv (st) M := by
  subst hp
  refine AW.go (fun _ h hl0 => zok1 (hl0 _ (List.mem_of_getElem? hl)) h) ?_ kk
  intro g p e s m args below meth c H locs ls Q hC hW hS hlv host hk
  rw [List.map_cons, zcv_r hk0] at hk
  exact lv_aload_n hC.1 hC.2.1 hd hi (lv_at hlv n ((zlv_at hl).trans (by rw [zcv_r hk0]))) hk
theorem aw_lload {i : Nat} {x : Int} (hd : dec X pc = .ok (.lload i, 2)) (hp : pc + 2 = pc') (n : Nat) (hl : lv[n]? = some (i, zl x)) (kk : AW l X T pc' lv (zl x :: st) M) : AW l X T pc lv (st) M := by
  subst hp
  refine AW.go (fun _ h _ => zok1l h) ?_ kk
  intro g p e s m args below meth c H locs ls Q hC hW hS hlv host hk
  exact lv_lload hC.1 hC.2.1 hd (lv_at hlv n (zlv_at hl)) hk
theorem aw_lload_n {i : Nat} {x : Int} {f : Fin 4} (hd : dec X pc = .ok (.lload_n f, 1)) (hp : pc + 1 = pc') (hi : (f : Nat) = i) (n : Nat) (hl : lv[n]? = some (i, zl x)) (kk : AW l X T pc' lv (zl x :: st) M) : AW l X T pc lv (st) M := by
  subst hp
  refine AW.go (fun _ h _ => zok1l h) ?_ kk
  intro g p e s m args below meth c H locs ls Q hC hW hS hlv host hk
  exact lv_lload_n hC.1 hC.2.1 hd hi (lv_at hlv n (zlv_at hl)) hk
theorem aw_dload_n {i : Nat} {x : UInt64} {f : Fin 4} (hd : dec X pc = .ok (.dload_n f, 1)) (hp : pc + 1 = pc') (hi : (f : Nat) = i) (n : Nat) (hl : lv[n]? = some (i, zd x)) (kk : AW l X T pc' lv (zd x :: st) M) : AW l X T pc lv (st) M := by
  subst hp
  refine AW.go (fun _ h _ => zok1d h) ?_ kk
  intro g p e s m args below meth c H locs ls Q hC hW hS hlv host hk
  exact lv_dload_n hC.1 hC.2.1 hd hi (lv_at hlv n (zlv_at hl)) hk
theorem aw_istore {i : Nat} {x : Int} (hd : dec X pc = .ok (.istore i, 2)) (hp : pc + 2 = pc') (hn : i < X.2.2.1) (hl : zst lv i (zi x) = lv') (kk : AW l X T pc' lv' st M) : AW l X T pc lv (zi x :: st) M := by
  subst hp; subst hl
  intro g p e s m args below meth c H locs ls hC hW hS hlv hol host
  exact lv_istore hC.1 hC.2.1 hd hlv hn (zst_lv1 (v := zi x) rfl) (fun ls' hls' => kk g p e s m args below meth c H locs ls' hC hW hS hls' (zst_ok (by trivial) hol) (zokt host))
theorem aw_istore_n {i : Nat} {x : Int} {f : Fin 4} (hd : dec X pc = .ok (.istore_n f, 1)) (hp : pc + 1 = pc') (hi : (f : Nat) = i) (hn : i < X.2.2.1) (hl : zst lv i (zi x) = lv') (kk : AW l X T pc' lv' st M) : AW l X T pc lv (zi x :: st) M := by
  subst hp; subst hl
  intro g p e s m args below meth c H locs ls hC hW hS hlv hol host
  exact lv_istore_n hC.1 hC.2.1 hd hi hlv hn (zst_lv1 (v := zi x) rfl) (fun ls' hls' => kk g p e s m args below meth c H locs ls' hC hW hS hls' (zst_ok (by trivial) hol) (zokt host))
theorem aw_lstore {i : Nat} {x : Int} (hd : dec X pc = .ok (.lstore i, 2)) (hp : pc + 2 = pc') (hn : i + 1 < X.2.2.1) (hl : zst lv i (zl x) = lv') (kk : AW l X T pc' lv' st M) : AW l X T pc lv (zl x :: st) M := by
  subst hp; subst hl
  intro g p e s m args below meth c H locs ls hC hW hS hlv hol host
  exact lv_lstore hC.1 hC.2.1 hd hlv hn (zst_lv2 (v := zl x) rfl) (fun ls' hls' => kk g p e s m args below meth c H locs ls' hC hW hS hls' (zst_ok (by trivial) hol) (zokt host))
theorem aw_lstore_n {i : Nat} {x : Int} {f : Fin 4} (hd : dec X pc = .ok (.lstore_n f, 1)) (hp : pc + 1 = pc') (hi : (f : Nat) = i) (hn : i + 1 < X.2.2.1) (hl : zst lv i (zl x) = lv') (kk : AW l X T pc' lv' st M) : AW l X T pc lv (zl x :: st) M := by
  subst hp; subst hl
  intro g p e s m args below meth c H locs ls hC hW hS hlv hol host
  exact lv_lstore_n hC.1 hC.2.1 hd hi hlv hn (zst_lv2 (v := zl x) rfl) (fun ls' hls' => kk g p e s m args below meth c H locs ls' hC hW hS hls' (zst_ok (by trivial) hol) (zokt host))
theorem aw_dstore_n {i : Nat} {x : UInt64} {f : Fin 4} (hd : dec X pc = .ok (.dstore_n f, 1)) (hp : pc + 1 = pc') (hi : (f : Nat) = i) (hn : i + 1 < X.2.2.1) (hl : zst lv i (zd x) = lv') (kk : AW l X T pc' lv' st M) : AW l X T pc lv (zd x :: st) M := by
  subst hp; subst hl
  intro g p e s m args below meth c H locs ls hC hW hS hlv hol host
  exact lv_dstore_n hC.1 hC.2.1 hd hi hlv hn (zst_lv2 (v := zd x) rfl) (fun ls' hls' => kk g p e s m args below meth c H locs ls' hC hW hS hls' (zst_ok (by trivial) hol) (zokt host))
theorem aw_astore_n {i : Nat} {k j : Nat} {f : Fin 4} (hk0 : k ≠ 63) (hd : dec X pc = .ok (.astore_n f, 1)) (hp : pc + 1 = pc') (hi : (f : Nat) = i) (hn : i < X.2.2.1) (hl : zst lv i (zr k j) = lv') (kk : AW l X T pc' lv' st M) : AW l X T pc lv (zr k j :: st) M := by
  subst hp; subst hl
  intro g p e s m args below meth c H locs ls hC hW hS hlv hol host
  rw [List.map_cons, zcv_r hk0]
  exact lv_astore_n hC.1 hC.2.1 hd hi hlv hn (by rw [← zst_lv1 rfl, zcv_r hk0]) (fun ls' hls' => kk g p e s m args below meth c H locs ls' hC hW hS hls' (zst_ok (host _ List.mem_cons_self) hol) (zokt host))
theorem aw_iinc {i : Nat} {x d y : Int} (hd : dec X pc = .ok (.iinc i d, 3)) (hp : pc + 3 = pc') (n : Nat) (hl : lv[n]? = some (i, zi x)) (hn : i < X.2.2.1) (hy : x + d = y) (hl' : zst lv i (zi y) = lv') (kk : AW l X T pc' lv' st M) : AW l X T pc lv st M := by
  subst hp; subst hl'; subst hy
  intro g p e s m args below meth c H locs ls hC hW hS hlv hol host
  exact lv_iinc (v := Int32.ofInt (x + d)) hC.1 hC.2.1 hd hlv (zlv_at hl) (by rw [Int32.ofInt_add]) hn (zst_lv1 (v := zi (x + d)) rfl) (fun ls' hls' => kk g p e s m args below meth c H locs ls' hC hW hS hls' (zst_ok (by trivial) hol) host)
theorem aw_iadd {x y : Int} (hd : dec X pc = .ok (.iadd, 1)) (hp : pc + 1 = pc') (kk : AW l X T pc' lv (zi (x + y) :: st) M) : AW l X T pc lv (zi y :: zi x :: st) M := by
  subst hp
  refine AW.go (fun _ h _ => zok1i (zokt (zokt h))) ?_ kk
  intro g p e s m args below meth c H locs ls Q hC hW hS hlv host hk
  refine lv_iadd hC.1 hC.2.1 hd ?_
  rw [List.map_cons, zcv, Int32.ofInt_add] at hk
  exact hk
theorem aw_isub {x y : Int} (hd : dec X pc = .ok (.isub, 1)) (hp : pc + 1 = pc') (kk : AW l X T pc' lv (zi (x - y) :: st) M) : AW l X T pc lv (zi y :: zi x :: st) M := by
  subst hp
  refine AW.go (fun _ h _ => zok1i (zokt (zokt h))) ?_ kk
  intro g p e s m args below meth c H locs ls Q hC hW hS hlv host hk
  refine lv_isub hC.1 hC.2.1 hd ?_
  rw [List.map_cons, zcv, Int32.ofInt_sub] at hk
  exact hk
theorem aw_imul {x y : Int} (hd : dec X pc = .ok (.imul, 1)) (hp : pc + 1 = pc') (kk : AW l X T pc' lv (zi (x * y) :: st) M) : AW l X T pc lv (zi y :: zi x :: st) M := by
  subst hp
  refine AW.go (fun _ h _ => zok1i (zokt (zokt h))) ?_ kk
  intro g p e s m args below meth c H locs ls Q hC hW hS hlv host hk
  refine lv_imul hC.1 hC.2.1 hd ?_
  rw [List.map_cons, zcv, Int32.ofInt_mul] at hk
  exact hk
theorem aw_ladd {x y : Int} (hd : dec X pc = .ok (.ladd, 1)) (hp : pc + 1 = pc') (kk : AW l X T pc' lv (zl (x + y) :: st) M) : AW l X T pc lv (zl y :: zl x :: st) M := by
  subst hp
  refine AW.go (fun _ h _ => zok1l (zokt (zokt h))) ?_ kk
  intro g p e s m args below meth c H locs ls Q hC hW hS hlv host hk
  refine lv_ladd hC.1 hC.2.1 hd ?_
  rw [List.map_cons, zcv, Int64.ofInt_add] at hk
  exact hk
theorem aw_lsub {x y : Int} (hd : dec X pc = .ok (.lsub, 1)) (hp : pc + 1 = pc') (kk : AW l X T pc' lv (zl (x - y) :: st) M) : AW l X T pc lv (zl y :: zl x :: st) M := by
  subst hp
  refine AW.go (fun _ h _ => zok1l (zokt (zokt h))) ?_ kk
  intro g p e s m args below meth c H locs ls Q hC hW hS hlv host hk
  refine lv_lsub hC.1 hC.2.1 hd ?_
  rw [List.map_cons, zcv, Int64.ofInt_sub] at hk
  exact hk
theorem aw_lmul {x y : Int} (hd : dec X pc = .ok (.lmul, 1)) (hp : pc + 1 = pc') (kk : AW l X T pc' lv (zl (x * y) :: st) M) : AW l X T pc lv (zl y :: zl x :: st) M := by
  subst hp
  refine AW.go (fun _ h _ => zok1l (zokt (zokt h))) ?_ kk
  intro g p e s m args below meth c H locs ls Q hC hW hS hlv host hk
  refine lv_lmul hC.1 hC.2.1 hd ?_
  rw [List.map_cons, zcv, Int64.ofInt_mul] at hk
  exact hk
theorem aw_ineg {x : Int} (hd : dec X pc = .ok (.ineg, 1)) (hp : pc + 1 = pc') (kk : AW l X T pc' lv (zi (-x) :: st) M) : AW l X T pc lv (zi x :: st) M := by
  subst hp
  refine AW.go (fun _ h _ => zok1i (zokt h)) ?_ kk
  intro g p e s m args below meth c H locs ls Q hC hW hS hlv host hk
  refine lv_ineg hC.1 hC.2.1 hd ?_
  rw [List.map_cons, zcv, Int32.ofInt_neg] at hk
  exact hk
theorem zne0 {y : Int} (hy : zI y) (h0 : y ≠ 0) : ¬ Int32.ofInt y = 0 := fun h => h0 ((zI_eq hy zI0).mp h)
theorem zne0J {y : Int} (hy : zJ y) (h0 : y ≠ 0) : ¬ Int64.ofInt y = 0 := fun h => h0 ((zJ_eq hy (by omega)).mp h)
theorem aw_idiv {x y : Int} (hd : dec X pc = .ok (.idiv, 1)) (hp : pc + 1 = pc') (hx : zI x) (hy : zI y) (h0 : y ≠ 0) (kk : AW l X T pc' lv (zi (x.tdiv y) :: st) M) : AW l X T pc lv (zi y :: zi x :: st) M := by
  subst hp
  refine AW.go (fun _ h _ => zok1i (zokt (zokt h))) ?_ kk
  intro g p e s m args below meth c H locs ls Q hC hW hS hlv host hk
  refine lv_idiv hC.1 hC.2.1 hd (zne0 hy h0) ?_
  rw [List.map_cons, zcv, Int32.ofInt_tdiv (by show -2147483648 ≤ x; omega) (by show x ≤ 2147483647; omega) (by show -2147483648 ≤ y; omega) (by show y ≤ 2147483647; omega)] at hk
  exact hk
theorem aw_irem {x y : Int} (hd : dec X pc = .ok (.irem, 1)) (hp : pc + 1 = pc') (hx : zI x) (hy : zI y) (h0 : y ≠ 0) (kk : AW l X T pc' lv (zi (x.tmod y) :: st) M) : AW l X T pc lv (zi y :: zi x :: st) M := by
  subst hp
  refine AW.go (fun _ h _ => zok1i (zokt (zokt h))) ?_ kk
  intro g p e s m args below meth c H locs ls Q hC hW hS hlv host hk
  refine lv_irem hC.1 hC.2.1 hd (zne0 hy h0) ?_
  rw [List.map_cons, zcv, show x.tmod y = x - x.tdiv y * y by rw [Int.tmod_def, Int.mul_comm], Int32.ofInt_sub, Int32.ofInt_mul, Int32.ofInt_tdiv (by show -2147483648 ≤ x; omega) (by show x ≤ 2147483647; omega) (by show -2147483648 ≤ y; omega) (by show y ≤ 2147483647; omega)] at hk
  exact hk
theorem aw_ldiv {x y : Int} (hd : dec X pc = .ok (.ldiv, 1)) (hp : pc + 1 = pc') (hx : zJ x) (hy : zJ y) (h0 : y ≠ 0) (kk : AW l X T pc' lv (zl (x.tdiv y) :: st) M) : AW l X T pc lv (zl y :: zl x :: st) M := by
  subst hp
  refine AW.go (fun _ h _ => zok1l (zokt (zokt h))) ?_ kk
  intro g p e s m args below meth c H locs ls Q hC hW hS hlv host hk
  refine lv_ldiv hC.1 hC.2.1 hd (zne0J hy h0) ?_
  rw [List.map_cons, zcv, Int64.ofInt_tdiv (by show -9223372036854775808 ≤ x; omega) (by show x ≤ 9223372036854775807; omega) (by show -9223372036854775808 ≤ y; omega) (by show y ≤ 9223372036854775807; omega)] at hk
  exact hk
theorem aw_lrem {x y : Int} (hd : dec X pc = .ok (.lrem, 1)) (hp : pc + 1 = pc') (hx : zJ x) (hy : zJ y) (h0 : y ≠ 0) (kk : AW l X T pc' lv (zl (x.tmod y) :: st) M) : AW l X T pc lv (zl y :: zl x :: st) M := by
  subst hp
  refine AW.go (fun _ h _ => zok1l (zokt (zokt h))) ?_ kk
  intro g p e s m args below meth c H locs ls Q hC hW hS hlv host hk
  refine lv_lrem hC.1 hC.2.1 hd (zne0J hy h0) ?_
  rw [List.map_cons, zcv, show x.tmod y = x - x.tdiv y * y by rw [Int.tmod_def, Int.mul_comm], Int64.ofInt_sub, Int64.ofInt_mul, Int64.ofInt_tdiv (by show -9223372036854775808 ≤ x; omega) (by show x ≤ 9223372036854775807; omega) (by show -9223372036854775808 ≤ y; omega) (by show y ≤ 9223372036854775807; omega)] at hk
  exact hk
theorem aw_i2l {x : Int} (hd : dec X pc = .ok (.i2l, 1)) (hp : pc + 1 = pc') (hx : zI x) (kk : AW l X T pc' lv (zl x :: st) M) : AW l X T pc lv (zi x :: st) M := by
  subst hp
  refine AW.go (fun _ h _ => zok1l (zokt h)) ?_ kk
  intro g p e s m args below meth c H locs ls Q hC hW hS hlv host hk
  refine lv_i2l (v := Int64.ofInt x) hC.1 hC.2.1 hd ?_ hk
  exact Int32.toInt64_ofInt (by show -2147483648 ≤ x; omega) (by show x ≤ 2147483647; omega)
theorem aw_i2b {x y : Int} (hd : dec X pc = .ok (.i2b, 1)) (hp : pc + 1 = pc') (hv : (Int32.ofInt x).toInt8.toInt32 = Int32.ofInt y) (kk : AW l X T pc' lv (zi y :: st) M) : AW l X T pc lv (zi x :: st) M := by
  subst hp
  refine AW.go (fun _ h _ => zok1i (zokt h)) ?_ kk
  intro g p e s m args below meth c H locs ls Q hC hW hS hlv host hk
  exact lv_i2b (v := Int32.ofInt y) hC.1 hC.2.1 hd hv hk
theorem aw_iand {x y z : Int} (hd : dec X pc = .ok (.iand, 1)) (hp : pc + 1 = pc') (hv : Int32.ofInt x &&& Int32.ofInt y = Int32.ofInt z) (kk : AW l X T pc' lv (zi z :: st) M) : AW l X T pc lv (zi y :: zi x :: st) M := by
  subst hp
  refine AW.go (fun _ h _ => zok1i (zokt (zokt h))) ?_ kk
  intro g p e s m args below meth c H locs ls Q hC hW hS hlv host hk
  refine lv_iand hC.1 hC.2.1 hd ?_
  rw [List.map_cons, zcv, ← hv] at hk
  exact hk
theorem aw_ior {x y z : Int} (hd : dec X pc = .ok (.ior, 1)) (hp : pc + 1 = pc') (hv : Int32.ofInt x ||| Int32.ofInt y = Int32.ofInt z) (kk : AW l X T pc' lv (zi z :: st) M) : AW l X T pc lv (zi y :: zi x :: st) M := by
  subst hp
  refine AW.go (fun _ h _ => zok1i (zokt (zokt h))) ?_ kk
  intro g p e s m args below meth c H locs ls Q hC hW hS hlv host hk
  refine lv_ior hC.1 hC.2.1 hd ?_
  rw [List.map_cons, zcv, ← hv] at hk
  exact hk
theorem aw_ishl {x y z : Int} (hd : dec X pc = .ok (.ishl, 1)) (hp : pc + 1 = pc') (hv : Int32.ofInt x <<< (Int32.ofInt y &&& 31) = Int32.ofInt z) (kk : AW l X T pc' lv (zi z :: st) M) : AW l X T pc lv (zi y :: zi x :: st) M := by
  subst hp
  refine AW.go (fun _ h _ => zok1i (zokt (zokt h))) ?_ kk
  intro g p e s m args below meth c H locs ls Q hC hW hS hlv host hk
  refine lv_ishl hC.1 hC.2.1 hd ?_
  rw [List.map_cons, zcv, ← hv] at hk
  exact hk
theorem aw_ishr {x y z : Int} (hd : dec X pc = .ok (.ishr, 1)) (hp : pc + 1 = pc') (hv : Int32.ofInt x >>> (Int32.ofInt y &&& 31) = Int32.ofInt z) (kk : AW l X T pc' lv (zi z :: st) M) : AW l X T pc lv (zi y :: zi x :: st) M := by
  subst hp
  refine AW.go (fun _ h _ => zok1i (zokt (zokt h))) ?_ kk
  intro g p e s m args below meth c H locs ls Q hC hW hS hlv host hk
  refine lv_ishr hC.1 hC.2.1 hd ?_
  rw [List.map_cons, zcv, ← hv] at hk
  exact hk
theorem aw_iushr {x y z : Int} (hd : dec X pc = .ok (.iushr, 1)) (hp : pc + 1 = pc') (hv : ((Int32.ofInt x).toUInt32 >>> ((Int32.ofInt y).toUInt32 &&& Int32.toUInt32 31)).toInt32 = Int32.ofInt z) (kk : AW l X T pc' lv (zi z :: st) M) : AW l X T pc lv (zi y :: zi x :: st) M := by
  subst hp
  refine AW.go (fun _ h _ => zok1i (zokt (zokt h))) ?_ kk
  intro g p e s m args below meth c H locs ls Q hC hW hS hlv host hk
  exact lv_iushr (v := Int32.ofInt z) hC.1 hC.2.1 hd hv hk
theorem aw_lor {x y z : Int} (hd : dec X pc = .ok (.lor, 1)) (hp : pc + 1 = pc') (hv : Int64.ofInt x ||| Int64.ofInt y = Int64.ofInt z) (kk : AW l X T pc' lv (zl z :: st) M) : AW l X T pc lv (zl y :: zl x :: st) M := by
  subst hp
  refine AW.go (fun _ h _ => zok1l (zokt (zokt h))) ?_ kk
  intro g p e s m args below meth c H locs ls Q hC hW hS hlv host hk
  refine lv_lor hC.1 hC.2.1 hd ?_
  rw [List.map_cons, zcv, ← hv] at hk
  exact hk
theorem aw_lshl {x y z : Int} (hd : dec X pc = .ok (.lshl, 1)) (hp : pc + 1 = pc') (hv : Int64.ofInt x <<< ((Int32.ofInt y).toInt64 &&& 63) = Int64.ofInt z) (kk : AW l X T pc' lv (zl z :: st) M) : AW l X T pc lv (zi y :: zl x :: st) M := by
  subst hp
  refine AW.go (fun _ h _ => zok1l (zokt (zokt h))) ?_ kk
  intro g p e s m args below meth c H locs ls Q hC hW hS hlv host hk
  exact lv_lshl (v := Int64.ofInt z) hC.1 hC.2.1 hd hv hk
theorem aw_i2d {x : Int} (hd : dec X pc = .ok (.i2d, 1)) (hp : pc + 1 = pc') (kk : AW l X T pc' lv (zd (FP.i2d (Int32.ofInt x)) :: st) M) : AW l X T pc lv (zi x :: st) M := by
  subst hp
  refine AW.go (fun _ h _ => zok1d (zokt h)) ?_ kk
  intro g p e s m args below meth c H locs ls Q hC hW hS hlv host hk
  exact lv_i2d hC.1 hC.2.1 hd hk
theorem aw_d2l {x : UInt64} {y : Int} (hd : dec X pc = .ok (.d2l, 1)) (hp : pc + 1 = pc') (hv : FP.d2l x = Int64.ofInt y) (kk : AW l X T pc' lv (zl y :: st) M) : AW l X T pc lv (zd x :: st) M := by
  subst hp
  refine AW.go (fun _ h _ => zok1l (zokt h)) ?_ kk
  intro g p e s m args below meth c H locs ls Q hC hW hS hlv host hk
  refine lv_d2l hC.1 hC.2.1 hd ?_
  rw [hv]
  exact hk
theorem aw_ddiv {x y z : UInt64} (hd : dec X pc = .ok (.ddiv, 1)) (hp : pc + 1 = pc') (hv : FP.ddiv x y = z) (hn : vf_n64 (FP.ddiv x y)) (kk : AW l X T pc' lv (zd z :: st) M) : AW l X T pc lv (zd y :: zd x :: st) M := by
  subst hp
  refine AW.go (fun _ h _ => zok1d (zokt (zokt h))) ?_ kk
  intro g p e s m args below meth c H locs ls Q hC hW hS hlv host hk
  subst hv
  exact lv_ddiv hC.1 hC.2.1 hd hn hk
theorem aw_dmul {x y z : UInt64} (hd : dec X pc = .ok (.dmul, 1)) (hp : pc + 1 = pc') (hv : FP.dmul x y = z) (hn : vf_n64 (FP.dmul x y)) (kk : AW l X T pc' lv (zd z :: st) M) : AW l X T pc lv (zd y :: zd x :: st) M := by
  subst hp
  refine AW.go (fun _ h _ => zok1d (zokt (zokt h))) ?_ kk
  intro g p e s m args below meth c H locs ls Q hC hW hS hlv host hk
  subst hv
  exact lv_dmul hC.1 hC.2.1 hd hn hk
theorem aw_dsub {x y z : UInt64} (hd : dec X pc = .ok (.dsub, 1)) (hp : pc + 1 = pc') (hv : FP.dsub x y = z) (hn : vf_n64 (FP.dsub x y)) (kk : AW l X T pc' lv (zd z :: st) M) : AW l X T pc lv (zd y :: zd x :: st) M := by
  subst hp
  refine AW.go (fun _ h _ => zok1d (zokt (zokt h))) ?_ kk
  intro g p e s m args below meth c H locs ls Q hC hW hS hlv host hk
  subst hv
  exact lv_dsub hC.1 hC.2.1 hd hn hk
theorem aw_dcmp {op : CmpOp} {x y : UInt64} {z : Int} (hd : dec X pc = .ok (.dcmp op, 1)) (hp : pc + 1 = pc') (hv : Op.cmpValue (FP.dcmp x y) op = Int32.ofInt z) (kk : AW l X T pc' lv (zi z :: st) M) : AW l X T pc lv (zd y :: zd x :: st) M := by
  subst hp
  refine AW.go (fun _ h _ => zok1i (zokt (zokt h))) ?_ kk
  intro g p e s m args below meth c H locs ls Q hC hW hS hlv host hk
  refine lv_dcmp hC.1 hC.2.1 hd ?_
  rw [hv]
  exact hk
theorem aw_pop {v : zV} (hd : dec X pc = .ok (.pop, 1)) (hp : pc + 1 = pc') (hv : zcat v = 1) (kk : AW l X T pc' lv (st) M) : AW l X T pc lv (v :: st) M := by
  subst hp
  refine AW.go (fun _ h _ => zokt h) ?_ kk
  intro g p e s m args below meth c H locs ls Q hC hW hS hlv host hk
  refine lv_pop hC.1 hC.2.1 hd ?_ hk
  rw [zcat_cv]; exact hv
theorem aw_dup {v : zV} (hd : dec X pc = .ok (.dup, 1)) (hp : pc + 1 = pc') (hv : zcat v = 1) (kk : AW l X T pc' lv (v :: v :: st) M) : AW l X T pc lv (v :: st) M := by
  subst hp
  refine AW.go (fun _ h _ => zok1 (h v List.mem_cons_self) h) ?_ kk
  intro g p e s m args below meth c H locs ls Q hC hW hS hlv host hk
  refine lv_dup hC.1 hC.2.1 hd ?_ hk
  rw [zcat_cv]; exact hv
theorem aw_goto {off : Int} (hd : dec X pc = .ok (.goto off, 3)) (ht : (pc : Int) + off = (pc' : Int)) (kk : AW l X T pc' lv st M) : AW l X T pc lv st M := by
  refine AW.go (fun _ h _ => h) ?_ kk
  intro g p e s m args below meth c H locs ls Q hC hW hS hlv host hk
  exact lv_goto hC.1 hC.2.1 hd ht hk
theorem aw_icmp_eq {off : Int} {tgt : Nat} {x y : Int} (hd : dec X pc = .ok (.if_icmp .eq off, 3)) (ht : (pc : Int) + off = (tgt : Int)) (hp : pc + 3 = pc') (hx : zI x) (hy : zI y) (kt : x = y → AW l X T tgt lv st M) (kf : x ≠ y → AW l X T pc' lv st M) : AW l X T pc lv (zi y :: zi x :: st) M := by
  subst hp
  intro g p e s m args below meth c H locs ls hC hW hS hlv hol host
  exact lv_icmp_eq hC.1 hC.2.1 hd ht (fun h => kt ((zI_eq hx hy).mp h) g p e s m args below meth c H locs ls hC hW hS hlv hol (zokt (zokt host))) (fun h => kf (fun q => h ((zI_eq hx hy).mpr q)) g p e s m args below meth c H locs ls hC hW hS hlv hol (zokt (zokt host)))
theorem aw_if_eq {off : Int} {tgt : Nat} {x : Int} (hd : dec X pc = .ok (.ifCond .eq off, 3)) (ht : (pc : Int) + off = (tgt : Int)) (hp : pc + 3 = pc') (hx : zI x) (kt : x = 0 → AW l X T tgt lv st M) (kf : x ≠ 0 → AW l X T pc' lv st M) : AW l X T pc lv (zi x :: st) M := by
  subst hp
  intro g p e s m args below meth c H locs ls hC hW hS hlv hol host
  have hy := zI0
  exact lv_if_eq hC.1 hC.2.1 hd ht (fun h => kt ((zI_eq hx hy).mp h) g p e s m args below meth c H locs ls hC hW hS hlv hol (zokt host)) (fun h => kf (fun q => h ((zI_eq hx hy).mpr q)) g p e s m args below meth c H locs ls hC hW hS hlv hol (zokt host))
theorem aw_icmp_ne {off : Int} {tgt : Nat} {x y : Int} (hd : dec X pc = .ok (.if_icmp .ne off, 3)) (ht : (pc : Int) + off = (tgt : Int)) (hp : pc + 3 = pc') (hx : zI x) (hy : zI y) (kt : x ≠ y → AW l X T tgt lv st M) (kf : x = y → AW l X T pc' lv st M) : AW l X T pc lv (zi y :: zi x :: st) M := by
  subst hp
  intro g p e s m args below meth c H locs ls hC hW hS hlv hol host
  exact lv_icmp_ne hC.1 hC.2.1 hd ht (fun h => kt (fun q => h ((zI_eq hx hy).mpr q)) g p e s m args below meth c H locs ls hC hW hS hlv hol (zokt (zokt host))) (fun h => kf ((zI_eq hx hy).mp h) g p e s m args below meth c H locs ls hC hW hS hlv hol (zokt (zokt host)))
theorem aw_if_ne {off : Int} {tgt : Nat} {x : Int} (hd : dec X pc = .ok (.ifCond .ne off, 3)) (ht : (pc : Int) + off = (tgt : Int)) (hp : pc + 3 = pc') (hx : zI x) (kt : x ≠ 0 → AW l X T tgt lv st M) (kf : x = 0 → AW l X T pc' lv st M) : AW l X T pc lv (zi x :: st) M := by
  subst hp
  intro g p e s m args below meth c H locs ls hC hW hS hlv hol host
  have hy := zI0
  exact lv_if_ne hC.1 hC.2.1 hd ht (fun h => kt (fun q => h ((zI_eq hx hy).mpr q)) g p e s m args below meth c H locs ls hC hW hS hlv hol (zokt host)) (fun h => kf ((zI_eq hx hy).mp h) g p e s m args below meth c H locs ls hC hW hS hlv hol (zokt host))
theorem aw_icmp_lt {off : Int} {tgt : Nat} {x y : Int} (hd : dec X pc = .ok (.if_icmp .lt off, 3)) (ht : (pc : Int) + off = (tgt : Int)) (hp : pc + 3 = pc') (hx : zI x) (hy : zI y) (kt : x < y → AW l X T tgt lv st M) (kf : y ≤ x → AW l X T pc' lv st M) : AW l X T pc lv (zi y :: zi x :: st) M := by
  subst hp
  intro g p e s m args below meth c H locs ls hC hW hS hlv hol host
  exact lv_icmp_lt hC.1 hC.2.1 hd ht (fun h => kt ((zI_lt hx hy).mp h) g p e s m args below meth c H locs ls hC hW hS hlv hol (zokt (zokt host))) (fun h => kf (by have := mt (zI_lt hx hy).mpr h; omega) g p e s m args below meth c H locs ls hC hW hS hlv hol (zokt (zokt host)))
theorem aw_if_lt {off : Int} {tgt : Nat} {x : Int} (hd : dec X pc = .ok (.ifCond .lt off, 3)) (ht : (pc : Int) + off = (tgt : Int)) (hp : pc + 3 = pc') (hx : zI x) (kt : x < 0 → AW l X T tgt lv st M) (kf : 0 ≤ x → AW l X T pc' lv st M) : AW l X T pc lv (zi x :: st) M := by
  subst hp
  intro g p e s m args below meth c H locs ls hC hW hS hlv hol host
  have hy := zI0
  exact lv_if_lt hC.1 hC.2.1 hd ht (fun h => kt ((zI_lt hx hy).mp h) g p e s m args below meth c H locs ls hC hW hS hlv hol (zokt host)) (fun h => kf (by have := mt (zI_lt hx hy).mpr h; omega) g p e s m args below meth c H locs ls hC hW hS hlv hol (zokt host))
theorem aw_icmp_ge {off : Int} {tgt : Nat} {x y : Int} (hd : dec X pc = .ok (.if_icmp .ge off, 3)) (ht : (pc : Int) + off = (tgt : Int)) (hp : pc + 3 = pc') (hx : zI x) (hy : zI y) (kt : y ≤ x → AW l X T tgt lv st M) (kf : x < y → AW l X T pc' lv st M) : AW l X T pc lv (zi y :: zi x :: st) M := by
  subst hp
  intro g p e s m args below meth c H locs ls hC hW hS hlv hol host
  exact lv_icmp_ge hC.1 hC.2.1 hd ht (fun h => kt ((zI_le hy hx).mp h) g p e s m args below meth c H locs ls hC hW hS hlv hol (zokt (zokt host))) (fun h => kf (by have := mt (zI_le hy hx).mpr h; omega) g p e s m args below meth c H locs ls hC hW hS hlv hol (zokt (zokt host)))
theorem aw_if_ge {off : Int} {tgt : Nat} {x : Int} (hd : dec X pc = .ok (.ifCond .ge off, 3)) (ht : (pc : Int) + off = (tgt : Int)) (hp : pc + 3 = pc') (hx : zI x) (kt : 0 ≤ x → AW l X T tgt lv st M) (kf : x < 0 → AW l X T pc' lv st M) : AW l X T pc lv (zi x :: st) M := by
  subst hp
  intro g p e s m args below meth c H locs ls hC hW hS hlv hol host
  have hy := zI0
  exact lv_if_ge hC.1 hC.2.1 hd ht (fun h => kt ((zI_le hy hx).mp h) g p e s m args below meth c H locs ls hC hW hS hlv hol (zokt host)) (fun h => kf (by have := mt (zI_le hy hx).mpr h; omega) g p e s m args below meth c H locs ls hC hW hS hlv hol (zokt host))
theorem aw_icmp_gt {off : Int} {tgt : Nat} {x y : Int} (hd : dec X pc = .ok (.if_icmp .gt off, 3)) (ht : (pc : Int) + off = (tgt : Int)) (hp : pc + 3 = pc') (hx : zI x) (hy : zI y) (kt : y < x → AW l X T tgt lv st M) (kf : x ≤ y → AW l X T pc' lv st M) : AW l X T pc lv (zi y :: zi x :: st) M := by
  subst hp
  intro g p e s m args below meth c H locs ls hC hW hS hlv hol host
  exact lv_icmp_gt hC.1 hC.2.1 hd ht (fun h => kt ((zI_lt hy hx).mp h) g p e s m args below meth c H locs ls hC hW hS hlv hol (zokt (zokt host))) (fun h => kf (by have := mt (zI_lt hy hx).mpr h; omega) g p e s m args below meth c H locs ls hC hW hS hlv hol (zokt (zokt host)))
theorem aw_if_gt {off : Int} {tgt : Nat} {x : Int} (hd : dec X pc = .ok (.ifCond .gt off, 3)) (ht : (pc : Int) + off = (tgt : Int)) (hp : pc + 3 = pc') (hx : zI x) (kt : 0 < x → AW l X T tgt lv st M) (kf : x ≤ 0 → AW l X T pc' lv st M) : AW l X T pc lv (zi x :: st) M := by
  subst hp
  intro g p e s m args below meth c H locs ls hC hW hS hlv hol host
  have hy := zI0
  exact lv_if_gt hC.1 hC.2.1 hd ht (fun h => kt ((zI_lt hy hx).mp h) g p e s m args below meth c H locs ls hC hW hS hlv hol (zokt host)) (fun h => kf (by have := mt (zI_lt hy hx).mpr h; omega) g p e s m args below meth c H locs ls hC hW hS hlv hol (zokt host))
theorem aw_icmp_le {off : Int} {tgt : Nat} {x y : Int} (hd : dec X pc = .ok (.if_icmp .le off, 3)) (ht : (pc : Int) + off = (tgt : Int)) (hp : pc + 3 = pc') (hx : zI x) (hy : zI y) (kt : x ≤ y → AW l X T tgt lv st M) (kf : y < x → AW l X T pc' lv st M) : AW l X T pc lv (zi y :: zi x :: st) M := by
  subst hp
  intro g p e s m args below meth c H locs ls hC hW hS hlv hol host
  exact lv_icmp_le hC.1 hC.2.1 hd ht (fun h => kt ((zI_le hx hy).mp h) g p e s m args below meth c H locs ls hC hW hS hlv hol (zokt (zokt host))) (fun h => kf (by have := mt (zI_le hx hy).mpr h; omega) g p e s m args below meth c H locs ls hC hW hS hlv hol (zokt (zokt host)))
theorem aw_if_le {off : Int} {tgt : Nat} {x : Int} (hd : dec X pc = .ok (.ifCond .le off, 3)) (ht : (pc : Int) + off = (tgt : Int)) (hp : pc + 3 = pc') (hx : zI x) (kt : x ≤ 0 → AW l X T tgt lv st M) (kf : 0 < x → AW l X T pc' lv st M) : AW l X T pc lv (zi x :: st) M := by
  subst hp
  intro g p e s m args below meth c H locs ls hC hW hS hlv hol host
  have hy := zI0
  exact lv_if_le hC.1 hC.2.1 hd ht (fun h => kt ((zI_le hx hy).mp h) g p e s m args below meth c H locs ls hC hW hS hlv hol (zokt host)) (fun h => kf (by have := mt (zI_le hx hy).mpr h; omega) g p e s m args below meth c H locs ls hC hW hS hlv hol (zokt host))
end
