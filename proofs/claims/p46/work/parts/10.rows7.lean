/-! ===== small facts that the printed walks use ===== -/
theorem zj1 {i : Nat} : 1 * i + 0 = i := by omega
theorem zj0 {i b : Nat} : 0 * i + b = b := by omega
def zand (x y : Int) : Int := (Int32.ofInt x &&& Int32.ofInt y).toInt
def zor (x y : Int) : Int := (Int32.ofInt x ||| Int32.ofInt y).toInt
def zshl (x y : Int) : Int := (Int32.ofInt x <<< (Int32.ofInt y &&& 31)).toInt
def zshr (x y : Int) : Int := (Int32.ofInt x >>> (Int32.ofInt y &&& 31)).toInt
def zushr (x y : Int) : Int := ((Int32.ofInt x).toUInt32 >>> ((Int32.ofInt y).toUInt32 &&& Int32.toUInt32 31)).toInt32.toInt
def zi2b (x : Int) : Int := (Int32.ofInt x).toInt8.toInt32.toInt
def zlor (x y : Int) : Int := (Int64.ofInt x ||| Int64.ofInt y).toInt
def zlshl (x y : Int) : Int := (Int64.ofInt x <<< ((Int32.ofInt y).toInt64 &&& 63)).toInt
theorem zand_h {x y : Int} : Int32.ofInt x &&& Int32.ofInt y = Int32.ofInt (zand x y) := (Int32.ofInt_toInt _).symm
theorem zor_h {x y : Int} : Int32.ofInt x ||| Int32.ofInt y = Int32.ofInt (zor x y) := (Int32.ofInt_toInt _).symm
theorem zshl_h {x y : Int} : Int32.ofInt x <<< (Int32.ofInt y &&& 31) = Int32.ofInt (zshl x y) := (Int32.ofInt_toInt _).symm
theorem zshr_h {x y : Int} : Int32.ofInt x >>> (Int32.ofInt y &&& 31) = Int32.ofInt (zshr x y) := (Int32.ofInt_toInt _).symm
theorem zushr_h {x y : Int} : ((Int32.ofInt x).toUInt32 >>> ((Int32.ofInt y).toUInt32 &&& Int32.toUInt32 31)).toInt32 = Int32.ofInt (zushr x y) := (Int32.ofInt_toInt _).symm
theorem zi2b_h {x : Int} : (Int32.ofInt x).toInt8.toInt32 = Int32.ofInt (zi2b x) := (Int32.ofInt_toInt _).symm
theorem zlor_h {x y : Int} : Int64.ofInt x ||| Int64.ofInt y = Int64.ofInt (zlor x y) := (Int64.ofInt_toInt _).symm
theorem zlshl_h {x y : Int} : Int64.ofInt x <<< ((Int32.ofInt y).toInt64 &&& 63) = Int64.ofInt (zlshl x y) := (Int64.ofInt_toInt _).symm
theorem zi2b_r {x : Int} : -128 ≤ zi2b x ∧ zi2b x < 128 := by
  unfold zi2b
  rw [Int8.toInt_toInt32]
  have h1 := Int8.le_toInt (Int32.ofInt x).toInt8
  have h2 := Int8.toInt_lt (Int32.ofInt x).toInt8
  omega
theorem zI_of (x : Int32) : zI x.toInt := by
  have h1 := Int32.le_toInt x
  have h2 := Int32.toInt_lt x
  omega
theorem zI_and {x y : Int} : zI (zand x y) := zI_of _
theorem zI_or {x y : Int} : zI (zor x y) := zI_of _
theorem zI_shl {x y : Int} : zI (zshl x y) := zI_of _
theorem zI_shr {x y : Int} : zI (zshr x y) := zI_of _
theorem zI_ushr {x y : Int} : zI (zushr x y) := zI_of _
/-- a byte of a string constant -/
def zsb (i : Nat) (j : Int) : Int := ((zsByt.getD i []).getD j.toNat 0).toInt
theorem zsb_h (i : Nat) (j : Int) : (zsByt.getD i []).getD j.toNat 0 = Int32.ofInt (zsb i j) := (Int32.ofInt_toInt _).symm
theorem znar {x : Int} (h : x = 0 ∨ x = 1) : narrow .boolean (.int (Int32.ofInt x)) = .int (Int32.ofInt x) ∧ fits .boolean (.int (Int32.ofInt x)) = true := by
  rcases h with rfl | rfl <;> decide
theorem cf_9 : Cond.fieldLink "java/lang/String" 9 "java/lang/String" "value" "[B" ∈ zTB := zti 973 (by decide +kernel) (by decide +kernel)
theorem cf_15 : Cond.fieldLink "java/lang/String" 15 "java/lang/String" "coder" "B" ∈ zTB := zti 974 (by decide +kernel) (by decide +kernel)
theorem cf_38 : Cond.fieldLink "java/lang/String" 38 "java/lang/String" "COMPACT_STRINGS" "Z" ∈ zTB := zti 326 (by decide +kernel) (by decide +kernel)
theorem cf_1053 : Cond.fieldLink "java/lang/String" 1053 "jdk/internal/util/Preconditions" "SIOOBE_FORMATTER" "Ljava/util/function/BiFunction;" ∈ zTB := zti 342 (by decide +kernel) (by decide +kernel)
theorem za10 : zar 10 0 := by decide
theorem za11 : zar 11 0 := by decide
theorem za12 : zar 12 1 := by decide
theorem za13 : zar 13 0 := by decide
theorem za14 : zar 14 0 := by decide
theorem za15 : zar 15 0 := by decide
theorem za16 : zar 16 0 := by decide
theorem za17 : zar 17 0 := by decide
theorem za18 : zar 18 4 := by decide
theorem za19 : zar 19 0 := by decide
theorem za20 : zar 20 0 := by decide
theorem za21 : zar 21 0 := by decide
theorem za22 : zar 22 0 := by decide
theorem za23 : zar 23 4 := by decide
theorem za24 : zar 24 0 := by decide
theorem za25 : zar 25 0 := by decide
theorem za26 : zar 26 3 := by decide
theorem zd70 : zad 70 1 := by decide
theorem zd71 : zad 71 0 := by decide
theorem zd72 : zad 72 0 := by decide
theorem zd73 : zad 73 0 := by decide
theorem zd74 : zad 74 5 := by decide
theorem zd75 : zad 75 0 := by decide
theorem zd76 : zad 76 5 := by decide
theorem zd77 : zad 77 0 := by decide
theorem zd78 : zad 78 0 := by decide
theorem zd79 : zad 79 0 := by decide
theorem zd80 : zad 80 2 := by decide

section
variable {l : Launch} {X : zD} {T : zT} {pc pc' : Nat} {lv lv' : List (Nat × zV)} {st st' st0 : List zV} {M M' : zM}
theorem aw_eql {x y : Int} (h : x = y ∧ M' = M) (kk : AW l X T pc lv (zl y :: st) M) : AW l X T pc lv (zl x :: st) M' := by
  obtain ⟨rfl, rfl⟩ := h
  exact kk
theorem aw_eqr {k x y : Nat} (h : x = y ∧ M' = M) (kk : AW l X T pc lv (zr k y :: st) M) : AW l X T pc lv (zr k x :: st) M' := by
  obtain ⟨rfl, rfl⟩ := h
  exact kk
theorem aw_eqs2 {x y : Int} {M1 : zM} (h : x = y ∧ M' = M1) (kk : AW l X T pc lv (zi y :: st) M1) : AW l X T pc lv (zi x :: st) M' := by
  obtain ⟨rfl, rfl⟩ := h
  exact kk
theorem aw_rc {P : Int → zM → Prop} {x : Int} (hd : dec X pc = .ok (.ireturn, 1)) (hr : X.2.2.2.1 = some .char) (hz : narrow .char (.int (Int32.ofInt x)) = .int (Int32.ofInt x)) (h : P x M) : AW l X (zTi X P) pc lv [zi x] M := aw_creturn hd hr hz ⟨x, rfl, h⟩
theorem aw_rb {P : Int → zM → Prop} {x : Int} (hd : dec X pc = .ok (.ireturn, 1)) (hr : X.2.2.2.1 = some .byte) (hz : narrow .byte (.int (Int32.ofInt x)) = .int (Int32.ofInt x)) (h : P x M) : AW l X (zTi X P) pc lv [zi x] M := aw_breturn hd hr hz ⟨x, rfl, h⟩
theorem aw_dup2 {v w : zV} (hd : dec X pc = .ok (.dup2, 1)) (hp : pc + 1 = pc') (hv : zcat v = 1) (hw : zcat w = 1) (kk : AW l X T pc' lv (v :: w :: v :: w :: st) M) : AW l X T pc lv (v :: w :: st) M := by
  subst hp
  refine AW.go (fun _ h _ => zok1 (h v List.mem_cons_self) (zok1 (h w (List.mem_cons_of_mem _ List.mem_cons_self)) h)) ?_ kk
  intro g p e s m args below meth c H locs ls Q hC hW hS hlv host hk
  exact lv_dup2_11 hC.1 hC.2.1 hd (by rw [zcat_cv]; exact hv) (by rw [zcat_cv]; exact hw) hk
theorem aw_ldcw {ix : Nat} {n : Int} (hd : dec X pc = .ok (.ldc_w ix, 3)) (hp : pc + 3 = pc') (hc : Cond.constant X.1.cls ix (Int32.ofInt n) ∈ zTB) (kk : AW l X T pc' lv (zi n :: st) M) : AW l X T pc lv st M := by
  subst hp
  refine AW.go (fun _ h _ => zok1i h) ?_ kk
  intro g p e s m args below meth c H locs ls Q hC hW hS hlv host hk
  exact lv_ldcw hC.1 hC.2.1 hC.2.2.2.1 (hC.2.2.2.2.1 _ hc) hd hk
theorem zldcStringW {p : Program} {l : Launch} {e : Jvm.Env} {R : Room} {s : State} {m : MethodId} {args : Array Value} {below : List Frame} {meth : Method} {c : Code} {T : State} {locs : List Loc} {cells slots : Nat}
    (X : Stand p l e R s m args below meth c T locs cells slots) (hexec : p.tables.exec = Jvm.exec) {own text : String} {index : Nat} {a : Addr} (hown : s.vm.findClass own = some m.cls)
    (hconst : (Cond.stringRef own index text).before #[] s = true) (hev : (Term.string own index).eval #[] s none [] s = some (.ref a)) {g : JFrame} (hg : g.method = m) (hdg : decode c.code g.pc = .ok (.ldc_w index, 3)) :
    ∀ target, Steps p.tables e below (T.setTop { g with pc := g.pc + 3, stack := .ref a :: g.stack }) target → Steps p.tables e below (T.setTop g) target := by
  obtain ⟨k, cf, i, a', hk, hcf, hcp, -, hr, hev'⟩ := Cond.stringRef_spec hown hconst
  cases hev.symm.trans hev'
  obtain ⟨k', hk', he⟩ := X.warmed.alike.2.2 _ _ hk
  have hr' : k'.resolved[index]? = some (some (.string a)) := by
    rcases X.warmed.entry hk hk' index with h | ⟨h, -⟩
    · rw [h]; exact hr
    · rw [hr] at h; cases h
  intro target hrest
  subst hg
  jvm_step X.here [hexec, hdg, ldc_w.wp_string (e := e) (s := T) (f := g) X.here.top hk' (by rw [he]; exact hcf) hcp hr']
  exact hrest
theorem aw_ldcSw {ix i : Nat} {tx : String} (hd : dec X pc = .ok (.ldc_w ix, 3)) (hp : pc + 3 = pc') (h : (X.1.cls, ix, tx, i) ∈ zsRefs) (hi : i < zsN) (kk : AW l X T pc' lv (zr 61 i :: st) M) : AW l X T pc lv st M := by
  subst hp
  refine AW.go (fun _ h _ => zok1 (v := zr 61 i) (zok_n (by decide) hi) h) ?_ kk
  intro g p e s m args below meth c H locs ls Q hC hW hS hlv host hk
  rw [List.map_cons, zcv_r (by decide)] at hk
  have hR := hC.2.2.2.2.2.2.2.1.2.2.2.1 _ h
  intro U hU hX
  obtain ⟨t, a1, b1⟩ := hk U hU hX
  exact ⟨t, zldcStringW hX hC.1 hC.2.2.2.1 hR.1 hR.2 (g := F0 m pc ls (st.map (zcv g))) rfl (by rw [hC.2.1]; exact hd) t a1, b1⟩
end
