/-! ===== contracts with room; shorter rows for what is made ===== -/
def zTin (X : zD) (mc ms c n : Nat) (P : Int → zM → Prop) : zT := zTn X mc ms c n fun r M' => ∃ x : Int, r = some (zi x) ∧ P x M'
def zTvn (X : zD) (mc ms c n : Nat) (P : zM → Prop) : zT := zTn X mc ms c n fun r M' => r = none ∧ P M'
def zTrn (X : zD) (k mc ms c n : Nat) (P : Nat → zM → Prop) : zT := zTn X mc ms c n fun r M' => ∃ i : Nat, r = some (zr k i) ∧ P i M'
def CIn (l : Launch) (X : zD) (mc ms : Nat) (args : List zV) (M : zM) (P : Int → zM → Prop) : Prop := AW l X (zTin X mc ms 0 0 P) 0 (zargs 0 args) [] M
def CVn (l : Launch) (X : zD) (mc ms : Nat) (args : List zV) (M : zM) (P : zM → Prop) : Prop := AW l X (zTvn X mc ms 0 0 P) 0 (zargs 0 args) [] M
def CRn (l : Launch) (X : zD) (k mc ms : Nat) (args : List zV) (M : zM) (P : Nat → zM → Prop) : Prop := AW l X (zTrn X k mc ms 0 0 P) 0 (zargs 0 args) [] M
theorem CIn.mono {l : Launch} {X : zD} {mc ms : Nat} {args : List zV} {M : zM} {P P' : Int → zM → Prop} (k : CIn l X mc ms args M P) (h : ∀ x M', P x M' → P' x M') : CIn l X mc ms args M P' := AW_mono k fun _ _ ⟨x, e, q⟩ => ⟨x, e, h x _ q⟩
theorem CVn.mono {l : Launch} {X : zD} {mc ms : Nat} {args : List zV} {M : zM} {P P' : zM → Prop} (k : CVn l X mc ms args M P) (h : ∀ M', P M' → P' M') : CVn l X mc ms args M P' := AW_mono k fun _ _ ⟨e, q⟩ => ⟨e, h _ q⟩
theorem CRn.mono {l : Launch} {X : zD} {k mc ms : Nat} {args : List zV} {M : zM} {P P' : Nat → zM → Prop} (c : CRn l X k mc ms args M P) (h : ∀ x M', P x M' → P' x M') : CRn l X k mc ms args M P' := AW_mono c fun _ _ ⟨x, e, q⟩ => ⟨x, e, h x _ q⟩
section
variable {l : Launch} {X : zD} {T : zT} {pc pc' : Nat} {lv lv' : List (Nat × zV)} {st st' st0 : List zV} {M M' : zM} {Y : zD} {ix n kd i mc ms c0 n0 mc' ms' : Nat} {As : List zV}
theorem aw_VIn {P : Int → zM → Prop} (hd : dec X pc = .ok (.invokevirtual ix, 3)) (hp : pc + 3 = pc') (hc : zCV X.1.cls ix Y n kd) (hroom : Y.2.2.2.2.1 + 1 ≤ T.1.frames ∧ 8 + (Y.2.2.1 + 11) + Y.2.2.2.2.2 ≤ T.1.locals) (hrm : T.2.1 + mc' ≤ T.1.cells ∧ T.2.2.1 + ms' ≤ T.1.slots)
    (hst : As.reverse ++ zr kd i :: st = st0) (hn : As.length = n) (hsz : zsz (zr kd i :: As) ≤ Y.2.2.1) (hcat : zsz st ≤ 8) (hcall : CIn l Y mc' ms' (zr kd i :: As) M P) (kk : ∀ x M', P x M' → AW l X (zT2 T mc' ms') pc' lv (zi x :: st) M') : AW l X T pc lv st0 M :=
  aw_callVn hd hp hc hroom hrm hst hn hsz hcat hcall fun _ _ ⟨x, e, q⟩ => by rw [e]; exact kk x _ q
theorem aw_VVn {P : zM → Prop} (hd : dec X pc = .ok (.invokevirtual ix, 3)) (hp : pc + 3 = pc') (hc : zCV X.1.cls ix Y n kd) (hroom : Y.2.2.2.2.1 + 1 ≤ T.1.frames ∧ 8 + (Y.2.2.1 + 11) + Y.2.2.2.2.2 ≤ T.1.locals) (hrm : T.2.1 + mc' ≤ T.1.cells ∧ T.2.2.1 + ms' ≤ T.1.slots)
    (hst : As.reverse ++ zr kd i :: st = st0) (hn : As.length = n) (hsz : zsz (zr kd i :: As) ≤ Y.2.2.1) (hcat : zsz st ≤ 8) (hcall : CVn l Y mc' ms' (zr kd i :: As) M P) (kk : ∀ M', P M' → AW l X (zT2 T mc' ms') pc' lv st M') : AW l X T pc lv st0 M :=
  aw_callVn hd hp hc hroom hrm hst hn hsz hcat hcall fun _ _ ⟨e, q⟩ => by rw [e]; exact kk _ q
theorem aw_VRn {k : Nat} {P : Nat → zM → Prop} (hd : dec X pc = .ok (.invokevirtual ix, 3)) (hp : pc + 3 = pc') (hc : zCV X.1.cls ix Y n kd) (hroom : Y.2.2.2.2.1 + 1 ≤ T.1.frames ∧ 8 + (Y.2.2.1 + 11) + Y.2.2.2.2.2 ≤ T.1.locals) (hrm : T.2.1 + mc' ≤ T.1.cells ∧ T.2.2.1 + ms' ≤ T.1.slots)
    (hst : As.reverse ++ zr kd i :: st = st0) (hn : As.length = n) (hsz : zsz (zr kd i :: As) ≤ Y.2.2.1) (hcat : zsz st ≤ 8) (hcall : CRn l Y k mc' ms' (zr kd i :: As) M P) (kk : ∀ x M', P x M' → AW l X (zT2 T mc' ms') pc' lv (zr k x :: st) M') : AW l X T pc lv st0 M :=
  aw_callVn hd hp hc hroom hrm hst hn hsz hcat hcall fun _ _ ⟨x, e, q⟩ => by rw [e]; exact kk x _ q
theorem aw_SIn {P : Int → zM → Prop} (hd : dec X pc = .ok (.invokestatic ix, 3)) (hp : pc + 3 = pc') (hc : zCS X.1.cls ix Y n) (hroom : Y.2.2.2.2.1 + 1 ≤ T.1.frames ∧ 8 + (Y.2.2.1 + 11) + Y.2.2.2.2.2 ≤ T.1.locals) (hrm : T.2.1 + mc' ≤ T.1.cells ∧ T.2.2.1 + ms' ≤ T.1.slots)
    (hst : As.reverse ++ st = st0) (hn : As.length = n) (hsz : zsz As ≤ Y.2.2.1) (hcat : zsz st ≤ 8) (hcall : CIn l Y mc' ms' As M P) (kk : ∀ x M', P x M' → AW l X (zT2 T mc' ms') pc' lv (zi x :: st) M') : AW l X T pc lv st0 M :=
  aw_callSn hd hp hc hroom hrm hst hn hsz hcat hcall fun _ _ ⟨x, e, q⟩ => by rw [e]; exact kk x _ q
theorem aw_SRn {k : Nat} {P : Nat → zM → Prop} (hd : dec X pc = .ok (.invokestatic ix, 3)) (hp : pc + 3 = pc') (hc : zCS X.1.cls ix Y n) (hroom : Y.2.2.2.2.1 + 1 ≤ T.1.frames ∧ 8 + (Y.2.2.1 + 11) + Y.2.2.2.2.2 ≤ T.1.locals) (hrm : T.2.1 + mc' ≤ T.1.cells ∧ T.2.2.1 + ms' ≤ T.1.slots)
    (hst : As.reverse ++ st = st0) (hn : As.length = n) (hsz : zsz As ≤ Y.2.2.1) (hcat : zsz st ≤ 8) (hcall : CRn l Y k mc' ms' As M P) (kk : ∀ x M', P x M' → AW l X (zT2 T mc' ms') pc' lv (zr k x :: st) M') : AW l X T pc lv st0 M :=
  aw_callSn hd hp hc hroom hrm hst hn hsz hcat hcall fun _ _ ⟨x, e, q⟩ => by rw [e]; exact kk x _ q
theorem aw_NVn {P : zM → Prop} (hd : dec X pc = .ok (.invokespecial ix, 3)) (hp : pc + 3 = pc') (hc : zCB X.1.cls ix Y n ∧ Cond.instanceMethod Y.1 ∈ zTB ∧ Y.1.name = "<init>" ∧ Y.2.2.2.1 = none ∧ kd ≠ 63) (hroom : Y.2.2.2.2.1 + 1 ≤ T.1.frames ∧ 8 + (Y.2.2.1 + 11) + Y.2.2.2.2.2 ≤ T.1.locals) (hrm : T.2.1 + mc' ≤ T.1.cells ∧ T.2.2.1 + ms' ≤ T.1.slots)
    (hst : As.reverse ++ zr kd i :: st = st0) (hn : As.length = n) (hsz : zsz (zr kd i :: As) ≤ Y.2.2.1) (hcat : zsz st ≤ 8) (hcall : CVn l Y mc' ms' (zr kd i :: As) M P) (kk : ∀ M', P M' → AW l X (zT2 T mc' ms') pc' lv st M') : AW l X T pc lv st0 M :=
  aw_callIn hd hp hc hroom hrm hst hn hsz hcat hcall fun _ _ ⟨e, q⟩ => by rw [e]; exact kk _ q
theorem aw_UI {x0 : MethodName} {P : Int → zM → Prop} (hd : dec X pc = .ok (.invokevirtual ix, 3)) (hp : pc + 3 = pc') (hc : zCU X.1.cls ix x0 Y n) (hroom : Y.2.2.2.2.1 + 1 ≤ T.1.frames ∧ 8 + (Y.2.2.1 + 11) + Y.2.2.2.2.2 ≤ T.1.locals)
    (hst : As.reverse ++ zr 67 i :: st = st0) (hn : As.length = n) (hsz : zsz (zr 67 i :: As) ≤ Y.2.2.1) (hcat : zsz st ≤ 8) (hcall : CI l Y (zr 67 i :: As) M P) (kk : ∀ x M', P x M' → AW l X T pc' lv (zi x :: st) M') : AW l X T pc lv st0 M :=
  fun g p e s m args below meth c H locs ls hC => aw_callUn (mc := 0) (ms := 0) hd hp hc hroom ⟨hC.2.2.2.2.2.2.2.2.2.1, hC.2.2.2.2.2.2.2.2.2.2⟩ hst hn hsz hcat hcall (fun _ _ ⟨x, e, q⟩ => by rw [e]; exact kk x _ q) g p e s m args below meth c H locs ls hC
theorem aw_UV {x0 : MethodName} {P : zM → Prop} (hd : dec X pc = .ok (.invokevirtual ix, 3)) (hp : pc + 3 = pc') (hc : zCU X.1.cls ix x0 Y n) (hroom : Y.2.2.2.2.1 + 1 ≤ T.1.frames ∧ 8 + (Y.2.2.1 + 11) + Y.2.2.2.2.2 ≤ T.1.locals)
    (hst : As.reverse ++ zr 67 i :: st = st0) (hn : As.length = n) (hsz : zsz (zr 67 i :: As) ≤ Y.2.2.1) (hcat : zsz st ≤ 8) (hcall : CV l Y (zr 67 i :: As) M P) (kk : ∀ M', P M' → AW l X T pc' lv st M') : AW l X T pc lv st0 M :=
  fun g p e s m args below meth c H locs ls hC => aw_callUn (mc := 0) (ms := 0) hd hp hc hroom ⟨hC.2.2.2.2.2.2.2.2.2.1, hC.2.2.2.2.2.2.2.2.2.2⟩ hst hn hsz hcat hcall (fun _ _ ⟨e, q⟩ => by rw [e]; exact kk _ q) g p e s m args below meth c H locs ls hC
theorem aw_UR {x0 : MethodName} {k : Nat} {P : Nat → zM → Prop} (hd : dec X pc = .ok (.invokevirtual ix, 3)) (hp : pc + 3 = pc') (hc : zCU X.1.cls ix x0 Y n) (hroom : Y.2.2.2.2.1 + 1 ≤ T.1.frames ∧ 8 + (Y.2.2.1 + 11) + Y.2.2.2.2.2 ≤ T.1.locals)
    (hst : As.reverse ++ zr 67 i :: st = st0) (hn : As.length = n) (hsz : zsz (zr 67 i :: As) ≤ Y.2.2.1) (hcat : zsz st ≤ 8) (hcall : CR l Y k (zr 67 i :: As) M P) (kk : ∀ x M', P x M' → AW l X T pc' lv (zr k x :: st) M') : AW l X T pc lv st0 M :=
  fun g p e s m args below meth c H locs ls hC => aw_callUn (mc := 0) (ms := 0) hd hp hc hroom ⟨hC.2.2.2.2.2.2.2.2.2.1, hC.2.2.2.2.2.2.2.2.2.2⟩ hst hn hsz hcat hcall (fun _ _ ⟨x, e, q⟩ => by rw [e]; exact kk x _ q) g p e s m args below meth c H locs ls hC
theorem aw_PI {P : Int → zM → Prop} (hd : dec X pc = .ok (.invokespecial ix, 3)) (hp : pc + 3 = pc') (hc : zCP X.1.cls ix Y n) (hroom : Y.2.2.2.2.1 + 1 ≤ T.1.frames ∧ 8 + (Y.2.2.1 + 11) + Y.2.2.2.2.2 ≤ T.1.locals)
    (hst : As.reverse ++ zr 67 i :: st = st0) (hn : As.length = n) (hsz : zsz (zr 67 i :: As) ≤ Y.2.2.1) (hcat : zsz st ≤ 8) (hcall : CI l Y (zr 67 i :: As) M P) (kk : ∀ x M', P x M' → AW l X T pc' lv (zi x :: st) M') : AW l X T pc lv st0 M :=
  fun g p e s m args below meth c H locs ls hC => aw_callPn (mc := 0) (ms := 0) hd hp hc hroom ⟨hC.2.2.2.2.2.2.2.2.2.1, hC.2.2.2.2.2.2.2.2.2.2⟩ hst hn hsz hcat hcall (fun _ _ ⟨x, e, q⟩ => by rw [e]; exact kk x _ q) g p e s m args below meth c H locs ls hC
theorem aw_PR {k : Nat} {P : Nat → zM → Prop} (hd : dec X pc = .ok (.invokespecial ix, 3)) (hp : pc + 3 = pc') (hc : zCP X.1.cls ix Y n) (hroom : Y.2.2.2.2.1 + 1 ≤ T.1.frames ∧ 8 + (Y.2.2.1 + 11) + Y.2.2.2.2.2 ≤ T.1.locals)
    (hst : As.reverse ++ zr 67 i :: st = st0) (hn : As.length = n) (hsz : zsz (zr 67 i :: As) ≤ Y.2.2.1) (hcat : zsz st ≤ 8) (hcall : CR l Y k (zr 67 i :: As) M P) (kk : ∀ x M', P x M' → AW l X T pc' lv (zr k x :: st) M') : AW l X T pc lv st0 M :=
  fun g p e s m args below meth c H locs ls hC => aw_callPn (mc := 0) (ms := 0) hd hp hc hroom ⟨hC.2.2.2.2.2.2.2.2.2.1, hC.2.2.2.2.2.2.2.2.2.2⟩ hst hn hsz hcat hcall (fun _ _ ⟨x, e, q⟩ => by rw [e]; exact kk x _ q) g p e s m args below meth c H locs ls hC
theorem aw_FI {x0 : MethodName} {ct : Nat} {P : Int → zM → Prop} (hd : dec X pc = .ok (.invokeinterface ix ct, 5)) (hp : pc + 5 = pc') (hc : zCF X.1.cls ix x0 Y n) (hroom : Y.2.2.2.2.1 + 1 ≤ T.1.frames ∧ 8 + (Y.2.2.1 + 11) + Y.2.2.2.2.2 ≤ T.1.locals)
    (hst : As.reverse ++ zr 66 i :: st = st0) (hn : As.length = n) (hsz : zsz (zr 66 i :: As) ≤ Y.2.2.1) (hcat : zsz st ≤ 8) (hcall : CI l Y (zr 66 i :: As) M P) (kk : ∀ x M', P x M' → AW l X T pc' lv (zi x :: st) M') : AW l X T pc lv st0 M :=
  fun g p e s m args below meth c H locs ls hC => aw_callFn (mc := 0) (ms := 0) hd hp hc hroom ⟨hC.2.2.2.2.2.2.2.2.2.1, hC.2.2.2.2.2.2.2.2.2.2⟩ hst hn hsz hcat hcall (fun _ _ ⟨x, e, q⟩ => by rw [e]; exact kk x _ q) g p e s m args below meth c H locs ls hC
theorem aw_TV {P : zM → Prop} (hd : dec X pc = .ok (.invokevirtual ix, 3)) (hp : pc + 3 = pc') (hc : zCB X.1.cls ix Y n ∧ Cond.instanceMethod Y.1 ∈ zTB ∧ Cond.selects Y.1.cls Y.1 Y.1 ∈ zTB ∧ Y.1.cls = "java/lang/String") (hroom : Y.2.2.2.2.1 + 1 ≤ T.1.frames ∧ 8 + (Y.2.2.1 + 11) + Y.2.2.2.2.2 ≤ T.1.locals)
    (hst : As.reverse ++ zr 61 i :: st = st0) (hn : As.length = n) (hsz : zsz (zr 61 i :: As) ≤ Y.2.2.1) (hcat : zsz st ≤ 8) (hcall : CV l Y (zr 61 i :: As) M P) (kk : ∀ M', P M' → AW l X T pc' lv st M') : AW l X T pc lv st0 M :=
  aw_callT hd hp hc hroom hst hn hsz hcat hcall fun _ _ ⟨e, q⟩ => by rw [e]; exact kk _ q
theorem aw_rin {P : Int → zM → Prop} {x : Int} (hd : dec X pc = .ok (.ireturn, 1)) (hr : X.2.2.2.1 = some .int) (h : P x M) : AW l X (zTin X mc ms c0 n0 P) pc lv [zi x] M := aw_ireturn hd hr ⟨x, rfl, h⟩
theorem aw_rzn {P : Int → zM → Prop} {x : Int} (hd : dec X pc = .ok (.ireturn, 1)) (hr : X.2.2.2.1 = some .boolean) (hz : x = 0 ∨ x = 1) (h : P x M) : AW l X (zTin X mc ms c0 n0 P) pc lv [zi x] M := aw_zreturn hd hr hz ⟨x, rfl, h⟩
theorem aw_rvn {P : zM → Prop} (hd : dec X pc = .ok (.return_, 1)) (hr : X.2.2.2.1 = none) (h : P M) : AW l X (zTvn X mc ms c0 n0 P) pc lv [] M := aw_return hd hr ⟨rfl, h⟩
theorem aw_rrn {k i : Nat} {ty : FieldType} {P : Nat → zM → Prop} (hd : dec X pc = .ok (.areturn, 1)) (hr : X.2.2.2.1 = some ty) (hty : (∃ n, ty = .object n) ∨ ∃ t, ty = .array t) (hk : k ≠ 63) (h : P i M) : AW l X (zTrn X k mc ms c0 n0 P) pc lv [zr k i] M := aw_areturnG hd hr hty hk ⟨i, rfl, h⟩
theorem aw_rrg {k i : Nat} {ty : FieldType} {P : Nat → zM → Prop} (hd : dec X pc = .ok (.areturn, 1)) (hr : X.2.2.2.1 = some ty) (hty : (∃ n, ty = .object n) ∨ ∃ t, ty = .array t) (hk : k ≠ 63) (h : P i M) : AW l X (zTr X k P) pc lv [zr k i] M := aw_areturnG hd hr hty hk ⟨i, rfl, h⟩
/-- a reference that is kept as a number, by a name of its own -/
theorem aw_getE {ix kd k i k' b : Nat} {kc : Int} (hd : dec X pc = .ok (.getfield ix, 3)) (hp : pc + 3 = pc') (hf : zFL X.1.cls ix kd k) (hl : (zlay kd)[k]? = some (some (k', 2, b))) (hkc : (k : Int) = kc) (hk : 64 ≤ k' ∧ k' < 96) (hr : 0 ≤ M kd i kc ∧ M kd i kc < M 97 0 k') (kk : ∀ r : Nat, (r : Int) = M kd i kc → AW l X T pc' lv (zr k' r :: st) M) : AW l X T pc lv (zr kd i :: st) M :=
  aw_getD hd hp hf hl hkc hk hr (kk _ (Int.toNat_of_nonneg hr.1))
theorem aw_rale {k i : Nat} {j : Int} (hd : dec X pc = .ok (.aaload, 1)) (hp : pc + 1 = pc') (hk : zaG k 5) (hz : 64 ≤ zel k ∧ zel k < 96) (hj : zix M k i j) (hr : 0 ≤ M k i j ∧ M k i j < M 97 0 (zel k)) (kk : ∀ r : Nat, (r : Int) = M k i j → AW l X T pc' lv (zr (zel k) r :: st) M) : AW l X T pc lv (zi j :: zr k i :: st) M :=
  aw_rald hd hp hk hz hj hr (kk _ (Int.toNat_of_nonneg hr.1))
theorem aw_getEq {ix kd k i k' b r : Nat} {kc : Int} (hd : dec X pc = .ok (.getfield ix, 3)) (hp : pc + 3 = pc') (hf : zFL X.1.cls ix kd k) (hl : (zlay kd)[k]? = some (some (k', 2, b))) (hkc : (k : Int) = kc) (hk : 64 ≤ k' ∧ k' < 96) (hr : 0 ≤ M kd i kc ∧ M kd i kc < M 97 0 k') (hq : (r : Int) = M kd i kc) (kk : AW l X T pc' lv (zr k' r :: st) M) : AW l X T pc lv (zr kd i :: st) M := by
  refine aw_getD hd hp hf hl hkc hk hr ?_
  rw [← hq, Int.toNat_natCast]
  exact kk
theorem aw_raleq {k i r : Nat} {j : Int} (hd : dec X pc = .ok (.aaload, 1)) (hp : pc + 1 = pc') (hk : zaG k 5) (hz : 64 ≤ zel k ∧ zel k < 96) (hj : zix M k i j) (hr : 0 ≤ M k i j ∧ M k i j < M 97 0 (zel k)) (hq : (r : Int) = M k i j) (kk : AW l X T pc' lv (zr (zel k) r :: st) M) : AW l X T pc lv (zi j :: zr k i :: st) M := by
  refine aw_rald hd hp hk hz hj hr ?_
  rw [← hq, Int.toNat_natCast]
  exact kk
theorem aw_putF {ix kd k i : Nat} {x kc : Int} {ty : FieldType} (hd : dec X pc = .ok (.putfield ix, 3)) (hp : pc + 3 = pc') (hf : zFF X.1.cls ix kd k ty) (hi : X.1.name = "<init>") (hl : (zlay kd)[k]? = some none) (hkc : (k : Int) = kc) (hn : narrow ty (.int (Int32.ofInt x)) = .int (Int32.ofInt x)) (hfit : fits ty (.int (Int32.ofInt x)) = true) (kk : AW l X T pc' lv st (zu M kd i kc x)) : AW l X T pc lv (zi x :: zr kd i :: st) M := by
  refine aw_putv hd hp (.inr ⟨hf, hi⟩) hl hkc (fun ho g _ _ k' h => ?_) (fun g _ _ => ⟨?_, hn, hfit⟩) kk
  · rw [← hkc, zrp_no ho hl] at h
    cases h
  rw [zfv, hkc, zu_s]
  rfl
theorem aw_eqr2 {k x y : Nat} {M1 : zM} (h : x = y ∧ M' = M1) (kk : AW l X T pc lv (zr k y :: st) M1) : AW l X T pc lv (zr k x :: st) M' := by
  obtain ⟨rfl, rfl⟩ := h
  exact kk
/-- how long an array of its own length is -/
theorem aw_alenD {k i : Nat} (hd : dec X pc = .ok (.arraylength, 1)) (hp : pc + 1 = pc') (hk : (¬ (60 ≤ k ∧ k < 64) ∧ ¬ zob k ∧ zety k < 6) ∧ zlen k = 0) (h0 : 0 ≤ M k i (-1)) (kk : AW l X T pc' lv (zi (M k i (-1)) :: st) M) : AW l X T pc lv (zr k i :: st) M :=
  aw_alenG hd hp hk.1 (by rw [zln_d hk.2, Int.toNat_of_nonneg h0]) kk
theorem aw_alenF {k i : Nat} {x : Int} (hd : dec X pc = .ok (.arraylength, 1)) (hp : pc + 1 = pc') (hk : (¬ (60 ≤ k ∧ k < 64) ∧ ¬ zob k ∧ zety k < 6) ∧ zlen k ≠ 0) (hx : ((zlen k : Nat) : Int) = x) (kk : AW l X T pc' lv (zi x :: st) M) : AW l X T pc lv (zr k i :: st) M :=
  aw_alenG hd hp hk.1 (by rw [zln_s hk.2]; exact hx) kk
end
