/-! ===== contracts by the kind of answer; shorter rows ===== -/
def zTi (X : zD) (P : Int → zM → Prop) : zT := zTm X fun r M' => ∃ x : Int, r = some (zi x) ∧ P x M'
def zTl (X : zD) (P : Int → zM → Prop) : zT := zTm X fun r M' => ∃ x : Int, r = some (zl x) ∧ P x M'
def zTv (X : zD) (P : zM → Prop) : zT := zTm X fun r M' => r = none ∧ P M'
def zTr (X : zD) (k : Nat) (P : Nat → zM → Prop) : zT := zTm X fun r M' => ∃ i : Nat, r = some (zr k i) ∧ P i M'
def CI (l : Launch) (X : zD) (args : List zV) (M : zM) (P : Int → zM → Prop) : Prop := AW l X (zTi X P) 0 (zargs 0 args) [] M
def CL (l : Launch) (X : zD) (args : List zV) (M : zM) (P : Int → zM → Prop) : Prop := AW l X (zTl X P) 0 (zargs 0 args) [] M
def CV (l : Launch) (X : zD) (args : List zV) (M : zM) (P : zM → Prop) : Prop := AW l X (zTv X P) 0 (zargs 0 args) [] M
def CR (l : Launch) (X : zD) (k : Nat) (args : List zV) (M : zM) (P : Nat → zM → Prop) : Prop := AW l X (zTr X k P) 0 (zargs 0 args) [] M
theorem CI.mono {l : Launch} {X : zD} {args : List zV} {M : zM} {P P' : Int → zM → Prop} (k : CI l X args M P) (h : ∀ x M', P x M' → P' x M') : CI l X args M P' := AW_mono k fun _ _ ⟨x, e, q⟩ => ⟨x, e, h x _ q⟩
theorem CL.mono {l : Launch} {X : zD} {args : List zV} {M : zM} {P P' : Int → zM → Prop} (k : CL l X args M P) (h : ∀ x M', P x M' → P' x M') : CL l X args M P' := AW_mono k fun _ _ ⟨x, e, q⟩ => ⟨x, e, h x _ q⟩
theorem CV.mono {l : Launch} {X : zD} {args : List zV} {M : zM} {P P' : zM → Prop} (k : CV l X args M P) (h : ∀ M', P M' → P' M') : CV l X args M P' := AW_mono k fun _ _ ⟨e, q⟩ => ⟨e, h _ q⟩
theorem CR.mono {l : Launch} {X : zD} {args : List zV} {M : zM} {n : Nat} {P P' : Nat → zM → Prop} (k : CR l X n args M P) (h : ∀ x M', P x M' → P' x M') : CR l X n args M P' := AW_mono k fun _ _ ⟨x, e, q⟩ => ⟨x, e, h x _ q⟩
/-- a truth as 0, 1 -/
def zb (c : Prop) [Decidable c] : Int := if c then 1 else 0
theorem zb_I {c : Prop} [Decidable c] : zI (zb c) := by unfold zb; split <;> omega
theorem zb_0 {c : Prop} [Decidable c] (h : zb c = 0) : ¬ c := by
  intro q
  rw [zb, if_pos q] at h
  cases h
theorem zb_n0 {c : Prop} [Decidable c] (h : zb c ≠ 0) : c := by
  by_cases q : c
  · exact q
  · exact absurd (by rw [zb, if_neg q]) h
theorem zb_1 {c : Prop} [Decidable c] (h : c) : zb c = 1 := if_pos h
theorem zb_f {c : Prop} [Decidable c] (h : ¬ c) : zb c = 0 := if_neg h
theorem zb_01 {c : Prop} [Decidable c] : zb c = 0 ∨ zb c = 1 := by unfold zb; split <;> omega
section
variable {l : Launch} {X : zD} {T : zT} {pc pc' : Nat} {lv lv' : List (Nat × zV)} {st st' st0 : List zV} {M M' : zM} {Y : zD} {ix n kd i : Nat} {As : List zV}
theorem aw_eqs {x y : Int} (h : x = y ∧ M' = M) (kk : AW l X T pc lv (zi y :: st) M) : AW l X T pc lv (zi x :: st) M' := by
  obtain ⟨rfl, rfl⟩ := h
  exact kk
theorem aw_eqM {M1 : zM} (h : M' = M1) (kk : AW l X T pc lv st M1) : AW l X T pc lv st M' := by
  subst h
  exact kk
theorem aw_VI {P : Int → zM → Prop} (hd : dec X pc = .ok (.invokevirtual ix, 3)) (hp : pc + 3 = pc') (hc : zCV X.1.cls ix Y n kd) (hroom : Y.2.2.2.2.1 + 1 ≤ T.1.frames ∧ 8 + (Y.2.2.1 + 11) + Y.2.2.2.2.2 ≤ T.1.locals)
    (hst : As.reverse ++ zr kd i :: st = st0) (hn : As.length = n) (hsz : zsz (zr kd i :: As) ≤ Y.2.2.1) (hcat : zsz st ≤ 8) (hcall : CI l Y (zr kd i :: As) M P) (kk : ∀ x M', P x M' → AW l X T pc' lv (zi x :: st) M') : AW l X T pc lv st0 M :=
  aw_callV hd hp hc hroom hst hn hsz hcat hcall fun _ _ ⟨x, e, q⟩ => by rw [e]; exact kk x _ q
theorem aw_VL {P : Int → zM → Prop} (hd : dec X pc = .ok (.invokevirtual ix, 3)) (hp : pc + 3 = pc') (hc : zCV X.1.cls ix Y n kd) (hroom : Y.2.2.2.2.1 + 1 ≤ T.1.frames ∧ 8 + (Y.2.2.1 + 11) + Y.2.2.2.2.2 ≤ T.1.locals)
    (hst : As.reverse ++ zr kd i :: st = st0) (hn : As.length = n) (hsz : zsz (zr kd i :: As) ≤ Y.2.2.1) (hcat : zsz st ≤ 8) (hcall : CL l Y (zr kd i :: As) M P) (kk : ∀ x M', P x M' → AW l X T pc' lv (zl x :: st) M') : AW l X T pc lv st0 M :=
  aw_callV hd hp hc hroom hst hn hsz hcat hcall fun _ _ ⟨x, e, q⟩ => by rw [e]; exact kk x _ q
theorem aw_VV {P : zM → Prop} (hd : dec X pc = .ok (.invokevirtual ix, 3)) (hp : pc + 3 = pc') (hc : zCV X.1.cls ix Y n kd) (hroom : Y.2.2.2.2.1 + 1 ≤ T.1.frames ∧ 8 + (Y.2.2.1 + 11) + Y.2.2.2.2.2 ≤ T.1.locals)
    (hst : As.reverse ++ zr kd i :: st = st0) (hn : As.length = n) (hsz : zsz (zr kd i :: As) ≤ Y.2.2.1) (hcat : zsz st ≤ 8) (hcall : CV l Y (zr kd i :: As) M P) (kk : ∀ M', P M' → AW l X T pc' lv st M') : AW l X T pc lv st0 M :=
  aw_callV hd hp hc hroom hst hn hsz hcat hcall fun _ _ ⟨e, q⟩ => by rw [e]; exact kk _ q
theorem aw_VR {k : Nat} {P : Nat → zM → Prop} (hd : dec X pc = .ok (.invokevirtual ix, 3)) (hp : pc + 3 = pc') (hc : zCV X.1.cls ix Y n kd) (hroom : Y.2.2.2.2.1 + 1 ≤ T.1.frames ∧ 8 + (Y.2.2.1 + 11) + Y.2.2.2.2.2 ≤ T.1.locals)
    (hst : As.reverse ++ zr kd i :: st = st0) (hn : As.length = n) (hsz : zsz (zr kd i :: As) ≤ Y.2.2.1) (hcat : zsz st ≤ 8) (hcall : CR l Y k (zr kd i :: As) M P) (kk : ∀ x M', P x M' → AW l X T pc' lv (zr k x :: st) M') : AW l X T pc lv st0 M :=
  aw_callV hd hp hc hroom hst hn hsz hcat hcall fun _ _ ⟨x, e, q⟩ => by rw [e]; exact kk x _ q
theorem aw_TI {P : Int → zM → Prop} (hd : dec X pc = .ok (.invokevirtual ix, 3)) (hp : pc + 3 = pc') (hc : zCB X.1.cls ix Y n ∧ Cond.instanceMethod Y.1 ∈ zTB ∧ Cond.selects Y.1.cls Y.1 Y.1 ∈ zTB ∧ Y.1.cls = "java/lang/String") (hroom : Y.2.2.2.2.1 + 1 ≤ T.1.frames ∧ 8 + (Y.2.2.1 + 11) + Y.2.2.2.2.2 ≤ T.1.locals)
    (hst : As.reverse ++ zr 61 i :: st = st0) (hn : As.length = n) (hsz : zsz (zr 61 i :: As) ≤ Y.2.2.1) (hcat : zsz st ≤ 8) (hcall : CI l Y (zr 61 i :: As) M P) (kk : ∀ x M', P x M' → AW l X T pc' lv (zi x :: st) M') : AW l X T pc lv st0 M :=
  aw_callT hd hp hc hroom hst hn hsz hcat hcall fun _ _ ⟨x, e, q⟩ => by rw [e]; exact kk x _ q
theorem aw_SI {P : Int → zM → Prop} (hd : dec X pc = .ok (.invokestatic ix, 3)) (hp : pc + 3 = pc') (hc : zCS X.1.cls ix Y n) (hroom : Y.2.2.2.2.1 + 1 ≤ T.1.frames ∧ 8 + (Y.2.2.1 + 11) + Y.2.2.2.2.2 ≤ T.1.locals)
    (hst : As.reverse ++ st = st0) (hn : As.length = n) (hsz : zsz As ≤ Y.2.2.1) (hcat : zsz st ≤ 8) (hcall : CI l Y As M P) (kk : ∀ x M', P x M' → AW l X T pc' lv (zi x :: st) M') : AW l X T pc lv st0 M :=
  aw_callS hd hp hc hroom hst hn hsz hcat hcall fun _ _ ⟨x, e, q⟩ => by rw [e]; exact kk x _ q
theorem aw_SL {P : Int → zM → Prop} (hd : dec X pc = .ok (.invokestatic ix, 3)) (hp : pc + 3 = pc') (hc : zCS X.1.cls ix Y n) (hroom : Y.2.2.2.2.1 + 1 ≤ T.1.frames ∧ 8 + (Y.2.2.1 + 11) + Y.2.2.2.2.2 ≤ T.1.locals)
    (hst : As.reverse ++ st = st0) (hn : As.length = n) (hsz : zsz As ≤ Y.2.2.1) (hcat : zsz st ≤ 8) (hcall : CL l Y As M P) (kk : ∀ x M', P x M' → AW l X T pc' lv (zl x :: st) M') : AW l X T pc lv st0 M :=
  aw_callS hd hp hc hroom hst hn hsz hcat hcall fun _ _ ⟨x, e, q⟩ => by rw [e]; exact kk x _ q
theorem aw_SV {P : zM → Prop} (hd : dec X pc = .ok (.invokestatic ix, 3)) (hp : pc + 3 = pc') (hc : zCS X.1.cls ix Y n) (hroom : Y.2.2.2.2.1 + 1 ≤ T.1.frames ∧ 8 + (Y.2.2.1 + 11) + Y.2.2.2.2.2 ≤ T.1.locals)
    (hst : As.reverse ++ st = st0) (hn : As.length = n) (hsz : zsz As ≤ Y.2.2.1) (hcat : zsz st ≤ 8) (hcall : CV l Y As M P) (kk : ∀ M', P M' → AW l X T pc' lv st M') : AW l X T pc lv st0 M :=
  aw_callS hd hp hc hroom hst hn hsz hcat hcall fun _ _ ⟨e, q⟩ => by rw [e]; exact kk _ q
theorem aw_SR {k : Nat} {P : Nat → zM → Prop} (hd : dec X pc = .ok (.invokestatic ix, 3)) (hp : pc + 3 = pc') (hc : zCS X.1.cls ix Y n) (hroom : Y.2.2.2.2.1 + 1 ≤ T.1.frames ∧ 8 + (Y.2.2.1 + 11) + Y.2.2.2.2.2 ≤ T.1.locals)
    (hst : As.reverse ++ st = st0) (hn : As.length = n) (hsz : zsz As ≤ Y.2.2.1) (hcat : zsz st ≤ 8) (hcall : CR l Y k As M P) (kk : ∀ x M', P x M' → AW l X T pc' lv (zr k x :: st) M') : AW l X T pc lv st0 M :=
  aw_callS hd hp hc hroom hst hn hsz hcat hcall fun _ _ ⟨x, e, q⟩ => by rw [e]; exact kk x _ q
theorem aw_ri {P : Int → zM → Prop} {x : Int} (hd : dec X pc = .ok (.ireturn, 1)) (hr : X.2.2.2.1 = some .int) (h : P x M) : AW l X (zTi X P) pc lv [zi x] M := aw_ireturn hd hr ⟨x, rfl, h⟩
theorem aw_rz {P : Int → zM → Prop} {x : Int} (hd : dec X pc = .ok (.ireturn, 1)) (hr : X.2.2.2.1 = some .boolean) (hz : x = 0 ∨ x = 1) (h : P x M) : AW l X (zTi X P) pc lv [zi x] M := aw_zreturn hd hr hz ⟨x, rfl, h⟩
theorem aw_rl {P : Int → zM → Prop} {x : Int} (hd : dec X pc = .ok (.lreturn, 1)) (hr : X.2.2.2.1 = some .long) (h : P x M) : AW l X (zTl X P) pc lv [zl x] M := aw_lreturn hd hr ⟨x, rfl, h⟩
theorem aw_rv {P : zM → Prop} (hd : dec X pc = .ok (.return_, 1)) (hr : X.2.2.2.1 = none) (h : P M) : AW l X (zTv X P) pc lv [] M := aw_return hd hr ⟨rfl, h⟩
theorem aw_rr {k i : Nat} {nm : String} {P : Nat → zM → Prop} (hd : dec X pc = .ok (.areturn, 1)) (hr : X.2.2.2.1 = some (.object nm)) (hk : k ≠ 63) (h : P i M) : AW l X (zTr X k P) pc lv [zr k i] M := aw_areturn hd hr hk ⟨i, rfl, h⟩
theorem zinL (ws : List Cond) (ps : List Nat) (hp : ws = ps.filterMap (fun i => tables_1[i]?)) (hg : ws.all goodWord = true) : ∀ w ∈ ws, w ∈ zTB := by
  intro w hw
  have h1 := List.all_eq_true.mp hg w hw
  rw [hp] at hw
  obtain ⟨i, -, hi⟩ := List.mem_filterMap.mp hw
  exact zin_t (List.mem_of_getElem? hi) h1
theorem zti {w : Cond} (i : Nat) (h : tables_1[i]? = some w) (hg : goodWord w = true) : w ∈ zTB := zin_t (List.mem_of_getElem? h) hg
theorem zni {w : Cond} (i : Nat) (h : tables_1[i]? = some w) (hg : zisN w = true) : w ∈ znest := List.mem_filter.mpr ⟨List.mem_of_getElem? h, hg⟩
theorem zpi {y : MethodName} (i : Nat) {n : Nat} (h : lw_privs[i]? = some (y, n)) (hg : goodWord (.selects y.cls y y) = true) : Cond.selects y.cls y y ∈ zTB := zin_p (List.mem_map.mpr ⟨(y, n), List.mem_of_getElem? h, rfl⟩) hg
end
