/-! ===== values, memory, world: the abstract machine's words ===== -/
abbrev zV : Type := Int ⊕ (Int ⊕ (UInt64 ⊕ (Nat × Nat)))
abbrev zi (x : Int) : zV := .inl x
abbrev zl (x : Int) : zV := .inr (.inl x)
abbrev zd (x : UInt64) : zV := .inr (.inr (.inl x))
abbrev zr (k i : Nat) : zV := .inr (.inr (.inr (k, i)))
abbrev zn : zV := zr 63 1
abbrev zM : Type := Nat → Nat → Int → Int
def zu (M : zM) (k i : Nat) (j : Int) (x : Int) : zM := fun k' i' j' => if k' = k ∧ i' = i ∧ j' = j then x else M k' i' j'
theorem zu_s (M : zM) (k i : Nat) (j : Int) (x : Int) : zu M k i j x k i j = x := if_pos ⟨rfl, rfl, rfl⟩
theorem zu_n {M : zM} {k i k' i' : Nat} {j j' : Int} {x : Int} (h : ¬ (k' = k ∧ i' = i ∧ j' = j)) : zu M k i j x k' i' j' = M k' i' j' := if_neg h
-- a method: its name, code, locals, answer, frames and locals' words that it asks below it
abbrev zD : Type := MethodName × ByteArray × Nat × Option FieldType × Nat × Nat
-- a launch: classes, addresses, arrays' classes, the script, what was made behind the fixed cells, the first own address
abbrev zG : Type := va_G × (Nat → Nat → Nat) × (Nat → ClassId) × Nat × (Nat → Int32) × List (Nat × Nat) × Nat
abbrev zgo (g : zG) : List (Nat × Nat) := g.2.2.2.2.2.1
abbrev zgn (g : zG) : Nat := g.2.2.2.2.2.2
def dec (X : zD) (pc : Nat) : Except DecodeError (Instr × Nat) := decode X.2.1 pc
def zcntL : List Nat := [2, 14, 1, 1, 1, 1, 1, 1, 1, 0, 2, 2, 14, 14, 14, 14, 14, 14, 1, 1, 1, 1, 1, 1, 1, 1, 1, 0, 0, 0, 0, 0, 0, 0, 0, 0, 0, 0, 0, 0, 0, 0, 0, 0, 0, 0, 0, 0, 0, 0, 0, 0, 0, 0, 0, 0, 0, 0, 0, 0, 4, 16, 16, 2]
def zlayL : List (List (Option (Nat × Nat × Nat))) := [[some (10, 1, 0), some (11, 1, 0), none, none, none, none, none, none, none, none, none], [some (12, 1, 0), some (13, 1, 0), some (14, 1, 0), some (15, 1, 0), some (16, 1, 0), some (17, 1, 0), none, none, none, none, none, none, none], [some (18, 0, 0), none, none], [some (19, 0, 0), none], [some (20, 0, 0), some (21, 0, 0), none], [some (22, 0, 0), none, none], [some (23, 0, 0), none], [some (24, 0, 0), some (1, 0, 1), none, none, none, none, none], [some (1, 0, 0), some (7, 0, 0), some (2, 0, 0), some (6, 0, 0), some (3, 0, 0), some (0, 0, 0), some (0, 0, 1), some (4, 0, 0), some (5, 0, 0), some (25, 0, 0), some (26, 0, 0)], [], [], [], [], [], [], [], [], [], [], [], [], [], [], [], [], [], [], [], [], [], [], [], [], [], [], [], [], [], [], [], [], [], [], [], [], [], [], [], [], [], [], [], [], [], [], [], [], [], [], [], [], [], [], [], [none, none, none, none, none, none, none, some (70, 2, 0), some (71, 2, 0), some (72, 2, 0), some (73, 2, 0), some (74, 2, 0)], [some (76, 2, 0), some (76, 2, 0), none, none, none, none, none, none, none], [some (80, 2, 0), none, none, none], [some (80, 2, 0), none, none, none], [], [], [], [], [], [], [], [], [], [], [], [], []]
def zetyL : List Nat := [0, 0, 0, 0, 0, 0, 0, 0, 0, 0, 0, 0, 1, 0, 0, 0, 0, 0, 4, 0, 0, 0, 0, 4, 0, 0, 3, 0, 0, 0, 0, 0, 0, 0, 0, 0, 0, 0, 0, 0, 0, 0, 0, 0, 0, 0, 0, 0, 0, 0, 0, 0, 0, 0, 0, 0, 0, 0, 0, 0, 0, 0, 0, 0, 0, 0, 0, 0, 0, 0, 1, 0, 0, 0, 5, 0, 5, 0, 0, 0, 2]
def zlenL : List Nat := [0, 0, 0, 0, 0, 0, 0, 0, 0, 0, 80, 80, 20, 20, 20, 80, 20, 20, 10, 640, 20, 20, 81, 2, 400, 501, 81, 0, 0, 0, 0, 0, 0, 0, 0, 0, 0, 0, 0, 0, 0, 0, 0, 0, 0, 0, 0, 0, 0, 0, 0, 0, 0, 0, 0, 0, 0, 0, 0, 0, 0, 0, 0, 0, 0, 0, 0, 0, 0, 0, 21, 21, 21, 21, 21, 0, 81, 3, 21, 5, 0]
def zelL : List Nat := [0, 0, 0, 0, 0, 0, 0, 0, 0, 0, 0, 0, 0, 0, 0, 0, 0, 0, 0, 0, 0, 0, 0, 0, 0, 0, 0, 0, 0, 0, 0, 0, 0, 0, 0, 0, 0, 0, 0, 0, 0, 0, 0, 0, 0, 0, 0, 0, 0, 0, 0, 0, 0, 0, 0, 0, 0, 0, 0, 0, 0, 0, 0, 0, 0, 0, 0, 0, 0, 0, 0, 0, 0, 0, 75, 0, 77, 0, 0, 0, 0]
abbrev zkPast : Nat := 18
abbrev zsN : Nat := 16
def zsLen : List Nat := [5, 6, 3, 3, 3, 6, 4, 5, 6, 7, 4, 4, 1, 0, 5, 5]
def zsByt : List (List Int32) := [[98, 117, 121, 101, 114], [115, 101, 108, 108, 101, 114], [102, 101, 101], [108, 97, 119], [99, 117, 116], [109, 105, 100, 100, 108, 101], [108, 101, 115, 115], [97, 112, 97, 114, 116], [98, 117, 121, 101, 114, 32], [115, 101, 108, 108, 101, 114, 32], [102, 101, 101, 32], [108, 97, 119, 32], [59], [], [59, 102, 101, 101, 32], [59, 108, 97, 119, 32]]
def zsRefs : List (String × Nat × String × Nat) := [("TradeHall", 403, "middle", 5), ("TradeHall", 405, "less", 6), ("TradeHall", 407, "apart", 7), ("TradeHall", 409, "cut", 4), ("TradeHall$Letters", 26, "seller", 1), ("TradeHall$Letters", 28, "buyer", 0), ("TradeHall$Letters", 52, "fee", 2), ("TradeHall$Letters", 56, "law", 3), ("TradeHall$Tape", 59, "buyer", 0), ("TradeHall$Tape", 69, "seller", 1), ("TradeHall$Tape", 71, "fee", 2), ("TradeHall$Tape", 77, "law", 3), ("TradeHallLaw$Hall", 67, ";", 12), ("TradeHallLaw$Hall", 69, "", 13), ("TradeHallLaw$Hall", 75, "seller ", 9), ("TradeHallLaw$Hall", 77, "buyer ", 8), ("TradeHallLaw$Hall", 89, ";fee ", 14), ("TradeHallLaw$Hall", 91, "fee ", 10), ("TradeHallLaw$Hall", 93, ";law ", 15), ("TradeHallLaw$Hall", 95, "law ", 11), ("TradeHallLaw$Hall", 97, "middle", 5), ("TradeHallLaw$Hall", 99, "less", 6), ("TradeHallLaw$Hall", 101, "apart", 7)]
def zDigs : List (String × Nat × (Nat → Int)) := [("DigitTens", 2, fun j => 48 + (j : Int) / 10), ("DigitOnes", 3, fun j => 48 + (j : Int) % 10)]
abbrev k_bids : Nat := 10
abbrev k_asks : Nat := 11
abbrev k_hSells : Nat := 12
abbrev k_hGrades : Nat := 13
abbrev k_hUnits : Nat := 14
abbrev k_hSays : Nat := 15
abbrev k_hPurses : Nat := 16
abbrev k_hTraded : Nat := 17
abbrev k_past : Nat := 18
abbrev k_lBytes : Nat := 19
abbrev k_rOrder : Nat := 20
abbrev k_rGains : Nat := 21
abbrev k_sMost : Nat := 22
abbrev k_shHalls : Nat := 23
abbrev k_tBytes : Nat := 24
abbrev k_byFee : Nat := 25
abbrev k_ways : Nat := 26
def zcnt (k : Nat) : Nat := zcntL.getD k 0
def zlay (k : Nat) : List (Option (Nat × Nat × Nat)) := zlayL.getD k []
/-- element kinds: 0 int, 1 boolean, 2 byte, 3 long, 4 halls, 5 rows of ints -/
def zety (k : Nat) : Nat := zetyL.getD k 0
def zlen (k : Nat) : Nat := zlenL.getD k 0
def zel (k : Nat) : Nat := zelL.getD k 0
def zoff (k : Nat) : Nat := if k = zkPast then 2 else 12
/-- kinds of objects; their place among the classes -/
abbrev zob (k : Nat) : Prop := k < 10 ∨ (64 ≤ k ∧ k < 68)
def zci (k : Nat) : Nat := if k < 10 then k else k - 55
/-- how long an array is -/
def zln (M : zM) (k i : Nat) : Nat := if zlen k = 0 then (M k i (-1)).toNat else zlen k
def zlocs : List (Nat × Nat) := (List.range 60).flatMap fun k => (List.range (zcnt k)).map fun i => (k, i)
theorem zlocs_mem {k i : Nat} : (k, i) ∈ zlocs ↔ k < 60 ∧ i < zcnt k := by
  simp [zlocs, List.mem_flatMap]
theorem zlocs_nodup : zlocs.Nodup := by decide +kernel
abbrev zall (g : zG) : List (Nat × Nat) := zlocs ++ zgo g
def zcv (g : zG) : zV → Value
  | .inl x => .int (Int32.ofInt x)
  | .inr (.inl x) => .long (Int64.ofInt x)
  | .inr (.inr (.inl x)) => .double x
  | .inr (.inr (.inr (k, i))) => if k = 63 then (if i = 0 then (if g.2.1 63 0 = 0 then .null else .ref (g.2.1 60 1)) else .null) else .ref (g.2.1 k i)
def zok (g : zG) : zV → Prop
  | .inr (.inr (.inr (k, i))) => if 60 ≤ k ∧ k < 64 then i < zcnt k else (k, i) ∈ zall g
  | _ => True
/-- a reference kept as a number: its place in its kind, below 0 null -/
def zdo (g : zG) (k : Nat) (r : Int) : Option Nat := if r < 0 then none else some (g.2.1 k r.toNat)
def zfv (g : zG) (M : zM) (k i j : Nat) (o : Option (Nat × Nat × Nat)) : Value := match o with
  | none => .int (Int32.ofInt (M k i j))
  | some (k', a, b) => if a = 2 then va_rf (zdo g k' (M k i j)) else .ref (g.2.1 k' (a * i + b))
def zfl (g : zG) (M : zM) (k i : Nat) : List Value := (zlay k).mapIdx (fun j o => zfv g M k i j o)
def zarr (g : zG) (M : zM) (k i : Nat) : (Nat → Int32) ⊕ (Nat → Int64) ⊕ (Nat → UInt32) ⊕ (Nat → UInt64) ⊕ (Nat → Option Nat) :=
  if zety k = 3 then .inr (.inl fun j => Int64.ofInt (M k i j)) else if zety k = 4 then .inr (.inr (.inr (.inr fun j => some (g.2.1 1 (j + zoff k))))) else
  if zety k = 5 then .inr (.inr (.inr (.inr fun j => zdo g (zel k) (M k i j)))) else .inl fun j => Int32.ofInt (M k i j)
def zent (g : zG) (M : zM) (k i : Nat) : va_E := if zob k then .inr (zci k, zfl g M k i) else .inl (g.2.2.1 (zety k), zln M k i, zarr g M k i)
def zws (g : zG) (M : zM) : va_W := (zall g).map fun q => (g.2.1 q.1 q.2, zent g M q.1 q.2)
def zA (g : zG) (q : Nat) : Prop := zgn g ≤ q
def ztys (g : zG) : List (ClassId × FieldType) := [(g.2.2.1 0, .int), (g.2.2.1 1, .boolean), (g.2.2.1 2, .byte), (g.2.2.1 3, .long), (g.2.2.1 4, .object "TradeHall$Hall"), (g.2.2.1 5, .array .int)]
/-- places that hold references as numbers: the kind that they mean -/
def zrp (k : Nat) (j : Int) : Option Nat := if zety k = 5 then some (zel k) else match (zlay k)[j.toNat]? with
  | some (some (k', a, _)) => if a = 2 then some k' else none
  | _ => none
/-- such numbers are below their kind's count -/
def zRV (M : zM) : Prop := ∀ (k i : Nat) (j : Int) (k' : Nat), (64 ≤ k ∧ k < 96) → (i : Int) < M 97 0 k → 0 ≤ j → zrp k j = some k' → M k i j < M 97 0 k'
/-- what was made: each kind's in a row from 0 on; row 97 counts them -/
def zO (g : zG) (M : zM) : Prop := (zgo g).Nodup ∧ (∀ k i : Nat, (k, i) ∈ zgo g ↔ ((64 ≤ k ∧ k < 96) ∧ (i : Int) < M 97 0 k)) ∧ zRV M ∧ ∀ k : Nat, 0 ≤ M 97 0 k
def zW (g : zG) (M : zM) (H : Heap) : Prop := va_P g.1 vwCl (zws g M) H ∧ va_D (zA g) (zws g M) ∧ zO g M
/-- which method a private call on a StringBuilder selects -/
def zsbs : List Cond := [yJ5_ensureCapacityInternal_d00df, yJ5_putStringAt_47b60, yJ5_inflateIfNeededFor_a7421].map fun y => Cond.selects "java/lang/StringBuilder" y y
def zTB : List Cond := zsbs ++ lw_tbl.filter goodWord
theorem zin {w : Cond} (h : w ∈ lw_tbl) (hg : goodWord w = true) : w ∈ zTB := List.mem_append_right _ (List.mem_filter.mpr ⟨h, hg⟩)
theorem zTB_good {w : Cond} (h : w ∈ zTB) : goodWord w = true := by
  rcases List.mem_append.mp h with h | h
  · obtain ⟨y, -, rfl⟩ := List.mem_map.mp h
    rfl
  · exact (List.mem_filter.mp h).2
theorem zin_t {w : Cond} (h : w ∈ tables_1) (hg : goodWord w = true) : w ∈ zTB := zin (List.mem_append_right _ h) hg
theorem zin_p {w : Cond} (h : w ∈ k2_sels lw_privs) (hg : goodWord w = true) : w ∈ zTB := zin (List.mem_append_left _ h) hg
-- nest mates' words, words on casts and faces, strings
def zisN : Cond → Bool
  | .fieldLinkNest .. => true
  | .methodLinkNest .. => true
  | .castable .. => true
  | _ => false
def znest : List Cond := tables_1.filter zisN
theorem znest_warm {s U : State} (hW : s.WarmedH U.vm) (h : ∀ w ∈ znest, va_Nw w s) : ∀ w ∈ znest, va_Nw w U := by
  intro w hw
  have h1 := h w hw
  have h2 := (List.mem_filter.mp hw).2
  cases w <;> first | (cases h2; done) | exact va_Nw.warmF hW h1 | exact va_Nw.warmM hW h1 | exact va_Nw.warmC hW h1
abbrev zsA (g : zG) : Nat → Nat := g.2.1 61
abbrev zsV (g : zG) : Nat → Nat := g.2.1 62
/-- arrays of int rows can be made -/
def zAI (U : State) : Prop := ∃ (comp c : ClassId) (k : Class), U.vm.findClass "[I" = some comp ∧ (U.vm.classes.findIdx? fun (x : Class) => match x.kind with | .array component _ => component == comp | _ => false) = some c ∧ U.vm.classes[c]? = some k ∧ k.kind = .array comp (.array .int) ∧ U.vm.findClass "[[I" = some c
/-- the faces of a text -/
def zFc (U : State) : Prop := va_Fw "java/lang/String" ⟨"java/lang/CharSequence", "length", "()I"⟩ yJ0_length_8abf5 U ∧ va_Fw "java/lang/String" ⟨"java/lang/CharSequence", "charAt", "(I)C"⟩ yJ0_charAt_5068e U
theorem zFc.moved {u U : State} (hvm : u.vm.Alike U.vm) (h : zFc u) : zFc U := ⟨va_Fw.moved (by decide +kernel) hvm h.1, va_Fw.moved (by decide +kernel) hvm h.2⟩
/-- what stands beside the world: classes, words, strings, the script, the faces of texts, the digits -/
def zK (g : zG) (U : State) (H : Heap) : Prop :=
  va_K g.1 vwCl (ztys g) U ∧ (∀ w ∈ znest, va_Nw w U) ∧ vk_S zsN zsLen zsByt (zsA g) (zsV g) (zA g) U H ∧ (∀ q ∈ zsRefs, vk_R q.1 q.2.1 q.2.2.1 (zsA g q.2.2.2) U) ∧
  va_Z "java/lang/String" "COMPACT_STRINGS" "Z" (.int 1) (zA g) U H ∧
  va_X (g.2.1 60 0) g.2.2.2.1 g.2.2.2.2.1 U H ∧ va_Z "jdk/internal/util/Preconditions" "SIOOBE_FORMATTER" "Ljava/util/function/BiFunction;" (zcv g (zr 63 0)) (zA g) U H ∧ g.2.1 60 0 < H.size ∧ ¬ zA g (g.2.1 60 0) ∧
  zAI U ∧ zFc U ∧
  (∀ q ∈ zDigs, va_Z "java/lang/Integer" q.1 "[B" (.ref (g.2.1 60 q.2.1)) (zA g) U H ∧ va_T .byte (g.2.1 60 q.2.1) 100 (fun j => .int (Int32.ofInt (q.2.2 j))) (zA g) U H)
theorem zAI.ao {U : State} {args : Array Value} (h : zAI U) : (Cond.arrayOver (.array .int)).before args U = true := by
  obtain ⟨comp, c, k, h1, h2, h3, h4, h5⟩ := h
  have e1 : (FieldType.array .int).toString = "[I" := by decide +kernel
  have e2 : "[" ++ "[I" = "[[I" := by decide +kernel
  simp only [Cond.before, Cond.holds, Cond.value, e1, h1, Option.bind_some]
  erw [h2]
  simp [h3, h4, h5, e1, e2]
theorem zAI.moved {u U : State} (hvm : u.vm.Alike U.vm) (h : zAI u) : zAI U := by
  obtain ⟨comp, c, k, h1, h2, h3, h4, h5⟩ := h
  obtain ⟨k', hk', he⟩ := hvm.2.2 _ _ h3
  refine ⟨comp, c, k', by rw [hvm.findClass]; exact h1, ?_, hk', by rw [he]; exact h4, by rw [hvm.findClass]; exact h5⟩
  rw [hvm.findIdx?_eq _ (fun _ => rfl)]
  exact h2
theorem zK.mv {g : zG} {s U : State} {H0 H : Heap} (h : zK g s H0) (ha : s.vm.Alike U.vm) (hN : ∀ w ∈ znest, va_Nw w U) (hR : ∀ q ∈ zsRefs, vk_R q.1 q.2.1 q.2.2.1 (zsA g q.2.2.2) U) (hz : H0.size ≤ H.size) (hS : ∀ q : Nat, q < H0.size → ¬ zA g q → H[q]? = H0[q]?) : zK g U H := by
  obtain ⟨h1, -, h3, -, h5, h6, h7, h8, h9, h10, h11, h12⟩ := h
  exact ⟨h1.moved ha, hN, (h3.moved ha).kept hS, hR, (h5.moved ha).kept hS, (h6.moved ha).kept (hS _ h8 h9), (h7.moved ha).kept hS, Nat.lt_of_lt_of_le h8 hz, h9, h10.moved ha, h11.moved ha, fun q hq => ⟨((h12 q hq).1.moved ha).kept hS, ((h12 q hq).2.moved ha).kept hS⟩⟩
theorem zK.go {g : zG} {s U : State} {H0 H : Heap} {locs : List Loc} (h : zK g s H0) (hW : s.WarmedH U.vm) (hS : va_S (zA g) H0 H locs) : zK g U H :=
  h.mv hW.alike (znest_warm hW h.2.1) (fun q hq => vk_R.warm hW (h.2.2.2.1 q hq)) hS.1 hS.2.1
/-- more was made -/
def zX (g g' : zG) : Prop := g'.1 = g.1 ∧ g'.2.2.1 = g.2.2.1 ∧ g'.2.2.2.1 = g.2.2.2.1 ∧ g'.2.2.2.2.1 = g.2.2.2.2.1 ∧ zgn g' = zgn g ∧ (∀ x ∈ zgo g, x ∈ zgo g') ∧ ∀ k i : Nat, (k < 64 ∨ (k, i) ∈ zgo g) → g'.2.1 k i = g.2.1 k i
theorem zX.rf {g : zG} : zX g g := ⟨rfl, rfl, rfl, rfl, rfl, fun _ h => h, fun _ _ _ => rfl⟩
theorem zX.tr {g g1 g2 : zG} (a : zX g g1) (b : zX g1 g2) : zX g g2 := by
  obtain ⟨a1, a2, a3, a4, a5, a6, a7⟩ := a
  obtain ⟨b1, b2, b3, b4, b5, b6, b7⟩ := b
  exact ⟨b1.trans a1, b2.trans a2, b3.trans a3, b4.trans a4, b5.trans a5, fun x h => b6 x (a6 x h), fun k i h => (b7 k i (h.imp_right (a6 _))).trans (a7 k i h)⟩
theorem zX.A {g g' : zG} (h : zX g g') : zA g' = zA g := by
  funext q
  unfold zA
  rw [h.2.2.2.2.1]
theorem zX.ok {g g' : zG} (h : zX g g') {v : zV} (hv : zok g v) : zok g' v := by
  rcases v with x | x | x | ⟨k, i⟩
  · trivial
  · trivial
  · trivial
  · show if 60 ≤ k ∧ k < 64 then i < zcnt k else (k, i) ∈ zall g'
    have hv' : if 60 ≤ k ∧ k < 64 then i < zcnt k else (k, i) ∈ zall g := hv
    split
    · next c => rw [if_pos c] at hv'; exact hv'
    · next c =>
      rw [if_neg c] at hv'
      rcases List.mem_append.mp hv' with q | q
      · exact List.mem_append_left _ q
      · exact List.mem_append_right _ (h.2.2.2.2.2.1 _ q)
theorem zX.cv {g g' : zG} (h : zX g g') {v : zV} (hv : zok g v) : zcv g' v = zcv g v := by
  rcases v with x | x | x | ⟨k, i⟩
  · rfl
  · rfl
  · rfl
  · have e := h.2.2.2.2.2.2
    show (if k = 63 then (if i = 0 then (if g'.2.1 63 0 = 0 then Value.null else Value.ref (g'.2.1 60 1)) else Value.null) else Value.ref (g'.2.1 k i)) = (if k = 63 then (if i = 0 then (if g.2.1 63 0 = 0 then Value.null else Value.ref (g.2.1 60 1)) else Value.null) else Value.ref (g.2.1 k i))
    rw [e 63 0 (.inl (by decide)), e 60 1 (.inl (by decide))]
    by_cases c : k = 63
    · rw [if_pos c, if_pos c]
    · rw [if_neg c, if_neg c]
      have hv' : if 60 ≤ k ∧ k < 64 then i < zcnt k else (k, i) ∈ zall g := hv
      by_cases c2 : k < 64
      · rw [e k i (.inl c2)]
      · rw [if_neg (by omega)] at hv'
        rcases List.mem_append.mp hv' with q | q
        · exact absurd (zlocs_mem.mp q).1 (by omega)
        · rw [e k i (.inr q)]
theorem zX.K {g g' : zG} (h : zX g g') {U : State} {H : Heap} (k : zK g U H) : zK g' U H := by
  have eA := h.A
  obtain ⟨a1, a2, a3, a4, a5, a6, a7⟩ := h
  have e61 : zsA g' = zsA g := by funext i; exact a7 61 i (.inl (by decide))
  have e62 : zsV g' = zsV g := by funext i; exact a7 62 i (.inl (by decide))
  have e63 : zcv g' (zr 63 0) = zcv g (zr 63 0) := by
    show (if g'.2.1 63 0 = 0 then Value.null else Value.ref (g'.2.1 60 1)) = (if g.2.1 63 0 = 0 then Value.null else Value.ref (g.2.1 60 1))
    rw [a7 63 0 (.inl (by decide)), a7 60 1 (.inl (by decide))]
  have et : ztys g' = ztys g := by unfold ztys; rw [a2]
  unfold zK at k ⊢
  have e60 : ∀ q ∈ zDigs, g'.2.1 60 q.2.1 = g.2.1 60 q.2.1 := fun q _ => a7 60 q.2.1 (.inl (by decide))
  rw [a1, et, e61, e62, e63, eA, a3, a4, a7 60 0 (.inl (by decide))]
  obtain ⟨k1, k2, k3, k4, k5, k6, k7, k8, k9, k10, k11, k12⟩ := k
  exact ⟨k1, k2, k3, k4, k5, k6, k7, k8, k9, k10, k11, fun q hq => by rw [e60 q hq]; exact k12 q hq⟩
-- the judgement
abbrev zT : Type := Room × Nat × Nat × (zG → State → Array Value → List Frame → State → Prop)
def zPo (T : zT) (g : zG) (s : State) (args : Array Value) (below : List Frame) : State → Prop := fun t => ∃ g', zX g g' ∧ T.2.2.2 g' s args below t
def zC (X : zD) (T : zT) (g : zG) (p : Program) (s : State) (m : MethodId) (args : Array Value) (meth : Method) (c : Code) : Prop :=
  p.tables.exec = Jvm.exec ∧ c.code = X.2.1 ∧ c.maxLocals = X.2.2.1 ∧ s.vm.findClass X.1.cls = some m.cls ∧ (∀ w ∈ zTB, w.before args s = true) ∧ meth.sig.returnType = X.2.2.2.1 ∧ meth.locks = false ∧ zK g s s.heap ∧ (meth.name = X.1.name ∧ zgn g ≤ s.heap.size) ∧ T.2.1 ≤ T.1.cells ∧ T.2.2.1 ≤ T.1.slots
def zlv (g : zG) (lv : List (Nat × zV)) : List (Nat × Value) := lv.map fun q => (q.1, zcv g q.2)
def AW (l : Launch) (X : zD) (T : zT) (pc : Nat) (lv : List (Nat × zV)) (st : List zV) (M : zM) : Prop :=
  ∀ (g : zG) (p : Program) (e : Jvm.Env) (s : State) (m : MethodId) (args : Array Value) (below : List Frame) (meth : Method) (c : Code) (H : Heap) (locs : List Loc) (ls : Array Slot),
    zC X T g p s m args meth c → zW g M H → va_S (zA g) s.heap H locs → lv_has ls X.2.2.1 (zlv g lv) → (∀ q ∈ lv, zok g q.2) → (∀ v ∈ st, zok g v) →
    W p l e T.1 s m args below meth c H locs T.2.1 T.2.2.1 (zPo T g s args below) (F0 m pc ls (st.map (zcv g)))
theorem zWm {p : Program} {l : Launch} {e : Jvm.Env} {R : Room} {s : State} {m : MethodId} {args : Array Value} {below : List Frame} {meth : Method} {c : Code} {H : Heap} {locs : List Loc} {cells slots : Nat} {Q Q' : State → Prop} {f : JFrame} (k : W p l e R s m args below meth c H locs cells slots Q f) (h : ∀ t, Q t → Q' t) : W p l e R s m args below meth c H locs cells slots Q' f := by
  intro T hT hX
  obtain ⟨t, a, b⟩ := k T hT hX
  exact ⟨t, a, h t b⟩
theorem zX.lv {g g' : zG} (h : zX g g') {lv : List (Nat × zV)} (ho : ∀ q ∈ lv, zok g q.2) : zlv g' lv = zlv g lv := by
  unfold zlv
  refine List.map_congr_left fun q hq => ?_
  rw [h.cv (ho q hq)]
theorem zX.st {g g' : zG} (h : zX g g') {st : List zV} (ho : ∀ v ∈ st, zok g v) : st.map (zcv g') = st.map (zcv g) :=
  List.map_congr_left fun v hv => h.cv (ho v hv)
theorem zX.C {g g' : zG} (h : zX g g') {X : zD} {T : zT} {p : Program} {s : State} {m : MethodId} {args : Array Value} {meth : Method} {c : Code} (k : zC X T g p s m args meth c) : zC X T g' p s m args meth c := by
  obtain ⟨h1, h2, h3, h4, h5, h6, h7, h8, h9, h10⟩ := k
  exact ⟨h1, h2, h3, h4, h5, h6, h7, h.K h8, ⟨h9.1, by rw [h.2.2.2.2.1]; exact h9.2⟩, h10⟩
/-- the walk goes on where more was made -/
theorem zPo.of {T : zT} {g g' : zG} {s : State} {args : Array Value} {below : List Frame} (h : zX g g') : ∀ t, zPo T g' s args below t → zPo T g s args below t := by
  rintro t ⟨g2, h2, k⟩
  exact ⟨g2, h.tr h2, k⟩
