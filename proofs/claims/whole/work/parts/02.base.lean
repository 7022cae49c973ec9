/-! ===== values, memory, world: the abstract machine's words ===== -/
abbrev zV : Type := Int ⊕ (Int ⊕ (UInt64 ⊕ (Nat × Nat)))
abbrev zi (x : Int) : zV := .inl x
abbrev zl (x : Int) : zV := .inr (.inl x)
abbrev zd (x : UInt64) : zV := .inr (.inr (.inl x))
abbrev zr (k i : Nat) : zV := .inr (.inr (.inr (k, i)))
abbrev zn : zV := zr 63 0
abbrev zM : Type := Nat → Nat → Int → Int
def zu (M : zM) (k i : Nat) (j : Int) (x : Int) : zM := fun k' i' j' => if k' = k ∧ i' = i ∧ j' = j then x else M k' i' j'
theorem zu_s (M : zM) (k i : Nat) (j : Int) (x : Int) : zu M k i j x k i j = x := if_pos ⟨rfl, rfl, rfl⟩
theorem zu_n {M : zM} {k i k' i' : Nat} {j j' : Int} {x : Int} (h : ¬ (k' = k ∧ i' = i ∧ j' = j)) : zu M k i j x k' i' j' = M k' i' j' := if_neg h
-- a method: its name, code, locals, answer, frames and locals' words that it asks below it
abbrev zD : Type := MethodName × ByteArray × Nat × Option FieldType × Nat × Nat
abbrev zG : Type := va_G × (Nat → Nat → Nat) × (Nat → ClassId) × Nat × (Nat → Int32)
def dec (X : zD) (pc : Nat) : Except DecodeError (Instr × Nat) := decode X.2.1 pc
def zcntL : List Nat := [2, 14, 1, 1, 1, 1, 1, 1, 1, 1, 2, 2, 14, 14, 14, 14, 14, 14, 1, 1, 1, 1, 1, 1, 1, 1, 1, 1, 1, 1, 1, 1, 1, 1, 1, 1, 1, 1, 1, 1, 1, 1, 1, 1, 1, 1, 1, 1, 1, 0, 0, 0, 0, 0, 0, 0, 0, 0, 0, 0, 2, 12, 12, 1]
def zlayL : List (List (Option (Nat × Nat × Nat))) := [[some (10, 1, 0), some (11, 1, 0), none, none, none, none, none, none, none, none, none], [some (12, 1, 0), some (13, 1, 0), some (14, 1, 0), some (15, 1, 0), some (16, 1, 0), some (17, 1, 0), none, none, none, none, none, none, none], [some (18, 0, 0), none, none], [some (19, 0, 0), none], [some (20, 0, 0), some (21, 0, 0), none], [some (22, 0, 0), none, none], [some (23, 0, 0), none], [some (24, 0, 0), some (1, 0, 1), none, none, none, none, none], [some (1, 0, 0), some (7, 0, 0), some (2, 0, 0), some (6, 0, 0), some (3, 0, 0), some (0, 0, 0), some (0, 0, 1), some (4, 0, 0), some (5, 0, 0), some (25, 0, 0), some (26, 0, 0)], [some (27, 0, 0), some (28, 0, 0), none, some (29, 0, 0), some (30, 0, 0), none, none, none, some (31, 0, 0), some (32, 0, 0), some (33, 0, 0), none, some (34, 0, 0), some (35, 0, 0), some (36, 0, 0), none, none, none, none, none, none, some (37, 0, 0), some (38, 0, 0), none, some (39, 0, 0), some (40, 0, 0), some (41, 0, 0), some (42, 0, 0), some (43, 0, 0), some (44, 0, 0), none, none, none, some (45, 0, 0), some (46, 0, 0), some (47, 0, 0), none, none, none, none, none, some (48, 0, 0), none, none]]
def zetyL : List Nat := [0, 0, 0, 0, 0, 0, 0, 0, 0, 0, 0, 0, 1, 0, 0, 0, 0, 0, 4, 0, 0, 0, 0, 4, 0, 0, 3, 0, 0, 0, 1, 0, 0, 0, 0, 0, 0, 0, 0, 0, 0, 0, 0, 0, 0, 0, 0, 2, 0]
def zlenL : List Nat := [0, 0, 0, 0, 0, 0, 0, 0, 0, 0, 80, 80, 20, 20, 20, 80, 20, 20, 10, 640, 20, 20, 81, 2, 400, 501, 81, 187, 1870, 374, 2, 80, 80, 80, 80, 80, 80, 20, 20, 81, 81, 81, 81, 81, 81, 20, 20, 400, 187]
abbrev zkPast : Nat := 18
def zsLen : List Nat := [5, 6, 3, 3, 3, 6, 4, 5, 6, 7, 4, 4]
def zsByt : List (List Int32) := [[98, 117, 121, 101, 114], [115, 101, 108, 108, 101, 114], [102, 101, 101], [108, 97, 119], [99, 117, 116], [109, 105, 100, 100, 108, 101], [108, 101, 115, 115], [97, 112, 97, 114, 116], [98, 117, 121, 101, 114, 32], [115, 101, 108, 108, 101, 114, 32], [102, 101, 101, 32], [108, 97, 119, 32]]
def zsRefs : List (String × Nat × String × Nat) := [("TradeHall", 403, "middle", 5), ("TradeHall", 405, "less", 6), ("TradeHall", 407, "apart", 7), ("TradeHall", 409, "cut", 4), ("TradeHall$Letters", 26, "seller", 1), ("TradeHall$Letters", 28, "buyer", 0), ("TradeHall$Letters", 52, "fee", 2), ("TradeHall$Letters", 56, "law", 3), ("TradeHall$Tape", 59, "buyer", 0), ("TradeHall$Tape", 69, "seller", 1), ("TradeHall$Tape", 71, "fee", 2), ("TradeHall$Tape", 77, "law", 3), ("TradeHallModel", 327, "cut", 4), ("TradeHallModel", 329, "middle", 5), ("TradeHallModel", 331, "less", 6), ("TradeHallModel", 333, "apart", 7), ("TradeHallModel", 338, "seller ", 9), ("TradeHallModel", 340, "buyer ", 8), ("TradeHallModel", 352, "fee ", 10), ("TradeHallModel", 354, "law ", 11), ("TradeHallModel", 433, "buyer", 0), ("TradeHallModel", 439, "seller", 1), ("TradeHallModel", 441, "fee", 2), ("TradeHallModel", 446, "law", 3)]
abbrev k_bids : Nat := 10
abbrev k_asks : Nat := 11
abbrev k_hSells : Nat := 12
abbrev k_hGrades : Nat := 13
abbrev k_hUnits : Nat := 14
abbrev k_hSays : Nat := 15
abbrev k_hPurses : Nat := 16
abbrev k_hTraded : Nat := 17
abbrev k_past : Nat := 18
abbrev k_lBytes : Nat := 19
abbrev k_rOrder : Nat := 20
abbrev k_rGains : Nat := 21
abbrev k_sMost : Nat := 22
abbrev k_shHalls : Nat := 23
abbrev k_tBytes : Nat := 24
abbrev k_byFee : Nat := 25
abbrev k_ways : Nat := 26
abbrev k_mnow : Nat := 27
abbrev k_mwas : Nat := 28
abbrev k_mkept : Nat := 29
abbrev k_misKept : Nat := 30
abbrev k_mbidder : Nat := 31
abbrev k_mbidUnit : Nat := 32
abbrev k_mbid : Nat := 33
abbrev k_masker : Nat := 34
abbrev k_maskUnit : Nat := 35
abbrev k_mask : Nat := 36
abbrev k_mrank : Nat := 37
abbrev k_mgains : Nat := 38
abbrev k_mbest : Nat := 39
abbrev k_mfewest : Nat := 40
abbrev k_mnextBest : Nat := 41
abbrev k_mnextFewest : Nat := 42
abbrev k_msumBids : Nat := 43
abbrev k_msumAsks : Nat := 44
abbrev k_mdealt : Nat := 45
abbrev k_mwent : Nat := 46
abbrev k_mtape : Nat := 47
abbrev k_mread : Nat := 48
def zcnt (k : Nat) : Nat := zcntL.getD k 0
def zlay (k : Nat) : List (Option (Nat × Nat × Nat)) := zlayL.getD k []
/-- element kinds: 0 int, 1 boolean, 2 byte, 3 long, 4 halls -/
def zety (k : Nat) : Nat := zetyL.getD k 0
def zlen (k : Nat) : Nat := zlenL.getD k 0
def zoff (k : Nat) : Nat := if k = zkPast then 2 else 12
def zlocs : List (Nat × Nat) := (List.range 60).flatMap fun k => (List.range (zcnt k)).map fun i => (k, i)
theorem zlocs_mem {k i : Nat} : (k, i) ∈ zlocs ↔ k < 60 ∧ i < zcnt k := by
  simp [zlocs, List.mem_flatMap]
theorem zlocs_nodup : zlocs.Nodup := by decide +kernel
def zcv (g : zG) : zV → Value
  | .inl x => .int (Int32.ofInt x)
  | .inr (.inl x) => .long (Int64.ofInt x)
  | .inr (.inr (.inl x)) => .double x
  | .inr (.inr (.inr (k, i))) => if k = 63 then (if g.2.1 63 0 = 0 then .null else .ref (g.2.1 60 1)) else .ref (g.2.1 k i)
def zok : zV → Prop
  | .inr (.inr (.inr (k, i))) => i < zcnt k
  | _ => True
def zfv (g : zG) (M : zM) (k i j : Nat) (o : Option (Nat × Nat × Nat)) : Value := match o with
  | none => .int (Int32.ofInt (M k i j))
  | some (k', a, b) => .ref (g.2.1 k' (a * i + b))
def zfl (g : zG) (M : zM) (k i : Nat) : List Value := (zlay k).mapIdx (fun j o => zfv g M k i j o)
def zarr (g : zG) (M : zM) (k i : Nat) : (Nat → Int32) ⊕ (Nat → Int64) ⊕ (Nat → UInt32) ⊕ (Nat → UInt64) ⊕ (Nat → Option Nat) :=
  if zety k = 3 then .inr (.inl fun j => Int64.ofInt (M k i j)) else if zety k = 4 then .inr (.inr (.inr (.inr fun j => some (g.2.1 1 (j + zoff k))))) else .inl fun j => Int32.ofInt (M k i j)
def zent (g : zG) (M : zM) (k i : Nat) : va_E := if k < 10 then .inr (k, zfl g M k i) else .inl (g.2.2.1 (zety k), zlen k, zarr g M k i)
def zws (g : zG) (M : zM) : va_W := zlocs.map fun q => (g.2.1 q.1 q.2, zent g M q.1 q.2)
def zA (g : zG) (q : Nat) : Prop := ∃ k i, k < 60 ∧ i < zcnt k ∧ q = g.2.1 k i
def ztys (g : zG) : List (ClassId × FieldType) := [(g.2.2.1 0, .int), (g.2.2.1 1, .boolean), (g.2.2.1 2, .byte), (g.2.2.1 3, .long), (g.2.2.1 4, .object "TradeHall$Hall")]
def zW (g : zG) (M : zM) (H : Heap) : Prop := va_P g.1 vwCl (zws g M) H ∧ va_D (zA g) (zws g M)
def zTB : List Cond := lw_tbl.filter goodWord
theorem zin {w : Cond} (h : w ∈ lw_tbl) (hg : goodWord w = true) : w ∈ zTB := List.mem_filter.mpr ⟨h, hg⟩
theorem zin_t {w : Cond} (h : w ∈ tables_1) (hg : goodWord w = true) : w ∈ zTB := zin (List.mem_append_right _ h) hg
theorem zin_p {w : Cond} (h : w ∈ k2_sels lw_privs) (hg : goodWord w = true) : w ∈ zTB := zin (List.mem_append_left _ h) hg
-- nest mates' words, strings
def zisN : Cond → Bool
  | .fieldLinkNest .. => true
  | .methodLinkNest .. => true
  | _ => false
def znest : List Cond := tables_1.filter zisN
theorem znest_warm {s U : State} (hW : s.WarmedH U.vm) (h : ∀ w ∈ znest, va_Nw w s) : ∀ w ∈ znest, va_Nw w U := by
  intro w hw
  have h1 := h w hw
  have h2 := (List.mem_filter.mp hw).2
  cases w <;> first | (cases h2; done) | exact va_Nw.warmF hW h1 | exact va_Nw.warmM hW h1
abbrev zsA (g : zG) : Nat → Nat := g.2.1 61
abbrev zsV (g : zG) : Nat → Nat := g.2.1 62
/-- what stands beside the world: classes, words, strings, the script -/
def zK (g : zG) (U : State) (H : Heap) : Prop :=
  va_K g.1 vwCl (ztys g) U ∧ (∀ w ∈ znest, va_Nw w U) ∧ vk_S 12 zsLen zsByt (zsA g) (zsV g) (zA g) U H ∧ (∀ q ∈ zsRefs, vk_R q.1 q.2.1 q.2.2.1 (zsA g q.2.2.2) U) ∧
  va_Z "java/lang/String" "COMPACT_STRINGS" "Z" (.int 1) (zA g) U H ∧
  va_X (g.2.1 60 0) g.2.2.2.1 g.2.2.2.2 U H ∧ va_Z "jdk/internal/util/Preconditions" "SIOOBE_FORMATTER" "Ljava/util/function/BiFunction;" (zcv g (zr 63 0)) (zA g) U H ∧ g.2.1 60 0 < H.size ∧ ¬ zA g (g.2.1 60 0)
theorem zK.go {g : zG} {s U : State} {H0 H : Heap} {locs : List Loc} (h : zK g s H0) (hW : s.WarmedH U.vm) (hS : va_S (zA g) H0 H locs) : zK g U H := by
  obtain ⟨h1, h2, h3, h4, h5, h6, h7, h8, h9⟩ := h
  have ha := hW.alike
  refine ⟨h1.moved ha, znest_warm hW h2, (h3.moved ha).kept hS.2.1, fun q hq => vk_R.warm hW (h4 q hq), (h5.moved ha).kept hS.2.1, (h6.moved ha).kept (hS.2.1 _ h8 h9), (h7.moved ha).kept hS.2.1, Nat.lt_of_lt_of_le h8 hS.1, h9⟩
-- the judgement
abbrev zT : Type := Room × Nat × Nat × (zG → State → Array Value → List Frame → State → Prop)
def zC (X : zD) (T : zT) (g : zG) (p : Program) (s : State) (m : MethodId) (args : Array Value) (meth : Method) (c : Code) : Prop :=
  p.tables.exec = Jvm.exec ∧ c.code = X.2.1 ∧ c.maxLocals = X.2.2.1 ∧ s.vm.findClass X.1.cls = some m.cls ∧ (∀ w ∈ zTB, w.before args s = true) ∧ meth.sig.returnType = X.2.2.2.1 ∧ meth.locks = false ∧ zK g s s.heap ∧ T.2.1 ≤ T.1.cells ∧ T.2.2.1 ≤ T.1.slots
def zlv (g : zG) (lv : List (Nat × zV)) : List (Nat × Value) := lv.map fun q => (q.1, zcv g q.2)
def AW (l : Launch) (X : zD) (T : zT) (pc : Nat) (lv : List (Nat × zV)) (st : List zV) (M : zM) : Prop :=
  ∀ (g : zG) (p : Program) (e : Jvm.Env) (s : State) (m : MethodId) (args : Array Value) (below : List Frame) (meth : Method) (c : Code) (H : Heap) (locs : List Loc) (ls : Array Slot),
    zC X T g p s m args meth c → zW g M H → va_S (zA g) s.heap H locs → lv_has ls X.2.2.1 (zlv g lv) → (∀ q ∈ lv, zok q.2) → (∀ v ∈ st, zok v) →
    W p l e T.1 s m args below meth c H locs T.2.1 T.2.2.1 (T.2.2.2 g s args below) (F0 m pc ls (st.map (zcv g)))
