/-! ===== the law's halls ===== -/
/-- what was there has not changed -/
def Ke (M M' : zM) : Prop := (∀ (k i : Nat), (64 ≤ k ∧ k < 96) → (i : Int) < M 97 0 k → M' k i = M k i) ∧ ∀ q : Int, M 97 0 q ≤ M' 97 0 q
theorem Ke.rf {M : zM} : Ke M M := ⟨fun _ _ _ _ => rfl, fun _ => Int.le_refl _⟩
theorem Ke.tr {M M1 M2 : zM} (a : Ke M M1) (b : Ke M1 M2) : Ke M M2 := ⟨fun k i h h' => (b.1 k i h (Int.lt_of_lt_of_le h' (a.2 _))).trans (a.1 k i h h'), fun q => Int.le_trans (a.2 q) (b.2 q)⟩
theorem Gr.ke {K : List Nat} {M M' : zM} (h : Gr K M M') : Ke M M' := ⟨h.2.1, h.2.2.1⟩
theorem Fr.ke {M M' : zM} (h : ∀ k i, isMd k → M' k i = M k i) : Ke M M' := ⟨fun k i h1 _ => h k i (by unfold isMd; omega), fun q => by rw [h 97 0 (by unfold isMd; omega)]; exact Int.le_refl _⟩
theorem Fr.kes {M M' : zM} (h : Fr kScr M M') : Ke M M' := ⟨fun k i h1 _ => h k i (by unfold kScr; omega), fun q => by rw [h 97 0 (by unfold kScr; omega)]; exact Int.le_refl _⟩
/-- the row of its units' rows; a trader's row of units -/
def lU (M : zM) (h : Nat) : Nat := (M 64 h 11).toNat
def lR (M : zM) (h : Nat) (t : Int) : Nat := (M 74 (lU M h) t).toNat
/-- a hall of the law's -/
def lS (M : zM) (h : Nat) : zS :=
  (fun k => if 0 ≤ k ∧ k < 7 then M 64 h k else 0,
   fun t => if 0 ≤ t ∧ t < M 64 h 0 then M 70 h t else 0,
   fun t => if 0 ≤ t ∧ t < M 64 h 0 then M 71 h t else 0,
   fun t => if 0 ≤ t ∧ t < M 64 h 0 then M 75 (lR M h t) (-1) else 0,
   fun t u => if 0 ≤ t ∧ t < M 64 h 0 ∧ 0 ≤ u ∧ u < M 75 (lR M h t) (-1) then M 75 (lR M h t) u else 0,
   fun t => if 0 ≤ t ∧ t < M 64 h 0 then M 72 h t else 0,
   fun t => if 0 ≤ t ∧ t < M 64 h 0 then M 73 h t else 0)
/-- it can be read -/
def lW (M : zM) (h : Nat) : Prop :=
  ((h : Int) < M 97 0 64 ∧ (h : Int) < M 97 0 70 ∧ (h : Int) < M 97 0 71 ∧ (h : Int) < M 97 0 72 ∧ (h : Int) < M 97 0 73) ∧ (M 64 h 7 = h ∧ M 64 h 8 = h ∧ M 64 h 9 = h ∧ M 64 h 10 = h) ∧ (0 ≤ M 64 h 11 ∧ M 64 h 11 < M 97 0 74) ∧
  (0 ≤ M 64 h 0 ∧ M 64 h 0 ≤ 20) ∧ (∀ t, 0 ≤ t ∧ t < 21 → M 70 h t = 0 ∨ M 70 h t = 1) ∧ ∀ t, 0 ≤ t ∧ t < M 64 h 0 → (0 ≤ M 74 (lU M h) t ∧ M 74 (lU M h) t < M 97 0 75) ∧ 0 ≤ M 75 (lR M h t) (-1) ∧ M 75 (lR M h t) (-1) ≤ 4
def lH (M : zM) (h : Nat) (S : zS) : Prop := lW M h ∧ lS M h = S
theorem lU_v {M : zM} {h : Nat} (w : lW M h) : (lU M h : Int) = M 64 h 11 := Int.toNat_of_nonneg w.2.2.1.1
theorem lR_v {M : zM} {h : Nat} {t : Int} (w : lW M h) (ht : 0 ≤ t ∧ t < M 64 h 0) : (lR M h t : Int) = M 74 (lU M h) t := Int.toNat_of_nonneg (w.2.2.2.2.2 t ht).1.1
theorem lS_ext {M M' : zM} {h h' : Nat} (e0 : ∀ k, 0 ≤ k ∧ k < 7 → M' 64 h' k = M 64 h k) (e1 : ∀ t, 0 ≤ t ∧ t < M 64 h 0 → M' 70 h' t = M 70 h t) (e2 : ∀ t, 0 ≤ t ∧ t < M 64 h 0 → M' 71 h' t = M 71 h t) (e3 : ∀ t, 0 ≤ t ∧ t < M 64 h 0 → M' 72 h' t = M 72 h t) (e4 : ∀ t, 0 ≤ t ∧ t < M 64 h 0 → M' 73 h' t = M 73 h t)
    (e5 : ∀ t, 0 ≤ t ∧ t < M 64 h 0 → M' 75 (lR M' h' t) = M 75 (lR M h t)) : lS M' h' = lS M h := by
  have z := e0 0 (by omega)
  unfold lS
  rw [z]
  refine Prod.ext ?_ (Prod.ext ?_ (Prod.ext ?_ (Prod.ext ?_ (Prod.ext ?_ (Prod.ext ?_ ?_)))))
  · funext k
    dsimp only
    split
    · next c => exact e0 k c
    · rfl
  · funext t
    dsimp only
    split
    · next c => exact e1 t c
    · rfl
  · funext t
    dsimp only
    split
    · next c => exact e2 t c
    · rfl
  · funext t
    dsimp only
    split
    · next c => rw [e5 t c]
    · rfl
  · funext t u
    dsimp only
    by_cases c : 0 ≤ t ∧ t < M 64 h 0
    · rw [e5 t c]
    · rw [if_neg (by omega), if_neg (by omega)]
  · funext t
    dsimp only
    split
    · next c => exact e3 t c
    · rfl
  · funext t
    dsimp only
    split
    · next c => exact e4 t c
    · rfl
theorem lW.ke {M M' : zM} {h : Nat} (w : lW M h) (k : Ke M M') : lW M' h ∧ lS M' h = lS M h := by
  obtain ⟨⟨a1, a2, a3, a4, a5⟩, b, c, d, e, f⟩ := id w
  have h64 := k.1 64 h (by omega) a1
  have h70 := k.1 70 h (by omega) a2
  have h71 := k.1 71 h (by omega) a3
  have h72 := k.1 72 h (by omega) a4
  have h73 := k.1 73 h (by omega) a5
  have eU : lU M' h = lU M h := by unfold lU; rw [h64]
  have h74 := k.1 74 (lU M h) (by omega) (by rw [lU_v w]; exact c.2)
  have eR : ∀ t, lR M' h t = lR M h t := fun t => by unfold lR; rw [eU, h74]
  have h75 : ∀ t, 0 ≤ t ∧ t < M 64 h 0 → M' 75 (lR M' h t) = M 75 (lR M h t) := fun t ht => by
    rw [eR]
    exact k.1 75 _ (by omega) (by rw [lR_v w ht]; exact (f t ht).1.2)
  refine ⟨⟨⟨Int.lt_of_lt_of_le a1 (k.2 _), Int.lt_of_lt_of_le a2 (k.2 _), Int.lt_of_lt_of_le a3 (k.2 _), Int.lt_of_lt_of_le a4 (k.2 _), Int.lt_of_lt_of_le a5 (k.2 _)⟩, by rw [h64]; exact b, ⟨by rw [h64]; exact c.1, by rw [h64]; exact Int.lt_of_lt_of_le c.2 (k.2 _)⟩, by rw [h64]; exact d, by rw [h70]; exact e, fun t ht => ?_⟩, lS_ext (fun _ _ => by rw [h64]) (fun _ _ => by rw [h70]) (fun _ _ => by rw [h71]) (fun _ _ => by rw [h72]) (fun _ _ => by rw [h73]) h75⟩
  rw [h64] at ht
  rw [h75 t ht, eU, h74]
  exact ⟨⟨(f t ht).1.1, Int.lt_of_lt_of_le (f t ht).1.2 (k.2 _)⟩, (f t ht).2⟩
theorem lH.ke {M M' : zM} {h : Nat} {S : zS} (w : lH M h S) (k : Ke M M') : lH M' h S := ⟨(w.1.ke k).1, by rw [(w.1.ke k).2]; exact w.2⟩
/-- each hall has a row of each kind -/
def zSy (M : zM) : Prop := M 97 0 70 = M 97 0 64 ∧ M 97 0 71 = M 97 0 64 ∧ M 97 0 72 = M 97 0 64 ∧ M 97 0 73 = M 97 0 64
/-- what the constructor leaves -/
def hI (M M' : zM) (h : Nat) : Prop :=
  (∀ k i, ¬ (64 ≤ k ∧ k < 96) → k ≠ 97 → M' k i = M k i) ∧ (∀ (k i : Nat), (64 ≤ k ∧ k < 96) → (i : Int) < M 97 0 k → ¬ (k = 64 ∧ i = h) → M' k i = M k i) ∧
  (∀ j, j < 7 → M' 64 h j = M 64 h j) ∧ (M' 64 h 7 = h ∧ M' 64 h 8 = h ∧ M' 64 h 9 = h ∧ M' 64 h 10 = h ∧ M' 64 h 11 = M 97 0 74) ∧
  (M' 97 0 70 = (h : Int) + 1 ∧ M' 97 0 71 = (h : Int) + 1 ∧ M' 97 0 72 = (h : Int) + 1 ∧ M' 97 0 73 = (h : Int) + 1 ∧ M' 97 0 74 = M 97 0 74 + 1) ∧ (∀ q : Int, q ≠ 70 → q ≠ 71 → q ≠ 72 → q ≠ 73 → q ≠ 74 → M' 97 0 q = M 97 0 q) ∧
  (∀ j, 0 ≤ j → M' 70 h j = 0) ∧ 0 ≤ M 97 0 74
section
variable {l : Launch} {M : zM}
theorem vX9_init {l : Launch} {P : zM → Prop} {h : Nat} {M : zM}
    (H0 : (∀ n1 : Nat, (n1 : Int) = M 97 0 70 → ∀ M3 : zM, M3 = zmk M 70 n1 21 → (∀ M5 : zM, M5 = zu M3 64 h 7 (n1 : Int) → (∀ n6 : Nat, (n6 : Int) = M5 97 0 71 → ∀ M8 : zM, M8 = zmk M5 71 n6 21 → (∀ M10 : zM, M10 = zu M8 64 h 8 (n6 : Int) → (∀ n11 : Nat, (n11 : Int) = M10 97 0 72 → ∀ M13 : zM, M13 = zmk M10 72 n11 21 → (∀ M15 : zM, M15 = zu M13 64 h 9 (n11 : Int) → (∀ n16 : Nat, (n16 : Int) = M15 97 0 73 → ∀ M18 : zM, M18 = zmk M15 73 n16 21 → (∀ M20 : zM, M20 = zu M18 64 h 10 (n16 : Int) → (∀ n21 : Nat, (n21 : Int) = M20 97 0 74 → ∀ M23 : zM, M23 = zmk M20 74 n21 21 → (∀ M25 : zM, M25 = zu M23 64 h 11 (n21 : Int) → P M25))))))))))) :
    CVn l m_X9_init 5 105 [zr 64 h] M P :=
(aw_aload_n d_X9_init_0 rfl rfl 0 rfl (by decide)
(aw_obj d_X9_init_1 rfl (by decide) ob9_1 ⟨Nat.le_of_ble_eq_true rfl, Nat.le_of_ble_eq_true rfl⟩
(aw_aload_n d_X9_init_4 rfl rfl 0 rfl (by decide)
(aw_bipush d_X9_init_5 rfl (by decide)
(aw_newa (k := 70) d_X9_init_7 rfl zd70 (Or.inr (Or.inl ⟨rfl, rfl⟩)) ac_boolean (by decide) (Or.inr rfl) ⟨Nat.le_of_ble_eq_true rfl, Nat.le_of_ble_eq_true rfl⟩
(fun n1 hqn1 => (aw_nm fun M3 hqM3 => have e2 := H0 n1 hqn1 M3 hqM3; (aw_putD (kc := 7) d_X9_init_9 rfl (.inr ⟨ff9_7, rfl⟩) rfl rfl (by decide) (fun _ => ⟨rfl, rfl⟩)
(aw_nm fun M5 hqM5 => have e4 := e2 M5 hqM5; (aw_aload_n d_X9_init_12 rfl rfl 0 rfl (by decide)
(aw_bipush d_X9_init_13 rfl (by decide)
(aw_newa (k := 71) d_X9_init_15 rfl zd71 (Or.inl ⟨rfl, rfl⟩) ac_int (by decide) (Or.inr rfl) ⟨Nat.le_of_ble_eq_true rfl, Nat.le_of_ble_eq_true rfl⟩
(fun n6 hqn6 => (aw_nm fun M8 hqM8 => have e7 := e4 n6 hqn6 M8 hqM8; (aw_putD (kc := 8) d_X9_init_17 rfl (.inr ⟨ff9_13, rfl⟩) rfl rfl (by decide) (fun _ => ⟨rfl, rfl⟩)
(aw_nm fun M10 hqM10 => have e9 := e7 M10 hqM10; (aw_aload_n d_X9_init_20 rfl rfl 0 rfl (by decide)
(aw_bipush d_X9_init_21 rfl (by decide)
(aw_newa (k := 72) d_X9_init_23 rfl zd72 (Or.inl ⟨rfl, rfl⟩) ac_int (by decide) (Or.inr rfl) ⟨Nat.le_of_ble_eq_true rfl, Nat.le_of_ble_eq_true rfl⟩
(fun n11 hqn11 => (aw_nm fun M13 hqM13 => have e12 := e9 n11 hqn11 M13 hqM13; (aw_putD (kc := 9) d_X9_init_25 rfl (.inr ⟨ff9_17, rfl⟩) rfl rfl (by decide) (fun _ => ⟨rfl, rfl⟩)
(aw_nm fun M15 hqM15 => have e14 := e12 M15 hqM15; (aw_aload_n d_X9_init_28 rfl rfl 0 rfl (by decide)
(aw_bipush d_X9_init_29 rfl (by decide)
(aw_newa (k := 73) d_X9_init_31 rfl zd73 (Or.inl ⟨rfl, rfl⟩) ac_int (by decide) (Or.inr rfl) ⟨Nat.le_of_ble_eq_true rfl, Nat.le_of_ble_eq_true rfl⟩
(fun n16 hqn16 => (aw_nm fun M18 hqM18 => have e17 := e14 n16 hqn16 M18 hqM18; (aw_putD (kc := 10) d_X9_init_33 rfl (.inr ⟨ff9_20, rfl⟩) rfl rfl (by decide) (fun _ => ⟨rfl, rfl⟩)
(aw_nm fun M20 hqM20 => have e19 := e17 M20 hqM20; (aw_aload_n d_X9_init_36 rfl rfl 0 rfl (by decide)
(aw_bipush d_X9_init_37 rfl (by decide)
(aw_anewa (k := 74) d_X9_init_39 rfl zd74 cl9_23 (by decide) (Or.inr rfl) ⟨Nat.le_of_ble_eq_true rfl, Nat.le_of_ble_eq_true rfl⟩
(fun n21 hqn21 => (aw_nm fun M23 hqM23 => have e22 := e19 n21 hqn21 M23 hqM23; (aw_putD (kc := 11) d_X9_init_42 rfl (.inl fp9_24) rfl rfl (by decide) (fun _ => ⟨rfl, rfl⟩)
(aw_nm fun M25 hqM25 => have e24 := e22 M25 hqM25; (aw_rvn d_X9_init_45 rfl e24))))))))))))))))))))))))))))))))))))))
theorem c_X9_init {h : Nat} (c0 : M 97 0 70 = h) (c1 : M 97 0 71 = h) (c2 : M 97 0 72 = h) (c3 : M 97 0 73 = h) : CVn l m_X9_init 5 105 [zr 64 h] M (fun M' => hI M M' h) := by
  refine vX9_init fun n1 q1 M1 e1 M2 e2 n2 q2 M3 e3 M4 e4 n3 q3 M5 e5 M6 e6 n4 q4 M7 e7 M8 e8 n5 q5 M9 e9 M10 e10 => ?_
  have k97 : ∀ (A : zM) (j x q : Int), zu A 64 h j x 97 0 q = A 97 0 q := fun A j x q => zu_n (by omega)
  have d1 : ∀ q : Int, q ≠ 70 → M2 97 0 q = M 97 0 q := fun q hq => by rw [e2, k97, e1]; exact zmk_n (by omega) hq
  have f2 : n2 = h := by have := d1 71 (by omega); omega
  have d2 : ∀ q : Int, q ≠ 71 → M4 97 0 q = M2 97 0 q := fun q hq => by rw [e4, k97, e3]; exact zmk_n (by omega) hq
  have f3 : n3 = h := by have := d1 72 (by omega); have := d2 72 (by omega); omega
  have d3 : ∀ q : Int, q ≠ 72 → M6 97 0 q = M4 97 0 q := fun q hq => by rw [e6, k97, e5]; exact zmk_n (by omega) hq
  have f4 : n4 = h := by have := d1 73 (by omega); have := d2 73 (by omega); have := d3 73 (by omega); omega
  have d4 : ∀ q : Int, q ≠ 73 → M8 97 0 q = M6 97 0 q := fun q hq => by rw [e8, k97, e7]; exact zmk_n (by omega) hq
  have f5 : (n5 : Int) = M 97 0 74 := by have := d1 74 (by omega); have := d2 74 (by omega); have := d3 74 (by omega); have := d4 74 (by omega); omega
  have d5 : ∀ q : Int, q ≠ 74 → M10 97 0 q = M8 97 0 q := fun q hq => by rw [e10, k97, e9]; exact zmk_n (by omega) hq
  have f1 : n1 = h := by omega
  subst f2; subst f3; subst f4; subst f1
  have o : ∀ k i, k ≠ 97 → ¬ (k = 64 ∧ i = n1) → ¬ (k = 70 ∧ i = n1) → ¬ (k = 71 ∧ i = n1) → ¬ (k = 72 ∧ i = n1) → ¬ (k = 73 ∧ i = n1) → ¬ (k = 74 ∧ i = n5) → M10 k i = M k i := by
    intro k i h0 h1 h2 h3 h4 h5 h6
    rw [e10, zu_o k i h1, e9, zmk_o h6 h0, e8, zu_o k i h1, e7, zmk_o h5 h0, e6, zu_o k i h1, e5, zmk_o h4 h0, e4, zu_o k i h1, e3, zmk_o h3 h0, e2, zu_o k i h1, e1, zmk_o h2 h0]
  have p : ∀ j, M10 64 n1 j = if j = 11 then (n5 : Int) else if j = 10 then (n1 : Int) else if j = 9 then (n1 : Int) else if j = 8 then (n1 : Int) else if j = 7 then (n1 : Int) else M 64 n1 j := by
    intro j
    rw [e10, zu_w, e9, zmk_o (by omega) (by omega), e8, zu_w, e7, zmk_o (by omega) (by omega), e6, zu_w, e5, zmk_o (by omega) (by omega), e4, zu_w, e3, zmk_o (by omega) (by omega), e2, zu_w, e1, zmk_o (by omega) (by omega)]
  have s1 : M2 97 0 70 = (n1 : Int) + 1 := by rw [e2, k97, e1]; exact zmk_c
  have s2 : M4 97 0 71 = (n1 : Int) + 1 := by rw [e4, k97, e3]; exact zmk_c
  have s3 : M6 97 0 72 = (n1 : Int) + 1 := by rw [e6, k97, e5]; exact zmk_c
  have s4 : M8 97 0 73 = (n1 : Int) + 1 := by rw [e8, k97, e7]; exact zmk_c
  have s5 : M10 97 0 74 = (n5 : Int) + 1 := by rw [e10, k97, e9]; exact zmk_c
  refine ⟨fun k i h1 h2 => o k i h2 (by omega) (by omega) (by omega) (by omega) (by omega) (by omega), fun k i h1 h2 h3 => o k i (by omega) h3 ?_ ?_ ?_ ?_ ?_, fun j hj => ?_, ⟨?_, ?_, ?_, ?_, ?_⟩, ⟨?_, ?_, ?_, ?_, ?_⟩, fun q h1 h2 h3 h4 h5 => ?_, fun j hj => ?_, by omega⟩
  · rintro ⟨rfl, rfl⟩; exact absurd c0 (by intro z; rw [show ((70 : Nat) : Int) = 70 from rfl, z] at h2; omega)
  · rintro ⟨rfl, rfl⟩; exact absurd c1 (by intro z; rw [show ((71 : Nat) : Int) = 71 from rfl, z] at h2; omega)
  · rintro ⟨rfl, rfl⟩; exact absurd c2 (by intro z; rw [show ((72 : Nat) : Int) = 72 from rfl, z] at h2; omega)
  · rintro ⟨rfl, rfl⟩; exact absurd c3 (by intro z; rw [show ((73 : Nat) : Int) = 73 from rfl, z] at h2; omega)
  · rintro ⟨rfl, rfl⟩; rw [show ((74 : Nat) : Int) = 74 from rfl] at h2; omega
  · rw [p, if_neg (by omega), if_neg (by omega), if_neg (by omega), if_neg (by omega), if_neg (by omega)]
  · rw [p, if_neg (by omega), if_neg (by omega), if_neg (by omega), if_neg (by omega), if_pos rfl]
  · rw [p, if_neg (by omega), if_neg (by omega), if_neg (by omega), if_pos rfl]
  · rw [p, if_neg (by omega), if_neg (by omega), if_pos rfl]
  · rw [p, if_neg (by omega), if_pos rfl]
  · rw [p, if_pos rfl]; exact f5
  · rw [d5 _ (by omega), d4 _ (by omega), d3 _ (by omega), d2 _ (by omega)]; exact s1
  · rw [d5 _ (by omega), d4 _ (by omega), d3 _ (by omega)]; exact s2
  · rw [d5 _ (by omega), d4 _ (by omega)]; exact s3
  · rw [d5 _ (by omega)]; exact s4
  · omega
  · rw [d5 _ h5, d4 _ h4, d3 _ h3, d2 _ h2, d1 _ h1]
  · rw [e10, zu_o _ _ (by omega), e9, zmk_o (by omega) (by omega), e8, zu_o _ _ (by omega), e7, zmk_o (by omega) (by omega), e6, zu_o _ _ (by omega), e5, zmk_o (by omega) (by omega), e4, zu_o _ _ (by omega), e3, zmk_o (by omega) (by omega), e2, zu_o _ _ (by omega), e1, zmk_v (by omega) hj]
    exact zdf_0 (by decide) (by decide)
end
