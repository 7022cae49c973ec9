/-! ===== what a hall is, read off either side ===== -/
abbrev zS : Type := (Int → Int) × (Int → Int) × (Int → Int) × (Int → Int) × (Int → Int → Int) × (Int → Int) × (Int → Int)
abbrev qsc (S : zS) : Int → Int := S.1
abbrev qsl (S : zS) : Int → Int := S.2.1
abbrev qgr (S : zS) : Int → Int := S.2.2.1
abbrev qun (S : zS) : Int → Int := S.2.2.2.1
abbrev qsy (S : zS) : Int → Int → Int := S.2.2.2.2.1
abbrev qpu (S : zS) : Int → Int := S.2.2.2.2.2.1
abbrev qtr (S : zS) : Int → Int := S.2.2.2.2.2.2
abbrev qn (S : zS) : Int := qsc S 0
abbrev qfee (S : zS) : Int := qsc S 1
abbrev qlaw (S : zS) : Int := qsc S 2
def upf (f : Int → Int) (t x : Int) : Int → Int := fun t' => if t' = t then x else f t'
def upg (f : Int → Int → Int) (t u x : Int) : Int → Int → Int := fun t' u' => if t' = t ∧ u' = u then x else f t' u'
abbrev hU (M : zM) (h : Nat) (t u : Int) : Prop := 0 ≤ t ∧ t < M 1 h 6 ∧ 0 ≤ u ∧ u < M 14 h t
/-- the hall h of the class -/
def hS (M : zM) (h : Nat) : zS :=
  (fun k => if 0 ≤ k ∧ k < 7 then M 1 h (6 + k) else 0,
   fun t => if 0 ≤ t ∧ t < M 1 h 6 then M 12 h t else 0,
   fun t => if 0 ≤ t ∧ t < M 1 h 6 then M 13 h t else 0,
   fun t => if 0 ≤ t ∧ t < M 1 h 6 then M 14 h t else 0,
   fun t u => if hU M h t u then M 15 h (4 * t + u) else 0,
   fun t => if 0 ≤ t ∧ t < M 1 h 6 then M 16 h t else 0,
   fun t => if 0 ≤ t ∧ t < M 1 h 6 then M 17 h t else 0)
/-- its rows can be read -/
def hW (M : zM) (h : Nat) : Prop := (0 ≤ M 1 h 6 ∧ M 1 h 6 ≤ 20) ∧ (∀ t, 0 ≤ t ∧ t < 20 → M 12 h t = 0 ∨ M 12 h t = 1) ∧ ∀ t, 0 ≤ t ∧ t < M 1 h 6 → 0 ≤ M 14 h t ∧ M 14 h t ≤ 4
/-- a hall of the reference: at o in the row k -/
def mV (M : zM) (k : Nat) (o : Int) : zS :=
  (fun j => if 0 ≤ j ∧ j < 7 then M k 0 (o + 180 + j) else 0,
   fun t => if 0 ≤ t ∧ t < M k 0 (o + 180) then M k 0 (o + 9 * t) else 0,
   fun t => if 0 ≤ t ∧ t < M k 0 (o + 180) then M k 0 (o + 9 * t + 1) else 0,
   fun t => if 0 ≤ t ∧ t < M k 0 (o + 180) then M k 0 (o + 9 * t + 2) else 0,
   fun t u => if 0 ≤ t ∧ t < M k 0 (o + 180) ∧ 0 ≤ u ∧ u < M k 0 (o + 9 * t + 2) then M k 0 (o + 9 * t + 3 + u) else 0,
   fun t => if 0 ≤ t ∧ t < M k 0 (o + 180) then M k 0 (o + 9 * t + 7) else 0,
   fun t => if 0 ≤ t ∧ t < M k 0 (o + 180) then M k 0 (o + 9 * t + 8) else 0)
def mW (M : zM) (k : Nat) (o : Int) : Prop := (0 ≤ M k 0 (o + 180) ∧ M k 0 (o + 180) ≤ 20) ∧ ∀ t, 0 ≤ t ∧ t < M k 0 (o + 180) → (M k 0 (o + 9 * t) = 0 ∨ M k 0 (o + 9 * t) = 1) ∧ 0 ≤ M k 0 (o + 9 * t + 2) ∧ M k 0 (o + 9 * t + 2) ≤ 4
theorem hS_congr {M M' : zM} {h : Nat} (e1 : M' 1 h = M 1 h) (e2 : M' 12 h = M 12 h) (e3 : M' 13 h = M 13 h) (e4 : M' 14 h = M 14 h) (e5 : M' 15 h = M 15 h) (e6 : M' 16 h = M 16 h) (e7 : M' 17 h = M 17 h) : hS M' h = hS M h := by
  unfold hS hU
  rw [e1, e2, e3, e4, e5, e6, e7]
theorem hW_congr {M M' : zM} {h : Nat} (e1 : M' 1 h = M 1 h) (e2 : M' 12 h = M 12 h) (e4 : M' 14 h = M 14 h) (w : hW M h) : hW M' h := by
  unfold hW at w ⊢
  rw [e1, e2, e4]
  exact w
theorem mV_congr {M M' : zM} {k : Nat} {o : Int} (e : ∀ j, o ≤ j ∧ j < o + 187 → M' k 0 j = M k 0 j) (w : mW M k o) : mV M' k o = mV M k o := by
  have e0 : M' k 0 (o + 180) = M k 0 (o + 180) := e _ (by omega)
  have hn := w.1
  have key : ∀ (t c : Int), 0 ≤ t ∧ t < M k 0 (o + 180) → 0 ≤ c ∧ c < 9 → M' k 0 (o + 9 * t + c) = M k 0 (o + 9 * t + c) := fun t c h1 h2 => e _ (by omega)
  have key0 : ∀ t : Int, 0 ≤ t ∧ t < M k 0 (o + 180) → M' k 0 (o + 9 * t) = M k 0 (o + 9 * t) := fun t h1 => e _ (by omega)
  unfold mV
  rw [e0]
  refine Prod.ext ?_ (Prod.ext ?_ (Prod.ext ?_ (Prod.ext ?_ (Prod.ext ?_ (Prod.ext ?_ ?_)))))
  · funext j
    dsimp only
    split
    · exact e _ (by omega)
    · rfl
  · funext t
    dsimp only
    split
    · next h => exact key0 t h
    · rfl
  · funext t
    dsimp only
    split
    · next h => exact key t 1 h (by omega)
    · rfl
  · funext t
    dsimp only
    split
    · next h => exact key t 2 h (by omega)
    · rfl
  · funext t u
    dsimp only
    by_cases ht : 0 ≤ t ∧ t < M k 0 (o + 180)
    · rw [key t 2 ht (by omega)]
      split
      · next h =>
        have hu := (w.2 t ht).2
        have := key t (3 + u) ht (by omega)
        rw [← Int.add_assoc] at this
        exact this
      · rfl
    · rw [if_neg (by rintro ⟨a, b, -⟩; exact ht ⟨a, b⟩), if_neg (by rintro ⟨a, b, -⟩; exact ht ⟨a, b⟩)]
  · funext t
    dsimp only
    split
    · next h => exact key t 7 h (by omega)
    · rfl
  · funext t
    dsimp only
    split
    · next h => exact key t 8 h (by omega)
    · rfl
theorem mW_congr {M M' : zM} {k : Nat} {o : Int} (e : ∀ j, o ≤ j ∧ j < o + 187 → M' k 0 j = M k 0 j) (w : mW M k o) : mW M' k o := by
  have e0 : M' k 0 (o + 180) = M k 0 (o + 180) := e _ (by omega)
  refine ⟨by rw [e0]; exact w.1, fun t ht => ?_⟩
  rw [e0] at ht
  have hn := w.1
  rw [e (o + 9 * t) (by omega), e (o + 9 * t + 2) (by omega)]
  exact w.2 t ht
/-- what every hall that can be reached is -/
def wfS (k : Int) (S : zS) : Prop :=
  (0 ≤ qn S ∧ qn S ≤ 20) ∧ (0 ≤ qfee S ∧ qfee S ≤ 500) ∧ (0 ≤ qlaw S ∧ qlaw S ≤ 3) ∧ (0 ≤ qsc S 5 ∧ qsc S 5 ≤ k) ∧ (-1000000000 ≤ qsc S 6 ∧ qsc S 6 ≤ 1000000000) ∧
  (∀ t, 0 ≤ t ∧ t < qn S → (qsl S t = 0 ∨ qsl S t = 1) ∧ (0 ≤ qgr S t ∧ qgr S t < 4) ∧ (0 ≤ qun S t ∧ qun S t ≤ 4) ∧ (-1000000 * qsc S 5 ≤ qpu S t ∧ qpu S t ≤ 1000000 * qsc S 5)) ∧
  (∀ t u, 0 ≤ t ∧ t < qn S → 0 ≤ u ∧ u < qun S t → 0 ≤ qsy S t u ∧ qsy S t u ≤ 9999) ∧
  (∀ t u, 0 ≤ t ∧ t < qn S → 0 ≤ u ∧ u + 1 < qun S t → (qsl S t = 0 → qsy S t (u + 1) ≤ qsy S t u) ∧ (qsl S t = 1 → qsy S t u ≤ qsy S t (u + 1)))
/-- the system: the hall, what can be undone (the last first), the shelves, the tape -/
abbrev zY : Type := zS × (Int × (Int → zS)) × ((Int → Int) × (Int → zS)) × (Int × (Int → Int))
abbrev yS (A : zY) : zS := A.1
abbrev yhc (A : zY) : Int := A.2.1.1
abbrev yhf (A : zY) : Int → zS := A.2.1.2
abbrev ykf (A : zY) : Int → Int := A.2.2.1.1
abbrev ykh (A : zY) : Int → zS := A.2.2.1.2
abbrev ytn (A : zY) : Int := A.2.2.2.1
abbrev ytb (A : zY) : Int → Int := A.2.2.2.2
def hix (nx i : Int) : Nat := ((nx - 1 - i) % 10).toNat + 2
def cSt (M : zM) (A : zY) : Prop :=
  (hW M 0 ∧ hS M 0 = yS A) ∧ hW M 1 ∧
  ((0 ≤ M 2 0 1 ∧ M 2 0 1 < 10) ∧ M 2 0 2 = yhc A ∧ ∀ i, 0 ≤ i ∧ i < yhc A → hW M (hix (M 2 0 1) i) ∧ hS M (hix (M 2 0 1) i) = yhf A i) ∧
  (M 6 0 1 = ykf A 0 + 2 * ykf A 1 ∧ (ykf A 0 = 1 → hW M 12 ∧ hS M 12 = ykh A 0) ∧ (ykf A 1 = 1 → hW M 13 ∧ hS M 13 = ykh A 1)) ∧
  (M 7 0 2 = ytn A ∧ ∀ i, 0 ≤ i ∧ i < ytn A → M 24 0 i = ytb A i)
def mSt (M : zM) (A : zY) : Prop :=
  (mW M 27 0 ∧ mV M 27 0 = yS A) ∧
  (M 9 0 2 = yhc A ∧ ∀ i, 0 ≤ i ∧ i < yhc A → mW M 28 (187 * (yhc A - 1 - i)) ∧ mV M 28 (187 * (yhc A - 1 - i)) = yhf A i) ∧
  ((M 30 0 0 = ykf A 0 ∧ M 30 0 1 = ykf A 1) ∧ (ykf A 0 = 1 → mW M 29 0 ∧ mV M 29 0 = ykh A 0) ∧ (ykf A 1 = 1 → mW M 29 187 ∧ mV M 29 187 = ykh A 1)) ∧
  (M 9 0 36 = ytn A ∧ ∀ i, 0 ≤ i ∧ i < ytn A → (-128 ≤ M 47 0 i ∧ M 47 0 i < 128) ∧ zand (M 47 0 i) 255 = ytb A i) ∧
  M 9 0 5 = 0 ∧ M 9 0 6 = 0
def wfY (k : Int) (A : zY) : Prop :=
  wfS k (yS A) ∧ (0 ≤ yhc A ∧ yhc A ≤ 10) ∧ (∀ i, 0 ≤ i ∧ i < yhc A → wfS k (yhf A i)) ∧ (∀ s, 0 ≤ s ∧ s < 2 → ykf A s = 0 ∨ (ykf A s = 1 ∧ wfS k (ykh A s))) ∧
  (0 ≤ ytn A ∧ ytn A ≤ 400) ∧ ∀ i, 0 ≤ i ∧ i < ytn A → 0 ≤ ytb A i ∧ ytb A i < 256
/-- the two sides' kinds; what a query of the class may write -/
def isMd (k : Nat) : Prop := k = 9 ∨ 27 ≤ k
def kScr (k : Nat) : Prop := k = 0 ∨ k = 10 ∨ k = 11 ∨ k = 3 ∨ k = 19 ∨ k = 4 ∨ k = 20 ∨ k = 21 ∨ k = 5 ∨ k = 22 ∨ k = 25 ∨ k = 26
def Fr (K : Nat → Prop) (M M' : zM) : Prop := ∀ k i, ¬ K k → M' k i = M k i
theorem Fr.rf {K : Nat → Prop} {M : zM} : Fr K M M := fun _ _ _ => rfl
theorem Fr.tr {K : Nat → Prop} {M M1 M2 : zM} (a : Fr K M M1) (b : Fr K M1 M2) : Fr K M M2 := fun k i h => (b k i h).trans (a k i h)
theorem Fr.zu {K : Nat → Prop} {M : zM} {k i : Nat} {j x : Int} (h : K k) : Fr K M (zu M k i j x) := fun k' i' hk => zu_o k' i' (fun q => hk (q.1 ▸ h))
theorem Fr.mono {K K' : Nat → Prop} {M M' : zM} (a : Fr K M M') (h : ∀ k, K k → K' k) : Fr K' M M' := fun k i hk => a k i (fun q => hk (h k q))
theorem cSt.scr {M M' : zM} {A : zY} (h : cSt M A) (f : Fr kScr M M') : cSt M' A := by
  obtain ⟨⟨a1, a2⟩, b, ⟨c1, c2, c3⟩, ⟨d1, d2, d3⟩, e1, e2⟩ := h
  have g : ∀ k i, (k = 1 ∨ k = 2 ∨ k = 6 ∨ k = 7 ∨ k = 12 ∨ k = 13 ∨ k = 14 ∨ k = 15 ∨ k = 16 ∨ k = 17 ∨ k = 24) → M' k i = M k i := fun k i hk => f k i (by unfold kScr; omega)
  have gS : ∀ i, hS M' i = hS M i := fun i => hS_congr (g 1 i (by simp)) (g 12 i (by simp)) (g 13 i (by simp)) (g 14 i (by simp)) (g 15 i (by simp)) (g 16 i (by simp)) (g 17 i (by simp))
  have gW : ∀ i, hW M i → hW M' i := fun i => hW_congr (g 1 i (by simp)) (g 12 i (by simp)) (g 14 i (by simp))
  have e2' := g 2 0 (by simp)
  have e6' := g 6 0 (by simp)
  have e7' := g 7 0 (by simp)
  have e24' := g 24 0 (by simp)
  refine ⟨⟨gW 0 a1, by rw [gS]; exact a2⟩, gW 1 b, ⟨by rw [e2']; exact c1, by rw [e2']; exact c2, fun i hi => ?_⟩, ⟨by rw [e6']; exact d1, fun q => ⟨gW _ (d2 q).1, by rw [gS]; exact (d2 q).2⟩, fun q => ⟨gW _ (d3 q).1, by rw [gS]; exact (d3 q).2⟩⟩, by rw [e7']; exact e1, fun i hi => by rw [e24']; exact e2 i hi⟩
  rw [e2', gS]
  exact ⟨gW _ (c3 i hi).1, (c3 i hi).2⟩
theorem cSt.md {M M' : zM} {A : zY} (h : cSt M A) (f : Fr isMd M M') : cSt M' A := by
  obtain ⟨⟨a1, a2⟩, b, ⟨c1, c2, c3⟩, ⟨d1, d2, d3⟩, e1, e2⟩ := h
  have g : ∀ k i, (k = 1 ∨ k = 2 ∨ k = 6 ∨ k = 7 ∨ k = 12 ∨ k = 13 ∨ k = 14 ∨ k = 15 ∨ k = 16 ∨ k = 17 ∨ k = 24) → M' k i = M k i := fun k i hk => f k i (by unfold isMd; omega)
  have gS : ∀ i, hS M' i = hS M i := fun i => hS_congr (g 1 i (by simp)) (g 12 i (by simp)) (g 13 i (by simp)) (g 14 i (by simp)) (g 15 i (by simp)) (g 16 i (by simp)) (g 17 i (by simp))
  have gW : ∀ i, hW M i → hW M' i := fun i => hW_congr (g 1 i (by simp)) (g 12 i (by simp)) (g 14 i (by simp))
  have e2' := g 2 0 (by simp)
  have e6' := g 6 0 (by simp)
  have e7' := g 7 0 (by simp)
  have e24' := g 24 0 (by simp)
  refine ⟨⟨gW 0 a1, by rw [gS]; exact a2⟩, gW 1 b, ⟨by rw [e2']; exact c1, by rw [e2']; exact c2, fun i hi => ?_⟩, ⟨by rw [e6']; exact d1, fun q => ⟨gW _ (d2 q).1, by rw [gS]; exact (d2 q).2⟩, fun q => ⟨gW _ (d3 q).1, by rw [gS]; exact (d3 q).2⟩⟩, by rw [e7']; exact e1, fun i hi => by rw [e24']; exact e2 i hi⟩
  rw [e2', gS]
  exact ⟨gW _ (c3 i hi).1, (c3 i hi).2⟩
theorem mSt.cl {M M' : zM} {A : zY} (h : mSt M A) (f : Fr (fun k => ¬ isMd k) M M') : mSt M' A := by
  obtain ⟨⟨a1, a2⟩, ⟨b1, b2⟩, ⟨⟨c1, c1'⟩, c2, c3⟩, ⟨d1, d2⟩, e1, e2⟩ := h
  have g : ∀ k i, (k = 9 ∨ 27 ≤ k) → M' k i = M k i := fun k i hk => f k i (fun q => q hk)
  have g9 := g 9 0 (by omega)
  have gV : ∀ k o, 27 ≤ k → mW M k o → mW M' k o ∧ mV M' k o = mV M k o := fun k o hk w => ⟨mW_congr (fun j _ => by rw [g k 0 (by omega)]) w, mV_congr (fun j _ => by rw [g k 0 (by omega)]) w⟩
  refine ⟨⟨(gV _ _ (by omega) a1).1, by rw [(gV _ _ (by omega) a1).2]; exact a2⟩, ⟨by rw [g9]; exact b1, fun i hi => ?_⟩, ⟨⟨by rw [g 30 0 (by omega)]; exact c1, by rw [g 30 0 (by omega)]; exact c1'⟩, fun q => ?_, fun q => ?_⟩, ⟨by rw [g9]; exact d1, fun i hi => by rw [g 47 0 (by omega)]; exact d2 i hi⟩, by rw [g9]; exact e1, by rw [g9]; exact e2⟩
  · obtain ⟨w, v⟩ := b2 i hi
    exact ⟨(gV _ _ (by omega) w).1, by rw [(gV _ _ (by omega) w).2]; exact v⟩
  · obtain ⟨w, v⟩ := c2 q
    exact ⟨(gV _ _ (by omega) w).1, by rw [(gV _ _ (by omega) w).2]; exact v⟩
  · obtain ⟨w, v⟩ := c3 q
    exact ⟨(gV _ _ (by omega) w).1, by rw [(gV _ _ (by omega) w).2]; exact v⟩
