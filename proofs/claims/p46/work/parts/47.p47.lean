/-! ===== served: what is asked, and the class ===== -/
def wB (x : Int) : Int := kbv x * 128 - 1
def wA (f x : Int) : Int := -(kav f x * 128)
theorem wB_an : ∀ a b : Int, a < b → wB b ≤ wB a := by
  intro a b h
  unfold wB kbv
  omega
theorem wA_an (f : Int) : ∀ a b : Int, a < b → wA f b ≤ wA f a := by
  intro a b h
  unfold wA kav
  omega
def h0 (o : Int) : Int := if o = 0 then 0 else -1000000000
def sv (S : zS) : Nat → (Int → Int) → Prop
  | 0, h => ∀ o, 0 ≤ o ∧ o ≤ 80 → h o = h0 o
  | g + 1, h => ∃ f m, sv S g f ∧ DP (-1) (wA (qfee S)) f (qA S (g : Int)) m ∧ DP 1 wB m (qB S (g : Int)) h
noncomputable def hv (S : zS) : Int := @dite _ (∃ h, sv S 4 h) (Classical.propDecidable _) (fun h => h.choose 0) (fun _ => 0)
/-- of the units c those before trader t's unit u -/
def bf (c : Int → Int → Prop) (k : Int → Int → Int) (t u x : Int) : Prop := ∃ t' u', c t' u' ∧ (t' < t ∨ (t' = t ∧ u' < u)) ∧ x = k t' u'
def cz (S : zS) (g z t u : Int) : Prop := qU S t u ∧ qgr S t = g ∧ (qsl S t = 1 ↔ z ≠ 0)
def kz (S : zS) (z : Int) : Int → Int → Int := if z = 0 then kB (qsy S) else kA (qsy S)
def wz (S : zS) (z : Int) : Int → Int := if z = 0 then wB else wA (qfee S)
def dz (z : Int) : Int := if z = 0 then 1 else -1
theorem wz_an {S : zS} {z : Int} : ∀ a b : Int, a < b → wz S z b ≤ wz S z a := by
  unfold wz
  split
  · exact wB_an
  · exact wA_an _
theorem dz_1 {z : Int} : dz z = 1 ∨ dz z = -1 := by
  unfold dz
  split
  · exact .inl rfl
  · exact .inr rfl
theorem kz_d {S : zS} (ok : okS S) {z t u t' u' : Int} (h : qU S t u) (h' : qU S t' u') (e : kz S z t u = kz S z t' u') : t = t' ∧ u = u' := by
  have h1 := ok.1.rng h
  have h2 := ok.1.rng h'
  unfold kz at e
  split at e
  · have a := kB_d h1
    have b := kB_d h2
    rw [e] at a
    omega
  · have a := kA_d h1
    have b := kA_d h2
    rw [e] at a
    refine ⟨a.1.symm.trans b.1, a.2.1.symm.trans b.2.1⟩
theorem bf_s {S : zS} (ok : okS S) {g z t u : Int} {L : List Int} (h : isRow L (bf (cz S g z) (kz S z) t u)) (c : cz S g z t u) : isRow (ins (kz S z t u) L) (bf (cz S g z) (kz S z) t (u + 1)) := by
  refine (ins_row h ?_).to fun x => ⟨?_, ?_⟩
  · rintro ⟨t', u', a, b, e⟩
    have := kz_d ok c.1 a.1 e
    omega
  · rintro (⟨t', u', a, b, rfl⟩ | rfl)
    · exact ⟨t', u', a, by omega, rfl⟩
    · exact ⟨t, u, c, by omega, rfl⟩
  · rintro ⟨t', u', a, b, rfl⟩
    by_cases q : t' = t ∧ u' = u
    · rw [q.1, q.2]
      exact .inr rfl
    · exact .inl ⟨t', u', a, by omega, rfl⟩
section
variable {l : Launch} {M : zM} {S : zS}
def stp (d w : Int) (f h : Int → Int) : Prop := ∀ o, 0 ≤ o ∧ o ≤ 80 → h o = if 0 ≤ o + d ∧ o + d ≤ 80 then max (f o) (f (o + d) + w) else f o
/-- the rows so far: of M's row f the best by the units before t, u -/
def sZ (S : zS) (g z t u : Int) (f : Int → Int) (h : Int → Int) : Prop := ∃ L, isRow L (bf (cz S g z) (kz S z) t u) ∧ DP (dz z) (wz S z) f L h
theorem sZ.st {g z t u : Int} {f h h' : Int → Int} (ok : okS S) (H : sZ S g z t u f h) (c : cz S g z t u) (e : stp (dz z) (wz S z (kz S z t u)) h h') : sZ S g z t (u + 1) f h' := by
  obtain ⟨L, hL, hd⟩ := H
  exact ⟨_, bf_s ok hL c, DP_step dz_1 wz_an hL.1 hd e⟩
end

