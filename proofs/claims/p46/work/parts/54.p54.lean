/-! ===== acts: the class ===== -/
def aCome (A : zY) (s g : Int) : Int × zY := if ¬ (0 ≤ g ∧ g < 4) then (-1, A) else if 20 ≤ qn (yS A) then (-2, A) else (qn (yS A), yPut A (sCome (yS A) s g))
def aAdd (A : zY) (t v : Int) : Int × zY := if ¬ (0 ≤ t ∧ t < qn (yS A)) then (-1, A) else if ¬ (0 ≤ v ∧ v ≤ 9999) then (-1, A) else if 4 ≤ qun (yS A) t then (-2, A) else if ¬ fitP (yS A) t (qun (yS A) t) v then (-3, A) else (qun (yS A) t + 1, yPut A (sAdd (yS A) t v))
def aSay (A : zY) (t u v : Int) : Int × zY := if ¬ qU (yS A) t u then (-1, A) else if ¬ (0 ≤ v ∧ v ≤ 9999) then (-1, A) else if qsy (yS A) t u = v then (-2, A) else if ¬ fitP (yS A) t u v then (-3, A) else (qsy (yS A) t u, yPut A (sSay (yS A) t u v))
def aLeave (A : zY) (t : Int) : Int × zY := if qun (yS A) t = 0 then (-1, A) else (qun (yS A) t, yPut A (sDrop (yS A) t (qun (yS A) t)))
def aFeeA (A : zY) (p : Int) : Int × zY := if ¬ (0 ≤ p ∧ p ≤ 500) then (-1, A) else if qfee (yS A) = p then (-2, A) else (qfee (yS A), yPut A (sSc (yS A) 1 p))
def aLawA (A : zY) (p : Int) : Int × zY := if ¬ (0 ≤ p ∧ p ≤ 3) then (-1, A) else if qlaw (yS A) = p then (-2, A) else (qlaw (yS A), yPut A (sSc (yS A) 2 p))
def aUndo (A : zY) : Int × zY := if 0 < yhc A then (yhc A - 1, yTake A) else (-1, A)
def aKeep (A : zY) (s : Int) : Int × zY := if ¬ (0 ≤ s ∧ s < 2) then (-1, A) else (qn (yS A), yKeep A s)
def aBack (A : zY) (s : Int) : Int × zY := if ¬ (0 ≤ s ∧ s < 2) then (-1, A) else if ykf A s = 0 then (-2, A) else (qn (ykh A s), yNo A (ykh A s))
def yB (A : zY) (v : Int) : zY := yTape A (ytn A + 4) (fun i => if i = ytn A then zand (zushr v 24) 255 else if i = ytn A + 1 then zand (zushr v 16) 255 else if i = ytn A + 2 then zand (zushr v 8) 255 else if i = ytn A + 3 then zand (zushr v 0) 255 else ytb A i)
def aFeed (A : zY) (a b c d e : Int) : Int × zY := if 400 < ytn A + 20 then (-1, A) else (ytn A + 20, yB (yB (yB (yB (yB A a) b) c) d) e)
def aEnd (A : zY) (n : Int) : Int × zY := if n < 0 ∨ ytn A < n then (-1, A) else (n, yTape A n (ytb A))
def rC (p : Int × zY) (M : zM) (x : Int) (M' : zM) : Prop := x = p.1 ∧ cSt M' p.2 ∧ ∀ k i, isMd k → M' k i = M k i
theorem rC.st {A : zY} {M : zM} {a : Int} (h : cSt M A) : rC (a, A) M a M := ⟨rfl, h, fun _ _ _ => rfl⟩
theorem md_rm {M M' : zM} (f : Fx kRm M M') : ∀ k i, isMd k → M' k i = M k i := fun k i hk => f k i (fun q => by unfold kRm at q; unfold isMd at hk; omega)
theorem md_H {M M' : zM} {h : Nat} (f : Fx (kH h) M M') : ∀ k i, isMd k → M' k i = M k i := fun k i hk => f k i (fun q => by have := q.1; unfold isMd at hk; omega)
theorem fld_S {M M' : zM} {j x : Int} (hj : 1 ≤ j ∧ j < 7) (w : hW M 0) (e : M' = zu M 1 0 (6 + j) x) : Fx (kH 0) M M' ∧ hW M' 0 ∧ hS M' 0 = sSc (hS M 0) j x := by
  have o : ∀ k i, k ≠ 1 → M' k i = M k i := fun k i hk => by rw [e, zu_k hk]
  have a1 : ∀ i, i ≠ 6 + j → M' 1 0 i = M 1 0 i := fun i hi => by rw [e, zu_at, if_neg hi]
  have a2 : M' 1 0 (6 + j) = x := by rw [e, zu_at, if_pos rfl]
  refine ⟨by rw [e]; exact Fx.zu Fx.rf ⟨by omega, rfl⟩, hW_rest (a1 6 (by omega)) (o _ _ (by decide)) (o _ _ (by decide)) w, ?_⟩
  refine Prod.ext ?_ (hS_rest (a1 6 (by omega)) (o _ _ (by decide)) (o _ _ (by decide)) (o _ _ (by decide)) (o _ _ (by decide)) (o _ _ (by decide)) (o _ _ (by decide)))
  funext k
  show (if 0 ≤ k ∧ k < 7 then M' 1 0 (6 + k) else 0) = if k = j then x else if 0 ≤ k ∧ k < 7 then M 1 0 (6 + k) else 0
  by_cases c : k = j
  · subst c
    rw [if_pos rfl, if_pos (by omega), a2]
  · rw [if_neg c]
    split
    · exact a1 _ (by omega)
    · rfl
theorem c_X1_setSaid_S {M M' : zM} {h : Nat} {t u v : Int} (w : hW M h) (q : hU M h t u) (e : M' = zu M 15 h (4 * t + u) v) : Fx (kH h) M M' ∧ hW M' h ∧ hS M' h = sSay (hS M h) t u v := by
  have o : ∀ k i, k ≠ 15 → M' k i = M k i := fun k i hk => by rw [e, zu_k hk]
  have a : ∀ j, M' 15 h j = if j = 4 * t + u then v else M 15 h j := fun j => by rw [e, zu_at]
  have o1 := o 1 h (by decide)
  have o14 := o 14 h (by decide)
  have hu : ∀ t' u', hU M' h t' u' ↔ hU M h t' u' := fun t' u' => by unfold hU; rw [o1, o14]
  have sy15 : (fun t' u' => if hU M' h t' u' then M' 15 h (4 * t' + u') else 0) = (fun t' u' => if t' = t ∧ u' = u then v else (if hU M h t' u' then M 15 h (4 * t' + u') else 0)) := by
    funext t' u'
    show (if hU M' h t' u' then M' 15 h (4 * t' + u') else 0) = if t' = t ∧ u' = u then v else (if hU M h t' u' then M 15 h (4 * t' + u') else 0)
    have w3 := w.2.2 t ⟨q.1, q.2.1⟩
    by_cases c : hU M h t' u'
    · have w4 := w.2.2 t' ⟨c.1, c.2.1⟩
      have c' := c
      obtain ⟨c1, c2, c3, c4⟩ := c'
      have q' := q
      obtain ⟨q1, q2, q3, q4⟩ := q'
      rw [if_pos ((hu t' u').mpr c), if_pos c, a]
      by_cases d : t' = t ∧ u' = u
      · rw [if_pos d, if_pos (by omega)]
      · rw [if_neg d, if_neg (by omega)]
    · rw [if_neg (fun x => c ((hu t' u').mp x)), if_neg c]
      by_cases d : t' = t ∧ u' = u
      · rw [d.1, d.2] at c
        exact absurd q c
      · rw [if_neg d]
  refine ⟨by rw [e]; exact Fx.zu Fx.rf ⟨by omega, rfl⟩, hW_congr o1 (o 12 h (by decide)) o14 w, ?_⟩
  refine Prod.ext ?_ (Prod.ext ?_ (Prod.ext ?_ (Prod.ext ?_ (Prod.ext ?_ (Prod.ext ?_ ?_)))))
  · funext k
    show (if 0 ≤ k ∧ k < 7 then M' 1 h (6 + k) else 0) = (if 0 ≤ k ∧ k < 7 then M 1 h (6 + k) else 0)
    rw [o1]
  · funext k
    show (if 0 ≤ k ∧ k < M' 1 h 6 then M' 12 h k else 0) = (if 0 ≤ k ∧ k < M 1 h 6 then M 12 h k else 0)
    rw [o1, o 12 h (by decide)]
  · funext k
    show (if 0 ≤ k ∧ k < M' 1 h 6 then M' 13 h k else 0) = (if 0 ≤ k ∧ k < M 1 h 6 then M 13 h k else 0)
    rw [o1, o 13 h (by decide)]
  · funext k
    show (if 0 ≤ k ∧ k < M' 1 h 6 then M' 14 h k else 0) = (if 0 ≤ k ∧ k < M 1 h 6 then M 14 h k else 0)
    rw [o1, o14]
  · exact sy15
  · funext k
    show (if 0 ≤ k ∧ k < M' 1 h 6 then M' 16 h k else 0) = (if 0 ≤ k ∧ k < M 1 h 6 then M 16 h k else 0)
    rw [o1, o 16 h (by decide)]
  · funext k
    show (if 0 ≤ k ∧ k < M' 1 h 6 then M' 17 h k else 0) = (if 0 ≤ k ∧ k < M 1 h 6 then M 17 h k else 0)
    rw [o1, o 17 h (by decide)]
section
variable {l : Launch} {M : zM} {A : zY} {kk : Int}
theorem vX8_come {l : Launch} {P : Int → zM → Prop} {v1 : Int} {v2 : Int} {M : zM}
    (H0 : (zI v2 ∧ ((0 ≤ v2 ∧ v2 < 4 → (zI (M 1 0 6) ∧ ((M 1 0 6) < 20 → (CV l m_X2_remember [zr 2 0, zr 1 0] M (fun M13 => (CI l m_X1_enter [zr 1 0, zi v1, zi v2] M13 (fun x19 M16 => P x19 M16))))) ∧ (20 ≤ (M 1 0 6) → P (-2) M))) ∧ (¬ (0 ≤ v2 ∧ v2 < 4) → P (-1) M)))) :
    CI l m_X8_come [zr 8 0, zi v1, zi v2] M P :=
(aw_iload_n d_X8_come_0 rfl rfl 2 rfl
(have z1 := H0.1; have e2 := H0.2; (aw_SI (As := [zi v2]) (st := []) d_X8_come_1 rfl cs8_99 ⟨Nat.le_of_ble_eq_true rfl, Nat.le_of_ble_eq_true rfl⟩ rfl rfl (Nat.le_of_ble_eq_true rfl) (Nat.le_of_ble_eq_true rfl) (s_X8_isGrade z1) (fun _ _ hq => aw_eqs hq
(aw_if_ne d_X8_come_4 rfl rfl zb_I (fun c3 => have e5 := e2.1 (zb_n0 c3); (aw_aload_n d_X8_come_9 rfl rfl 0 rfl (by decide)
(aw_getR (k' := 1) (a := 0) (b := 0) (j := 0) d_X8_come_10 rfl fl8_12 rfl zj0 ⟨by decide, fun _ => by decide⟩
(aw_getI (kc := 6) d_X8_come_13 rfl fl8_98 rfl rfl
(aw_bipush d_X8_come_16 rfl (by decide)
(have z7 := e5.1; have e8 := e5.2; aw_icmp_lt d_X8_come_18 rfl rfl z7 (by decide) (fun c9 => have e11 := e8.1 c9; (aw_aload_n d_X8_come_24 rfl rfl 0 rfl (by decide)
(aw_getR (k' := 2) (a := 0) (b := 0) (j := 0) d_X8_come_25 rfl fl8_26 rfl zj0 ⟨by decide, fun _ => by decide⟩
(aw_aload_n d_X8_come_28 rfl rfl 0 rfl (by decide)
(aw_getR (k' := 1) (a := 0) (b := 0) (j := 0) d_X8_come_29 rfl fl8_12 rfl zj0 ⟨by decide, fun _ => by decide⟩
(aw_VV (As := [zr 1 0]) (st := []) d_X8_come_32 rfl cv8_103 ⟨Nat.le_of_ble_eq_true rfl, Nat.le_of_ble_eq_true rfl⟩ rfl rfl (Nat.le_of_ble_eq_true rfl) (Nat.le_of_ble_eq_true rfl) e11 (fun M13 e14 => (aw_aload_n d_X8_come_35 rfl rfl 0 rfl (by decide)
(aw_getR (k' := 1) (a := 0) (b := 0) (j := 0) d_X8_come_36 rfl fl8_12 rfl zj0 ⟨by decide, fun _ => by decide⟩
(aw_iload_n d_X8_come_39 rfl rfl 1 rfl
(aw_iload_n d_X8_come_40 rfl rfl 2 rfl
(aw_VI (As := [zi v1, zi v2]) (st := []) d_X8_come_41 rfl cv8_106 ⟨Nat.le_of_ble_eq_true rfl, Nat.le_of_ble_eq_true rfl⟩ rfl rfl (Nat.le_of_ble_eq_true rfl) (Nat.le_of_ble_eq_true rfl) e14 (fun x19 M16 e17 => (aw_ri d_X8_come_44 rfl e17)))))))))))))) (fun c10 => have e12 := e8.2 c10; (aw_bipush d_X8_come_21 rfl (by decide)
(aw_ri d_X8_come_23 rfl e12))))))))) (fun c4 => have e6 := e2.2 (zb_0 c4); (aw_iconst d_X8_come_7 rfl
(aw_ri d_X8_come_8 rfl e6))))))))
theorem vX8_add {l : Launch} {P : Int → zM → Prop} {v1 : Int} {v2 : Int} {M : zM}
    (H0 : ((hW M 0 ∧ zI v1) ∧ ((¬ (0 ≤ v1 ∧ v1 < M 1 0 6) → P (-1) M) ∧ (0 ≤ v1 ∧ v1 < M 1 0 6 → (zI v2 ∧ ((0 ≤ v2 ∧ v2 ≤ 9999 → ((hW M 0 ∧ zI v1) ∧ (zI (qun (hS M 0) v1) ∧ ((qun (hS M 0) v1) < 4 → ((hW M 0 ∧ zI v1 ∧ (0 ≤ (qun (hS M 0) v1) ∧ (qun (hS M 0) v1) ≤ 100) ∧ zI v2 ∧ (∀ u, zI (qsy (hS M 0) v1 u))) ∧ ((fitP (hS M 0) v1 (qun (hS M 0) v1) v2 → (CV l m_X2_remember [zr 2 0, zr 1 0] M (fun M27 => (CI l m_X1_append [zr 1 0, zi v1, zi v2] M27 (fun x33 M30 => P x33 M30))))) ∧ (¬ (fitP (hS M 0) v1 (qun (hS M 0) v1) v2) → P (-3) M)))) ∧ (4 ≤ (qun (hS M 0) v1) → P (-2) M)))) ∧ (¬ (0 ≤ v2 ∧ v2 ≤ 9999) → P (-1) M))))))) :
    CI l m_X8_add [zr 8 0, zi v1, zi v2] M P :=
(aw_aload_n d_X8_add_0 rfl rfl 0 rfl (by decide)
(aw_getR (k' := 1) (a := 0) (b := 0) (j := 0) d_X8_add_1 rfl fl8_12 rfl zj0 ⟨by decide, fun _ => by decide⟩
(aw_iload_n d_X8_add_4 rfl rfl 1 rfl
(have z1 := H0.1; have e2 := H0.2; (aw_VI (As := [zi v1]) (st := []) d_X8_add_5 rfl cv8_110 ⟨Nat.le_of_ble_eq_true rfl, Nat.le_of_ble_eq_true rfl⟩ rfl rfl (Nat.le_of_ble_eq_true rfl) (Nat.le_of_ble_eq_true rfl) (s_X1_has z1) (fun _ _ hq => aw_eqs hq
(aw_if_eq d_X8_add_8 rfl rfl zb_I (fun c3 => have e5 := e2.1 (zb_0 c3); (aw_iconst d_X8_add_18 rfl
(aw_ri d_X8_add_19 rfl e5))) (fun c4 => have e6 := e2.2 (zb_n0 c4); (aw_iload_n d_X8_add_11 rfl rfl 2 rfl
(have z7 := e6.1; have e8 := e6.2; (aw_SI (As := [zi v2]) (st := []) d_X8_add_12 rfl cs8_113 ⟨Nat.le_of_ble_eq_true rfl, Nat.le_of_ble_eq_true rfl⟩ rfl rfl (Nat.le_of_ble_eq_true rfl) (Nat.le_of_ble_eq_true rfl) (s_X8_isValue z7) (fun _ _ hq => aw_eqs hq
(aw_if_ne d_X8_add_15 rfl rfl zb_I (fun c9 => have e11 := e8.1 (zb_n0 c9); (aw_aload_n d_X8_add_20 rfl rfl 0 rfl (by decide)
(aw_getR (k' := 1) (a := 0) (b := 0) (j := 0) d_X8_add_21 rfl fl8_12 rfl zj0 ⟨by decide, fun _ => by decide⟩
(aw_iload_n d_X8_add_24 rfl rfl 1 rfl
(have z13 := e11.1; have e14 := e11.2; (aw_VI (As := [zi v1]) (st := []) d_X8_add_25 rfl cv8_116 ⟨Nat.le_of_ble_eq_true rfl, Nat.le_of_ble_eq_true rfl⟩ rfl rfl (Nat.le_of_ble_eq_true rfl) (Nat.le_of_ble_eq_true rfl) (s_X1_unitsOf z13) (fun _ _ hq => aw_eqs hq
(aw_istore_n (lv' := [(3, zi (qun (hS M 0) v1)), (0, zr 8 0), (1, zi v1), (2, zi v2)]) d_X8_add_28 rfl rfl (by decide) rfl
(aw_iload_n d_X8_add_29 rfl rfl 0 rfl
(aw_iconst d_X8_add_30 rfl
(have z15 := e14.1; have e16 := e14.2; aw_icmp_lt d_X8_add_31 rfl rfl z15 (by decide) (fun c17 => have e19 := e16.1 c17; (aw_aload_n d_X8_add_37 rfl rfl 1 rfl (by decide)
(aw_getR (k' := 1) (a := 0) (b := 0) (j := 0) d_X8_add_38 rfl fl8_12 rfl zj0 ⟨by decide, fun _ => by decide⟩
(aw_iload_n d_X8_add_41 rfl rfl 2 rfl
(aw_iload_n d_X8_add_42 rfl rfl 0 rfl
(aw_iload_n d_X8_add_43 rfl rfl 3 rfl
(have z21 := e19.1; have e22 := e19.2; (aw_VI (As := [zi v1, zi (qun (hS M 0) v1), zi v2]) (st := []) d_X8_add_44 rfl cv8_120 ⟨Nat.le_of_ble_eq_true rfl, Nat.le_of_ble_eq_true rfl⟩ rfl rfl (Nat.le_of_ble_eq_true rfl) (Nat.le_of_ble_eq_true rfl) (s_X1_fits z21) (fun _ _ hq => aw_eqs hq
(aw_if_ne d_X8_add_47 rfl rfl zb_I (fun c23 => have e25 := e22.1 (zb_n0 c23); (aw_aload_n d_X8_add_53 rfl rfl 1 rfl (by decide)
(aw_getR (k' := 2) (a := 0) (b := 0) (j := 0) d_X8_add_54 rfl fl8_26 rfl zj0 ⟨by decide, fun _ => by decide⟩
(aw_aload_n d_X8_add_57 rfl rfl 1 rfl (by decide)
(aw_getR (k' := 1) (a := 0) (b := 0) (j := 0) d_X8_add_58 rfl fl8_12 rfl zj0 ⟨by decide, fun _ => by decide⟩
(aw_VV (As := [zr 1 0]) (st := []) d_X8_add_61 rfl cv8_103 ⟨Nat.le_of_ble_eq_true rfl, Nat.le_of_ble_eq_true rfl⟩ rfl rfl (Nat.le_of_ble_eq_true rfl) (Nat.le_of_ble_eq_true rfl) e25 (fun M27 e28 => (aw_aload_n d_X8_add_64 rfl rfl 1 rfl (by decide)
(aw_getR (k' := 1) (a := 0) (b := 0) (j := 0) d_X8_add_65 rfl fl8_12 rfl zj0 ⟨by decide, fun _ => by decide⟩
(aw_iload_n d_X8_add_68 rfl rfl 2 rfl
(aw_iload_n d_X8_add_69 rfl rfl 3 rfl
(aw_VI (As := [zi v1, zi v2]) (st := []) d_X8_add_70 rfl cv8_124 ⟨Nat.le_of_ble_eq_true rfl, Nat.le_of_ble_eq_true rfl⟩ rfl rfl (Nat.le_of_ble_eq_true rfl) (Nat.le_of_ble_eq_true rfl) e28 (fun x33 M30 e31 => (aw_ri d_X8_add_73 rfl e31)))))))))))))) (fun c24 => have e26 := e22.2 (zb_0 c24); (aw_bipush d_X8_add_50 rfl (by decide)
(aw_ri d_X8_add_52 rfl e26))))))))))))) (fun c18 => have e20 := e16.2 c18; (aw_bipush d_X8_add_34 rfl (by decide)
(aw_ri d_X8_add_36 rfl e20)))))))))))))) (fun c10 => have e12 := e8.2 (zb_0 c10); (aw_iconst d_X8_add_18 rfl
(aw_ri d_X8_add_19 rfl e12))))))))))))))))
theorem vX8_say {l : Launch} {P : Int → zM → Prop} {v1 : Int} {v2 : Int} {v3 : Int} {M : zM}
    (H0 : ((hW M 0 ∧ zI v1 ∧ zI v2) ∧ ((¬ (hU M 0 v1 v2) → P (-1) M) ∧ (hU M 0 v1 v2 → (zI v3 ∧ ((0 ≤ v3 ∧ v3 ≤ 9999 → ((hW M 0 ∧ zI v1 ∧ zI v2) ∧ (zI (qsy (hS M 0) v1 v2) ∧ zI v3 ∧ ((qsy (hS M 0) v1 v2) ≠ v3 → ((hW M 0 ∧ zI v1 ∧ (0 ≤ v2 ∧ v2 ≤ 100) ∧ zI v3 ∧ (∀ u, zI (qsy (hS M 0) v1 u))) ∧ ((fitP (hS M 0) v1 v2 v3 → (CV l m_X2_remember [zr 2 0, zr 1 0] M (fun M28 => ((hW M28 0 ∧ hU M28 0 v1 v2) ∧ ∀ M32 : zM, M32 = zu M28 15 0 (4 * v1 + v2) v3 → P (qsy (hS M 0) v1 v2) M32)))) ∧ (¬ (fitP (hS M 0) v1 v2 v3) → P (-3) M)))) ∧ ((qsy (hS M 0) v1 v2) = v3 → P (-2) M)))) ∧ (¬ (0 ≤ v3 ∧ v3 ≤ 9999) → P (-1) M))))))) :
    CI l m_X8_say [zr 8 0, zi v1, zi v2, zi v3] M P :=
(aw_aload_n d_X8_say_0 rfl rfl 0 rfl (by decide)
(aw_getR (k' := 1) (a := 0) (b := 0) (j := 0) d_X8_say_1 rfl fl8_12 rfl zj0 ⟨by decide, fun _ => by decide⟩
(aw_iload_n d_X8_say_4 rfl rfl 1 rfl
(aw_iload_n d_X8_say_5 rfl rfl 2 rfl
(have z1 := H0.1; have e2 := H0.2; (aw_VI (As := [zi v1, zi v2]) (st := []) d_X8_say_6 rfl cv8_127 ⟨Nat.le_of_ble_eq_true rfl, Nat.le_of_ble_eq_true rfl⟩ rfl rfl (Nat.le_of_ble_eq_true rfl) (Nat.le_of_ble_eq_true rfl) (s_X1_hasUnit z1) (fun _ _ hq => aw_eqs hq
(aw_if_eq d_X8_say_9 rfl rfl zb_I (fun c3 => have e5 := e2.1 (zb_0 c3); (aw_iconst d_X8_say_19 rfl
(aw_ri d_X8_say_20 rfl e5))) (fun c4 => have e6 := e2.2 (zb_n0 c4); (aw_iload_n d_X8_say_12 rfl rfl 3 rfl
(have z7 := e6.1; have e8 := e6.2; (aw_SI (As := [zi v3]) (st := []) d_X8_say_13 rfl cs8_113 ⟨Nat.le_of_ble_eq_true rfl, Nat.le_of_ble_eq_true rfl⟩ rfl rfl (Nat.le_of_ble_eq_true rfl) (Nat.le_of_ble_eq_true rfl) (s_X8_isValue z7) (fun _ _ hq => aw_eqs hq
(aw_if_ne d_X8_say_16 rfl rfl zb_I (fun c9 => have e11 := e8.1 (zb_n0 c9); (aw_aload_n d_X8_say_21 rfl rfl 0 rfl (by decide)
(aw_getR (k' := 1) (a := 0) (b := 0) (j := 0) d_X8_say_22 rfl fl8_12 rfl zj0 ⟨by decide, fun _ => by decide⟩
(aw_iload_n d_X8_say_25 rfl rfl 1 rfl
(aw_iload_n d_X8_say_26 rfl rfl 2 rfl
(have z13 := e11.1; have e14 := e11.2; (aw_VI (As := [zi v1, zi v2]) (st := []) d_X8_say_27 rfl cv8_131 ⟨Nat.le_of_ble_eq_true rfl, Nat.le_of_ble_eq_true rfl⟩ rfl rfl (Nat.le_of_ble_eq_true rfl) (Nat.le_of_ble_eq_true rfl) (s_X1_said z13) (fun _ _ hq => aw_eqs hq
(aw_istore (lv' := [(4, zi (qsy (hS M 0) v1 v2)), (0, zr 8 0), (1, zi v1), (2, zi v2), (3, zi v3)]) d_X8_say_30 rfl (by decide) rfl
(aw_iload d_X8_say_32 rfl 0 rfl
(aw_iload_n d_X8_say_34 rfl rfl 4 rfl
(have z15 := e14.1; have z16 := e14.2.1; have e17 := e14.2.2; aw_icmp_ne d_X8_say_35 rfl rfl z15 z16 (fun c18 => have e20 := e17.1 c18; (aw_aload_n d_X8_say_41 rfl rfl 1 rfl (by decide)
(aw_getR (k' := 1) (a := 0) (b := 0) (j := 0) d_X8_say_42 rfl fl8_12 rfl zj0 ⟨by decide, fun _ => by decide⟩
(aw_iload_n d_X8_say_45 rfl rfl 2 rfl
(aw_iload_n d_X8_say_46 rfl rfl 3 rfl
(aw_iload_n d_X8_say_47 rfl rfl 4 rfl
(have z22 := e20.1; have e23 := e20.2; (aw_VI (As := [zi v1, zi v2, zi v3]) (st := []) d_X8_say_48 rfl cv8_120 ⟨Nat.le_of_ble_eq_true rfl, Nat.le_of_ble_eq_true rfl⟩ rfl rfl (Nat.le_of_ble_eq_true rfl) (Nat.le_of_ble_eq_true rfl) (s_X1_fits z22) (fun _ _ hq => aw_eqs hq
(aw_if_ne d_X8_say_51 rfl rfl zb_I (fun c24 => have e26 := e23.1 (zb_n0 c24); (aw_aload_n d_X8_say_57 rfl rfl 1 rfl (by decide)
(aw_getR (k' := 2) (a := 0) (b := 0) (j := 0) d_X8_say_58 rfl fl8_26 rfl zj0 ⟨by decide, fun _ => by decide⟩
(aw_aload_n d_X8_say_61 rfl rfl 1 rfl (by decide)
(aw_getR (k' := 1) (a := 0) (b := 0) (j := 0) d_X8_say_62 rfl fl8_12 rfl zj0 ⟨by decide, fun _ => by decide⟩
(aw_VV (As := [zr 1 0]) (st := []) d_X8_say_65 rfl cv8_103 ⟨Nat.le_of_ble_eq_true rfl, Nat.le_of_ble_eq_true rfl⟩ rfl rfl (Nat.le_of_ble_eq_true rfl) (Nat.le_of_ble_eq_true rfl) e26 (fun M28 e29 => (aw_aload_n d_X8_say_68 rfl rfl 1 rfl (by decide)
(aw_getR (k' := 1) (a := 0) (b := 0) (j := 0) d_X8_say_69 rfl fl8_12 rfl zj0 ⟨by decide, fun _ => by decide⟩
(aw_iload_n d_X8_say_72 rfl rfl 2 rfl
(aw_iload_n d_X8_say_73 rfl rfl 3 rfl
(aw_iload_n d_X8_say_74 rfl rfl 4 rfl
(have z31 := e29.1; have e33 := e29.2 _ rfl; aw_VV (As := [zi v1, zi v2, zi v3]) (st := []) d_X8_say_75 rfl cv8_134 ⟨Nat.le_of_ble_eq_true rfl, Nat.le_of_ble_eq_true rfl⟩ rfl rfl (Nat.le_of_ble_eq_true rfl) (Nat.le_of_ble_eq_true rfl) (s_X1_setSaid z31) (fun _ hq => aw_eqM hq
(aw_iload d_X8_say_78 rfl 0 rfl
(aw_ri d_X8_say_80 rfl e33)))))))))))))))) (fun c25 => have e27 := e23.2 (zb_0 c25); (aw_bipush d_X8_say_54 rfl (by decide)
(aw_ri d_X8_say_56 rfl e27))))))))))))) (fun c19 => have e21 := e17.2 c19; (aw_bipush d_X8_say_38 rfl (by decide)
(aw_ri d_X8_say_40 rfl e21))))))))))))))) (fun c10 => have e12 := e8.2 (zb_0 c10); (aw_iconst d_X8_say_19 rfl
(aw_ri d_X8_say_20 rfl e12)))))))))))))))))
theorem vX8_leave {l : Launch} {P : Int → zM → Prop} {v1 : Int} {M : zM}
    (H0 : ((hW M 0 ∧ zI v1) ∧ (zI (qun (hS M 0) v1) ∧ ((qun (hS M 0) v1) ≠ 0 → (CV l m_X2_remember [zr 2 0, zr 1 0] M (fun M9 => (CV l m_X1_dropFirst [zr 1 0, zi v1, zi (qun (hS M 0) v1)] M9 (fun M12 => P (qun (hS M 0) v1) M12))))) ∧ ((qun (hS M 0) v1) = 0 → P (-1) M)))) :
    CI l m_X8_leave [zr 8 0, zi v1] M P :=
(aw_aload_n d_X8_leave_0 rfl rfl 0 rfl (by decide)
(aw_getR (k' := 1) (a := 0) (b := 0) (j := 0) d_X8_leave_1 rfl fl8_12 rfl zj0 ⟨by decide, fun _ => by decide⟩
(aw_iload_n d_X8_leave_4 rfl rfl 1 rfl
(have z1 := H0.1; have e2 := H0.2; (aw_VI (As := [zi v1]) (st := []) d_X8_leave_5 rfl cv8_116 ⟨Nat.le_of_ble_eq_true rfl, Nat.le_of_ble_eq_true rfl⟩ rfl rfl (Nat.le_of_ble_eq_true rfl) (Nat.le_of_ble_eq_true rfl) (s_X1_unitsOf z1) (fun _ _ hq => aw_eqs hq
(aw_istore_n (lv' := [(2, zi (qun (hS M 0) v1)), (0, zr 8 0), (1, zi v1)]) d_X8_leave_8 rfl rfl (by decide) rfl
(aw_iload_n d_X8_leave_9 rfl rfl 0 rfl
(have z3 := e2.1; have e4 := e2.2; aw_if_ne d_X8_leave_10 rfl rfl z3 (fun c5 => have e7 := e4.1 c5; (aw_aload_n d_X8_leave_15 rfl rfl 1 rfl (by decide)
(aw_getR (k' := 2) (a := 0) (b := 0) (j := 0) d_X8_leave_16 rfl fl8_26 rfl zj0 ⟨by decide, fun _ => by decide⟩
(aw_aload_n d_X8_leave_19 rfl rfl 1 rfl (by decide)
(aw_getR (k' := 1) (a := 0) (b := 0) (j := 0) d_X8_leave_20 rfl fl8_12 rfl zj0 ⟨by decide, fun _ => by decide⟩
(aw_VV (As := [zr 1 0]) (st := []) d_X8_leave_23 rfl cv8_103 ⟨Nat.le_of_ble_eq_true rfl, Nat.le_of_ble_eq_true rfl⟩ rfl rfl (Nat.le_of_ble_eq_true rfl) (Nat.le_of_ble_eq_true rfl) e7 (fun M9 e10 => (aw_aload_n d_X8_leave_26 rfl rfl 1 rfl (by decide)
(aw_getR (k' := 1) (a := 0) (b := 0) (j := 0) d_X8_leave_27 rfl fl8_12 rfl zj0 ⟨by decide, fun _ => by decide⟩
(aw_iload_n d_X8_leave_30 rfl rfl 2 rfl
(aw_iload_n d_X8_leave_31 rfl rfl 0 rfl
(aw_VV (As := [zi v1, zi (qun (hS M 0) v1)]) (st := []) d_X8_leave_32 rfl cv8_138 ⟨Nat.le_of_ble_eq_true rfl, Nat.le_of_ble_eq_true rfl⟩ rfl rfl (Nat.le_of_ble_eq_true rfl) (Nat.le_of_ble_eq_true rfl) e10 (fun M12 e13 => (aw_iload_n d_X8_leave_35 rfl rfl 0 rfl
(aw_ri d_X8_leave_36 rfl e13))))))))))))))) (fun c6 => have e8 := e4.2 c6; (aw_iconst d_X8_leave_13 rfl
(aw_ri d_X8_leave_14 rfl e8))))))))))))
theorem vX8_fee {l : Launch} {P : Int → zM → Prop} {v1 : Int} {M : zM}
    (H0 : (zI v1 ∧ ((0 ≤ v1 ∧ v1 ≤ 500 → (zI (M 1 0 7) ∧ zI v1 ∧ ((M 1 0 7) ≠ v1 → (CV l m_X2_remember [zr 2 0, zr 1 0] M (fun M14 => (∀ M17 : zM, M17 = zu M14 1 0 7 v1 → P (M 1 0 7) M17)))) ∧ ((M 1 0 7) = v1 → P (-2) M))) ∧ (¬ (0 ≤ v1 ∧ v1 ≤ 500) → P (-1) M)))) :
    CI l m_X8_fee [zr 8 0, zi v1] M P :=
(aw_iload_n d_X8_fee_0 rfl rfl 1 rfl
(have z1 := H0.1; have e2 := H0.2; (aw_SI (As := [zi v1]) (st := []) d_X8_fee_1 rfl cs8_142 ⟨Nat.le_of_ble_eq_true rfl, Nat.le_of_ble_eq_true rfl⟩ rfl rfl (Nat.le_of_ble_eq_true rfl) (Nat.le_of_ble_eq_true rfl) (s_X8_isFee z1) (fun _ _ hq => aw_eqs hq
(aw_if_ne d_X8_fee_4 rfl rfl zb_I (fun c3 => have e5 := e2.1 (zb_n0 c3); (aw_aload_n d_X8_fee_9 rfl rfl 0 rfl (by decide)
(aw_getR (k' := 1) (a := 0) (b := 0) (j := 0) d_X8_fee_10 rfl fl8_12 rfl zj0 ⟨by decide, fun _ => by decide⟩
(aw_getI (kc := 7) d_X8_fee_13 rfl fl8_145 rfl rfl
(aw_istore_n (lv' := [(2, zi (M 1 0 7)), (0, zr 8 0), (1, zi v1)]) d_X8_fee_16 rfl rfl (by decide) rfl
(aw_iload_n d_X8_fee_17 rfl rfl 0 rfl
(aw_iload_n d_X8_fee_18 rfl rfl 2 rfl
(have z7 := e5.1; have z8 := e5.2.1; have e9 := e5.2.2; aw_icmp_ne d_X8_fee_19 rfl rfl z7 z8 (fun c10 => have e12 := e9.1 c10; (aw_aload_n d_X8_fee_25 rfl rfl 1 rfl (by decide)
(aw_getR (k' := 2) (a := 0) (b := 0) (j := 0) d_X8_fee_26 rfl fl8_26 rfl zj0 ⟨by decide, fun _ => by decide⟩
(aw_aload_n d_X8_fee_29 rfl rfl 1 rfl (by decide)
(aw_getR (k' := 1) (a := 0) (b := 0) (j := 0) d_X8_fee_30 rfl fl8_12 rfl zj0 ⟨by decide, fun _ => by decide⟩
(aw_VV (As := [zr 1 0]) (st := []) d_X8_fee_33 rfl cv8_103 ⟨Nat.le_of_ble_eq_true rfl, Nat.le_of_ble_eq_true rfl⟩ rfl rfl (Nat.le_of_ble_eq_true rfl) (Nat.le_of_ble_eq_true rfl) e12 (fun M14 e15 => (aw_aload_n d_X8_fee_36 rfl rfl 1 rfl (by decide)
(aw_getR (k' := 1) (a := 0) (b := 0) (j := 0) d_X8_fee_37 rfl fl8_12 rfl zj0 ⟨by decide, fun _ => by decide⟩
(aw_iload_n d_X8_fee_40 rfl rfl 2 rfl
(have e18 := e15 _ rfl; aw_put (kc := 7) d_X8_fee_41 rfl fp8_145 rfl rfl rfl rfl
(aw_iload_n d_X8_fee_44 rfl rfl 0 rfl
(aw_ri d_X8_fee_45 rfl e18))))))))))))) (fun c11 => have e13 := e9.2 c11; (aw_bipush d_X8_fee_22 rfl (by decide)
(aw_ri d_X8_fee_24 rfl e13))))))))))) (fun c4 => have e6 := e2.2 (zb_0 c4); (aw_iconst d_X8_fee_7 rfl
(aw_ri d_X8_fee_8 rfl e6))))))))
theorem vX8_law {l : Launch} {P : Int → zM → Prop} {v1 : Int} {M : zM}
    (H0 : (zI v1 ∧ ((0 ≤ v1 ∧ v1 ≤ 3 → (zI (M 1 0 8) ∧ zI v1 ∧ ((M 1 0 8) ≠ v1 → (CV l m_X2_remember [zr 2 0, zr 1 0] M (fun M14 => (∀ M17 : zM, M17 = zu M14 1 0 8 v1 → P (M 1 0 8) M17)))) ∧ ((M 1 0 8) = v1 → P (-2) M))) ∧ (¬ (0 ≤ v1 ∧ v1 ≤ 3) → P (-1) M)))) :
    CI l m_X8_law [zr 8 0, zi v1] M P :=
(aw_iload_n d_X8_law_0 rfl rfl 1 rfl
(have z1 := H0.1; have e2 := H0.2; (aw_SI (As := [zi v1]) (st := []) d_X8_law_1 rfl cs8_148 ⟨Nat.le_of_ble_eq_true rfl, Nat.le_of_ble_eq_true rfl⟩ rfl rfl (Nat.le_of_ble_eq_true rfl) (Nat.le_of_ble_eq_true rfl) (s_X8_isLaw z1) (fun _ _ hq => aw_eqs hq
(aw_if_ne d_X8_law_4 rfl rfl zb_I (fun c3 => have e5 := e2.1 (zb_n0 c3); (aw_aload_n d_X8_law_9 rfl rfl 0 rfl (by decide)
(aw_getR (k' := 1) (a := 0) (b := 0) (j := 0) d_X8_law_10 rfl fl8_12 rfl zj0 ⟨by decide, fun _ => by decide⟩
(aw_getI (kc := 8) d_X8_law_13 rfl fl8_151 rfl rfl
(aw_istore_n (lv' := [(2, zi (M 1 0 8)), (0, zr 8 0), (1, zi v1)]) d_X8_law_16 rfl rfl (by decide) rfl
(aw_iload_n d_X8_law_17 rfl rfl 0 rfl
(aw_iload_n d_X8_law_18 rfl rfl 2 rfl
(have z7 := e5.1; have z8 := e5.2.1; have e9 := e5.2.2; aw_icmp_ne d_X8_law_19 rfl rfl z7 z8 (fun c10 => have e12 := e9.1 c10; (aw_aload_n d_X8_law_25 rfl rfl 1 rfl (by decide)
(aw_getR (k' := 2) (a := 0) (b := 0) (j := 0) d_X8_law_26 rfl fl8_26 rfl zj0 ⟨by decide, fun _ => by decide⟩
(aw_aload_n d_X8_law_29 rfl rfl 1 rfl (by decide)
(aw_getR (k' := 1) (a := 0) (b := 0) (j := 0) d_X8_law_30 rfl fl8_12 rfl zj0 ⟨by decide, fun _ => by decide⟩
(aw_VV (As := [zr 1 0]) (st := []) d_X8_law_33 rfl cv8_103 ⟨Nat.le_of_ble_eq_true rfl, Nat.le_of_ble_eq_true rfl⟩ rfl rfl (Nat.le_of_ble_eq_true rfl) (Nat.le_of_ble_eq_true rfl) e12 (fun M14 e15 => (aw_aload_n d_X8_law_36 rfl rfl 1 rfl (by decide)
(aw_getR (k' := 1) (a := 0) (b := 0) (j := 0) d_X8_law_37 rfl fl8_12 rfl zj0 ⟨by decide, fun _ => by decide⟩
(aw_iload_n d_X8_law_40 rfl rfl 2 rfl
(have e18 := e15 _ rfl; aw_put (kc := 8) d_X8_law_41 rfl fp8_151 rfl rfl rfl rfl
(aw_iload_n d_X8_law_44 rfl rfl 0 rfl
(aw_ri d_X8_law_45 rfl e18))))))))))))) (fun c11 => have e13 := e9.2 c11; (aw_bipush d_X8_law_22 rfl (by decide)
(aw_ri d_X8_law_24 rfl e13))))))))))) (fun c4 => have e6 := e2.2 (zb_0 c4); (aw_iconst d_X8_law_7 rfl
(aw_ri d_X8_law_8 rfl e6))))))))
theorem vX8_undo {l : Launch} {P : Int → zM → Prop}  {M : zM}
    (H0 : (CI l m_X2_takeBack [zr 2 0, zr 1 0] M (fun x4 M1 => P x4 M1))) :
    CI l m_X8_undo [zr 8 0] M P :=
(aw_aload_n d_X8_undo_0 rfl rfl 0 rfl (by decide)
(aw_getR (k' := 2) (a := 0) (b := 0) (j := 0) d_X8_undo_1 rfl fl8_26 rfl zj0 ⟨by decide, fun _ => by decide⟩
(aw_aload_n d_X8_undo_4 rfl rfl 0 rfl (by decide)
(aw_getR (k' := 1) (a := 0) (b := 0) (j := 0) d_X8_undo_5 rfl fl8_12 rfl zj0 ⟨by decide, fun _ => by decide⟩
(aw_VI (As := [zr 1 0]) (st := []) d_X8_undo_8 rfl cv8_178 ⟨Nat.le_of_ble_eq_true rfl, Nat.le_of_ble_eq_true rfl⟩ rfl rfl (Nat.le_of_ble_eq_true rfl) (Nat.le_of_ble_eq_true rfl) H0 (fun x4 M1 e2 => (aw_ri d_X8_undo_11 rfl e2)))))))
theorem vX8_keep {l : Launch} {P : Int → zM → Prop} {v1 : Int} {M : zM}
    (H0 : (zI v1 ∧ ((0 ≤ v1 ∧ v1 < 2 → (CV l m_X6_put [zr 6 0, zi v1, zr 1 0] M (fun M7 => P (M7 1 0 6) M7))) ∧ (¬ (0 ≤ v1 ∧ v1 < 2) → P (-1) M)))) :
    CI l m_X8_keep [zr 8 0, zi v1] M P :=
(aw_iload_n d_X8_keep_0 rfl rfl 1 rfl
(have z1 := H0.1; have e2 := H0.2; (aw_SI (As := [zi v1]) (st := []) d_X8_keep_1 rfl cs8_182 ⟨Nat.le_of_ble_eq_true rfl, Nat.le_of_ble_eq_true rfl⟩ rfl rfl (Nat.le_of_ble_eq_true rfl) (Nat.le_of_ble_eq_true rfl) (s_X8_isShelf z1) (fun _ _ hq => aw_eqs hq
(aw_if_ne d_X8_keep_4 rfl rfl zb_I (fun c3 => have e5 := e2.1 (zb_n0 c3); (aw_aload_n d_X8_keep_9 rfl rfl 0 rfl (by decide)
(aw_getR (k' := 6) (a := 0) (b := 0) (j := 0) d_X8_keep_10 rfl fl8_33 rfl zj0 ⟨by decide, fun _ => by decide⟩
(aw_iload_n d_X8_keep_13 rfl rfl 1 rfl
(aw_aload_n d_X8_keep_14 rfl rfl 0 rfl (by decide)
(aw_getR (k' := 1) (a := 0) (b := 0) (j := 0) d_X8_keep_15 rfl fl8_12 rfl zj0 ⟨by decide, fun _ => by decide⟩
(aw_VV (As := [zi v1, zr 1 0]) (st := []) d_X8_keep_18 rfl cv8_185 ⟨Nat.le_of_ble_eq_true rfl, Nat.le_of_ble_eq_true rfl⟩ rfl rfl (Nat.le_of_ble_eq_true rfl) (Nat.le_of_ble_eq_true rfl) e5 (fun M7 e8 => (aw_aload_n d_X8_keep_21 rfl rfl 0 rfl (by decide)
(aw_getR (k' := 1) (a := 0) (b := 0) (j := 0) d_X8_keep_22 rfl fl8_12 rfl zj0 ⟨by decide, fun _ => by decide⟩
(aw_getI (kc := 6) d_X8_keep_25 rfl fl8_98 rfl rfl
(aw_ri d_X8_keep_28 rfl e8)))))))))))) (fun c4 => have e6 := e2.2 (zb_0 c4); (aw_iconst d_X8_keep_7 rfl
(aw_ri d_X8_keep_8 rfl e6))))))))
theorem vX8_back {l : Launch} {P : Int → zM → Prop} {v1 : Int} {M : zM}
    (H0 : (zI v1 ∧ ((0 ≤ v1 ∧ v1 < 2 → (CI l m_X6_holds [zr 6 0, zi v1] M (fun x10 M7 => (zI x10 ∧ (x10 ≠ 0 → (CV l m_X6_fetch [zr 6 0, zi v1, zr 1 0] M7 (fun M17 => (CV l m_X2_forget [zr 2 0] M17 (fun M20 => P (M20 1 0 6) M20))))) ∧ (x10 = 0 → P (-2) M7))))) ∧ (¬ (0 ≤ v1 ∧ v1 < 2) → P (-1) M)))) :
    CI l m_X8_back [zr 8 0, zi v1] M P :=
(aw_iload_n d_X8_back_0 rfl rfl 1 rfl
(have z1 := H0.1; have e2 := H0.2; (aw_SI (As := [zi v1]) (st := []) d_X8_back_1 rfl cs8_182 ⟨Nat.le_of_ble_eq_true rfl, Nat.le_of_ble_eq_true rfl⟩ rfl rfl (Nat.le_of_ble_eq_true rfl) (Nat.le_of_ble_eq_true rfl) (s_X8_isShelf z1) (fun _ _ hq => aw_eqs hq
(aw_if_ne d_X8_back_4 rfl rfl zb_I (fun c3 => have e5 := e2.1 (zb_n0 c3); (aw_aload_n d_X8_back_9 rfl rfl 0 rfl (by decide)
(aw_getR (k' := 6) (a := 0) (b := 0) (j := 0) d_X8_back_10 rfl fl8_33 rfl zj0 ⟨by decide, fun _ => by decide⟩
(aw_iload_n d_X8_back_13 rfl rfl 1 rfl
(aw_VI (As := [zi v1]) (st := []) d_X8_back_14 rfl cv8_189 ⟨Nat.le_of_ble_eq_true rfl, Nat.le_of_ble_eq_true rfl⟩ rfl rfl (Nat.le_of_ble_eq_true rfl) (Nat.le_of_ble_eq_true rfl) e5 (fun x10 M7 e8 => (have z11 := e8.1; have e12 := e8.2; aw_if_ne d_X8_back_17 rfl rfl z11 (fun c13 => have e15 := e12.1 c13; (aw_aload_n d_X8_back_23 rfl rfl 0 rfl (by decide)
(aw_getR (k' := 6) (a := 0) (b := 0) (j := 0) d_X8_back_24 rfl fl8_33 rfl zj0 ⟨by decide, fun _ => by decide⟩
(aw_iload_n d_X8_back_27 rfl rfl 1 rfl
(aw_aload_n d_X8_back_28 rfl rfl 0 rfl (by decide)
(aw_getR (k' := 1) (a := 0) (b := 0) (j := 0) d_X8_back_29 rfl fl8_12 rfl zj0 ⟨by decide, fun _ => by decide⟩
(aw_VV (As := [zi v1, zr 1 0]) (st := []) d_X8_back_32 rfl cv8_192 ⟨Nat.le_of_ble_eq_true rfl, Nat.le_of_ble_eq_true rfl⟩ rfl rfl (Nat.le_of_ble_eq_true rfl) (Nat.le_of_ble_eq_true rfl) e15 (fun M17 e18 => (aw_aload_n d_X8_back_35 rfl rfl 0 rfl (by decide)
(aw_getR (k' := 2) (a := 0) (b := 0) (j := 0) d_X8_back_36 rfl fl8_26 rfl zj0 ⟨by decide, fun _ => by decide⟩
(aw_VV (As := []) (st := []) d_X8_back_39 rfl cv8_95 ⟨Nat.le_of_ble_eq_true rfl, Nat.le_of_ble_eq_true rfl⟩ rfl rfl (Nat.le_of_ble_eq_true rfl) (Nat.le_of_ble_eq_true rfl) e18 (fun M20 e21 => (aw_aload_n d_X8_back_42 rfl rfl 0 rfl (by decide)
(aw_getR (k' := 1) (a := 0) (b := 0) (j := 0) d_X8_back_43 rfl fl8_12 rfl zj0 ⟨by decide, fun _ => by decide⟩
(aw_getI (kc := 6) d_X8_back_46 rfl fl8_98 rfl rfl
(aw_ri d_X8_back_49 rfl e21)))))))))))))))) (fun c14 => have e16 := e12.2 c14; (aw_bipush d_X8_back_20 rfl (by decide)
(aw_ri d_X8_back_22 rfl e16)))))))))) (fun c4 => have e6 := e2.2 (zb_0 c4); (aw_iconst d_X8_back_7 rfl
(aw_ri d_X8_back_8 rfl e6))))))))
theorem vX8_end {l : Launch} {P : Int → zM → Prop} {v1 : Int} {M : zM}
    (H0 : (zI v1 ∧ (v1 < 0 → P (-1) M) ∧ (0 ≤ v1 → (zI (M 7 0 2) ∧ (v1 ≤ (M 7 0 2) → (∀ M13 : zM, M13 = zu M 7 0 2 v1 → P v1 M13)) ∧ ((M 7 0 2) < v1 → P (-1) M))))) :
    CI l m_X8_end [zr 8 0, zi v1] M P :=
(aw_iload_n d_X8_end_0 rfl rfl 1 rfl
(have z1 := H0.1; have e2 := H0.2; aw_if_lt d_X8_end_1 rfl rfl z1 (fun c3 => have e5 := e2.1 c3; (aw_iconst d_X8_end_15 rfl
(aw_ri d_X8_end_16 rfl e5))) (fun c4 => have e6 := e2.2 c4; (aw_iload_n d_X8_end_4 rfl rfl 1 rfl
(aw_aload_n d_X8_end_5 rfl rfl 0 rfl (by decide)
(aw_getR (k' := 7) (a := 0) (b := 0) (j := 0) d_X8_end_6 rfl fl8_19 rfl zj0 ⟨by decide, fun _ => by decide⟩
(aw_getI (kc := 2) d_X8_end_9 rfl fl8_76 rfl rfl
(have z7 := e6.1; have e8 := e6.2; aw_icmp_le d_X8_end_12 rfl rfl z1 z7 (fun c9 => have e11 := e8.1 c9; (aw_aload_n d_X8_end_17 rfl rfl 0 rfl (by decide)
(aw_getR (k' := 7) (a := 0) (b := 0) (j := 0) d_X8_end_18 rfl fl8_19 rfl zj0 ⟨by decide, fun _ => by decide⟩
(aw_iload_n d_X8_end_21 rfl rfl 1 rfl
(have e14 := e11 _ rfl; aw_put (kc := 2) d_X8_end_22 rfl fp8_76 rfl rfl rfl rfl
(aw_iload_n d_X8_end_25 rfl rfl 1 rfl
(aw_ri d_X8_end_26 rfl e14))))))) (fun c10 => have e12 := e8.2 c10; (aw_iconst d_X8_end_15 rfl
(aw_ri d_X8_end_16 rfl e12)))))))))))
theorem cSt.W {M : zM} {A : zY} (h : cSt M A) : hW M 0 ∧ hS M 0 = yS A := h.1
theorem cSt.n {M : zM} {A : zY} (h : cSt M A) : M 1 0 6 = qn (yS A) := by rw [← h.1.2]; exact (hS_n M 0).symm
theorem cSt.fee {M : zM} {A : zY} (h : cSt M A) : M 1 0 7 = qfee (yS A) := by rw [← h.1.2]; exact (hS_fee M 0).symm
theorem cSt.law {M : zM} {A : zY} (h : cSt M A) : M 1 0 8 = qlaw (yS A) := by rw [← h.1.2]; exact (hS_law M 0).symm
theorem a8_come {s g : Int} (h : cSt M A) (w : wfY kk A) (hs : s = 0 ∨ s = 1) (zg : zI g) : CI l m_X8_come [zr 8 0, zi s, zi g] M (rC (aCome A s g) M) := by
  have hn := w.1.1
  refine vX8_come ?_
  rw [h.n]
  refine ⟨zg, fun a => ⟨by omega, fun b => ?_, fun b => ?_⟩, fun a => ?_⟩
  · refine (c_X2_remember h w.2.1).mono ?_
    rintro M1 ⟨h1, f1⟩
    refine (c_X1_enter h1.1.1 (by rw [h1.n]; exact b) hs).mono ?_
    rintro x M2 ⟨ex, f2, w2, e2⟩
    unfold aCome
    rw [if_neg (by omega), if_neg (by omega)]
    refine ⟨ex.trans h1.n, ?_, fun k i hk => (md_H f2 k i hk).trans (md_rm f1 k i hk)⟩
    exact h1.hall f2 w2 (e2.trans (by rw [h1.1.2]; rfl))
  · unfold aCome
    rw [if_neg (by omega), if_pos b]
    exact rC.st h
  · unfold aCome
    rw [if_pos a]
    exact rC.st h
theorem sy_z {k : Int} {S : zS} (w : wfS k S) {M : zM} {h : Nat} (e : hS M h = S) (t u : Int) : zI (qsy S t u) := by
  by_cases c : hU M h t u
  · have : 0 ≤ t ∧ t < qn S := by rw [← e]; exact ⟨c.1, c.2.1⟩
    have hu : u < qun S t := by rw [← e, hS_un, if_pos ⟨c.1, c.2.1⟩]; exact c.2.2.2
    have := w.2.2.2.2.2.2.1 t u this ⟨c.2.2.1, hu⟩
    omega
  · have : qsy S t u = 0 := by rw [← e]; exact if_neg c
    omega
theorem un_z {k : Int} {S : zS} (w : wfS k S) {M : zM} {h : Nat} (e : hS M h = S) (t : Int) : 0 ≤ qun S t ∧ qun S t ≤ 4 := by
  by_cases c : 0 ≤ t ∧ t < qn S
  · exact (w.2.2.2.2.2.1 t c).2.2.1
  · have : qun S t = 0 := by rw [← e, hS_un, if_neg (by rw [← hS_n M h, e]; exact c)]
    omega
theorem a8_add {t v : Int} (h : cSt M A) (w : wfY kk A) (zt : zI t) (zv : zI v) : CI l m_X8_add [zr 8 0, zi t, zi v] M (rC (aAdd A t v) M) := by
  have hu := un_z w.1 h.1.2 t
  have hs := sy_z w.1 h.1.2 t
  refine vX8_add ?_
  rw [h.n, h.1.2]
  refine ⟨⟨h.1.1, zt⟩, fun a => ?_, fun a => ⟨zv, fun b => ⟨⟨h.1.1, zt⟩, by omega, fun c => ⟨⟨h.1.1, zt, by omega, zv, hs⟩, fun d => ?_, fun d => ?_⟩, fun c => ?_⟩, fun b => ?_⟩⟩
  · unfold aAdd
    rw [if_pos a]
    exact rC.st h
  · refine (c_X2_remember h w.2.1).mono ?_
    rintro M1 ⟨h1, f1⟩
    have e1 : hS M1 0 = yS A := h1.1.2
    refine (c_X1_append h1.1.1 (by rw [h1.n]; exact a) (by rw [e1]; exact c)).mono ?_
    rintro x M2 ⟨ex, f2, w2, e2⟩
    rw [e1] at ex e2
    unfold aAdd
    rw [if_neg (by omega), if_neg (by omega), if_neg (by omega), if_neg (fun q => q d)]
    exact ⟨ex, h1.hall f2 w2 e2, fun k i hk => (md_H f2 k i hk).trans (md_rm f1 k i hk)⟩
  · unfold aAdd
    rw [if_neg (by omega), if_neg (by omega), if_neg (by omega), if_pos d]
    exact rC.st h
  · unfold aAdd
    rw [if_neg (by omega), if_neg (by omega), if_pos c]
    exact rC.st h
  · unfold aAdd
    rw [if_neg (by omega), if_pos b]
    exact rC.st h
theorem a8_say {t u v : Int} (h : cSt M A) (w : wfY kk A) (zt : zI t) (zu' : zI u) (zv : zI v) : CI l m_X8_say [zr 8 0, zi t, zi u, zi v] M (rC (aSay A t u v) M) := by
  have hu := un_z w.1 h.1.2 t
  have hs := sy_z w.1 h.1.2 t
  have hq : hU M 0 t u ↔ qU (yS A) t u := by rw [← h.1.2]; exact hU_q
  refine vX8_say ?_
  rw [h.1.2]
  refine ⟨⟨h.1.1, zt, zu'⟩, fun a => ?_, fun a => ⟨zv, fun b => ⟨⟨h.1.1, zt, zu'⟩, hs u, zv, fun c => ⟨⟨h.1.1, zt, ?_, zv, hs⟩, fun d => ?_, fun d => ?_⟩, fun c => ?_⟩, fun b => ?_⟩⟩
  · unfold aSay
    rw [if_pos (fun q => a (hq.mpr q))]
    exact rC.st h
  · have := (hq.mp a).2.2
    omega
  · refine (c_X2_remember h w.2.1).mono ?_
    rintro M1 ⟨h1, f1⟩
    have e1 : hS M1 0 = yS A := h1.1.2
    have a1 : hU M1 0 t u := hU_q.mpr (by rw [e1]; exact hq.mp a)
    refine ⟨⟨h1.1.1, a1⟩, ?_⟩
    intro M2 q2
    have z := c_X1_setSaid_S h1.1.1 a1 q2
    rw [e1] at z
    unfold aSay
    rw [if_neg (fun q => q (hq.mp a)), if_neg (by omega), if_neg c, if_neg (fun q => q d)]
    exact ⟨rfl, h1.hall z.1 z.2.1 z.2.2, fun k i hk => (md_H z.1 k i hk).trans (md_rm f1 k i hk)⟩
  · unfold aSay
    rw [if_neg (fun q => q (hq.mp a)), if_neg (by omega), if_neg c, if_pos d]
    exact rC.st h
  · unfold aSay
    rw [if_neg (fun q => q (hq.mp a)), if_neg (by omega), if_pos c]
    exact rC.st h
  · unfold aSay
    rw [if_neg (fun q => q (hq.mp a)), if_pos b]
    exact rC.st h
theorem a8_leave {t : Int} (h : cSt M A) (w : wfY kk A) (zt : zI t) : CI l m_X8_leave [zr 8 0, zi t] M (rC (aLeave A t) M) := by
  have hu := un_z w.1 h.1.2 t
  refine vX8_leave ?_
  rw [h.1.2]
  refine ⟨⟨h.1.1, zt⟩, by omega, fun a => ?_, fun a => ?_⟩
  · refine (c_X2_remember h w.2.1).mono ?_
    rintro M1 ⟨h1, f1⟩
    have e1 : hS M1 0 = yS A := h1.1.2
    have ht : 0 ≤ t ∧ t < M 1 0 6 := by
      by_cases c : 0 ≤ t ∧ t < M 1 0 6
      · exact c
      · exact absurd (by rw [← h.1.2, hS_un, if_neg c]) a
    refine (c_X1_dropFirst h1.1.1 (by rw [h1.n]; rw [h.n] at ht; exact ht) (by rw [e1]; omega)).mono ?_
    rintro M2 ⟨f2, w2, e2⟩
    rw [e1] at e2
    have f2' : Fx (kH 0) M1 M2 := fun k i hk => f2 k i (fun q => hk ⟨by omega, q.2⟩)
    unfold aLeave
    rw [if_neg a]
    exact ⟨rfl, h1.hall f2' w2 e2, fun k i hk => (md_H f2' k i hk).trans (md_rm f1 k i hk)⟩
  · unfold aLeave
    rw [if_pos a]
    exact rC.st h
theorem a8_fee {p : Int} (h : cSt M A) (w : wfY kk A) (zp : zI p) : CI l m_X8_fee [zr 8 0, zi p] M (rC (aFeeA A p) M) := by
  have hf := w.1.2.1
  refine vX8_fee ?_
  rw [h.fee]
  refine ⟨zp, fun a => ⟨by omega, zp, fun b => ?_, fun b => ?_⟩, fun a => ?_⟩
  · refine (c_X2_remember h w.2.1).mono ?_
    rintro M1 ⟨h1, f1⟩ M2 q2
    have z := fld_S (j := 1) (by omega) h1.1.1 q2
    rw [h1.1.2] at z
    unfold aFeeA
    rw [if_neg (by omega), if_neg b]
    exact ⟨rfl, h1.hall z.1 z.2.1 z.2.2, fun k i hk => (md_H z.1 k i hk).trans (md_rm f1 k i hk)⟩
  · unfold aFeeA
    rw [if_neg (by omega), if_pos b]
    exact rC.st h
  · unfold aFeeA
    rw [if_pos a]
    exact rC.st h
theorem a8_law {p : Int} (h : cSt M A) (w : wfY kk A) (zp : zI p) : CI l m_X8_law [zr 8 0, zi p] M (rC (aLawA A p) M) := by
  have hf := w.1.2.2.1
  refine vX8_law ?_
  rw [h.law]
  refine ⟨zp, fun a => ⟨by omega, zp, fun b => ?_, fun b => ?_⟩, fun a => ?_⟩
  · refine (c_X2_remember h w.2.1).mono ?_
    rintro M1 ⟨h1, f1⟩ M2 q2
    have z := fld_S (j := 2) (by omega) h1.1.1 q2
    rw [h1.1.2] at z
    unfold aLawA
    rw [if_neg (by omega), if_neg b]
    exact ⟨rfl, h1.hall z.1 z.2.1 z.2.2, fun k i hk => (md_H z.1 k i hk).trans (md_rm f1 k i hk)⟩
  · unfold aLawA
    rw [if_neg (by omega), if_pos b]
    exact rC.st h
  · unfold aLawA
    rw [if_pos a]
    exact rC.st h
theorem a8_undo (h : cSt M A) (w : wfY kk A) : CI l m_X8_undo [zr 8 0] M (rC (aUndo A) M) := by
  refine vX8_undo ((c_X2_takeBack h w.2.1).mono ?_)
  rintro x M1 ⟨ex, h1, f1⟩
  unfold aUndo
  by_cases c : 0 < yhc A
  · rw [if_pos c] at ex h1 ⊢
    exact ⟨ex, h1, f1⟩
  · rw [if_neg c] at ex h1 ⊢
    exact ⟨ex, h1, f1⟩
theorem a8_end {p : Int} (h : cSt M A) (w : wfY kk A) (zp : zI p) : CI l m_X8_end [zr 8 0, zi p] M (rC (aEnd A p) M) := by
  have ht := w.2.2.2.2.1
  have e72 : M 7 0 2 = ytn A := h.2.2.2.2.1
  refine vX8_end ?_
  rw [e72]
  refine ⟨zp, fun a => ?_, fun a => ⟨by omega, fun b => ?_, fun b => ?_⟩⟩
  · unfold aEnd
    rw [if_pos (.inl a)]
    exact rC.st h
  · intro M1 q1
    have o : ∀ k i, k ≠ 7 → M1 k i = M k i := fun k i hk => by rw [q1, zu_k hk]
    obtain ⟨⟨a1, a2⟩, bb, ⟨c1, c2, c3⟩, ⟨d1, d2, d3⟩, e1, e2⟩ := h
    have g : ∀ i k, (k = 1 ∨ (12 ≤ k ∧ k ≤ 17)) → M1 k i = M k i := fun i k hk => o k i (by omega)
    unfold aEnd
    rw [if_neg (by omega)]
    refine ⟨rfl, ⟨⟨(hall_k (g 0)).2 a1, (hall_k (g 0)).1.trans a2⟩, (hall_k (g 1)).2 bb, ⟨by rw [o 2 0 (by decide)]; exact c1, by rw [o 2 0 (by decide)]; exact c2, fun i hi => ?_⟩, ⟨by rw [o 6 0 (by decide)]; exact d1, fun q => ⟨(hall_k (g 12)).2 (d2 q).1, (hall_k (g 12)).1.trans (d2 q).2⟩, fun q => ⟨(hall_k (g 13)).2 (d3 q).1, (hall_k (g 13)).1.trans (d3 q).2⟩⟩, by rw [q1, zu_at, if_pos rfl]; rfl, fun i hi => ?_⟩, fun k i hk => o k i (by unfold isMd at hk; omega)⟩
    · rw [o 2 0 (by decide)]
      exact ⟨(hall_k (g _)).2 (c3 i hi).1, (hall_k (g _)).1.trans (c3 i hi).2⟩
    · rw [o 24 0 (by decide)]
      have hi' : 0 ≤ i ∧ i < p := hi
      exact e2 i (by omega)
  · unfold aEnd
    rw [if_pos (.inr b)]
    exact rC.st h
end

