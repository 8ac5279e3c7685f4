/-- nothing that counts has changed -/
def mKp (o : Nat) (I I' : sjI) : Prop := (∀ a, a = o + 1 ∨ a = o + 2 ∨ a = o + 3 ∨ a = o + 4 ∨ a = o + 8 ∨ a = o + 9 → I' a = I a) ∧ (I' o 2 = I o 2 ∧ I' o 4 = I o 4 ∧ I' o 6 = I o 6 ∧ I' o 15 = I o 15) ∧ ∀ a, a < o ∨ o + 21 < a → I' a = I a
/-- a change: the old state is remembered -/
def mChg (o : Nat) (I I' : sjI) : Prop := (∀ a, a = o + 3 ∨ a = o + 4 → I' a = I a) ∧ (I' o 4 = I o 4 ∧ I' o 6 = I o 6 ∧ I' o 15 = 0) ∧ (∀ a, a < o ∨ o + 21 < a → I' a = I a) ∧
  ((I o 2 < 8 ∧ I' o 2 = I o 2 + 1 ∧ (∀ j, j < 2001 * (I o 2).toNat → I' (o + 2) j = I (o + 2) j) ∧ ∀ k, k < 2001 → I' (o + 2) (2001 * (I o 2).toNat + k) = I (o + 1) k) ∨
   (I o 2 = 8 ∧ I' o 2 = 8 ∧ (∀ j, j < 14007 → I' (o + 2) j = I (o + 2) (2001 + j)) ∧ ∀ k, k < 2001 → I' (o + 2) (14007 + k) = I (o + 1) k))
/-- one equation is another one -/
def mSet (f f' : Nat → Int) (a : Nat) (B : List Int) : Prop := f' 0 = f 0 ∧ f' (1 + 250 * a) = B.length ∧ lst f' (2 + 250 * a) B.length = B ∧ ∀ b, b < 8 → b ≠ a → f' (1 + 250 * b) = f (1 + 250 * b) ∧ ∀ j, j < 248 → f' (2 + 250 * b + j) = f (2 + 250 * b + j)
theorem mSet_B {f f' : Nat → Int} {a : Nat} {B : List Int} (h : mSet f f' a B) : mB f' a = B := by
  unfold mB
  rw [h.2.1]
  exact h.2.2.1
theorem mSet_W {f f' : Nat → Int} {a : Nat} {B : List Int} (h : mSet f f' a B) (hW : mW f) (hB : B.length ≤ 240) (hb : ∀ x ∈ B, 0 ≤ x ∧ x < 128) : mW f' := by
  intro b hb8
  by_cases e : b = a
  · subst e
    rw [h.2.1]
    refine ⟨by omega, fun j hj => hb _ ?_⟩
    have := lst_of (f := f') (s := 2 + 250 * b) (n := B.length) (j := j) (by omega)
    rw [h.2.2.1] at this
    exact this
  · obtain ⟨h1, h2⟩ := h.2.2.2 b hb8 e
    obtain ⟨w1, w2⟩ := hW b hb8
    rw [h1]
    refine ⟨w1, fun j hj => ?_⟩
    rw [h2 j (by omega)]
    exact w2 j hj
theorem mRem_chg {o : Nat} {I J J2 : sjI} (h : mRem o J J2) (k : mKp o I J) : mChg o I J2 := by
  obtain ⟨h1, h2, h3, h4⟩ := h
  obtain ⟨k1, ⟨k2, k4, k6, k15⟩, k5⟩ := k
  refine ⟨fun a ha => by rw [h1 a (by omega) (by omega)]; exact k1 a (by omega), ⟨by rw [h2 4 (by decide) (by decide), k4], by rw [h2 6 (by decide) (by decide), k6], h3⟩, fun a ha => by rw [h1 a (by omega) (by omega)]; exact k5 a ha, ?_⟩
  rw [k2, k1 (o + 1) (by omega), k1 (o + 2) (by omega)] at h4
  exact h4
theorem mKp.rf (o : Nat) (I : sjI) : mKp o I I := ⟨fun _ _ => rfl, ⟨rfl, rfl, rfl, rfl⟩, fun _ _ => rfl⟩
/-- behind a change, writes into the present row stay a change -/
theorem mChg.w {o : Nat} {I J J2 : sjI} (h : mChg o I J) (e : ∀ a, a ≠ o + 1 → a ≠ o + 6 → a ≠ o + 7 → J2 a = J a) : mChg o I J2 := by
  obtain ⟨h1, h2, h3, h4⟩ := h
  refine ⟨fun a ha => by rw [e a (by omega) (by omega) (by omega)]; exact h1 a ha, by rw [e o (by omega) (by omega) (by omega)]; exact h2, fun a ha => by rw [e a (by omega) (by omega) (by omega)]; exact h3 a ha, by rw [e o (by omega) (by omega) (by omega), e (o + 2) (by omega) (by omega) (by omega)]; exact h4⟩
section MODEL6
variable {l : Launch} {G : sjG} {σ : sjS} {I : sjI}
theorem cm_setModulus {o : Nat} {m : Int} (hS : mSh σ o) (hp : 0 ≤ I o 2 ∧ I o 2 ≤ 8) (hm : -2147483648 ≤ m ∧ m < 2147483648) : sj_Con l yX10_setModulus mX10_setModulus G σ I [.ref o, .int (zI m)] (fun r σ' I' => σ = σ' ∧ ((¬ (2 ≤ m ∧ m ≤ 10) ∧ r = some (.int (zI (-1))) ∧ I = I') ∨ ((2 ≤ m ∧ m ≤ 10) ∧ r = some (.int (zI (I (o + 1) 0))) ∧ mChg o I I' ∧ I' (o + 1) = fun j => if j = 0 then m else I (o + 1) j))) := by
  obtain ⟨h_o, h_w, h_past, h_images, h_text, h_read, h_made, h_old, h_values, h_ranks, h_operator, h_indexAt, h_second, h_first, h_needed, h_shifts, h_around, h_best, h_isNeeded, h_toSee, h_held, h_there⟩ := id hS
  refine sj_con_of (L0 := [some (.ref o), some (.int (zI m)), none]) (by decide) rfl rfl rfl (Nat.le_of_ble_eq_true rfl) rfl (fun Γ => ?_)
  have hb := jbs (2 ≤ m ∧ m ≤ 10)
  refine sj_ild1 dX10_setModulus_0 ?_
  refine sj_iconst dX10_setModulus_1 ?_
  refine sj_bipush dX10_setModulus_2 (by decide) ?_
  refine sj_callS (cm_isIn hm (by omega) (by omega)) kc_X10_74 rfl rfl (Nat.le_of_ble_eq_true rfl) dX10_setModulus_4 (fun r_4 σ_4 I_4 hp_4 => ?_)
  obtain ⟨rfl, rfl, rfl⟩ := hp_4
  refine sj_if_ne 12 dX10_setModulus_7 (by decide) (by omega) (fun c_7 => ?_) (fun c_7 => ?_)
  · refine sj_ald0 dX10_setModulus_12 ?_
    refine sj_callV (cm_remember hS hp) kc_X10_116 (by assumption) rfl rfl rfl rfl (Nat.le_of_ble_eq_true rfl) dX10_setModulus_13 (fun r_13 σ_13 I_13 hp_13 => ?_)
    obtain ⟨rfl, rfl, hrm⟩ := hp_13
    refine sj_ald0 dX10_setModulus_16 ?_
    refine sj_getR fl_X10_7 (by assumption) rfl (mr_0 _) dX10_setModulus_17 ?_
    refine sj_iconst dX10_setModulus_20 ?_
    refine sj_ialdJ (0) (by assumption) (by omega) (by omega) (by omega) dX10_setModulus_21 ?_
    refine sj_ist2 (by decide) rfl dX10_setModulus_22 ?_
    refine sj_ald0 dX10_setModulus_23 ?_
    refine sj_getR fl_X10_7 (by assumption) rfl (mr_0 _) dX10_setModulus_24 ?_
    refine sj_iconst dX10_setModulus_27 ?_
    refine sj_ild1 dX10_setModulus_28 ?_
    refine sj_iastJ (0) (by assumption) (by omega) (by omega) (by omega) dX10_setModulus_29 ?_
    refine sj_ild2 dX10_setModulus_30 ?_
    exact sj_iret dX10_setModulus_31 rfl rfl (Nat.le_of_ble_eq_true rfl) (Nat.le_of_ble_eq_true rfl) ⟨rfl, Or.inr ⟨by omega, by rw [hrm.1 (o + 1) (by omega) (by omega)], (mRem_chg hrm (mKp.rf o I)).w (fun a e _ _ => sj_up_row e), by funext j; rw [← hrm.1 (o + 1) (by omega) (by omega)]; simp [sj_up]⟩⟩
  · refine sj_iconst dX10_setModulus_10 ?_
    exact sj_iret dX10_setModulus_11 rfl rfl (Nat.le_of_ble_eq_true rfl) (Nat.le_of_ble_eq_true rfl) ⟨rfl, Or.inl ⟨by omega, rfl, rfl⟩⟩
theorem cm_undefine {o : Nat} {a : Int} (hS : mSh σ o) (hp : 0 ≤ I o 2 ∧ I o 2 ≤ 8) (hW : mW (I (o + 1))) (ha : -2147483648 ≤ a ∧ a < 2147483648) : sj_Con l yX10_undefine mX10_undefine G σ I [.ref o, .int (zI a)] (fun r σ' I' => σ = σ' ∧ ((¬ (0 ≤ a ∧ a ≤ 7) ∧ r = some (.int (zI (-1))) ∧ I = I') ∨ ((0 ≤ a ∧ a ≤ 7) ∧ I (o + 1) (1 + 250 * a.toNat) = 0 ∧ r = some (.int (zI (-2))) ∧ I = I') ∨ ((0 ≤ a ∧ a ≤ 7) ∧ 0 < I (o + 1) (1 + 250 * a.toNat) ∧ r = some (.int (zI (jSz 0 (mB (I (o + 1)) a.toNat)))) ∧ mChg o I I' ∧ mSet (I (o + 1)) (I' (o + 1)) a.toNat []))) := by
  obtain ⟨h_o, h_w, h_past, h_images, h_text, h_read, h_made, h_old, h_values, h_ranks, h_operator, h_indexAt, h_second, h_first, h_needed, h_shifts, h_around, h_best, h_isNeeded, h_toSee, h_held, h_there⟩ := id hS
  refine sj_con_of (L0 := [some (.ref o), some (.int (zI a)), none]) (by decide) rfl rfl rfl (Nat.le_of_ble_eq_true rfl) rfl (fun Γ => ?_)
  have hb := jbs (0 ≤ a ∧ a ≤ 7)
  refine sj_ild1 dX10_undefine_0 ?_
  refine sj_callS (cm_isStream ha) kc_X10_109 rfl rfl (Nat.le_of_ble_eq_true rfl) dX10_undefine_1 (fun r_1 σ_1 I_1 hp_1 => ?_)
  obtain ⟨rfl, rfl, rfl⟩ := hp_1
  refine sj_if_ne 9 dX10_undefine_4 (by decide) (by omega) (fun c_4 => ?_) (fun c_4 => ?_)
  · obtain ⟨n, rfl⟩ := jNat (a := a) (by omega)
    rw [show ((n : Int)).toNat = n from rfl]
    have hh := jbs (0 < I (o + 1) (1 + 250 * n))
    have hw := (hW n (by omega)).1
    refine sj_ald0 dX10_undefine_9 ?_
    refine sj_ild1 dX10_undefine_10 ?_
    refine sj_callV (cm_has' hS (by omega) hW) kc_X10_122 (by assumption) rfl rfl rfl rfl (Nat.le_of_ble_eq_true rfl) dX10_undefine_11 (fun r_11 σ_11 I_11 hp_11 => ?_)
    obtain ⟨rfl, rfl, rfl⟩ := hp_11
    refine sj_if_ne 20 dX10_undefine_14 (by decide) (by omega) (fun c_14 => ?_) (fun c_14 => ?_)
    · refine sj_ald0 dX10_undefine_20 ?_
      refine sj_ild1 dX10_undefine_21 ?_
      refine sj_callV (cm_sizeOf hS (by omega) hW) kc_X10_119 (by assumption) rfl rfl rfl rfl (Nat.le_of_ble_eq_true rfl) dX10_undefine_22 (fun r_22 σ_22 I_22 hp_22 => ?_)
      obtain ⟨rfl, rfl, rfl⟩ := hp_22
      refine sj_ist2 (by decide) rfl dX10_undefine_25 ?_
      refine sj_ald0 dX10_undefine_26 ?_
      refine sj_callV (cm_remember hS hp) kc_X10_116 (by assumption) rfl rfl rfl rfl (Nat.le_of_ble_eq_true rfl) dX10_undefine_27 (fun r_27 σ_27 I_27 hp_27 => ?_)
      obtain ⟨rfl, rfl, hrm⟩ := hp_27
      refine sj_ald0 dX10_undefine_30 ?_
      refine sj_getR fl_X10_7 (by assumption) rfl (mr_0 _) dX10_undefine_31 ?_
      refine sj_iconst dX10_undefine_34 ?_
      refine sj_sipush dX10_undefine_35 (by decide) ?_
      refine sj_ild1 dX10_undefine_38 ?_
      refine sj_imul dX10_undefine_39 ?_
      refine sj_iadd dX10_undefine_40 ?_
      refine sj_iconst dX10_undefine_41 ?_
      refine sj_iastJ (1 + 250 * n) (by assumption) (by omega) (by omega) (by omega) dX10_undefine_42 ?_
      refine sj_ild2 dX10_undefine_43 ?_
      exact sj_iret dX10_undefine_44 rfl rfl (Nat.le_of_ble_eq_true rfl) (Nat.le_of_ble_eq_true rfl) ⟨rfl, Or.inr (Or.inr ⟨by omega, by omega, rfl, (mRem_chg hrm (mKp.rf o I)).w (fun a e _ _ => sj_up_row e), by rw [← hrm.1 (o + 1) (by omega) (by omega)]; exact ⟨sj_up_ne (by omega), sj_up_self _ _ _ _, rfl, fun b hb8 hbn => ⟨sj_up_ne (by omega), fun j hj => sj_up_ne (by omega)⟩⟩⟩)⟩
    · refine sj_bipush dX10_undefine_17 (by decide) ?_
      exact sj_iret dX10_undefine_19 rfl rfl (Nat.le_of_ble_eq_true rfl) (Nat.le_of_ble_eq_true rfl) ⟨rfl, Or.inr (Or.inl ⟨by omega, by omega, rfl, rfl⟩)⟩
  · refine sj_iconst dX10_undefine_7 ?_
    exact sj_iret dX10_undefine_8 rfl rfl (Nat.le_of_ble_eq_true rfl) (Nat.le_of_ble_eq_true rfl) ⟨rfl, Or.inl ⟨by omega, rfl, rfl⟩⟩
theorem cm_undo {o : Nat} (hS : mSh σ o) (hp : 0 ≤ I o 2 ∧ I o 2 ≤ 8) : sj_Con l yX10_undo mX10_undo G σ I [.ref o] (fun r σ' I' => σ = σ' ∧ ((I o 2 = 0 ∧ r = some (.int (zI (-2))) ∧ I = I') ∨ (0 < I o 2 ∧ r = some (.int (zI (I o 2 - 1))) ∧ I' = sj_up (sj_ur (sj_up I o 2 (I o 2 - 1)) (o + 1) (va_cpy (I (o + 2)) (I (o + 1)) (2001 * (I o 2 - 1).toNat) 0 2001)) o 15 0))) := by
  obtain ⟨h_o, h_w, h_past, h_images, h_text, h_read, h_made, h_old, h_values, h_ranks, h_operator, h_indexAt, h_second, h_first, h_needed, h_shifts, h_around, h_best, h_isNeeded, h_toSee, h_held, h_there⟩ := id hS
  refine sj_con_of (L0 := [some (.ref o), none]) (by decide) rfl rfl rfl (Nat.le_of_ble_eq_true rfl) rfl (fun Γ => ?_)
  have lp : ∀ (p : Int), p = I o 2 - 1 → 0 < I o 2 → ∀ (d i : Nat), i + d = 2001 → sj_V l Γ mX10_undo G (fun r σ' I' => σ = σ' ∧ ((I o 2 = 0 ∧ r = some (.int (zI (-2))) ∧ I = I') ∨ (0 < I o 2 ∧ r = some (.int (zI (I o 2 - 1))) ∧ I' = sj_up (sj_ur (sj_up I o 2 (I o 2 - 1)) (o + 1) (va_cpy (I (o + 2)) (I (o + 1)) (2001 * (I o 2 - 1).toNat) 0 2001)) o 15 0))) σ (sj_ur (sj_up I o 2 p) (o + 1) (va_cpy (I (o + 2)) (I (o + 1)) (2001 * p.toNat) 0 i)) 0 0 22 [some (.ref o), some (.int (zI i))] [] := by
    intro p hpe hp0 d
    induction d with
    | zero =>
      intro i hi
      have hi1 : i = 2001 := by omega
      subst hi1
      refine sj_ild1 dX10_undo_22 ?_
      refine sj_sipush dX10_undo_23 (by decide) ?_
      refine sj_icmp_ge 56 dX10_undo_26 (by decide) (by omega) (by omega) (fun c_26 => ?_) (fun c_26 => ?_)
      rotate_left
      · exact absurd (by omega) c_26
      refine sj_ald0 dX10_undo_56 ?_
      refine sj_iconst dX10_undo_57 ?_
      refine sj_putI fl_X10_86 (by assumption) rfl (by decide) rfl dX10_undo_58 ?_
      refine sj_ald0 dX10_undo_61 ?_
      refine sj_getI fl_X10_82 (by assumption) rfl dX10_undo_62 ?_
      rw [sj_up_ne (by omega), sj_ur_ne (by omega), sj_up_self]
      exact sj_iret dX10_undo_65 rfl rfl (Nat.le_of_ble_eq_true rfl) (Nat.le_of_ble_eq_true rfl) ⟨rfl, Or.inr ⟨hp0, by rw [hpe], by rw [hpe]⟩⟩
    | succ d ih =>
      intro i hi
      refine sj_ild1 dX10_undo_22 ?_
      refine sj_sipush dX10_undo_23 (by decide) ?_
      refine sj_icmp_ge 56 dX10_undo_26 (by decide) (by omega) (by omega) (fun c_26 => ?_) (fun c_26 => ?_)
      · exact absurd c_26 (by omega)
      refine sj_ald0 dX10_undo_29 ?_
      refine sj_getR fl_X10_7 (by assumption) rfl (mr_0 _) dX10_undo_30 ?_
      refine sj_ild1 dX10_undo_33 ?_
      refine sj_ald0 dX10_undo_34 ?_
      refine sj_getR fl_X10_13 (by assumption) rfl (mr_1 _) dX10_undo_35 ?_
      refine sj_sipush dX10_undo_38 (by decide) ?_
      refine sj_ald0 dX10_undo_41 ?_
      refine sj_getI fl_X10_82 (by assumption) rfl dX10_undo_42 ?_
      rw [sj_ur_ne (by omega), sj_up_self]
      refine sj_imul dX10_undo_45 ?_
      refine sj_ild1 dX10_undo_46 ?_
      refine sj_iadd dX10_undo_47 ?_
      refine sj_ialdJ (2001 * p.toNat + i) (by assumption) (by omega) (by omega) (by omega) dX10_undo_48 ?_
      rw [sj_ur_ne (by omega), sj_up_row (by omega)]
      refine sj_iastJ (0 + i) (by assumption) (by omega) (by omega) (by omega) dX10_undo_49 ?_
      rw [cpy_step]
      refine sj_inc1 (by decide) rfl dX10_undo_50 ?_
      refine sj_goto 22 dX10_undo_53 (by decide) ?_
      exact ih (i + 1) (by omega)
  refine sj_ald0 dX10_undo_0 ?_
  refine sj_getI fl_X10_82 (by assumption) rfl dX10_undo_1 ?_
  refine sj_if_ne 10 dX10_undo_4 (by decide) (by omega) (fun c_4 => ?_) (fun c_4 => ?_)
  · refine sj_ald0 dX10_undo_10 ?_
    refine sj_dup dX10_undo_11 rfl ?_
    refine sj_getI fl_X10_82 (by assumption) rfl dX10_undo_12 ?_
    refine sj_iconst dX10_undo_15 ?_
    refine sj_isub dX10_undo_16 ?_
    refine sj_putI fl_X10_82 (by assumption) rfl rfl rfl dX10_undo_17 ?_
    refine sj_iconst dX10_undo_20 ?_
    refine sj_ist1 (by decide) rfl dX10_undo_21 ?_
    have h := lp (I o 2 - 1) rfl (by omega) 2001 0 (by omega)
    have e := cpy_zero (I := sj_up I o 2 (I o 2 - 1)) (a := o + 1) (sp := 2001 * (I o 2 - 1).toNat) (dp := 0) (f := I (o + 2))
    rw [sj_up_row (by omega)] at e
    rw [e] at h
    exact h
  · refine sj_bipush dX10_undo_7 (by decide) ?_
    exact sj_iret dX10_undo_9 rfl rfl (Nat.le_of_ble_eq_true rfl) (Nat.le_of_ble_eq_true rfl) ⟨rfl, Or.inl ⟨by omega, rfl, rfl⟩⟩
end MODEL6
