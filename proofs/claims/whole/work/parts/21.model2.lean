section MODEL2
variable {l : Launch} {G : sjG} {σ : sjS} {I : sjI}
theorem cm_wipe {o : Nat} (hS : mSh σ o) : sj_Con l yX10_wipe mX10_wipe G σ I [.ref o] (fun r σ' I' => r = some (.int (zI (I o 6))) ∧ σ = σ' ∧ I' = sj_up I o 6 0) := by
  obtain ⟨h_o, h_w, h_past, h_images, h_text, h_read, h_made, h_old, h_values, h_ranks, h_operator, h_indexAt, h_second, h_first, h_needed, h_shifts, h_around, h_best, h_isNeeded, h_toSee, h_held, h_there⟩ := id hS
  refine sj_con_of (L0 := [some (.ref o), none]) (by decide) rfl rfl rfl (Nat.le_of_ble_eq_true rfl) rfl (fun Γ => ?_)
  refine sj_ald0 dX10_wipe_0 ?_
  refine sj_getI fl_X10_90 (by assumption) rfl dX10_wipe_1 ?_
  refine sj_ist1 (by decide) rfl dX10_wipe_4 ?_
  refine sj_ald0 dX10_wipe_5 ?_
  refine sj_iconst dX10_wipe_6 ?_
  refine sj_putI fl_X10_90 (by assumption) rfl rfl rfl dX10_wipe_7 ?_
  refine sj_ild1 dX10_wipe_10 ?_
  exact sj_iret dX10_wipe_11 rfl rfl (Nat.le_of_ble_eq_true rfl) (Nat.le_of_ble_eq_true rfl) ⟨rfl, rfl, rfl⟩
/-- what 'remember' does -/
def mRem (o : Nat) (I I' : sjI) : Prop := (∀ a, a ≠ o → a ≠ o + 2 → I' a = I a) ∧ (∀ j, j ≠ 2 → j ≠ 15 → I' o j = I o j) ∧ I' o 15 = 0 ∧
  ((I o 2 < 8 ∧ I' o 2 = I o 2 + 1 ∧ (∀ j, j < 2001 * (I o 2).toNat → I' (o + 2) j = I (o + 2) j) ∧ ∀ k, k < 2001 → I' (o + 2) (2001 * (I o 2).toNat + k) = I (o + 1) k) ∨
   (I o 2 = 8 ∧ I' o 2 = 8 ∧ (∀ j, j < 14007 → I' (o + 2) j = I (o + 2) (2001 + j)) ∧ ∀ k, k < 2001 → I' (o + 2) (14007 + k) = I (o + 1) k))
theorem cm_remember {o : Nat} (hS : mSh σ o) (hp : 0 ≤ I o 2 ∧ I o 2 ≤ 8) : sj_Con l yX10_remember mX10_remember G σ I [.ref o] (fun r σ' I' => r = none ∧ σ = σ' ∧ mRem o I I') := by
  obtain ⟨h_o, h_w, h_past, h_images, h_text, h_read, h_made, h_old, h_values, h_ranks, h_operator, h_indexAt, h_second, h_first, h_needed, h_shifts, h_around, h_best, h_isNeeded, h_toSee, h_held, h_there⟩ := id hS
  refine sj_con_of (L0 := [some (.ref o), none]) (by decide) rfl rfl rfl (Nat.le_of_ble_eq_true rfl) rfl (fun Γ => ?_)
  -- the second loop, from any state
  have lp2 : ∀ (I0 : sjI) (p : Int), I0 o 2 = p → 0 ≤ p ∧ p < 8 → (∀ J : sjI, J = sj_up (sj_up (sj_ur I0 (o + 2) (va_cpy (I0 (o + 1)) (I0 (o + 2)) 0 (2001 * p.toNat) 2001)) o 2 (p + 1)) o 15 0 → mRem o I J) → ∀ (d : Nat) (i : Int), 0 ≤ i → i + d = 2001 → sj_V l Γ mX10_remember G (fun r σ' I' => r = none ∧ σ = σ' ∧ mRem o I I') σ (sj_ur I0 (o + 2) (va_cpy (I0 (o + 1)) (I0 (o + 2)) 0 (2001 * p.toNat) i.toNat)) 0 0 52 [some (.ref o), some (.int (zI i))] [] := by
    intro I0 p hp0 hpr hfin d
    induction d with
    | zero =>
      intro i hi0 hi
      have hi1 : i = 2001 := by omega
      subst hi1
      refine sj_ild1 dX10_remember_52 ?_
      refine sj_sipush dX10_remember_53 (by decide) ?_
      refine sj_icmp_ge 86 dX10_remember_56 (by decide) (by omega) (by omega) (fun c_56 => ?_) (fun c_56 => ?_)
      rotate_left
      · exact absurd (by omega) c_56
      refine sj_ald0 dX10_remember_86 ?_
      refine sj_dup dX10_remember_87 rfl ?_
      refine sj_getI fl_X10_82 (by assumption) rfl dX10_remember_88 ?_
      rw [sj_ur_ne (by omega), hp0]
      refine sj_iconst dX10_remember_91 ?_
      refine sj_iadd dX10_remember_92 ?_
      refine sj_putI fl_X10_82 (by assumption) rfl rfl rfl dX10_remember_93 ?_
      refine sj_ald0 dX10_remember_96 ?_
      refine sj_iconst dX10_remember_97 ?_
      refine sj_putI fl_X10_86 (by assumption) rfl (by decide) rfl dX10_remember_98 ?_
      exact sj_vret dX10_remember_101 rfl (Nat.le_of_ble_eq_true rfl) (Nat.le_of_ble_eq_true rfl) ⟨rfl, rfl, hfin _ rfl⟩
    | succ d ih =>
      intro i hi0 hi
      refine sj_ild1 dX10_remember_52 ?_
      refine sj_sipush dX10_remember_53 (by decide) ?_
      refine sj_icmp_ge 86 dX10_remember_56 (by decide) (by omega) (by omega) (fun c_56 => ?_) (fun c_56 => ?_)
      · exact absurd c_56 (by omega)
      refine sj_ald0 dX10_remember_59 ?_
      refine sj_getR fl_X10_13 (by assumption) rfl (mr_1 _) dX10_remember_60 ?_
      refine sj_sipush dX10_remember_63 (by decide) ?_
      refine sj_ald0 dX10_remember_66 ?_
      refine sj_getI fl_X10_82 (by assumption) rfl dX10_remember_67 ?_
      rw [sj_ur_ne (by omega), hp0]
      refine sj_imul dX10_remember_70 ?_
      refine sj_ild1 dX10_remember_71 ?_
      refine sj_iadd dX10_remember_72 ?_
      refine sj_ald0 dX10_remember_73 ?_
      refine sj_getR fl_X10_7 (by assumption) rfl (mr_0 _) dX10_remember_74 ?_
      refine sj_ild1 dX10_remember_77 ?_
      refine sj_iald (by assumption) (by omega) (by omega) dX10_remember_78 ?_
      rw [sj_ur_ne (by omega)]
      refine sj_iast (by assumption) (by omega) (by omega) dX10_remember_79 ?_
      rw [show (2001 * p + i).toNat = 2001 * p.toNat + i.toNat by omega, show I0 (o + 1) i.toNat = I0 (o + 1) (0 + i.toNat) by rw [Nat.zero_add], cpy_step, show i.toNat + 1 = (i + 1).toNat by omega]
      refine sj_inc1 (by decide) rfl dX10_remember_80 ?_
      refine sj_goto 52 dX10_remember_83 (by decide) ?_
      exact ih (i + 1) (by omega) (by omega)
  have lp1 : ∀ (d : Nat) (i : Int), I o 2 = 8 → 0 ≤ i → i + d = 14007 → sj_V l Γ mX10_remember G (fun r σ' I' => r = none ∧ σ = σ' ∧ mRem o I I') σ (sj_ur I (o + 2) (va_cpy (I (o + 2)) (I (o + 2)) 2001 0 i.toNat)) 0 0 11 [some (.ref o), some (.int (zI i))] [] := by
    intro d
    induction d with
    | zero =>
      intro i h8 hi0 hi
      have hi1 : i = 14007 := by omega
      subst hi1
      refine sj_ild1 dX10_remember_11 ?_
      refine sj_sipush dX10_remember_12 (by decide) ?_
      refine sj_icmp_ge 40 dX10_remember_15 (by decide) (by omega) (by omega) (fun c_15 => ?_) (fun c_15 => ?_)
      rotate_left
      · exact absurd (by omega) c_15
      refine sj_ald0 dX10_remember_40 ?_
      refine sj_dup dX10_remember_41 rfl ?_
      refine sj_getI fl_X10_82 (by assumption) rfl dX10_remember_42 ?_
      rw [sj_ur_ne (by omega), h8]
      refine sj_iconst dX10_remember_45 ?_
      refine sj_isub dX10_remember_46 ?_
      refine sj_putI fl_X10_82 (by assumption) rfl rfl rfl dX10_remember_47 ?_
      refine sj_iconst dX10_remember_50 ?_
      refine sj_ist1 (by decide) rfl dX10_remember_51 ?_
      have h := lp2 (sj_up (sj_ur I (o + 2) (va_cpy (I (o + 2)) (I (o + 2)) 2001 0 14007)) o 2 7) 7 (sj_up_self _ _ _ _) (by omega) (fun J hJ => ?_) 2001 0 (by omega) (by omega)
      · rw [show (0 : Int).toNat = 0 from rfl, cpy_zero] at h
        exact h
      · subst hJ
        refine ⟨fun a h1 h2 => by rw [sj_up_row h1, sj_up_row h1, sj_ur_ne h2, sj_up_row h1, sj_ur_ne h2], fun j h1 h2 => by rw [sj_up_ne (by omega), sj_up_ne (by omega), sj_ur_ne (by omega), sj_up_ne (by omega), sj_ur_ne (by omega)], sj_up_self _ _ _ _, Or.inr ⟨h8, by rw [sj_up_ne (by omega), sj_up_self]; rfl, fun j hj => ?_, fun k hk => ?_⟩⟩
        · rw [sj_up_ne (by omega), sj_up_ne (by omega), sj_ur_self, cpy_out (by omega), sj_up_ne (by omega), sj_ur_self, show j = 0 + j by omega, cpy_in hj]; congr 1; omega
        · rw [sj_up_ne (by omega), sj_up_ne (by omega), sj_ur_self, show 14007 + k = 2001 * (7 : Int).toNat + k from rfl, cpy_in hk, Nat.zero_add, sj_up_row (by omega), sj_ur_ne (by omega)]
    | succ d ih =>
      intro i h8 hi0 hi
      refine sj_ild1 dX10_remember_11 ?_
      refine sj_sipush dX10_remember_12 (by decide) ?_
      refine sj_icmp_ge 40 dX10_remember_15 (by decide) (by omega) (by omega) (fun c_15 => ?_) (fun c_15 => ?_)
      · exact absurd c_15 (by omega)
      refine sj_ald0 dX10_remember_18 ?_
      refine sj_getR fl_X10_13 (by assumption) rfl (mr_1 _) dX10_remember_19 ?_
      refine sj_ild1 dX10_remember_22 ?_
      refine sj_ald0 dX10_remember_23 ?_
      refine sj_getR fl_X10_13 (by assumption) rfl (mr_1 _) dX10_remember_24 ?_
      refine sj_ild1 dX10_remember_27 ?_
      refine sj_sipush dX10_remember_28 (by decide) ?_
      refine sj_iadd dX10_remember_31 ?_
      refine sj_iald (by assumption) (by omega) (by omega) dX10_remember_32 ?_
      rw [sj_ur_self, cpy_out (by omega), show (i + 2001).toNat = 2001 + i.toNat by omega]
      refine sj_iast (by assumption) (by omega) (by omega) dX10_remember_33 ?_
      rw [show i.toNat = 0 + i.toNat by omega, show sj_ur I (o + 2) (va_cpy (I (o + 2)) (I (o + 2)) 2001 0 (0 + i.toNat)) = sj_ur I (o + 2) (va_cpy (I (o + 2)) (I (o + 2)) 2001 0 i.toNat) by rw [Nat.zero_add], show 2001 + (0 + i.toNat) = 2001 + i.toNat by omega, cpy_step, show i.toNat + 1 = (i + 1).toNat by omega]
      refine sj_inc1 (by decide) rfl dX10_remember_34 ?_
      refine sj_goto 11 dX10_remember_37 (by decide) ?_
      exact ih (i + 1) h8 (by omega) (by omega)
  refine sj_ald0 dX10_remember_0 ?_
  refine sj_getI fl_X10_82 (by assumption) rfl dX10_remember_1 ?_
  refine sj_bipush dX10_remember_4 (by decide) ?_
  refine sj_icmp_ne 50 dX10_remember_6 (by decide) (by omega) (by omega) (fun c_6 => ?_) (fun c_6 => ?_)
  · refine sj_iconst dX10_remember_50 ?_
    refine sj_ist1 (by decide) rfl dX10_remember_51 ?_
    have h := lp2 I (I o 2) rfl (by omega) (fun J hJ => ?_) 2001 0 (by omega) (by omega)
    · rw [show (0 : Int).toNat = 0 from rfl, cpy_zero] at h
      exact h
    · subst hJ
      refine ⟨fun a h1 h2 => by rw [sj_up_row h1, sj_up_row h1, sj_ur_ne h2], fun j h1 h2 => by rw [sj_up_ne (by omega), sj_up_ne (by omega), sj_ur_ne (by omega)], sj_up_self _ _ _ _, Or.inl ⟨by omega, by rw [sj_up_ne (by omega), sj_up_self], fun j hj => ?_, fun k hk => ?_⟩⟩
      · rw [sj_up_ne (by omega), sj_up_ne (by omega), sj_ur_self, cpy_out (by omega)]
      · rw [sj_up_ne (by omega), sj_up_ne (by omega), sj_ur_self, cpy_in hk, Nat.zero_add]
  · refine sj_iconst dX10_remember_9 ?_
    refine sj_ist1 (by decide) rfl dX10_remember_10 ?_
    have h := lp1 14007 0 (by omega) (by omega) (by omega)
    rw [show (0 : Int).toNat = 0 from rfl, cpy_zero] at h
    exact h
end MODEL2
