theorem jDs_lt {v : Nat → Int} {s : Nat} : ∀ n, (∀ j, j < n → 0 ≤ v (s + j) ∧ v (s + j) < 10) → jDs v s n < 1024
  | 0, _ => by unfold jDs; omega
  | n + 1, h => by
    have h1 := jDs_lt n (fun j hj => h j (by omega))
    have h2 := h n (by omega)
    unfold jDs
    exact or_lt _ h1 _ (by omega)
/-- streams whose reach is 400 -/
def jEnd (v : Nat → Int) : Nat → Int
  | 0 => 0
  | a + 1 => jEnd v a + (if jRh v (400 * a) 400 0 = 400 then 1 else 0)
theorem jEnd_le (v : Nat → Int) : ∀ n : Nat, 0 ≤ jEnd v n ∧ jEnd v n ≤ n
  | 0 => by simp [jEnd]
  | n + 1 => by
    have h := jEnd_le v n
    simp only [jEnd]
    split <;> omega
/-- the streams that are alike -/
def jAl (v : Nat → Int) (a : Nat) : Nat → Nat
  | 0 => 0
  | b + 1 => jAl v a b ||| (if b ≠ a ∧ jRh v (400 * b) 400 0 = jRh v (400 * a) 400 0 ∧ jPr v (400 * a) (400 * b) 400 0 = -9 then 2 ^ b else 0)
theorem jAl_lt (v : Nat → Int) (a : Nat) : ∀ n : Nat, n ≤ 8 → jAl v a n < 256
  | 0, _ => by simp [jAl]
  | n + 1, h => by
    have h2 := jAl_lt v a n (by omega)
    simp only [jAl]
    split
    · exact or_lt8 _ h2 n (by omega)
    · rw [Nat.or_zero]; exact h2
section MODEL22
variable {l : Launch} {G : sjG} {σ : sjS} {I : sjI}
theorem cm_differentValues {o a n : Nat} (hS : mSh σ o) (ha : a < 8) (hn : n ≤ 400) (hv : ∀ j, j < n → 0 ≤ I (o + 8) (400 * a + j) ∧ I (o + 8) (400 * a + j) < 10) : sj_Con l yX10_differentValues mX10_differentValues G σ I [.ref o, .int (zI a), .int (zI n)] (fun r σ' I' => r = some (.int (zI (jPc (jDs (I (o + 8)) (400 * a) n) : Nat))) ∧ σ = σ' ∧ I = I') := by
  obtain ⟨h_o, h_w, h_past, h_images, h_text, h_read, h_made, h_old, h_values, h_ranks, h_operator, h_indexAt, h_second, h_first, h_needed, h_shifts, h_around, h_best, h_isNeeded, h_toSee, h_held, h_there⟩ := id hS
  refine sj_con_of (L0 := [some (.ref o), some (.int (zI a)), some (.int (zI n)), none, none, none]) (by decide) rfl rfl rfl (Nat.le_of_ble_eq_true rfl) rfl (fun Γ => ?_)
  have lp : ∀ (d i : Nat), i + d = n → sj_V l Γ mX10_differentValues G (fun r σ' I' => r = some (.int (zI (jPc (jDs (I (o + 8)) (400 * a) n) : Nat))) ∧ σ = σ' ∧ I = I') σ I 0 0 8 [some (.ref o), some (.int (zI a)), some (.int (zI n)), some (.int (zI (jDs (I (o + 8)) (400 * a) i : Nat))), some (.int (zI (jPc (jDs (I (o + 8)) (400 * a) i) : Nat))), some (.int (zI i))] [] := by
    intro d
    induction d with
    | zero =>
      intro i hi
      have hin : i = n := by omega
      subst hin
      refine sj_ild5 dX10_differentValues_8 ?_
      refine sj_ild2 dX10_differentValues_10 ?_
      refine sj_icmp_ge 56 dX10_differentValues_11 (by decide) (by omega) (by omega) (fun c_11 => ?_) (fun c_11 => ?_)
      rotate_left
      · exact absurd (by omega) c_11
      refine sj_ild4 dX10_differentValues_56 ?_
      exact sj_iret dX10_differentValues_58 rfl rfl (Nat.le_of_ble_eq_true rfl) (Nat.le_of_ble_eq_true rfl) ⟨rfl, rfl, rfl⟩
    | succ d ih =>
      intro i hi
      have hlt := jDs_lt i (fun j hj => hv j (by omega))
      have hvi := hv i (by omega)
      obtain ⟨c, hc⟩ := jNat (a := I (o + 8) (400 * a + i)) (by omega)
      have hs : jDs (I (o + 8)) (400 * a) (i + 1) = jDs (I (o + 8)) (400 * a) i ||| 2 ^ c := by
        show jDs (I (o + 8)) (400 * a) i ||| 2 ^ (I (o + 8) (400 * a + i)).toNat = _
        rw [hc]; rfl
      have hp := jPc_or _ hlt c (by omega)
      have hd : jDs (I (o + 8)) (400 * a) i / 2 ^ c < 1024 := Nat.lt_of_le_of_lt (Nat.div_le_self _ _) hlt
      have hn := ih (i + 1) (by omega)
      rw [hs, hp] at hn
      refine sj_ild5 dX10_differentValues_8 ?_
      refine sj_ild2 dX10_differentValues_10 ?_
      refine sj_icmp_ge 56 dX10_differentValues_11 (by decide) (by omega) (by omega) (fun c_11 => ?_) (fun c_11 => ?_)
      · exact absurd c_11 (by omega)
      refine sj_ild4 dX10_differentValues_14 ?_
      refine sj_ild3 dX10_differentValues_16 ?_
      refine sj_ald0 dX10_differentValues_17 ?_
      refine sj_ild1 dX10_differentValues_18 ?_
      refine sj_ild5 dX10_differentValues_19 ?_
      refine sj_callV (cm_at hS ha (by omega)) kc_X10_190 (by assumption) rfl rfl rfl rfl (Nat.le_of_ble_eq_true rfl) dX10_differentValues_21 (fun r_21 σ_21 I_21 hp_21 => ?_)
      obtain ⟨rfl, rfl, rfl⟩ := hp_21
      rw [hc]
      refine sj_ishr dX10_differentValues_24 (zI_shr1 _ hlt c (by omega)) ?_
      refine sj_iconst dX10_differentValues_25 ?_
      refine sj_iand dX10_differentValues_26 (zI_and1 _ hd) ?_
      refine sj_if_ne 34 dX10_differentValues_27 (by decide) (by omega) (fun c_27 => ?_) (fun c_27 => ?_)
      · refine sj_iconst dX10_differentValues_34 ?_
        refine sj_iadd dX10_differentValues_35 ?_
        refine sj_ist4 (by decide) rfl dX10_differentValues_36 ?_
        refine sj_ild3 dX10_differentValues_38 ?_
        refine sj_iconst dX10_differentValues_39 ?_
        refine sj_ald0 dX10_differentValues_40 ?_
        refine sj_ild1 dX10_differentValues_41 ?_
        refine sj_ild5 dX10_differentValues_42 ?_
        refine sj_callV (cm_at hS ha (by omega)) kc_X10_190 (by assumption) rfl rfl rfl rfl (Nat.le_of_ble_eq_true rfl) dX10_differentValues_44 (fun r_44 σ_44 I_44 hp_44 => ?_)
        obtain ⟨rfl, rfl, rfl⟩ := hp_44
        rw [hc]
        refine sj_ishl dX10_differentValues_47 (zI_shl1 c (by omega)) ?_
        refine sj_ior dX10_differentValues_48 (zI_or1 _ hlt c (by omega)) ?_
        refine sj_ist3 (by decide) rfl dX10_differentValues_49 ?_
        refine sj_inc5 (by decide) rfl dX10_differentValues_50 ?_
        refine sj_goto 8 dX10_differentValues_53 (by decide) ?_
        first | (rw [if_pos (by omega)] at hn; exact hn) | (rw [if_neg (by omega)] at hn; exact hn)
      · refine sj_iconst dX10_differentValues_30 ?_
        refine sj_goto 35 dX10_differentValues_31 (by decide) ?_
        refine sj_iadd dX10_differentValues_35 ?_
        refine sj_ist4 (by decide) rfl dX10_differentValues_36 ?_
        refine sj_ild3 dX10_differentValues_38 ?_
        refine sj_iconst dX10_differentValues_39 ?_
        refine sj_ald0 dX10_differentValues_40 ?_
        refine sj_ild1 dX10_differentValues_41 ?_
        refine sj_ild5 dX10_differentValues_42 ?_
        refine sj_callV (cm_at hS ha (by omega)) kc_X10_190 (by assumption) rfl rfl rfl rfl (Nat.le_of_ble_eq_true rfl) dX10_differentValues_44 (fun r_44 σ_44 I_44 hp_44 => ?_)
        obtain ⟨rfl, rfl, rfl⟩ := hp_44
        rw [hc]
        refine sj_ishl dX10_differentValues_47 (zI_shl1 c (by omega)) ?_
        refine sj_ior dX10_differentValues_48 (zI_or1 _ hlt c (by omega)) ?_
        refine sj_ist3 (by decide) rfl dX10_differentValues_49 ?_
        refine sj_inc5 (by decide) rfl dX10_differentValues_50 ?_
        refine sj_goto 8 dX10_differentValues_53 (by decide) ?_
        first | (rw [if_pos (by omega)] at hn; exact hn) | (rw [if_neg (by omega)] at hn; exact hn)
  refine sj_iconst dX10_differentValues_0 ?_
  refine sj_ist3 (by decide) rfl dX10_differentValues_1 ?_
  refine sj_iconst dX10_differentValues_2 ?_
  refine sj_ist4 (by decide) rfl dX10_differentValues_3 ?_
  refine sj_iconst dX10_differentValues_5 ?_
  refine sj_ist5 (by decide) rfl dX10_differentValues_6 ?_
  have h := lp n 0 (by omega)
  rw [show jDs (I (o + 8)) (400 * a) 0 = 0 from rfl, show jPc 0 = 0 from rfl] at h
  exact h
theorem cm_endless {o : Nat} {M : Int} {E : Nat → Option (List Int)} (hS : mSh σ o) (hW : mW (I (o + 1))) (hE : mEq (I (o + 1)) E) (hM : I (o + 1) 0 = M) (hM2 : 2 ≤ M ∧ M ≤ 10) (h15 : I o 15 = 0 ∨ (I o 15 = 1 ∧ mLd o M E I)) : sj_Con l yX10_endless mX10_endless G σ I [.ref o] (fun r σ' I' => r = some (.int (zI (jEnd (I' (o + 8)) 8))) ∧ σ = σ' ∧ mLy o I I' ∧ I' o 15 = 1 ∧ mLd o M E I') := by
  obtain ⟨h_o, h_w, h_past, h_images, h_text, h_read, h_made, h_old, h_values, h_ranks, h_operator, h_indexAt, h_second, h_first, h_needed, h_shifts, h_around, h_best, h_isNeeded, h_toSee, h_held, h_there⟩ := id hS
  refine sj_con_of (L0 := [some (.ref o), none, none]) (by decide) rfl rfl rfl (Nat.le_of_ble_eq_true rfl) rfl (fun Γ => ?_)
  have lp : ∀ (J : sjI), mLy o I J → J o 15 = 1 → mLd o M E J → ∀ (d a : Nat), a + d = 8 → sj_V l Γ mX10_endless G (fun r σ' I' => r = some (.int (zI (jEnd (I' (o + 8)) 8))) ∧ σ = σ' ∧ mLy o I I' ∧ I' o 15 = 1 ∧ mLd o M E I') σ J 0 0 8 [some (.ref o), some (.int (zI (jEnd (J (o + 8)) a))), some (.int (zI a))] [] := by
    intro J j1 j2 j3 d
    have hv : ∀ k, k < 3200 → J (o + 8) k = -9 ∨ (0 ≤ J (o + 8) k ∧ J (o + 8) k < 10) := fun k hk => by have := j3.1 k hk; omega
    induction d with
    | zero =>
      intro a ha
      have ha8 : a = 8 := by omega
      subst ha8
      refine sj_ild2 dX10_endless_8 ?_
      refine sj_bipush dX10_endless_9 (by decide) ?_
      refine sj_icmp_ge 39 dX10_endless_11 (by decide) (by omega) (by omega) (fun c_11 => ?_) (fun c_11 => ?_)
      rotate_left
      · exact absurd (by omega) c_11
      refine sj_ild1 dX10_endless_39 ?_
      exact sj_iret dX10_endless_40 rfl rfl (Nat.le_of_ble_eq_true rfl) (Nat.le_of_ble_eq_true rfl) ⟨rfl, rfl, j1, j2, j3⟩
    | succ d ih =>
      intro a ha
      have hr := jRh_le (J (o + 8)) (400 * a) 400 0
      have hs : jEnd (J (o + 8)) (a + 1) = jEnd (J (o + 8)) a + (if jRh (J (o + 8)) (400 * a) 400 0 = 400 then 1 else 0) := rfl
      have hn := ih (a + 1) (by omega)
      refine sj_ild2 dX10_endless_8 ?_
      refine sj_bipush dX10_endless_9 (by decide) ?_
      refine sj_icmp_ge 39 dX10_endless_11 (by decide) (by omega) (by omega) (fun c_11 => ?_) (fun c_11 => ?_)
      · exact absurd c_11 (by omega)
      refine sj_ild1 dX10_endless_14 ?_
      refine sj_ald0 dX10_endless_15 ?_
      refine sj_ild2 dX10_endless_16 ?_
      refine sj_callV (cm_reach hS (by omega) hv) kc_X10_196 (by assumption) rfl rfl rfl rfl (Nat.le_of_ble_eq_true rfl) dX10_endless_17 (fun r_17 σ_17 I_17 hp_17 => ?_)
      obtain ⟨rfl, rfl, rfl⟩ := hp_17
      refine sj_sipush dX10_endless_20 (by decide) ?_
      refine sj_icmp_ne 30 dX10_endless_23 (by decide) (by omega) (by omega) (fun c_23 => ?_) (fun c_23 => ?_)
      · refine sj_iconst dX10_endless_30 ?_
        refine sj_iadd dX10_endless_31 ?_
        refine sj_ist1 (by decide) rfl dX10_endless_32 ?_
        refine sj_inc2 (by decide) rfl dX10_endless_33 ?_
        refine sj_goto 8 dX10_endless_36 (by decide) ?_
        first | (rw [if_pos (by omega)] at hs; rw [hs] at hn; exact hn) | (rw [if_neg (by omega)] at hs; rw [hs] at hn; exact hn)
      · refine sj_iconst dX10_endless_26 ?_
        refine sj_goto 31 dX10_endless_27 (by decide) ?_
        refine sj_iadd dX10_endless_31 ?_
        refine sj_ist1 (by decide) rfl dX10_endless_32 ?_
        refine sj_inc2 (by decide) rfl dX10_endless_33 ?_
        refine sj_goto 8 dX10_endless_36 (by decide) ?_
        first | (rw [if_pos (by omega)] at hs; rw [hs] at hn; exact hn) | (rw [if_neg (by omega)] at hs; rw [hs] at hn; exact hn)
  refine sj_ald0 dX10_endless_0 ?_
  refine sj_callV (cm_layValues hS hW hE hM hM2 h15) kc_X10_193 (by assumption) rfl rfl rfl rfl (Nat.le_of_ble_eq_true rfl) dX10_endless_1 (fun r_1 σ_1 I_1 hp_1 => ?_)
  obtain ⟨rfl, rfl, j1, j2, j3⟩ := hp_1
  refine sj_iconst dX10_endless_4 ?_
  refine sj_ist1 (by decide) rfl dX10_endless_5 ?_
  refine sj_iconst dX10_endless_6 ?_
  refine sj_ist2 (by decide) rfl dX10_endless_7 ?_
  exact lp _ j1 j2 j3 8 0 (by omega)
theorem cm_value {o : Nat} {M a i : Int} {E : Nat → Option (List Int)} (hS : mSh σ o) (hW : mW (I (o + 1))) (hE : mEq (I (o + 1)) E) (hM : I (o + 1) 0 = M) (hM2 : 2 ≤ M ∧ M ≤ 10) (h15 : I o 15 = 0 ∨ (I o 15 = 1 ∧ mLd o M E I)) (ha : -2147483648 ≤ a ∧ a < 2147483648) (hi : -2147483648 ≤ i ∧ i < 2147483648) : sj_Con l yX10_value mX10_value G σ I [.ref o, .int (zI a), .int (zI i)] (fun r σ' I' => σ = σ' ∧ ((¬ ((0 ≤ a ∧ a ≤ 7) ∧ (0 ≤ i ∧ i ≤ 399)) ∧ r = some (.int (zI (-1))) ∧ I = I') ∨ (((0 ≤ a ∧ a ≤ 7) ∧ (0 ≤ i ∧ i ≤ 399)) ∧ r = some (.int (zI (I' (o + 8) (400 * a.toNat + i.toNat)))) ∧ mLy o I I' ∧ I' o 15 = 1 ∧ mLd o M E I'))) := by
  obtain ⟨h_o, h_w, h_past, h_images, h_text, h_read, h_made, h_old, h_values, h_ranks, h_operator, h_indexAt, h_second, h_first, h_needed, h_shifts, h_around, h_best, h_isNeeded, h_toSee, h_held, h_there⟩ := id hS
  refine sj_con_of (L0 := [some (.ref o), some (.int (zI a)), some (.int (zI i))]) (by decide) rfl rfl rfl (Nat.le_of_ble_eq_true rfl) rfl (fun Γ => ?_)
  have b1 := jbs (0 ≤ a ∧ a ≤ 7)
  have b2 := jbs (0 ≤ i ∧ i ≤ 399)
  refine sj_ild1 dX10_value_0 ?_
  refine sj_callS (cm_isStream ha) kc_X10_109 rfl rfl (Nat.le_of_ble_eq_true rfl) dX10_value_1 (fun r_1 σ_1 I_1 hp_1 => ?_)
  obtain ⟨rfl, rfl, rfl⟩ := hp_1
  refine sj_if_eq 18 dX10_value_4 (by decide) (by omega) (fun c_4 => ?_) (fun c_4 => ?_)
  · refine sj_iconst dX10_value_18 ?_
    exact sj_iret dX10_value_19 rfl rfl (Nat.le_of_ble_eq_true rfl) (Nat.le_of_ble_eq_true rfl) ⟨rfl, Or.inl ⟨by omega, rfl, rfl⟩⟩
  · refine sj_ild2 dX10_value_7 ?_
    refine sj_iconst dX10_value_8 ?_
    refine sj_sipush dX10_value_9 (by decide) ?_
    refine sj_callS (cm_isIn hi (by omega) (by omega)) kc_X10_74 rfl rfl (Nat.le_of_ble_eq_true rfl) dX10_value_12 (fun r_12 σ_12 I_12 hp_12 => ?_)
    obtain ⟨rfl, rfl, rfl⟩ := hp_12
    refine sj_if_ne 20 dX10_value_15 (by decide) (by omega) (fun c_15 => ?_) (fun c_15 => ?_)
    · obtain ⟨aa, rfl⟩ := jNat (a := a) (by omega)
      obtain ⟨ii, rfl⟩ := jNat (a := i) (by omega)
      refine sj_ald0 dX10_value_20 ?_
      refine sj_callV (cm_layValues hS hW hE hM hM2 h15) kc_X10_193 (by assumption) rfl rfl rfl rfl (Nat.le_of_ble_eq_true rfl) dX10_value_21 (fun r_21 σ_21 I_21 hp_21 => ?_)
      obtain ⟨rfl, rfl, j1, j2, j3⟩ := hp_21
      refine sj_ald0 dX10_value_24 ?_
      refine sj_ild1 dX10_value_25 ?_
      refine sj_ild2 dX10_value_26 ?_
      refine sj_callV (cm_at hS (by omega) (by omega)) kc_X10_190 (by assumption) rfl rfl rfl rfl (Nat.le_of_ble_eq_true rfl) dX10_value_27 (fun r_27 σ_27 I_27 hp_27 => ?_)
      obtain ⟨rfl, rfl, rfl⟩ := hp_27
      exact sj_iret dX10_value_30 rfl rfl (Nat.le_of_ble_eq_true rfl) (Nat.le_of_ble_eq_true rfl) ⟨rfl, Or.inr ⟨by omega, rfl, j1, j2, j3⟩⟩
    · refine sj_iconst dX10_value_18 ?_
      exact sj_iret dX10_value_19 rfl rfl (Nat.le_of_ble_eq_true rfl) (Nat.le_of_ble_eq_true rfl) ⟨rfl, Or.inl ⟨by omega, rfl, rfl⟩⟩
theorem cm_parting {o : Nat} {M a b : Int} {E : Nat → Option (List Int)} (hS : mSh σ o) (hW : mW (I (o + 1))) (hE : mEq (I (o + 1)) E) (hM : I (o + 1) 0 = M) (hM2 : 2 ≤ M ∧ M ≤ 10) (h15 : I o 15 = 0 ∨ (I o 15 = 1 ∧ mLd o M E I)) (ha : -2147483648 ≤ a ∧ a < 2147483648) (hb : -2147483648 ≤ b ∧ b < 2147483648) : sj_Con l yX10_parting mX10_parting G σ I [.ref o, .int (zI a), .int (zI b)] (fun r σ' I' => σ = σ' ∧ ((¬ ((0 ≤ a ∧ a ≤ 7) ∧ (0 ≤ b ∧ b ≤ 7)) ∧ r = some (.int (zI (-1))) ∧ I = I') ∨ (((0 ≤ a ∧ a ≤ 7) ∧ (0 ≤ b ∧ b ≤ 7)) ∧ r = some (.int (zI (jPr (I' (o + 8)) (400 * a.toNat) (400 * b.toNat) 400 0))) ∧ mLy o I I' ∧ I' o 15 = 1 ∧ mLd o M E I'))) := by
  obtain ⟨h_o, h_w, h_past, h_images, h_text, h_read, h_made, h_old, h_values, h_ranks, h_operator, h_indexAt, h_second, h_first, h_needed, h_shifts, h_around, h_best, h_isNeeded, h_toSee, h_held, h_there⟩ := id hS
  refine sj_con_of (L0 := [some (.ref o), some (.int (zI a)), some (.int (zI b))]) (by decide) rfl rfl rfl (Nat.le_of_ble_eq_true rfl) rfl (fun Γ => ?_)
  have b1 := jbs (0 ≤ a ∧ a ≤ 7)
  have b2 := jbs (0 ≤ b ∧ b ≤ 7)
  refine sj_ild1 dX10_parting_0 ?_
  refine sj_callS (cm_isStream ha) kc_X10_109 rfl rfl (Nat.le_of_ble_eq_true rfl) dX10_parting_1 (fun r_1 σ_1 I_1 hp_1 => ?_)
  obtain ⟨rfl, rfl, rfl⟩ := hp_1
  refine sj_if_eq 14 dX10_parting_4 (by decide) (by omega) (fun c_4 => ?_) (fun c_4 => ?_)
  · refine sj_iconst dX10_parting_14 ?_
    exact sj_iret dX10_parting_15 rfl rfl (Nat.le_of_ble_eq_true rfl) (Nat.le_of_ble_eq_true rfl) ⟨rfl, Or.inl ⟨by omega, rfl, rfl⟩⟩
  · refine sj_ild2 dX10_parting_7 ?_
    refine sj_callS (cm_isStream hb) kc_X10_109 rfl rfl (Nat.le_of_ble_eq_true rfl) dX10_parting_8 (fun r_8 σ_8 I_8 hp_8 => ?_)
    obtain ⟨rfl, rfl, rfl⟩ := hp_8
    refine sj_if_ne 16 dX10_parting_11 (by decide) (by omega) (fun c_11 => ?_) (fun c_11 => ?_)
    · obtain ⟨aa, rfl⟩ := jNat (a := a) (by omega)
      obtain ⟨ii, rfl⟩ := jNat (a := b) (by omega)
      refine sj_ald0 dX10_parting_16 ?_
      refine sj_callV (cm_layValues hS hW hE hM hM2 h15) kc_X10_193 (by assumption) rfl rfl rfl rfl (Nat.le_of_ble_eq_true rfl) dX10_parting_17 (fun r_17 σ_17 I_17 hp_17 => ?_)
      obtain ⟨rfl, rfl, j1, j2, j3⟩ := hp_17
      refine sj_ald0 dX10_parting_20 ?_
      refine sj_ild1 dX10_parting_21 ?_
      refine sj_ild2 dX10_parting_22 ?_
      refine sj_callV (cm_partingOf hS (by omega) (by omega) (fun k hk => by have := j3.1 k hk; omega)) kc_X10_235 (by assumption) rfl rfl rfl rfl (Nat.le_of_ble_eq_true rfl) dX10_parting_23 (fun r_23 σ_23 I_23 hp_23 => ?_)
      obtain ⟨rfl, rfl, rfl⟩ := hp_23
      exact sj_iret dX10_parting_26 rfl rfl (Nat.le_of_ble_eq_true rfl) (Nat.le_of_ble_eq_true rfl) ⟨rfl, Or.inr ⟨by omega, rfl, j1, j2, j3⟩⟩
    · refine sj_iconst dX10_parting_14 ?_
      exact sj_iret dX10_parting_15 rfl rfl (Nat.le_of_ble_eq_true rfl) (Nat.le_of_ble_eq_true rfl) ⟨rfl, Or.inl ⟨by omega, rfl, rfl⟩⟩
theorem cm_alike {o : Nat} {M a : Int} {E : Nat → Option (List Int)} (hS : mSh σ o) (hW : mW (I (o + 1))) (hE : mEq (I (o + 1)) E) (hM : I (o + 1) 0 = M) (hM2 : 2 ≤ M ∧ M ≤ 10) (h15 : I o 15 = 0 ∨ (I o 15 = 1 ∧ mLd o M E I)) (ha : -2147483648 ≤ a ∧ a < 2147483648) : sj_Con l yX10_alike mX10_alike G σ I [.ref o, .int (zI a)] (fun r σ' I' => σ = σ' ∧ ((¬ (0 ≤ a ∧ a ≤ 7) ∧ r = some (.int (zI (-1))) ∧ I = I') ∨ ((0 ≤ a ∧ a ≤ 7) ∧ r = some (.int (zI (jAl (I' (o + 8)) a.toNat 8 : Nat))) ∧ mLy o I I' ∧ I' o 15 = 1 ∧ mLd o M E I'))) := by
  obtain ⟨h_o, h_w, h_past, h_images, h_text, h_read, h_made, h_old, h_values, h_ranks, h_operator, h_indexAt, h_second, h_first, h_needed, h_shifts, h_around, h_best, h_isNeeded, h_toSee, h_held, h_there⟩ := id hS
  refine sj_con_of (L0 := [some (.ref o), some (.int (zI a)), none, none]) (by decide) rfl rfl rfl (Nat.le_of_ble_eq_true rfl) rfl (fun Γ => ?_)
  have b1 := jbs (0 ≤ a ∧ a ≤ 7)
  have lp : ∀ (p : Nat) (J : sjI), a = p → p < 8 → mLy o I J → J o 15 = 1 → mLd o M E J → ∀ (d b : Nat), b + d = 8 → sj_V l Γ mX10_alike G (fun r σ' I' => σ = σ' ∧ ((¬ (0 ≤ a ∧ a ≤ 7) ∧ r = some (.int (zI (-1))) ∧ I = I') ∨ ((0 ≤ a ∧ a ≤ 7) ∧ r = some (.int (zI (jAl (I' (o + 8)) a.toNat 8 : Nat))) ∧ mLy o I I' ∧ I' o 15 = 1 ∧ mLd o M E I'))) σ J 0 0 17 [some (.ref o), some (.int (zI p)), some (.int (zI (jAl (J (o + 8)) p b : Nat))), some (.int (zI b))] [] := by
    intro p J hp hp8 j1 j2 j3 d
    subst hp
    have hv : ∀ k, k < 3200 → J (o + 8) k = -9 ∨ (0 ≤ J (o + 8) k ∧ J (o + 8) k < 10) := fun k hk => by have := j3.1 k hk; omega
    induction d with
    | zero =>
      intro b hb
      have hb8 : b = 8 := by omega
      subst hb8
      refine sj_ild3 dX10_alike_17 ?_
      refine sj_bipush dX10_alike_18 (by decide) ?_
      refine sj_icmp_ge 68 dX10_alike_20 (by decide) (by omega) (by omega) (fun c_20 => ?_) (fun c_20 => ?_)
      rotate_left
      · exact absurd (by omega) c_20
      refine sj_ild2 dX10_alike_68 ?_
      exact sj_iret dX10_alike_69 rfl rfl (Nat.le_of_ble_eq_true rfl) (Nat.le_of_ble_eq_true rfl) ⟨rfl, Or.inr ⟨by omega, rfl, j1, j2, j3⟩⟩
    | succ d ih =>
      intro b hb
      have hlt := jAl_lt (J (o + 8)) p b (by omega)
      have r1 := jRh_le (J (o + 8)) (400 * b) 400 0
      have r2 := jRh_le (J (o + 8)) (400 * p) 400 0
      have r3 := jPr_rng (J (o + 8)) (400 * p) (400 * b) 400 0
      have hs : jAl (J (o + 8)) p (b + 1) = jAl (J (o + 8)) p b ||| (if b ≠ p ∧ jRh (J (o + 8)) (400 * b) 400 0 = jRh (J (o + 8)) (400 * p) 400 0 ∧ jPr (J (o + 8)) (400 * p) (400 * b) 400 0 = -9 then 2 ^ b else 0) := rfl
      have hn := ih (b + 1) (by omega)
      refine sj_ild3 dX10_alike_17 ?_
      refine sj_bipush dX10_alike_18 (by decide) ?_
      refine sj_icmp_ge 68 dX10_alike_20 (by decide) (by omega) (by omega) (fun c_20 => ?_) (fun c_20 => ?_)
      · exact absurd c_20 (by omega)
      refine sj_ild2 dX10_alike_23 ?_
      refine sj_ild3 dX10_alike_24 ?_
      refine sj_ild1 dX10_alike_25 ?_
      refine sj_icmp_eq 59 dX10_alike_26 (by decide) (by omega) (by omega) (fun c_26 => ?_) (fun c_26 => ?_)
      · refine sj_iconst dX10_alike_59 ?_
        first
        | refine sj_ior dX10_alike_60 (zI_or1 _ (by omega) b (by omega)) ?_
        | refine sj_ior dX10_alike_60 (zI_or0 _ (by omega)) ?_
        refine sj_ist2 (by decide) rfl dX10_alike_61 ?_
        refine sj_inc3 (by decide) rfl dX10_alike_62 ?_
        refine sj_goto 17 dX10_alike_65 (by decide) ?_
        first | (rw [if_pos ⟨by omega, by omega, by omega⟩] at hs; rw [hs] at hn; exact hn) | (rw [if_neg (by omega), Nat.or_zero] at hs; rw [hs] at hn; exact hn)
      · refine sj_ald0 dX10_alike_29 ?_
        refine sj_ild3 dX10_alike_30 ?_
        refine sj_callV (cm_reach hS (by omega) hv) kc_X10_196 (by assumption) rfl rfl rfl rfl (Nat.le_of_ble_eq_true rfl) dX10_alike_31 (fun r_31 σ_31 I_31 hp_31 => ?_)
        obtain ⟨rfl, rfl, rfl⟩ := hp_31
        refine sj_ald0 dX10_alike_34 ?_
        refine sj_ild1 dX10_alike_35 ?_
        refine sj_callV (cm_reach hS (by omega) hv) kc_X10_196 (by assumption) rfl rfl rfl rfl (Nat.le_of_ble_eq_true rfl) dX10_alike_36 (fun r_36 σ_36 I_36 hp_36 => ?_)
        obtain ⟨rfl, rfl, rfl⟩ := hp_36
        refine sj_icmp_ne 59 dX10_alike_39 (by decide) (by omega) (by omega) (fun c_39 => ?_) (fun c_39 => ?_)
        · refine sj_iconst dX10_alike_59 ?_
          first
          | refine sj_ior dX10_alike_60 (zI_or1 _ (by omega) b (by omega)) ?_
          | refine sj_ior dX10_alike_60 (zI_or0 _ (by omega)) ?_
          refine sj_ist2 (by decide) rfl dX10_alike_61 ?_
          refine sj_inc3 (by decide) rfl dX10_alike_62 ?_
          refine sj_goto 17 dX10_alike_65 (by decide) ?_
          first | (rw [if_pos ⟨by omega, by omega, by omega⟩] at hs; rw [hs] at hn; exact hn) | (rw [if_neg (by omega), Nat.or_zero] at hs; rw [hs] at hn; exact hn)
        · refine sj_ald0 dX10_alike_42 ?_
          refine sj_ild1 dX10_alike_43 ?_
          refine sj_ild3 dX10_alike_44 ?_
          refine sj_callV (cm_partingOf hS (by omega) (by omega) hv) kc_X10_235 (by assumption) rfl rfl rfl rfl (Nat.le_of_ble_eq_true rfl) dX10_alike_45 (fun r_45 σ_45 I_45 hp_45 => ?_)
          obtain ⟨rfl, rfl, rfl⟩ := hp_45
          refine sj_bipush dX10_alike_48 (by decide) ?_
          refine sj_icmp_ne 59 dX10_alike_50 (by decide) (by omega) (by omega) (fun c_50 => ?_) (fun c_50 => ?_)
          · refine sj_iconst dX10_alike_59 ?_
            first
            | refine sj_ior dX10_alike_60 (zI_or1 _ (by omega) b (by omega)) ?_
            | refine sj_ior dX10_alike_60 (zI_or0 _ (by omega)) ?_
            refine sj_ist2 (by decide) rfl dX10_alike_61 ?_
            refine sj_inc3 (by decide) rfl dX10_alike_62 ?_
            refine sj_goto 17 dX10_alike_65 (by decide) ?_
            first | (rw [if_pos ⟨by omega, by omega, by omega⟩] at hs; rw [hs] at hn; exact hn) | (rw [if_neg (by omega), Nat.or_zero] at hs; rw [hs] at hn; exact hn)
          · refine sj_iconst dX10_alike_53 ?_
            refine sj_ild3 dX10_alike_54 ?_
            refine sj_ishl dX10_alike_55 (zI_shl1 b (by omega)) ?_
            refine sj_goto 60 dX10_alike_56 (by decide) ?_
            first
            | refine sj_ior dX10_alike_60 (zI_or1 _ (by omega) b (by omega)) ?_
            | refine sj_ior dX10_alike_60 (zI_or0 _ (by omega)) ?_
            refine sj_ist2 (by decide) rfl dX10_alike_61 ?_
            refine sj_inc3 (by decide) rfl dX10_alike_62 ?_
            refine sj_goto 17 dX10_alike_65 (by decide) ?_
            first | (rw [if_pos ⟨by omega, by omega, by omega⟩] at hs; rw [hs] at hn; exact hn) | (rw [if_neg (by omega), Nat.or_zero] at hs; rw [hs] at hn; exact hn)
  refine sj_ild1 dX10_alike_0 ?_
  refine sj_callS (cm_isStream ha) kc_X10_109 rfl rfl (Nat.le_of_ble_eq_true rfl) dX10_alike_1 (fun r_1 σ_1 I_1 hp_1 => ?_)
  obtain ⟨rfl, rfl, rfl⟩ := hp_1
  refine sj_if_ne 9 dX10_alike_4 (by decide) (by omega) (fun c_4 => ?_) (fun c_4 => ?_)
  · refine sj_ald0 dX10_alike_9 ?_
    refine sj_callV (cm_layValues hS hW hE hM hM2 h15) kc_X10_193 (by assumption) rfl rfl rfl rfl (Nat.le_of_ble_eq_true rfl) dX10_alike_10 (fun r_10 σ_10 I_10 hp_10 => ?_)
    obtain ⟨rfl, rfl, j1, j2, j3⟩ := hp_10
    refine sj_iconst dX10_alike_13 ?_
    refine sj_ist2 (by decide) rfl dX10_alike_14 ?_
    refine sj_iconst dX10_alike_15 ?_
    refine sj_ist3 (by decide) rfl dX10_alike_16 ?_
    obtain ⟨p, rfl⟩ := jNat (a := a) (by omega)
    exact lp p _ rfl (by omega) j1 j2 j3 8 0 (by omega)
  · refine sj_iconst dX10_alike_7 ?_
    exact sj_iret dX10_alike_8 rfl rfl (Nat.le_of_ble_eq_true rfl) (Nat.le_of_ble_eq_true rfl) ⟨rfl, Or.inl ⟨by omega, rfl, rfl⟩⟩
end MODEL22
