/-! what is told of values: v has a cell's value, -9 if it cannot be computed; s = 400 * stream -/
def jRh (v : Nat → Int) (s : Nat) : Nat → Nat → Nat
  | 0, i => i
  | d + 1, i => if v (s + i) = -9 then i else jRh v s d (i + 1)
theorem jRh_le (v : Nat → Int) (s : Nat) : ∀ d i, i ≤ jRh v s d i ∧ jRh v s d i ≤ i + d
  | 0, i => ⟨Nat.le_refl _, Nat.le_refl _⟩
  | d + 1, i => by
    have := jRh_le v s d (i + 1)
    unfold jRh
    split <;> omega
theorem jRh_known (v : Nat → Int) (s : Nat) : ∀ d i j, i ≤ j → j < jRh v s d i → v (s + j) ≠ -9
  | 0, i, j, h1, h2 => by unfold jRh at h2; omega
  | d + 1, i, j, h1, h2 => by
    unfold jRh at h2
    split at h2
    · omega
    · rename_i hn
      by_cases e : j = i
      · subst e; exact hn
      · exact jRh_known v s d (i + 1) j (by omega) h2
def jSm (v : Nat → Int) (s : Nat) : Nat → Int
  | 0 => 0
  | n + 1 => jSm v s n + v (s + n)
def jDs (v : Nat → Int) (s : Nat) : Nat → Nat
  | 0 => 0
  | n + 1 => jDs v s n ||| 2 ^ (v (s + n)).toNat
def jPc (a : Nat) : Nat := a % 2 + a / 2 % 2 + a / 4 % 2 + a / 8 % 2 + a / 16 % 2 + a / 32 % 2 + a / 64 % 2 + a / 128 % 2 + a / 256 % 2 + a / 512 % 2
theorem jPc_or : ∀ a : Nat, a < 1024 → ∀ c : Nat, c < 10 → jPc (a ||| 2 ^ c) = jPc a + (if a / 2 ^ c % 2 = 0 then 1 else 0) := by decide +kernel
theorem jPc_le (a : Nat) : jPc a ≤ 10 := by unfold jPc; omega
def jAh (v : Nat → Int) (s p : Nat) : Nat → Nat
  | 0 => 0
  | q + 1 => if v (s + q) = v (s + (q + p)) then jAh v s p q else q + 1
theorem jAh_le (v : Nat → Int) (s p : Nat) : ∀ q, jAh v s p q ≤ q
  | 0 => Nat.le_refl _
  | q + 1 => by
    have := jAh_le v s p q
    unfold jAh
    split <;> omega
def jPr (v : Nat → Int) (s t : Nat) : Nat → Nat → Int
  | 0, _ => -9
  | d + 1, i => if v (s + i) ≠ -9 ∧ v (t + i) ≠ -9 ∧ v (s + i) ≠ v (t + i) then i else jPr v s t d (i + 1)
theorem jPr_rng (v : Nat → Int) (s t : Nat) : ∀ d i, jPr v s t d i = -9 ∨ (0 ≤ jPr v s t d i ∧ jPr v s t d i < i + d)
  | 0, i => Or.inl rfl
  | d + 1, i => by
    have := jPr_rng v s t d (i + 1)
    unfold jPr
    split <;> omega
section MODEL20
variable {l : Launch} {G : sjG} {σ : sjS} {I : sjI}
theorem cm_at {o a i : Nat} (hS : mSh σ o) (ha : a < 8) (hi : i < 400) : sj_Con l yX10_at mX10_at G σ I [.ref o, .int (zI a), .int (zI i)] (fun r σ' I' => r = some (.int (zI (I (o + 8) (400 * a + i)))) ∧ σ = σ' ∧ I = I') := by
  obtain ⟨h_o, h_w, h_past, h_images, h_text, h_read, h_made, h_old, h_values, h_ranks, h_operator, h_indexAt, h_second, h_first, h_needed, h_shifts, h_around, h_best, h_isNeeded, h_toSee, h_held, h_there⟩ := id hS
  refine sj_con_of (L0 := [some (.ref o), some (.int (zI a)), some (.int (zI i))]) (by decide) rfl rfl rfl (Nat.le_of_ble_eq_true rfl) rfl (fun Γ => ?_)
  refine sj_ald0 dX10_at_0 ?_
  refine sj_getR fl_X10_31 (by assumption) rfl (mr_13 _) dX10_at_1 ?_
  refine sj_sipush dX10_at_4 (by decide) ?_
  refine sj_ild1 dX10_at_7 ?_
  refine sj_imul dX10_at_8 ?_
  refine sj_ild2 dX10_at_9 ?_
  refine sj_iadd dX10_at_10 ?_
  refine sj_ialdJ (400 * a + i) (by assumption) (by omega) (by omega) (by omega) dX10_at_11 ?_
  exact sj_iret dX10_at_12 rfl rfl (Nat.le_of_ble_eq_true rfl) (Nat.le_of_ble_eq_true rfl) ⟨rfl, rfl, rfl⟩
theorem cm_reach {o a : Nat} (hS : mSh σ o) (ha : a < 8) (hv : ∀ k, k < 3200 → I (o + 8) k = -9 ∨ (0 ≤ I (o + 8) k ∧ I (o + 8) k < 10)) : sj_Con l yX10_reach mX10_reach G σ I [.ref o, .int (zI a)] (fun r σ' I' => r = some (.int (zI (jRh (I (o + 8)) (400 * a) 400 0 : Nat))) ∧ σ = σ' ∧ I = I') := by
  obtain ⟨h_o, h_w, h_past, h_images, h_text, h_read, h_made, h_old, h_values, h_ranks, h_operator, h_indexAt, h_second, h_first, h_needed, h_shifts, h_around, h_best, h_isNeeded, h_toSee, h_held, h_there⟩ := id hS
  refine sj_con_of (L0 := [some (.ref o), some (.int (zI a)), none]) (by decide) rfl rfl rfl (Nat.le_of_ble_eq_true rfl) rfl (fun Γ => ?_)
  have lp : ∀ (d i : Nat), i + d = 400 → jRh (I (o + 8)) (400 * a) d i = jRh (I (o + 8)) (400 * a) 400 0 → sj_V l Γ mX10_reach G (fun r σ' I' => r = some (.int (zI (jRh (I (o + 8)) (400 * a) 400 0 : Nat))) ∧ σ = σ' ∧ I = I') σ I 0 0 2 [some (.ref o), some (.int (zI a)), some (.int (zI i))] [] := by
    intro d
    induction d with
    | zero =>
      intro i hi hj
      have hj2 : i = jRh (I (o + 8)) (400 * a) 400 0 := hj
      refine sj_ild2 dX10_reach_2 ?_
      refine sj_sipush dX10_reach_3 (by decide) ?_
      refine sj_icmp_ge 26 dX10_reach_6 (by decide) (by omega) (by omega) (fun c_6 => ?_) (fun c_6 => ?_)
      rotate_left
      · exact absurd (by omega) c_6
      refine sj_ild2 dX10_reach_26 ?_
      exact sj_iret dX10_reach_27 rfl rfl (Nat.le_of_ble_eq_true rfl) (Nat.le_of_ble_eq_true rfl) ⟨by rw [hj2], rfl, rfl⟩
    | succ d ih =>
      intro i hi hj
      have hvi := hv (400 * a + i) (by omega)
      have hj2 : (if I (o + 8) (400 * a + i) = -9 then i else jRh (I (o + 8)) (400 * a) d (i + 1)) = jRh (I (o + 8)) (400 * a) 400 0 := hj
      refine sj_ild2 dX10_reach_2 ?_
      refine sj_sipush dX10_reach_3 (by decide) ?_
      refine sj_icmp_ge 26 dX10_reach_6 (by decide) (by omega) (by omega) (fun c_6 => ?_) (fun c_6 => ?_)
      · exact absurd c_6 (by omega)
      refine sj_ald0 dX10_reach_9 ?_
      refine sj_ild1 dX10_reach_10 ?_
      refine sj_ild2 dX10_reach_11 ?_
      refine sj_callV (cm_at hS ha (by omega)) kc_X10_190 (by assumption) rfl rfl rfl rfl (Nat.le_of_ble_eq_true rfl) dX10_reach_12 (fun r_12 σ_12 I_12 hp_12 => ?_)
      obtain ⟨rfl, rfl, rfl⟩ := hp_12
      refine sj_bipush dX10_reach_15 (by decide) ?_
      refine sj_icmp_eq 26 dX10_reach_17 (by decide) (by omega) (by omega) (fun c_17 => ?_) (fun c_17 => ?_)
      · refine sj_ild2 dX10_reach_26 ?_
        exact sj_iret dX10_reach_27 rfl rfl (Nat.le_of_ble_eq_true rfl) (Nat.le_of_ble_eq_true rfl) ⟨by rw [← hj2, if_pos c_17], rfl, rfl⟩
      · refine sj_inc2 (by decide) rfl dX10_reach_20 ?_
        refine sj_goto 2 dX10_reach_23 (by decide) ?_
        exact ih (i + 1) (by omega) (by rw [← hj2, if_neg c_17])
  refine sj_iconst dX10_reach_0 ?_
  refine sj_ist2 (by decide) rfl dX10_reach_1 ?_
  exact lp 400 0 (by omega) rfl
theorem cm_sumOf {o a n : Nat} (hS : mSh σ o) (ha : a < 8) (hn : n ≤ 400) : sj_Con l yX10_sumOf mX10_sumOf G σ I [.ref o, .int (zI a), .int (zI n)] (fun r σ' I' => r = some (.int (zI (jSm (I (o + 8)) (400 * a) n))) ∧ σ = σ' ∧ I = I') := by
  obtain ⟨h_o, h_w, h_past, h_images, h_text, h_read, h_made, h_old, h_values, h_ranks, h_operator, h_indexAt, h_second, h_first, h_needed, h_shifts, h_around, h_best, h_isNeeded, h_toSee, h_held, h_there⟩ := id hS
  refine sj_con_of (L0 := [some (.ref o), some (.int (zI a)), some (.int (zI n)), none, none]) (by decide) rfl rfl rfl (Nat.le_of_ble_eq_true rfl) rfl (fun Γ => ?_)
  have lp : ∀ (d i : Nat), i + d = n → sj_V l Γ mX10_sumOf G (fun r σ' I' => r = some (.int (zI (jSm (I (o + 8)) (400 * a) n))) ∧ σ = σ' ∧ I = I') σ I 0 0 5 [some (.ref o), some (.int (zI a)), some (.int (zI n)), some (.int (zI (jSm (I (o + 8)) (400 * a) i))), some (.int (zI i))] [] := by
    intro d
    induction d with
    | zero =>
      intro i hi
      have hin : i = n := by omega
      subst hin
      refine sj_ild4 dX10_sumOf_5 ?_
      refine sj_ild2 dX10_sumOf_7 ?_
      refine sj_icmp_ge 27 dX10_sumOf_8 (by decide) (by omega) (by omega) (fun c_8 => ?_) (fun c_8 => ?_)
      rotate_left
      · exact absurd (by omega) c_8
      refine sj_ild3 dX10_sumOf_27 ?_
      exact sj_iret dX10_sumOf_28 rfl rfl (Nat.le_of_ble_eq_true rfl) (Nat.le_of_ble_eq_true rfl) ⟨rfl, rfl, rfl⟩
    | succ d ih =>
      intro i hi
      refine sj_ild4 dX10_sumOf_5 ?_
      refine sj_ild2 dX10_sumOf_7 ?_
      refine sj_icmp_ge 27 dX10_sumOf_8 (by decide) (by omega) (by omega) (fun c_8 => ?_) (fun c_8 => ?_)
      · exact absurd c_8 (by omega)
      refine sj_ild3 dX10_sumOf_11 ?_
      refine sj_ald0 dX10_sumOf_12 ?_
      refine sj_ild1 dX10_sumOf_13 ?_
      refine sj_ild4 dX10_sumOf_14 ?_
      refine sj_callV (cm_at hS ha (by omega)) kc_X10_190 (by assumption) rfl rfl rfl rfl (Nat.le_of_ble_eq_true rfl) dX10_sumOf_16 (fun r_16 σ_16 I_16 hp_16 => ?_)
      obtain ⟨rfl, rfl, rfl⟩ := hp_16
      refine sj_iadd dX10_sumOf_19 ?_
      refine sj_ist3 (by decide) rfl dX10_sumOf_20 ?_
      refine sj_inc4 (by decide) rfl dX10_sumOf_21 ?_
      refine sj_goto 5 dX10_sumOf_24 (by decide) ?_
      exact ih (i + 1) (by omega)
  refine sj_iconst dX10_sumOf_0 ?_
  refine sj_ist3 (by decide) rfl dX10_sumOf_1 ?_
  refine sj_iconst dX10_sumOf_2 ?_
  refine sj_ist4 (by decide) rfl dX10_sumOf_3 ?_
  exact lp n 0 (by omega)
theorem cm_partingOf {o a b : Nat} (hS : mSh σ o) (ha : a < 8) (hb : b < 8) (hv : ∀ k, k < 3200 → I (o + 8) k = -9 ∨ (0 ≤ I (o + 8) k ∧ I (o + 8) k < 10)) : sj_Con l yX10_partingOf mX10_partingOf G σ I [.ref o, .int (zI a), .int (zI b)] (fun r σ' I' => r = some (.int (zI (jPr (I (o + 8)) (400 * a) (400 * b) 400 0))) ∧ σ = σ' ∧ I = I') := by
  obtain ⟨h_o, h_w, h_past, h_images, h_text, h_read, h_made, h_old, h_values, h_ranks, h_operator, h_indexAt, h_second, h_first, h_needed, h_shifts, h_around, h_best, h_isNeeded, h_toSee, h_held, h_there⟩ := id hS
  refine sj_con_of (L0 := [some (.ref o), some (.int (zI a)), some (.int (zI b)), none]) (by decide) rfl rfl rfl (Nat.le_of_ble_eq_true rfl) rfl (fun Γ => ?_)
  have lp : ∀ (d i : Nat), i + d = 400 → jPr (I (o + 8)) (400 * a) (400 * b) d i = jPr (I (o + 8)) (400 * a) (400 * b) 400 0 → sj_V l Γ mX10_partingOf G (fun r σ' I' => r = some (.int (zI (jPr (I (o + 8)) (400 * a) (400 * b) 400 0))) ∧ σ = σ' ∧ I = I') σ I 0 0 2 [some (.ref o), some (.int (zI a)), some (.int (zI b)), some (.int (zI i))] [] := by
    intro d
    induction d with
    | zero =>
      intro i hi hj
      have hj2 : (-9 : Int) = jPr (I (o + 8)) (400 * a) (400 * b) 400 0 := hj
      refine sj_ild3 dX10_partingOf_2 ?_
      refine sj_sipush dX10_partingOf_3 (by decide) ?_
      refine sj_icmp_ge 54 dX10_partingOf_6 (by decide) (by omega) (by omega) (fun c_6 => ?_) (fun c_6 => ?_)
      rotate_left
      · exact absurd (by omega) c_6
      refine sj_bipush dX10_partingOf_54 (by decide) ?_
      exact sj_iret dX10_partingOf_56 rfl rfl (Nat.le_of_ble_eq_true rfl) (Nat.le_of_ble_eq_true rfl) ⟨by rw [← hj2], rfl, rfl⟩
    | succ d ih =>
      intro i hi hj
      have hva := hv (400 * a + i) (by omega)
      have hvb := hv (400 * b + i) (by omega)
      have hj2 : (if I (o + 8) (400 * a + i) ≠ -9 ∧ I (o + 8) (400 * b + i) ≠ -9 ∧ I (o + 8) (400 * a + i) ≠ I (o + 8) (400 * b + i) then (i : Int) else jPr (I (o + 8)) (400 * a) (400 * b) d (i + 1)) = jPr (I (o + 8)) (400 * a) (400 * b) 400 0 := hj
      refine sj_ild3 dX10_partingOf_2 ?_
      refine sj_sipush dX10_partingOf_3 (by decide) ?_
      refine sj_icmp_ge 54 dX10_partingOf_6 (by decide) (by omega) (by omega) (fun c_6 => ?_) (fun c_6 => ?_)
      · exact absurd c_6 (by omega)
      refine sj_ald0 dX10_partingOf_9 ?_
      refine sj_ild1 dX10_partingOf_10 ?_
      refine sj_ild3 dX10_partingOf_11 ?_
      refine sj_callV (cm_at hS ha (by omega)) kc_X10_190 (by assumption) rfl rfl rfl rfl (Nat.le_of_ble_eq_true rfl) dX10_partingOf_12 (fun r_12 σ_12 I_12 hp_12 => ?_)
      obtain ⟨rfl, rfl, rfl⟩ := hp_12
      refine sj_bipush dX10_partingOf_15 (by decide) ?_
      refine sj_icmp_eq 48 dX10_partingOf_17 (by decide) (by omega) (by omega) (fun c_17 => ?_) (fun c_17 => ?_)
      · refine sj_inc3 (by decide) rfl dX10_partingOf_48 ?_
        refine sj_goto 2 dX10_partingOf_51 (by decide) ?_
        exact ih (i + 1) (by omega) (by rw [← hj2, if_neg (by omega)])
      · refine sj_ald0 dX10_partingOf_20 ?_
        refine sj_ild2 dX10_partingOf_21 ?_
        refine sj_ild3 dX10_partingOf_22 ?_
        refine sj_callV (cm_at hS hb (by omega)) kc_X10_190 (by assumption) rfl rfl rfl rfl (Nat.le_of_ble_eq_true rfl) dX10_partingOf_23 (fun r_23 σ_23 I_23 hp_23 => ?_)
        obtain ⟨rfl, rfl, rfl⟩ := hp_23
        refine sj_bipush dX10_partingOf_26 (by decide) ?_
        refine sj_icmp_eq 48 dX10_partingOf_28 (by decide) (by omega) (by omega) (fun c_28 => ?_) (fun c_28 => ?_)
        · refine sj_inc3 (by decide) rfl dX10_partingOf_48 ?_
          refine sj_goto 2 dX10_partingOf_51 (by decide) ?_
          exact ih (i + 1) (by omega) (by rw [← hj2, if_neg (by omega)])
        · refine sj_ald0 dX10_partingOf_31 ?_
          refine sj_ild1 dX10_partingOf_32 ?_
          refine sj_ild3 dX10_partingOf_33 ?_
          refine sj_callV (cm_at hS ha (by omega)) kc_X10_190 (by assumption) rfl rfl rfl rfl (Nat.le_of_ble_eq_true rfl) dX10_partingOf_34 (fun r_34 σ_34 I_34 hp_34 => ?_)
          obtain ⟨rfl, rfl, rfl⟩ := hp_34
          refine sj_ald0 dX10_partingOf_37 ?_
          refine sj_ild2 dX10_partingOf_38 ?_
          refine sj_ild3 dX10_partingOf_39 ?_
          refine sj_callV (cm_at hS hb (by omega)) kc_X10_190 (by assumption) rfl rfl rfl rfl (Nat.le_of_ble_eq_true rfl) dX10_partingOf_40 (fun r_40 σ_40 I_40 hp_40 => ?_)
          obtain ⟨rfl, rfl, rfl⟩ := hp_40
          refine sj_icmp_eq 48 dX10_partingOf_43 (by decide) (by omega) (by omega) (fun c_43 => ?_) (fun c_43 => ?_)
          · refine sj_inc3 (by decide) rfl dX10_partingOf_48 ?_
            refine sj_goto 2 dX10_partingOf_51 (by decide) ?_
            exact ih (i + 1) (by omega) (by rw [← hj2, if_neg (by omega)])
          · refine sj_ild3 dX10_partingOf_46 ?_
            exact sj_iret dX10_partingOf_47 rfl rfl (Nat.le_of_ble_eq_true rfl) (Nat.le_of_ble_eq_true rfl) ⟨by rw [← hj2, if_pos ⟨by omega, by omega, by omega⟩], rfl, rfl⟩
  refine sj_iconst dX10_partingOf_0 ?_
  refine sj_ist3 (by decide) rfl dX10_partingOf_1 ?_
  exact lp 400 0 (by omega) rfl
end MODEL20
