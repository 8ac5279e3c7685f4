/-- the least length before a period p; -9 if it is none -/
def jAq (v : Nat → Int) (s p : Nat) : Int := if jAh v s p (200 - p) + 2 * p ≤ 200 then (jAh v s p (200 - p) : Nat) else -9
theorem jAq_rng (v : Nat → Int) (s p : Nat) : jAq v s p = -9 ∨ (0 ≤ jAq v s p ∧ jAq v s p ≤ 200) := by
  unfold jAq
  split <;> omega
/-- the least period from p on, or the length before it -/
def jPd (v : Nat → Int) (s : Nat) (w : Bool) : Nat → Nat → Int
  | 0, _ => -9
  | d + 1, p => if jAq v s p ≠ -9 then (if w = true then (p : Int) else jAq v s p) else jPd v s w d (p + 1)
section MODEL21
variable {l : Launch} {G : sjG} {σ : sjS} {I : sjI}
theorem cm_ahead {o a p : Nat} (hS : mSh σ o) (ha : a < 8) (hp : 1 ≤ p ∧ p ≤ 100) (hv : ∀ k, k < 3200 → I (o + 8) k = -9 ∨ (0 ≤ I (o + 8) k ∧ I (o + 8) k < 10)) : sj_Con l yX10_ahead mX10_ahead G σ I [.ref o, .int (zI a), .int (zI p)] (fun r σ' I' => r = some (.int (zI (jAq (I (o + 8)) (400 * a) p))) ∧ σ = σ' ∧ I = I') := by
  obtain ⟨h_o, h_w, h_past, h_images, h_text, h_read, h_made, h_old, h_values, h_ranks, h_operator, h_indexAt, h_second, h_first, h_needed, h_shifts, h_around, h_best, h_isNeeded, h_toSee, h_held, h_there⟩ := id hS
  refine sj_con_of (L0 := [some (.ref o), some (.int (zI a)), some (.int (zI p)), none]) (by decide) rfl rfl rfl (Nat.le_of_ble_eq_true rfl) rfl (fun Γ => ?_)
  have fin : ∀ q : Nat, q ≤ 200 → q = jAh (I (o + 8)) (400 * a) p (200 - p) → sj_V l Γ mX10_ahead G (fun r σ' I' => r = some (.int (zI (jAq (I (o + 8)) (400 * a) p))) ∧ σ = σ' ∧ I = I') σ I 0 0 37 [some (.ref o), some (.int (zI a)), some (.int (zI p)), some (.int (zI q))] [] := by
    intro q hq he
    have hA : jAq (I (o + 8)) (400 * a) p = if q + 2 * p ≤ 200 then (q : Int) else -9 := by unfold jAq; rw [← he]
    refine sj_ild3 dX10_ahead_37 ?_
    refine sj_iconst dX10_ahead_38 ?_
    refine sj_ild2 dX10_ahead_39 ?_
    refine sj_imul dX10_ahead_40 ?_
    refine sj_iadd dX10_ahead_41 ?_
    refine sj_sipush dX10_ahead_42 (by decide) ?_
    refine sj_icmp_gt 52 dX10_ahead_45 (by decide) (by omega) (by omega) (fun c_45 => ?_) (fun c_45 => ?_)
    · refine sj_bipush dX10_ahead_52 (by decide) ?_
      exact sj_iret dX10_ahead_54 rfl rfl (Nat.le_of_ble_eq_true rfl) (Nat.le_of_ble_eq_true rfl) ⟨by rw [hA]; first | rw [if_pos (by omega)] | rw [if_neg (by omega)], rfl, rfl⟩
    · refine sj_ild3 dX10_ahead_48 ?_
      refine sj_goto 54 dX10_ahead_49 (by decide) ?_
      exact sj_iret dX10_ahead_54 rfl rfl (Nat.le_of_ble_eq_true rfl) (Nat.le_of_ble_eq_true rfl) ⟨by rw [hA]; first | rw [if_pos (by omega)] | rw [if_neg (by omega)], rfl, rfl⟩
  have lp : ∀ (q : Nat), q ≤ 200 - p → jAh (I (o + 8)) (400 * a) p q = jAh (I (o + 8)) (400 * a) p (200 - p) → sj_V l Γ mX10_ahead G (fun r σ' I' => r = some (.int (zI (jAq (I (o + 8)) (400 * a) p))) ∧ σ = σ' ∧ I = I') σ I 0 0 6 [some (.ref o), some (.int (zI a)), some (.int (zI p)), some (.int (zI q))] [] := by
    intro q
    induction q with
    | zero =>
      intro hq hj
      refine sj_ild3 dX10_ahead_6 ?_
      refine sj_if_le 37 dX10_ahead_7 (by decide) (by omega) (fun c_7 => ?_) (fun c_7 => ?_)
      rotate_left
      · exact absurd (by omega) c_7
      exact fin 0 (by omega) hj
    | succ q ih =>
      intro hq hj
      have hv1 := hv (400 * a + q) (by omega)
      have hv2 := hv (400 * a + (q + p)) (by omega)
      have hj2 : (if I (o + 8) (400 * a + q) = I (o + 8) (400 * a + (q + p)) then jAh (I (o + 8)) (400 * a) p q else q + 1) = jAh (I (o + 8)) (400 * a) p (200 - p) := hj
      refine sj_ild3 dX10_ahead_6 ?_
      refine sj_if_le 37 dX10_ahead_7 (by decide) (by omega) (fun c_7 => ?_) (fun c_7 => ?_)
      · exact absurd c_7 (by omega)
      refine sj_ald0 dX10_ahead_10 ?_
      refine sj_ild1 dX10_ahead_11 ?_
      refine sj_ild3 dX10_ahead_12 ?_
      refine sj_iconst dX10_ahead_13 ?_
      refine sj_isub dX10_ahead_14 ?_
      rw [show ((q + 1 : Nat) : Int) - 1 = ((q : Nat) : Int) by omega]
      refine sj_callV (cm_at hS ha (by omega)) kc_X10_190 (by assumption) rfl rfl rfl rfl (Nat.le_of_ble_eq_true rfl) dX10_ahead_15 (fun r_15 σ_15 I_15 hp_15 => ?_)
      obtain ⟨rfl, rfl, rfl⟩ := hp_15
      refine sj_ald0 dX10_ahead_18 ?_
      refine sj_ild1 dX10_ahead_19 ?_
      refine sj_ild3 dX10_ahead_20 ?_
      refine sj_iconst dX10_ahead_21 ?_
      refine sj_isub dX10_ahead_22 ?_
      refine sj_ild2 dX10_ahead_23 ?_
      refine sj_iadd dX10_ahead_24 ?_
      rw [show ((q + 1 : Nat) : Int) - 1 + (p : Int) = ((q + p : Nat) : Int) by omega]
      refine sj_callV (cm_at hS ha (by omega)) kc_X10_190 (by assumption) rfl rfl rfl rfl (Nat.le_of_ble_eq_true rfl) dX10_ahead_25 (fun r_25 σ_25 I_25 hp_25 => ?_)
      obtain ⟨rfl, rfl, rfl⟩ := hp_25
      refine sj_icmp_ne 37 dX10_ahead_28 (by decide) (by omega) (by omega) (fun c_28 => ?_) (fun c_28 => ?_)
      · exact fin (q + 1) (by omega) (by rw [← hj2, if_neg c_28])
      · refine sj_inc3 (by decide) rfl dX10_ahead_31 ?_
        rw [show ((q + 1 : Nat) : Int) + -1 = ((q : Nat) : Int) by omega]
        refine sj_goto 6 dX10_ahead_34 (by decide) ?_
        exact ih (by omega) (by rw [← hj2, if_pos (by omega)])
  refine sj_sipush dX10_ahead_0 (by decide) ?_
  refine sj_ild2 dX10_ahead_3 ?_
  refine sj_isub dX10_ahead_4 ?_
  rw [show (200 : Int) - (p : Int) = ((200 - p : Nat) : Int) by omega]
  refine sj_ist3 (by decide) rfl dX10_ahead_5 ?_
  exact lp (200 - p) (Nat.le_refl _) rfl
theorem cm_period {o a : Nat} {w : Bool} (hS : mSh σ o) (ha : a < 8) (hv : ∀ k, k < 3200 → I (o + 8) k = -9 ∨ (0 ≤ I (o + 8) k ∧ I (o + 8) k < 10)) : sj_Con l yX10_period mX10_period G σ I [.ref o, .int (zI a), .int (zI (if w = true then 1 else 0))] (fun r σ' I' => r = some (.int (zI (if jRh (I (o + 8)) (400 * a) 400 0 < 200 then -9 else jPd (I (o + 8)) (400 * a) w 100 1))) ∧ σ = σ' ∧ I = I') := by
  obtain ⟨h_o, h_w, h_past, h_images, h_text, h_read, h_made, h_old, h_values, h_ranks, h_operator, h_indexAt, h_second, h_first, h_needed, h_shifts, h_around, h_best, h_isNeeded, h_toSee, h_held, h_there⟩ := id hS
  refine sj_con_of (L0 := [some (.ref o), some (.int (zI a)), some (.int (zI (if w = true then 1 else 0))), none]) (by decide) rfl rfl rfl (Nat.le_of_ble_eq_true rfl) rfl (fun Γ => ?_)
  have hr := jRh_le (I (o + 8)) (400 * a) 400 0
  have hw := jbs (w = true)
  have lp : ¬ jRh (I (o + 8)) (400 * a) 400 0 < 200 → ∀ (d p : Nat), p + d = 101 → 1 ≤ p → jPd (I (o + 8)) (400 * a) w d p = jPd (I (o + 8)) (400 * a) w 100 1 → sj_V l Γ mX10_period G (fun r σ' I' => r = some (.int (zI (if jRh (I (o + 8)) (400 * a) 400 0 < 200 then -9 else jPd (I (o + 8)) (400 * a) w 100 1))) ∧ σ = σ' ∧ I = I') σ I 0 0 16 [some (.ref o), some (.int (zI a)), some (.int (zI (if w = true then 1 else 0))), some (.int (zI p))] [] := by
    intro h200 d
    induction d with
    | zero =>
      intro p hp hp1 hj
      have hj2 : (-9 : Int) = jPd (I (o + 8)) (400 * a) w 100 1 := hj
      refine sj_ild3 dX10_period_16 ?_
      refine sj_bipush dX10_period_17 (by decide) ?_
      refine sj_icmp_gt 54 dX10_period_19 (by decide) (by omega) (by omega) (fun c_19 => ?_) (fun c_19 => ?_)
      rotate_left
      · exact absurd (by omega) c_19
      refine sj_bipush dX10_period_54 (by decide) ?_
      exact sj_iret dX10_period_56 rfl rfl (Nat.le_of_ble_eq_true rfl) (Nat.le_of_ble_eq_true rfl) ⟨by rw [if_neg h200, ← hj2], rfl, rfl⟩
    | succ d ih =>
      intro p hp hp1 hj
      have hj2 : (if jAq (I (o + 8)) (400 * a) p ≠ -9 then (if w = true then (p : Int) else jAq (I (o + 8)) (400 * a) p) else jPd (I (o + 8)) (400 * a) w d (p + 1)) = jPd (I (o + 8)) (400 * a) w 100 1 := hj
      have hq := jAq_rng (I (o + 8)) (400 * a) p
      refine sj_ild3 dX10_period_16 ?_
      refine sj_bipush dX10_period_17 (by decide) ?_
      refine sj_icmp_gt 54 dX10_period_19 (by decide) (by omega) (by omega) (fun c_19 => ?_) (fun c_19 => ?_)
      · exact absurd c_19 (by omega)
      refine sj_ald0 dX10_period_22 ?_
      refine sj_ild1 dX10_period_23 ?_
      refine sj_ild3 dX10_period_24 ?_
      refine sj_callV (cm_ahead hS ha (by omega) hv) kc_X10_222 (by assumption) rfl rfl rfl rfl (Nat.le_of_ble_eq_true rfl) dX10_period_25 (fun r_25 σ_25 I_25 hp_25 => ?_)
      obtain ⟨rfl, rfl, rfl⟩ := hp_25
      refine sj_bipush dX10_period_28 (by decide) ?_
      refine sj_icmp_eq 48 dX10_period_30 (by decide) (by omega) (by omega) (fun c_30 => ?_) (fun c_30 => ?_)
      · refine sj_inc3 (by decide) rfl dX10_period_48 ?_
        refine sj_goto 16 dX10_period_51 (by decide) ?_
        exact ih (p + 1) (by omega) (by omega) (by rw [← hj2, if_neg (fun z => z c_30)])
      · refine sj_ild2 dX10_period_33 ?_
        refine sj_if_eq 41 dX10_period_34 (by decide) (by rcases hw with ⟨z, -⟩ | ⟨z, -⟩ <;> rw [z] <;> omega) (fun c_34 => ?_) (fun c_34 => ?_)
        · refine sj_ald0 dX10_period_41 ?_
          refine sj_ild1 dX10_period_42 ?_
          refine sj_ild3 dX10_period_43 ?_
          refine sj_callV (cm_ahead hS ha (by omega) hv) kc_X10_222 (by assumption) rfl rfl rfl rfl (Nat.le_of_ble_eq_true rfl) dX10_period_44 (fun r_44 σ_44 I_44 hp_44 => ?_)
          obtain ⟨rfl, rfl, rfl⟩ := hp_44
          exact sj_iret dX10_period_47 rfl rfl (Nat.le_of_ble_eq_true rfl) (Nat.le_of_ble_eq_true rfl) ⟨by rw [if_neg h200, ← hj2, if_pos c_30]; rcases hw with ⟨z, z2⟩ | ⟨z, z2⟩ <;> first | (exfalso; omega) | rw [if_pos z2] | rw [if_neg z2], rfl, rfl⟩
        · refine sj_ild3 dX10_period_37 ?_
          refine sj_goto 47 dX10_period_38 (by decide) ?_
          exact sj_iret dX10_period_47 rfl rfl (Nat.le_of_ble_eq_true rfl) (Nat.le_of_ble_eq_true rfl) ⟨by rw [if_neg h200, ← hj2, if_pos c_30]; rcases hw with ⟨z, z2⟩ | ⟨z, z2⟩ <;> first | (exfalso; omega) | rw [if_pos z2] | rw [if_neg z2], rfl, rfl⟩
  refine sj_ald0 dX10_period_0 ?_
  refine sj_ild1 dX10_period_1 ?_
  refine sj_callV (cm_reach hS ha hv) kc_X10_196 (by assumption) rfl rfl rfl rfl (Nat.le_of_ble_eq_true rfl) dX10_period_2 (fun r_2 σ_2 I_2 hp_2 => ?_)
  obtain ⟨rfl, rfl, rfl⟩ := hp_2
  refine sj_sipush dX10_period_5 (by decide) ?_
  refine sj_icmp_ge 14 dX10_period_8 (by decide) (by omega) (by omega) (fun c_8 => ?_) (fun c_8 => ?_)
  · refine sj_iconst dX10_period_14 ?_
    refine sj_ist3 (by decide) rfl dX10_period_15 ?_
    exact lp (by omega) 100 1 (by omega) (by omega) rfl
  · refine sj_bipush dX10_period_11 (by decide) ?_
    exact sj_iret dX10_period_13 rfl rfl (Nat.le_of_ble_eq_true rfl) (Nat.le_of_ble_eq_true rfl) ⟨by rw [if_pos (by omega)], rfl, rfl⟩
end MODEL21
