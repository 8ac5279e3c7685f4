/-- how many terms are in a text of bytes; p is the byte before -/
def jSz : Int → List Int → Int
  | _, [] => 0
  | p, c :: L => (if p = 58 then 0 else 1) + jSz c L
theorem jSz_le : ∀ (L : List Int) (p : Int), 0 ≤ jSz p L ∧ jSz p L ≤ L.length
  | [], p => by simp [jSz]
  | c :: L, p => by
    have h := jSz_le L c
    simp only [jSz, List.length_cons]
    split <;> omega
/-- how often a byte stands there -/
def jOc (b : Int) : List Int → Int
  | [] => 0
  | c :: L => (if c = b then 1 else 0) + jOc b L
theorem jOc_le (b : Int) : ∀ (L : List Int), 0 ≤ jOc b L ∧ jOc b L ≤ L.length
  | [] => by simp [jOc]
  | c :: L => by
    have h := jOc_le b L
    simp only [jOc, List.length_cons]
    split <;> omega
/-- a row that holds eight equations -/
def mW (f : Nat → Int) : Prop := ∀ a, a < 8 → (0 ≤ f (1 + 250 * a) ∧ f (1 + 250 * a) ≤ 240) ∧ ∀ j : Nat, (j : Int) < f (1 + 250 * a) → 0 ≤ f (2 + 250 * a + j) ∧ f (2 + 250 * a + j) < 128
/-- the bytes of an equation -/
def mB (f : Nat → Int) (a : Nat) : List Int := lst f (2 + 250 * a) (f (1 + 250 * a)).toNat
section MODEL3
variable {l : Launch} {G : sjG} {σ : sjS} {I : sjI}
theorem cm_bytes' {o a : Nat} (hS : mSh σ o) (ha : a < 8) : sj_Con l yX10_bytes mX10_bytes G σ I [.ref o, .int (zI a)] (fun r σ' I' => r = some (.int (zI (I (o + 1) (1 + 250 * a)))) ∧ σ = σ' ∧ I = I') := cm_bytes hS (by omega)
theorem cm_has' {o a : Nat} (hS : mSh σ o) (ha : a < 8) (hW : mW (I (o + 1))) : sj_Con l yX10_has mX10_has G σ I [.ref o, .int (zI a)] (fun r σ' I' => r = some (.int (zI (if 0 < I (o + 1) (1 + 250 * a) then 1 else 0))) ∧ σ = σ' ∧ I = I') := cm_has hS (by omega) (by have := (hW a ha).1; show _ ≤ I (o + 1) (1 + 250 * a) ∧ I (o + 1) (1 + 250 * a) < _; omega)
theorem cm_sizeOf {o a : Nat} (hS : mSh σ o) (ha : a < 8) (hW : mW (I (o + 1))) : sj_Con l yX10_sizeOf mX10_sizeOf G σ I [.ref o, .int (zI a)] (fun r σ' I' => r = some (.int (zI (jSz 0 (mB (I (o + 1)) a)))) ∧ σ = σ' ∧ I = I') := by
  obtain ⟨h_o, h_w, h_past, h_images, h_text, h_read, h_made, h_old, h_values, h_ranks, h_operator, h_indexAt, h_second, h_first, h_needed, h_shifts, h_around, h_best, h_isNeeded, h_toSee, h_held, h_there⟩ := id hS
  refine sj_con_of (L0 := [some (.ref o), some (.int (zI a)), none, none]) (by decide) rfl rfl rfl (Nat.le_of_ble_eq_true rfl) rfl (fun Γ => ?_)
  obtain ⟨hW1, hW2⟩ := hW a ha
  have lp : ∀ (d k : Nat) (n p : Int), (k : Int) + d = I (o + 1) (1 + 250 * a) → 0 ≤ n ∧ n ≤ k → (k = 0 → p = 0) → (0 < k → p = I (o + 1) (2 + 250 * a + k - 1)) → n + jSz p (lst (I (o + 1)) (2 + 250 * a + k) d) = jSz 0 (mB (I (o + 1)) a) → sj_V l Γ mX10_sizeOf G (fun r σ' I' => r = some (.int (zI (jSz 0 (mB (I (o + 1)) a)))) ∧ σ = σ' ∧ I = I') σ I 0 0 4 [some (.ref o), some (.int (zI a)), some (.int (zI n)), some (.int (zI k))] [] := by
    intro d
    induction d with
    | zero =>
      intro k n p hk hn hp0 hp1 hj
      rw [lst_zero] at hj
      simp only [jSz] at hj
      refine sj_ild3 dX10_sizeOf_4 ?_
      refine sj_ald0 dX10_sizeOf_5 ?_
      refine sj_ild1 dX10_sizeOf_6 ?_
      refine sj_callV (cm_bytes' hS ha) kc_X10_78 (by assumption) rfl rfl rfl rfl (Nat.le_of_ble_eq_true rfl) dX10_sizeOf_7 (fun r_7 σ_7 I_7 hp_7 => ?_)
      obtain ⟨rfl, rfl, rfl⟩ := hp_7
      refine sj_icmp_ge 49 dX10_sizeOf_10 (by decide) (by omega) (by omega) (fun c_10 => ?_) (fun c_10 => ?_)
      rotate_left
      · exact absurd (by omega) c_10
      refine sj_ild2 dX10_sizeOf_49 ?_
      exact sj_iret dX10_sizeOf_50 rfl rfl (Nat.le_of_ble_eq_true rfl) (Nat.le_of_ble_eq_true rfl) ⟨by rw [← hj, Int.add_zero], rfl, rfl⟩
    | succ d ih =>
      intro k n p hk hn hp0 hp1 hj
      rw [lst_cons] at hj
      simp only [jSz] at hj
      have hb := hW2 k (by omega)
      have e3 : 2 + 250 * a + k + 1 = 2 + 250 * a + (k + 1) := by omega
      rw [e3] at hj
      refine sj_ild3 dX10_sizeOf_4 ?_
      refine sj_ald0 dX10_sizeOf_5 ?_
      refine sj_ild1 dX10_sizeOf_6 ?_
      refine sj_callV (cm_bytes' hS ha) kc_X10_78 (by assumption) rfl rfl rfl rfl (Nat.le_of_ble_eq_true rfl) dX10_sizeOf_7 (fun r_7 σ_7 I_7 hp_7 => ?_)
      obtain ⟨rfl, rfl, rfl⟩ := hp_7
      refine sj_icmp_ge 49 dX10_sizeOf_10 (by decide) (by omega) (by omega) (fun c_10 => ?_) (fun c_10 => ?_)
      · exact absurd c_10 (by omega)
      refine sj_ild2 dX10_sizeOf_13 ?_
      refine sj_ild3 dX10_sizeOf_14 ?_
      refine sj_if_le 40 dX10_sizeOf_15 (by decide) (by omega) (fun c_15 => ?_) (fun c_15 => ?_)
      · refine sj_iconst dX10_sizeOf_40 ?_
        refine sj_iadd dX10_sizeOf_41 ?_
        refine sj_ist2 (by decide) rfl dX10_sizeOf_42 ?_
        refine sj_inc3 (by decide) rfl dX10_sizeOf_43 ?_
        refine sj_goto 4 dX10_sizeOf_46 (by decide) ?_
        refine ih (k + 1) _ (I (o + 1) (2 + 250 * a + k)) (by omega) (by omega) (by omega) (fun _ => by congr 1) ?_
        split at hj <;> omega
      · refine sj_ald0 dX10_sizeOf_18 ?_
        refine sj_getR fl_X10_7 (by assumption) rfl (mr_0 _) dX10_sizeOf_19 ?_
        refine sj_ild1 dX10_sizeOf_22 ?_
        refine sj_callS (cm_begin) kc_X10_106 rfl rfl (Nat.le_of_ble_eq_true rfl) dX10_sizeOf_23 (fun r_23 σ_23 I_23 hp_23 => ?_)
        obtain ⟨rfl, rfl, rfl⟩ := hp_23
        refine sj_ild3 dX10_sizeOf_26 ?_
        refine sj_iadd dX10_sizeOf_27 ?_
        refine sj_iconst dX10_sizeOf_28 ?_
        refine sj_isub dX10_sizeOf_29 ?_
        refine sj_iald (by assumption) (by omega) (by omega) dX10_sizeOf_30 ?_
        have hb2 := hW2 (k - 1) (by omega)
        have e1 : (2 + 250 * (a : Int) + (k : Int) - 1).toNat = 2 + 250 * a + k - 1 := by omega
        have e2 : 2 + 250 * a + (k - 1) = 2 + 250 * a + k - 1 := by omega
        rw [e2] at hb2
        rw [e1]
        refine sj_bipush dX10_sizeOf_31 (by decide) ?_
        refine sj_icmp_ne 40 dX10_sizeOf_33 (by decide) (by omega) (by omega) (fun c_33 => ?_) (fun c_33 => ?_)
        · refine sj_iconst dX10_sizeOf_40 ?_
          refine sj_iadd dX10_sizeOf_41 ?_
          refine sj_ist2 (by decide) rfl dX10_sizeOf_42 ?_
          refine sj_inc3 (by decide) rfl dX10_sizeOf_43 ?_
          refine sj_goto 4 dX10_sizeOf_46 (by decide) ?_
          refine ih (k + 1) _ (I (o + 1) (2 + 250 * a + k)) (by omega) (by omega) (by omega) (fun _ => by congr 1) ?_
          split at hj <;> omega
        · refine sj_iconst dX10_sizeOf_36 ?_
          refine sj_goto 41 dX10_sizeOf_37 (by decide) ?_
          refine sj_iadd dX10_sizeOf_41 ?_
          refine sj_ist2 (by decide) rfl dX10_sizeOf_42 ?_
          refine sj_inc3 (by decide) rfl dX10_sizeOf_43 ?_
          refine sj_goto 4 dX10_sizeOf_46 (by decide) ?_
          refine ih (k + 1) _ (I (o + 1) (2 + 250 * a + k)) (by omega) (by omega) (by omega) (fun _ => by congr 1) ?_
          split at hj <;> omega
  refine sj_iconst dX10_sizeOf_0 ?_
  refine sj_ist2 (by decide) rfl dX10_sizeOf_1 ?_
  refine sj_iconst dX10_sizeOf_2 ?_
  refine sj_ist3 (by decide) rfl dX10_sizeOf_3 ?_
  refine lp (I (o + 1) (1 + 250 * a)).toNat 0 0 0 (by omega) (by omega) (by omega) (by omega) ?_
  rw [Int.zero_add]; rfl
theorem cm_occurrences {o a : Nat} {b : Int} (hS : mSh σ o) (ha : a < 8) (hb : 0 ≤ b ∧ b < 8) (hW : mW (I (o + 1))) : sj_Con l yX10_occurrences mX10_occurrences G σ I [.ref o, .int (zI a), .int (zI b)] (fun r σ' I' => r = some (.int (zI (jOc (65 + b) (mB (I (o + 1)) a)))) ∧ σ = σ' ∧ I = I') := by
  obtain ⟨h_o, h_w, h_past, h_images, h_text, h_read, h_made, h_old, h_values, h_ranks, h_operator, h_indexAt, h_second, h_first, h_needed, h_shifts, h_around, h_best, h_isNeeded, h_toSee, h_held, h_there⟩ := id hS
  refine sj_con_of (L0 := [some (.ref o), some (.int (zI a)), some (.int (zI b)), none, none]) (by decide) rfl rfl rfl (Nat.le_of_ble_eq_true rfl) rfl (fun Γ => ?_)
  obtain ⟨hW1, hW2⟩ := hW a ha
  have lp : ∀ (d k : Nat) (n : Int), (k : Int) + d = I (o + 1) (1 + 250 * a) → 0 ≤ n ∧ n ≤ k → n + jOc (65 + b) (lst (I (o + 1)) (2 + 250 * a + k) d) = jOc (65 + b) (mB (I (o + 1)) a) → sj_V l Γ mX10_occurrences G (fun r σ' I' => r = some (.int (zI (jOc (65 + b) (mB (I (o + 1)) a)))) ∧ σ = σ' ∧ I = I') σ I 0 0 5 [some (.ref o), some (.int (zI a)), some (.int (zI b)), some (.int (zI n)), some (.int (zI k))] [] := by
    intro d
    induction d with
    | zero =>
      intro k n hk hn hj
      rw [lst_zero] at hj
      simp only [jOc] at hj
      refine sj_ild4 dX10_occurrences_5 ?_
      refine sj_ald0 dX10_occurrences_7 ?_
      refine sj_ild1 dX10_occurrences_8 ?_
      refine sj_callV (cm_bytes' hS ha) kc_X10_78 (by assumption) rfl rfl rfl rfl (Nat.le_of_ble_eq_true rfl) dX10_occurrences_9 (fun r_9 σ_9 I_9 hp_9 => ?_)
      obtain ⟨rfl, rfl, rfl⟩ := hp_9
      refine sj_icmp_ge 48 dX10_occurrences_12 (by decide) (by omega) (by omega) (fun c_12 => ?_) (fun c_12 => ?_)
      rotate_left
      · exact absurd (by omega) c_12
      refine sj_ild3 dX10_occurrences_48 ?_
      exact sj_iret dX10_occurrences_49 rfl rfl (Nat.le_of_ble_eq_true rfl) (Nat.le_of_ble_eq_true rfl) ⟨by rw [← hj, Int.add_zero], rfl, rfl⟩
    | succ d ih =>
      intro k n hk hn hj
      rw [lst_cons, show 2 + 250 * a + k + 1 = 2 + 250 * a + (k + 1) by omega] at hj
      simp only [jOc] at hj
      have hb2 := hW2 k (by omega)
      refine sj_ild4 dX10_occurrences_5 ?_
      refine sj_ald0 dX10_occurrences_7 ?_
      refine sj_ild1 dX10_occurrences_8 ?_
      refine sj_callV (cm_bytes' hS ha) kc_X10_78 (by assumption) rfl rfl rfl rfl (Nat.le_of_ble_eq_true rfl) dX10_occurrences_9 (fun r_9 σ_9 I_9 hp_9 => ?_)
      obtain ⟨rfl, rfl, rfl⟩ := hp_9
      refine sj_icmp_ge 48 dX10_occurrences_12 (by decide) (by omega) (by omega) (fun c_12 => ?_) (fun c_12 => ?_)
      · exact absurd c_12 (by omega)
      refine sj_ild3 dX10_occurrences_15 ?_
      refine sj_ald0 dX10_occurrences_16 ?_
      refine sj_getR fl_X10_7 (by assumption) rfl (mr_0 _) dX10_occurrences_17 ?_
      refine sj_ild1 dX10_occurrences_20 ?_
      refine sj_callS (cm_begin) kc_X10_106 rfl rfl (Nat.le_of_ble_eq_true rfl) dX10_occurrences_21 (fun r_21 σ_21 I_21 hp_21 => ?_)
      obtain ⟨rfl, rfl, rfl⟩ := hp_21
      refine sj_ild4 dX10_occurrences_24 ?_
      refine sj_iadd dX10_occurrences_26 ?_
      refine sj_iald (by assumption) (by omega) (by omega) dX10_occurrences_27 ?_
      rw [show (2 + 250 * (a : Int) + (k : Int)).toNat = 2 + 250 * a + k by omega]
      refine sj_bipush dX10_occurrences_28 (by decide) ?_
      refine sj_ild2 dX10_occurrences_30 ?_
      refine sj_iadd dX10_occurrences_31 ?_
      refine sj_icmp_ne 39 dX10_occurrences_32 (by decide) (by omega) (by omega) (fun c_32 => ?_) (fun c_32 => ?_)
      · refine sj_iconst dX10_occurrences_39 ?_
        refine sj_iadd dX10_occurrences_40 ?_
        refine sj_ist3 (by decide) rfl dX10_occurrences_41 ?_
        refine sj_inc4 (by decide) rfl dX10_occurrences_42 ?_
        refine sj_goto 5 dX10_occurrences_45 (by decide) ?_
        refine ih (k + 1) _ (by omega) (by omega) ?_
        split at hj <;> omega
      · refine sj_iconst dX10_occurrences_35 ?_
        refine sj_goto 40 dX10_occurrences_36 (by decide) ?_
        refine sj_iadd dX10_occurrences_40 ?_
        refine sj_ist3 (by decide) rfl dX10_occurrences_41 ?_
        refine sj_inc4 (by decide) rfl dX10_occurrences_42 ?_
        refine sj_goto 5 dX10_occurrences_45 (by decide) ?_
        refine ih (k + 1) _ (by omega) (by omega) ?_
        split at hj <;> omega
  refine sj_iconst dX10_occurrences_0 ?_
  refine sj_ist3 (by decide) rfl dX10_occurrences_1 ?_
  refine sj_iconst dX10_occurrences_2 ?_
  refine sj_ist4 (by decide) rfl dX10_occurrences_3 ?_
  refine lp (I (o + 1) (1 + 250 * a)).toNat 0 0 (by omega) (by omega) ?_
  rw [Int.zero_add]; rfl
end MODEL3
