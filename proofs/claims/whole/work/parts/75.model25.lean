/-- the greatest index among the cells 1 to n of a queue -/
def jHi (f : Nat → Int) : Nat → Int
  | 0 => -9
  | n + 1 => if jHi f n < f (n + 1) % 400 then f (n + 1) % 400 else jHi f n
/-- the streams of the cells 1 to n of a queue, as a set of bits -/
def jSs (f : Nat → Int) : Nat → Nat
  | 0 => 0
  | n + 1 => jSs f n ||| 2 ^ (f (n + 1) / 400).toNat
theorem jHi_rng (f : Nat → Int) : ∀ n, jHi f n = -9 ∨ (0 ≤ jHi f n ∧ jHi f n < 400)
  | 0 => Or.inl rfl
  | n + 1 => by
    have h := jHi_rng f n
    simp only [jHi]
    split
    · exact Or.inr (by omega)
    · exact h
theorem jHi_congr {f g : Nat → Int} : ∀ n, (∀ j, j ≤ n → f j = g j) → jHi f n = jHi g n
  | 0, _ => rfl
  | n + 1, h => by
    simp only [jHi]
    rw [jHi_congr n (fun j hj => h j (by omega)), h (n + 1) (by omega)]
theorem jSs_congr {f g : Nat → Int} : ∀ n, (∀ j, j ≤ n → f j = g j) → jSs f n = jSs g n
  | 0, _ => rfl
  | n + 1, h => by
    simp only [jSs]
    rw [jSs_congr n (fun j hj => h j (by omega)), h (n + 1) (by omega)]
theorem jSs_lt {f : Nat → Int} : ∀ n, (∀ j, j ≤ n → 0 ≤ f j ∧ f j < 3200) → jSs f n < 1024
  | 0, _ => by simp [jSs]
  | n + 1, h => by
    have h1 := jSs_lt n (fun j hj => h j (by omega))
    have h2 := h (n + 1) (by omega)
    simp only [jSs]
    exact or_lt _ h1 _ (by omega)
section MODEL25
variable {l : Launch} {G : sjG} {σ : sjS} {I : sjI}
theorem cm_highestNeeded {o n : Nat} (hS : mSh σ o) (hn : n < 3200) (hc : ∀ j, j ≤ n → 0 ≤ I (o + 19) j ∧ I (o + 19) j < 3200) : sj_Con l yX10_highestNeeded mX10_highestNeeded G σ I [.ref o, .int (zI n)] (fun r σ' I' => r = some (.int (zI (jHi (I (o + 19)) n))) ∧ σ = σ' ∧ I = I') := by
  obtain ⟨h_o, h_w, h_past, h_images, h_text, h_read, h_made, h_old, h_values, h_ranks, h_operator, h_indexAt, h_second, h_first, h_needed, h_shifts, h_around, h_best, h_isNeeded, h_toSee, h_held, h_there⟩ := id hS
  refine sj_con_of (L0 := [some (.ref o), some (.int (zI n)), none, none]) (by decide) rfl rfl rfl (Nat.le_of_ble_eq_true rfl) rfl (fun Γ => ?_)
  have lp : ∀ (d i : Nat), i + d = n → sj_V l Γ mX10_highestNeeded G (fun r σ' I' => r = some (.int (zI (jHi (I (o + 19)) n))) ∧ σ = σ' ∧ I = I') σ I 0 0 5 [some (.ref o), some (.int (zI n)), some (.int (zI (jHi (I (o + 19)) i))), some (.int (zI (i + 1 : Nat)))] [] := by
    intro d
    induction d with
    | zero =>
      intro i hi
      have hin : i = n := by omega
      subst hin
      refine sj_ild3 dX10_highestNeeded_5 ?_
      refine sj_ild1 dX10_highestNeeded_6 ?_
      refine sj_icmp_gt 45 dX10_highestNeeded_7 (by decide) (by omega) (by omega) (fun c_7 => ?_) (fun c_7 => ?_)
      rotate_left
      · exact absurd (by omega) c_7
      refine sj_ild2 dX10_highestNeeded_45 ?_
      exact sj_iret dX10_highestNeeded_46 rfl rfl (Nat.le_of_ble_eq_true rfl) (Nat.le_of_ble_eq_true rfl) ⟨rfl, rfl, rfl⟩
    | succ d ih =>
      intro i hi
      have hci := hc (i + 1) (by omega)
      have hr := jHi_rng (I (o + 19)) i
      have hs : jHi (I (o + 19)) (i + 1) = if jHi (I (o + 19)) i < I (o + 19) (i + 1) % 400 then I (o + 19) (i + 1) % 400 else jHi (I (o + 19)) i := rfl
      have hn := ih (i + 1) (by omega)
      rw [hs] at hn
      refine sj_ild3 dX10_highestNeeded_5 ?_
      refine sj_ild1 dX10_highestNeeded_6 ?_
      refine sj_icmp_gt 45 dX10_highestNeeded_7 (by decide) (by omega) (by omega) (fun c_7 => ?_) (fun c_7 => ?_)
      · exact absurd c_7 (by omega)
      refine sj_ald0 dX10_highestNeeded_10 ?_
      refine sj_getR fl_X10_65 (by assumption) rfl (mr_28 _) dX10_highestNeeded_11 ?_
      refine sj_ild3 dX10_highestNeeded_14 ?_
      refine sj_ialdJ ((i + 1)) (by assumption) (by omega) (by omega) (by omega) dX10_highestNeeded_15 ?_
      refine sj_sipush dX10_highestNeeded_16 (by decide) ?_
      refine sj_irem dX10_highestNeeded_19 (by omega) (by omega) ?_
      refine sj_ild2 dX10_highestNeeded_20 ?_
      refine sj_icmp_le 37 dX10_highestNeeded_21 (by decide) (by omega) (by omega) (fun c_21 => ?_) (fun c_21 => ?_)
      · refine sj_ild2 dX10_highestNeeded_37 ?_
        refine sj_ist2 (by decide) rfl dX10_highestNeeded_38 ?_
        refine sj_inc3 (by decide) rfl dX10_highestNeeded_39 ?_
        refine sj_goto 5 dX10_highestNeeded_42 (by decide) ?_
        first | (rw [if_pos (by omega)] at hn; exact hn) | (rw [if_neg (by omega)] at hn; exact hn)
      · refine sj_ald0 dX10_highestNeeded_24 ?_
        refine sj_getR fl_X10_65 (by assumption) rfl (mr_28 _) dX10_highestNeeded_25 ?_
        refine sj_ild3 dX10_highestNeeded_28 ?_
        refine sj_ialdJ ((i + 1)) (by assumption) (by omega) (by omega) (by omega) dX10_highestNeeded_29 ?_
        refine sj_sipush dX10_highestNeeded_30 (by decide) ?_
        refine sj_irem dX10_highestNeeded_33 (by omega) (by omega) ?_
        refine sj_goto 38 dX10_highestNeeded_34 (by decide) ?_
        refine sj_ist2 (by decide) rfl dX10_highestNeeded_38 ?_
        refine sj_inc3 (by decide) rfl dX10_highestNeeded_39 ?_
        refine sj_goto 5 dX10_highestNeeded_42 (by decide) ?_
        first | (rw [if_pos (by omega)] at hn; exact hn) | (rw [if_neg (by omega)] at hn; exact hn)
  refine sj_bipush dX10_highestNeeded_0 (by decide) ?_
  refine sj_ist2 (by decide) rfl dX10_highestNeeded_2 ?_
  refine sj_iconst dX10_highestNeeded_3 ?_
  refine sj_ist3 (by decide) rfl dX10_highestNeeded_4 ?_
  exact lp n 0 (by omega)
theorem cm_streamsNeeded {o n : Nat} (hS : mSh σ o) (hn : n < 3200) (hc : ∀ j, j ≤ n → 0 ≤ I (o + 19) j ∧ I (o + 19) j < 3200) : sj_Con l yX10_streamsNeeded mX10_streamsNeeded G σ I [.ref o, .int (zI n)] (fun r σ' I' => r = some (.int (zI (jPc (jSs (I (o + 19)) n) : Nat))) ∧ σ = σ' ∧ I = I') := by
  obtain ⟨h_o, h_w, h_past, h_images, h_text, h_read, h_made, h_old, h_values, h_ranks, h_operator, h_indexAt, h_second, h_first, h_needed, h_shifts, h_around, h_best, h_isNeeded, h_toSee, h_held, h_there⟩ := id hS
  refine sj_con_of (L0 := [some (.ref o), some (.int (zI n)), none, none, none, none]) (by decide) rfl rfl rfl (Nat.le_of_ble_eq_true rfl) rfl (fun Γ => ?_)
  have lp : ∀ (d i : Nat), i + d = n → sj_V l Γ mX10_streamsNeeded G (fun r σ' I' => r = some (.int (zI (jPc (jSs (I (o + 19)) n) : Nat))) ∧ σ = σ' ∧ I = I') σ I 0 0 7 [some (.ref o), some (.int (zI n)), some (.int (zI (jSs (I (o + 19)) i : Nat))), some (.int (zI (jPc (jSs (I (o + 19)) i) : Nat))), some (.int (zI (i + 1 : Nat))), none] [] := by
    intro d
    induction d with
    | zero =>
      intro i hi
      have hin : i = n := by omega
      subst hin
      refine sj_ild4 dX10_streamsNeeded_7 ?_
      refine sj_ild1 dX10_streamsNeeded_9 ?_
      refine sj_icmp_gt 56 dX10_streamsNeeded_10 (by decide) (by omega) (by omega) (fun c_10 => ?_) (fun c_10 => ?_)
      rotate_left
      · exact absurd (by omega) c_10
      refine sj_ild3 dX10_streamsNeeded_56 ?_
      exact sj_iret dX10_streamsNeeded_57 rfl rfl (Nat.le_of_ble_eq_true rfl) (Nat.le_of_ble_eq_true rfl) ⟨rfl, rfl, rfl⟩
    | succ d ih =>
      intro i hi
      have hci := hc (i + 1) (by omega)
      have hlt := jSs_lt i (fun j hj => hc j (by omega))
      obtain ⟨c, hcc⟩ := jNat (a := I (o + 19) (i + 1) / 400) (by omega)
      have hs : jSs (I (o + 19)) (i + 1) = jSs (I (o + 19)) i ||| 2 ^ c := by
        show jSs (I (o + 19)) i ||| 2 ^ (I (o + 19) (i + 1) / 400).toNat = _
        rw [hcc]; rfl
      have hp := jPc_or _ hlt c (by omega)
      have hple := jPc_le (jSs (I (o + 19)) i)
      have hd : jSs (I (o + 19)) i / 2 ^ c < 1024 := Nat.lt_of_le_of_lt (Nat.div_le_self _ _) hlt
      have hn := ih (i + 1) (by omega)
      rw [hs, hp] at hn
      refine sj_ild4 dX10_streamsNeeded_7 ?_
      refine sj_ild1 dX10_streamsNeeded_9 ?_
      refine sj_icmp_gt 56 dX10_streamsNeeded_10 (by decide) (by omega) (by omega) (fun c_10 => ?_) (fun c_10 => ?_)
      · exact absurd c_10 (by omega)
      refine sj_ald0 dX10_streamsNeeded_13 ?_
      refine sj_getR fl_X10_65 (by assumption) rfl (mr_28 _) dX10_streamsNeeded_14 ?_
      refine sj_ild4 dX10_streamsNeeded_17 ?_
      refine sj_ialdJ ((i + 1)) (by assumption) (by omega) (by omega) (by omega) dX10_streamsNeeded_19 ?_
      refine sj_sipush dX10_streamsNeeded_20 (by decide) ?_
      refine sj_idiv dX10_streamsNeeded_23 (by omega) (by omega) ?_
      rw [hcc]
      refine sj_ist5 (by decide) rfl dX10_streamsNeeded_24 ?_
      refine sj_ild3 dX10_streamsNeeded_26 ?_
      refine sj_ild2 dX10_streamsNeeded_27 ?_
      refine sj_ild5 dX10_streamsNeeded_28 ?_
      refine sj_ishr dX10_streamsNeeded_30 (zI_shr1 _ hlt c (by omega)) ?_
      refine sj_iconst dX10_streamsNeeded_31 ?_
      refine sj_iand dX10_streamsNeeded_32 (zI_and1 _ hd) ?_
      refine sj_if_ne 40 dX10_streamsNeeded_33 (by decide) (by omega) (fun c_33 => ?_) (fun c_33 => ?_)
      · refine sj_iconst dX10_streamsNeeded_40 ?_
        refine sj_iadd dX10_streamsNeeded_41 ?_
        refine sj_ist3 (by decide) rfl dX10_streamsNeeded_42 ?_
        refine sj_ild2 dX10_streamsNeeded_43 ?_
        refine sj_iconst dX10_streamsNeeded_44 ?_
        refine sj_ild5 dX10_streamsNeeded_45 ?_
        refine sj_ishl dX10_streamsNeeded_47 (zI_shl1 c (by omega)) ?_
        refine sj_ior dX10_streamsNeeded_48 (zI_or1 _ hlt c (by omega)) ?_
        refine sj_ist2 (by decide) rfl dX10_streamsNeeded_49 ?_
        refine sj_inc4 (by decide) rfl dX10_streamsNeeded_50 ?_
        refine sj_goto 7 dX10_streamsNeeded_53 (by decide) ?_
        refine sj_fg5 ?_
        first | (rw [if_pos (by omega)] at hn; exact hn) | (rw [if_neg (by omega)] at hn; exact hn)
      · refine sj_iconst dX10_streamsNeeded_36 ?_
        refine sj_goto 41 dX10_streamsNeeded_37 (by decide) ?_
        refine sj_iadd dX10_streamsNeeded_41 ?_
        refine sj_ist3 (by decide) rfl dX10_streamsNeeded_42 ?_
        refine sj_ild2 dX10_streamsNeeded_43 ?_
        refine sj_iconst dX10_streamsNeeded_44 ?_
        refine sj_ild5 dX10_streamsNeeded_45 ?_
        refine sj_ishl dX10_streamsNeeded_47 (zI_shl1 c (by omega)) ?_
        refine sj_ior dX10_streamsNeeded_48 (zI_or1 _ hlt c (by omega)) ?_
        refine sj_ist2 (by decide) rfl dX10_streamsNeeded_49 ?_
        refine sj_inc4 (by decide) rfl dX10_streamsNeeded_50 ?_
        refine sj_goto 7 dX10_streamsNeeded_53 (by decide) ?_
        refine sj_fg5 ?_
        first | (rw [if_pos (by omega)] at hn; exact hn) | (rw [if_neg (by omega)] at hn; exact hn)
  refine sj_iconst dX10_streamsNeeded_0 ?_
  refine sj_ist2 (by decide) rfl dX10_streamsNeeded_1 ?_
  refine sj_iconst dX10_streamsNeeded_2 ?_
  refine sj_ist3 (by decide) rfl dX10_streamsNeeded_3 ?_
  refine sj_iconst dX10_streamsNeeded_4 ?_
  refine sj_ist4 (by decide) rfl dX10_streamsNeeded_5 ?_
  have h := lp n 0 (by omega)
  rw [show jSs (I (o + 19)) 0 = 0 from rfl, show jPc 0 = 0 from rfl] at h
  exact h
end MODEL25
