/-- what told(q) tells, q = 6 aside -/
def jTld (f : Nat → Int) (len past q : Int) : Int :=
  if q = 0 then f 0 else if q = 1 then jCnt f 8 else if q = 2 then jAs f 8 else if q = 3 then (if jPa f 8 = true then 1 else 0) else if q = 4 then len else if q = 5 then past else -1
section MODEL24
variable {l : Launch} {G : sjG} {σ : sjS} {I : sjI}
theorem cm_told {o : Nat} {M q : Int} {E : Nat → Option (List Int)} (hS : mSh σ o) (hW : mW (I (o + 1))) (hE : mEq (I (o + 1)) E) (hM : I (o + 1) 0 = M) (hM2 : 2 ≤ M ∧ M ≤ 10) (h15 : I o 15 = 0 ∨ (I o 15 = 1 ∧ mLd o M E I)) (hq : -2147483648 ≤ q ∧ q < 2147483648) : sj_Con l yX10_told mX10_told G σ I [.ref o, .int (zI q)] (fun r σ' I' => σ = σ' ∧ ((q = 6 ∧ r = some (.int (zI (jEnd (I' (o + 8)) 8))) ∧ mLy o I I' ∧ I' o 15 = 1 ∧ mLd o M E I') ∨ (q ≠ 6 ∧ I = I' ∧ r = some (.int (zI (jTld (I (o + 1)) (I o 6) (I o 2) q)))))) := by
  obtain ⟨h_o, h_w, h_past, h_images, h_text, h_read, h_made, h_old, h_values, h_ranks, h_operator, h_indexAt, h_second, h_first, h_needed, h_shifts, h_around, h_best, h_isNeeded, h_toSee, h_held, h_there⟩ := id hS
  refine sj_con_of (L0 := [some (.ref o), some (.int (zI q))]) (by decide) rfl rfl rfl (Nat.le_of_ble_eq_true rfl) rfl (fun Γ => ?_)
  have bp := jbs (jPa (I (o + 1)) 8 = true)
  have fin : ∀ x : Int, q ≠ 6 → x = jTld (I (o + 1)) (I o 6) (I o 2) q → ((fun r σ' I' => σ = σ' ∧ ((q = 6 ∧ r = some (.int (zI (jEnd (I' (o + 8)) 8))) ∧ mLy o I I' ∧ I' o 15 = 1 ∧ mLd o M E I') ∨ (q ≠ 6 ∧ I = I' ∧ r = some (.int (zI (jTld (I (o + 1)) (I o 6) (I o 2) q)))))) : sjP) (some (.int (zI x))) σ I := by
    intro x h6 hx
    subst hx
    exact ⟨rfl, Or.inr ⟨h6, rfl, rfl⟩⟩
  refine sj_ild1 dX10_told_0 ?_
  rcases (show q = 0 ∨ q = 1 ∨ q = 2 ∨ q = 3 ∨ q = 4 ∨ q = 5 ∨ q = 6 ∨ (q < 0 ∨ 6 < q) by omega) with c_1 | c_1 | c_1 | c_1 | c_1 | c_1 | c_1 | c_1
  · refine sj_tin 44 dX10_told_1 (by omega) (by omega) (by rw [c_1]; rfl) (by decide) ?_
    refine sj_ald0 dX10_told_44 ?_
    refine sj_getR fl_X10_7 (by assumption) rfl (mr_0 _) dX10_told_45 ?_
    refine sj_iconst dX10_told_48 ?_
    refine sj_iald (by assumption) (by omega) (by omega) dX10_told_49 ?_
    exact sj_iret dX10_told_50 rfl rfl (Nat.le_of_ble_eq_true rfl) (Nat.le_of_ble_eq_true rfl) (fin _ (by omega) (by unfold jTld; rw [if_pos (show q = 0 by omega)]; rfl))
  · refine sj_tin 51 dX10_told_1 (by omega) (by omega) (by rw [c_1]; rfl) (by decide) ?_
    refine sj_ald0 dX10_told_51 ?_
    refine sj_callV (cm_defined hS hW) kc_X10_199 (by assumption) rfl rfl rfl rfl (Nat.le_of_ble_eq_true rfl) dX10_told_52 (fun r_52 σ_52 I_52 hp_52 => ?_)
    obtain ⟨rfl, rfl, rfl⟩ := hp_52
    exact sj_iret dX10_told_55 rfl rfl (Nat.le_of_ble_eq_true rfl) (Nat.le_of_ble_eq_true rfl) (fin _ (by omega) (by unfold jTld; rw [if_neg (show ¬ q = 0 by omega), if_pos (show q = 1 by omega)]))
  · refine sj_tin 56 dX10_told_1 (by omega) (by omega) (by rw [c_1]; rfl) (by decide) ?_
    refine sj_ald0 dX10_told_56 ?_
    refine sj_callV (cm_allSizes hS hW) kc_X10_202 (by assumption) rfl rfl rfl rfl (Nat.le_of_ble_eq_true rfl) dX10_told_57 (fun r_57 σ_57 I_57 hp_57 => ?_)
    obtain ⟨rfl, rfl, rfl⟩ := hp_57
    exact sj_iret dX10_told_60 rfl rfl (Nat.le_of_ble_eq_true rfl) (Nat.le_of_ble_eq_true rfl) (fin _ (by omega) (by unfold jTld; rw [if_neg (show ¬ q = 0 by omega), if_neg (show ¬ q = 1 by omega), if_pos (show q = 2 by omega)]))
  · refine sj_tin 61 dX10_told_1 (by omega) (by omega) (by rw [c_1]; rfl) (by decide) ?_
    refine sj_ald0 dX10_told_61 ?_
    refine sj_callV (cm_isPlain hS hW) kc_X10_205 (by assumption) rfl rfl rfl rfl (Nat.le_of_ble_eq_true rfl) dX10_told_62 (fun r_62 σ_62 I_62 hp_62 => ?_)
    obtain ⟨rfl, rfl, rfl⟩ := hp_62
    refine sj_if_eq 72 dX10_told_65 (by decide) (by omega) (fun c_65 => ?_) (fun c_65 => ?_)
    · refine sj_iconst dX10_told_72 ?_
      exact sj_iret dX10_told_73 rfl rfl (Nat.le_of_ble_eq_true rfl) (Nat.le_of_ble_eq_true rfl) (fin _ (by omega) (by unfold jTld; rw [if_neg (show ¬ q = 0 by omega), if_neg (show ¬ q = 1 by omega), if_neg (show ¬ q = 2 by omega), if_pos (show q = 3 by omega)]; omega))
    · refine sj_iconst dX10_told_68 ?_
      refine sj_goto 73 dX10_told_69 (by decide) ?_
      exact sj_iret dX10_told_73 rfl rfl (Nat.le_of_ble_eq_true rfl) (Nat.le_of_ble_eq_true rfl) (fin _ (by omega) (by unfold jTld; rw [if_neg (show ¬ q = 0 by omega), if_neg (show ¬ q = 1 by omega), if_neg (show ¬ q = 2 by omega), if_pos (show q = 3 by omega)]; omega))
  · refine sj_tin 74 dX10_told_1 (by omega) (by omega) (by rw [c_1]; rfl) (by decide) ?_
    refine sj_ald0 dX10_told_74 ?_
    refine sj_getI fl_X10_90 (by assumption) rfl dX10_told_75 ?_
    exact sj_iret dX10_told_78 rfl rfl (Nat.le_of_ble_eq_true rfl) (Nat.le_of_ble_eq_true rfl) (fin _ (by omega) (by unfold jTld; rw [if_neg (show ¬ q = 0 by omega), if_neg (show ¬ q = 1 by omega), if_neg (show ¬ q = 2 by omega), if_neg (show ¬ q = 3 by omega), if_pos (show q = 4 by omega)]))
  · refine sj_tin 79 dX10_told_1 (by omega) (by omega) (by rw [c_1]; rfl) (by decide) ?_
    refine sj_ald0 dX10_told_79 ?_
    refine sj_getI fl_X10_82 (by assumption) rfl dX10_told_80 ?_
    exact sj_iret dX10_told_83 rfl rfl (Nat.le_of_ble_eq_true rfl) (Nat.le_of_ble_eq_true rfl) (fin _ (by omega) (by unfold jTld; rw [if_neg (show ¬ q = 0 by omega), if_neg (show ¬ q = 1 by omega), if_neg (show ¬ q = 2 by omega), if_neg (show ¬ q = 3 by omega), if_neg (show ¬ q = 4 by omega), if_pos (show q = 5 by omega)]))
  · refine sj_tin 84 dX10_told_1 (by omega) (by omega) (by rw [c_1]; rfl) (by decide) ?_
    refine sj_ald0 dX10_told_84 ?_
    refine sj_callV (cm_endless hS hW hE hM hM2 h15) kc_X10_208 (by assumption) rfl rfl rfl rfl (Nat.le_of_ble_eq_true rfl) dX10_told_85 (fun r_85 σ_85 I_85 hp_85 => ?_)
    obtain ⟨rfl, rfl, j1, j2, j3⟩ := hp_85
    exact sj_iret dX10_told_88 rfl rfl (Nat.le_of_ble_eq_true rfl) (Nat.le_of_ble_eq_true rfl) ⟨rfl, Or.inl ⟨by omega, rfl, j1, j2, j3⟩⟩
  · refine sj_tout 89 dX10_told_1 (by omega) c_1 (by decide) ?_
    refine sj_iconst dX10_told_89 ?_
    exact sj_iret dX10_told_90 rfl rfl (Nat.le_of_ble_eq_true rfl) (Nat.le_of_ble_eq_true rfl) (fin _ (by omega) (by unfold jTld; rw [if_neg (show ¬ q = 0 by omega), if_neg (show ¬ q = 1 by omega), if_neg (show ¬ q = 2 by omega), if_neg (show ¬ q = 3 by omega), if_neg (show ¬ q = 4 by omega), if_neg (show ¬ q = 5 by omega)]))
end MODEL24
