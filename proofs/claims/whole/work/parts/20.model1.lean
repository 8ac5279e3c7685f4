/-- the references of the reference object at o: its rows stand behind it -/
def mρ (o : Nat) : Nat → Option Nat := (sj_ru (sj_ru (sj_ru (sj_ru (sj_ru (sj_ru (sj_ru (sj_ru (sj_ru (sj_ru (sj_ru (sj_ru (sj_ru (sj_ru (sj_ru (sj_ru (sj_ru (sj_ru (sj_ru (sj_ru (sj_ru (fun _ => none) 0 (some (o + 1))) 1 (some (o + 2))) 3 (some (o + 3))) 5 (some (o + 4))) 7 (some (o + 5))) 9 (some (o + 6))) 10 (some (o + 7))) 13 (some (o + 8))) 14 (some (o + 9))) 16 (some (o + 10))) 17 (some (o + 11))) 18 (some (o + 12))) 19 (some (o + 13))) 20 (some (o + 14))) 24 (some (o + 15))) 25 (some (o + 16))) 26 (some (o + 17))) 27 (some (o + 18))) 28 (some (o + 19))) 29 (some (o + 20))) 30 (some (o + 21)))
theorem mr_0 (o : Nat) : mρ o 0 = some (o + 1) := rfl
theorem mr_1 (o : Nat) : mρ o 1 = some (o + 2) := rfl
theorem mr_3 (o : Nat) : mρ o 3 = some (o + 3) := rfl
theorem mr_5 (o : Nat) : mρ o 5 = some (o + 4) := rfl
theorem mr_7 (o : Nat) : mρ o 7 = some (o + 5) := rfl
theorem mr_9 (o : Nat) : mρ o 9 = some (o + 6) := rfl
theorem mr_10 (o : Nat) : mρ o 10 = some (o + 7) := rfl
theorem mr_13 (o : Nat) : mρ o 13 = some (o + 8) := rfl
theorem mr_14 (o : Nat) : mρ o 14 = some (o + 9) := rfl
theorem mr_16 (o : Nat) : mρ o 16 = some (o + 10) := rfl
theorem mr_17 (o : Nat) : mρ o 17 = some (o + 11) := rfl
theorem mr_18 (o : Nat) : mρ o 18 = some (o + 12) := rfl
theorem mr_19 (o : Nat) : mρ o 19 = some (o + 13) := rfl
theorem mr_20 (o : Nat) : mρ o 20 = some (o + 14) := rfl
theorem mr_24 (o : Nat) : mρ o 24 = some (o + 15) := rfl
theorem mr_25 (o : Nat) : mρ o 25 = some (o + 16) := rfl
theorem mr_26 (o : Nat) : mρ o 26 = some (o + 17) := rfl
theorem mr_27 (o : Nat) : mρ o 27 = some (o + 18) := rfl
theorem mr_28 (o : Nat) : mρ o 28 = some (o + 19) := rfl
theorem mr_29 (o : Nat) : mρ o 29 = some (o + 20) := rfl
theorem mr_30 (o : Nat) : mρ o 30 = some (o + 21) := rfl
/-- what stands at o and behind it -/
def mSh (σ : sjS) (o : Nat) : Prop := σ.2 o = some (9, 0, mρ o) ∧ σ.2 (o + 1) = some (10, 2001, fun _ => none) ∧ σ.2 (o + 2) = some (10, 16008, fun _ => none) ∧ σ.2 (o + 3) = some (10, 4002, fun _ => none) ∧ σ.2 (o + 4) = some (10, 80, fun _ => none) ∧ σ.2 (o + 5) = some (10, 80, fun _ => none) ∧ σ.2 (o + 6) = some (10, 500, fun _ => none) ∧ σ.2 (o + 7) = some (10, 500, fun _ => none) ∧ σ.2 (o + 8) = some (10, 3200, fun _ => none) ∧ σ.2 (o + 9) = some (10, 3200, fun _ => none) ∧ σ.2 (o + 10) = some (10, 130, fun _ => none) ∧ σ.2 (o + 11) = some (10, 130, fun _ => none) ∧ σ.2 (o + 12) = some (10, 130, fun _ => none) ∧ σ.2 (o + 13) = some (10, 130, fun _ => none) ∧ σ.2 (o + 14) = some (10, 130, fun _ => none) ∧ σ.2 (o + 15) = some (10, 64, fun _ => none) ∧ σ.2 (o + 16) = some (10, 130, fun _ => none) ∧ σ.2 (o + 17) = some (10, 2048, fun _ => none) ∧ σ.2 (o + 18) = some (12, 3200, fun _ => none) ∧ σ.2 (o + 19) = some (10, 3200, fun _ => none) ∧ σ.2 (o + 20) = some (10, 2001, fun _ => none) ∧ σ.2 (o + 21) = some (10, 400, fun _ => none)
section MODEL1
variable {l : Launch} {G : sjG} {σ : sjS} {I : sjI}
theorem cm_isIn {v a b : Int} (hv : -2147483648 ≤ v ∧ v < 2147483648) (ha : -2147483648 ≤ a ∧ a < 2147483648) (hb : -2147483648 ≤ b ∧ b < 2147483648) : sj_Con l yX10_isIn mX10_isIn G σ I [.int (zI v), .int (zI a), .int (zI b)] (fun r σ' I' => r = some (.int (zI (if a ≤ v ∧ v ≤ b then 1 else 0))) ∧ σ = σ' ∧ I = I') := by
  refine sj_con_of (L0 := [some (.int (zI v)), some (.int (zI a)), some (.int (zI b))]) (by decide) rfl rfl rfl (Nat.le_of_ble_eq_true rfl) rfl (fun Γ => ?_)
  refine sj_ild0 dX10_isIn_0 ?_
  refine sj_ild1 dX10_isIn_1 ?_
  refine sj_icmp_lt 14 dX10_isIn_2 (by decide) (by omega) (by omega) (fun c_2 => ?_) (fun c_2 => ?_)
  · refine sj_iconst dX10_isIn_14 ?_
    exact sj_iret dX10_isIn_15 rfl (by decide) (Nat.le_of_ble_eq_true rfl) (Nat.le_of_ble_eq_true rfl) ⟨(by first | rw [if_pos (by omega)] | rw [if_neg (by omega)]), rfl, rfl⟩
  · refine sj_ild0 dX10_isIn_5 ?_
    refine sj_ild2 dX10_isIn_6 ?_
    refine sj_icmp_gt 14 dX10_isIn_7 (by decide) (by omega) (by omega) (fun c_7 => ?_) (fun c_7 => ?_)
    · refine sj_iconst dX10_isIn_14 ?_
      exact sj_iret dX10_isIn_15 rfl (by decide) (Nat.le_of_ble_eq_true rfl) (Nat.le_of_ble_eq_true rfl) ⟨(by first | rw [if_pos (by omega)] | rw [if_neg (by omega)]), rfl, rfl⟩
    · refine sj_iconst dX10_isIn_10 ?_
      refine sj_goto 15 dX10_isIn_11 (by decide) ?_
      exact sj_iret dX10_isIn_15 rfl (by decide) (Nat.le_of_ble_eq_true rfl) (Nat.le_of_ble_eq_true rfl) ⟨(by first | rw [if_pos (by omega)] | rw [if_neg (by omega)]), rfl, rfl⟩
theorem cm_isStream {a : Int} (ha : -2147483648 ≤ a ∧ a < 2147483648) : sj_Con l yX10_isStream mX10_isStream G σ I [.int (zI a)] (fun r σ' I' => r = some (.int (zI (if 0 ≤ a ∧ a ≤ 7 then 1 else 0))) ∧ σ = σ' ∧ I = I') := by
  refine sj_con_of (L0 := [some (.int (zI a))]) (by decide) rfl rfl rfl (Nat.le_of_ble_eq_true rfl) rfl (fun Γ => ?_)
  refine sj_ild0 dX10_isStream_0 ?_
  refine sj_iconst dX10_isStream_1 ?_
  refine sj_bipush dX10_isStream_2 (by decide) ?_
  refine sj_callS (cm_isIn (by omega) (by omega) (by omega)) kc_X10_74 rfl rfl (Nat.le_of_ble_eq_true rfl) dX10_isStream_4 (fun r_4 σ_4 I_4 hp_4 => ?_)
  obtain ⟨rfl, rfl, rfl⟩ := hp_4
  exact sj_iret dX10_isStream_7 rfl (by split <;> decide) (Nat.le_of_ble_eq_true rfl) (Nat.le_of_ble_eq_true rfl) ⟨rfl, rfl, rfl⟩
theorem cm_isImage {a : Int} (ha : -2147483648 ≤ a ∧ a < 2147483648) : sj_Con l yX10_isImage mX10_isImage G σ I [.int (zI a)] (fun r σ' I' => r = some (.int (zI (if 0 ≤ a ∧ a ≤ 1 then 1 else 0))) ∧ σ = σ' ∧ I = I') := by
  refine sj_con_of (L0 := [some (.int (zI a))]) (by decide) rfl rfl rfl (Nat.le_of_ble_eq_true rfl) rfl (fun Γ => ?_)
  refine sj_ild0 dX10_isImage_0 ?_
  refine sj_iconst dX10_isImage_1 ?_
  refine sj_iconst dX10_isImage_2 ?_
  refine sj_callS (cm_isIn (by omega) (by omega) (by omega)) kc_X10_74 rfl rfl (Nat.le_of_ble_eq_true rfl) dX10_isImage_3 (fun r_3 σ_3 I_3 hp_3 => ?_)
  obtain ⟨rfl, rfl, rfl⟩ := hp_3
  exact sj_iret dX10_isImage_6 rfl (by split <;> decide) (Nat.le_of_ble_eq_true rfl) (Nat.le_of_ble_eq_true rfl) ⟨rfl, rfl, rfl⟩
theorem cm_begin {a : Int} : sj_Con l yX10_begin mX10_begin G σ I [.int (zI a)] (fun r σ' I' => r = some (.int (zI (2 + 250 * a))) ∧ σ = σ' ∧ I = I') := by
  refine sj_con_of (L0 := [some (.int (zI a))]) (by decide) rfl rfl rfl (Nat.le_of_ble_eq_true rfl) rfl (fun Γ => ?_)
  refine sj_iconst dX10_begin_0 ?_
  refine sj_sipush dX10_begin_1 (by decide) ?_
  refine sj_ild0 dX10_begin_4 ?_
  refine sj_imul dX10_begin_5 ?_
  refine sj_iadd dX10_begin_6 ?_
  exact sj_iret dX10_begin_7 rfl rfl (Nat.le_of_ble_eq_true rfl) (Nat.le_of_ble_eq_true rfl) ⟨rfl, rfl, rfl⟩
theorem cm_bytes {o : Nat} {a : Int} (hS : mSh σ o) (ha : 0 ≤ a ∧ a < 8) : sj_Con l yX10_bytes mX10_bytes G σ I [.ref o, .int (zI a)] (fun r σ' I' => r = some (.int (zI (I (o + 1) (1 + 250 * a).toNat))) ∧ σ = σ' ∧ I = I') := by
  obtain ⟨h_o, h_w, h_past, h_images, h_text, h_read, h_made, h_old, h_values, h_ranks, h_operator, h_indexAt, h_second, h_first, h_needed, h_shifts, h_around, h_best, h_isNeeded, h_toSee, h_held, h_there⟩ := id hS
  refine sj_con_of (L0 := [some (.ref o), some (.int (zI a))]) (by decide) rfl rfl rfl (Nat.le_of_ble_eq_true rfl) rfl (fun Γ => ?_)
  refine sj_ald0 dX10_bytes_0 ?_
  refine sj_getR fl_X10_7 (by assumption) rfl (mr_0 _) dX10_bytes_1 ?_
  refine sj_iconst dX10_bytes_4 ?_
  refine sj_sipush dX10_bytes_5 (by decide) ?_
  refine sj_ild1 dX10_bytes_8 ?_
  refine sj_imul dX10_bytes_9 ?_
  refine sj_iadd dX10_bytes_10 ?_
  refine sj_iald (by assumption) (by omega) (by omega) dX10_bytes_11 ?_
  exact sj_iret dX10_bytes_12 rfl rfl (Nat.le_of_ble_eq_true rfl) (Nat.le_of_ble_eq_true rfl) ⟨rfl, rfl, rfl⟩
theorem cm_has {o : Nat} {a : Int} (hS : mSh σ o) (ha : 0 ≤ a ∧ a < 8) (hw : -2147483648 ≤ I (o + 1) (1 + 250 * a).toNat ∧ I (o + 1) (1 + 250 * a).toNat < 2147483648) : sj_Con l yX10_has mX10_has G σ I [.ref o, .int (zI a)] (fun r σ' I' => r = some (.int (zI (if 0 < I (o + 1) (1 + 250 * a).toNat then 1 else 0))) ∧ σ = σ' ∧ I = I') := by
  obtain ⟨h_o, h_w, h_past, h_images, h_text, h_read, h_made, h_old, h_values, h_ranks, h_operator, h_indexAt, h_second, h_first, h_needed, h_shifts, h_around, h_best, h_isNeeded, h_toSee, h_held, h_there⟩ := id hS
  refine sj_con_of (L0 := [some (.ref o), some (.int (zI a))]) (by decide) rfl rfl rfl (Nat.le_of_ble_eq_true rfl) rfl (fun Γ => ?_)
  refine sj_ald0 dX10_has_0 ?_
  refine sj_ild1 dX10_has_1 ?_
  refine sj_callV (cm_bytes hS ha) kc_X10_78 (by assumption) rfl rfl rfl rfl (Nat.le_of_ble_eq_true rfl) dX10_has_2 (fun r_2 σ_2 I_2 hp_2 => ?_)
  obtain ⟨rfl, rfl, rfl⟩ := hp_2
  refine sj_if_le 12 dX10_has_5 (by decide) (by omega) (fun c_5 => ?_) (fun c_5 => ?_)
  · refine sj_iconst dX10_has_12 ?_
    exact sj_iret dX10_has_13 rfl (by decide) (Nat.le_of_ble_eq_true rfl) (Nat.le_of_ble_eq_true rfl) ⟨(by first | rw [if_pos (by omega)] | rw [if_neg (by omega)]), rfl, rfl⟩
  · refine sj_iconst dX10_has_8 ?_
    refine sj_goto 13 dX10_has_9 (by decide) ?_
    exact sj_iret dX10_has_13 rfl (by decide) (Nat.le_of_ble_eq_true rfl) (Nat.le_of_ble_eq_true rfl) ⟨(by first | rw [if_pos (by omega)] | rw [if_neg (by omega)]), rfl, rfl⟩
theorem cm_isDigit {c : Int} (hc : -2147483648 ≤ c ∧ c < 2147483648) : sj_Con l yX10_isDigit mX10_isDigit G σ I [.int (zI c)] (fun r σ' I' => r = some (.int (zI (if 48 ≤ c ∧ c ≤ 57 then 1 else 0))) ∧ σ = σ' ∧ I = I') := by
  refine sj_con_of (L0 := [some (.int (zI c))]) (by decide) rfl rfl rfl (Nat.le_of_ble_eq_true rfl) rfl (fun Γ => ?_)
  refine sj_ild0 dX10_isDigit_0 ?_
  refine sj_bipush dX10_isDigit_1 (by decide) ?_
  refine sj_icmp_lt 16 dX10_isDigit_3 (by decide) (by omega) (by omega) (fun c_3 => ?_) (fun c_3 => ?_)
  · refine sj_iconst dX10_isDigit_16 ?_
    exact sj_iret dX10_isDigit_17 rfl (by decide) (Nat.le_of_ble_eq_true rfl) (Nat.le_of_ble_eq_true rfl) ⟨(by first | rw [if_pos (by omega)] | rw [if_neg (by omega)]), rfl, rfl⟩
  · refine sj_ild0 dX10_isDigit_6 ?_
    refine sj_bipush dX10_isDigit_7 (by decide) ?_
    refine sj_icmp_gt 16 dX10_isDigit_9 (by decide) (by omega) (by omega) (fun c_9 => ?_) (fun c_9 => ?_)
    · refine sj_iconst dX10_isDigit_16 ?_
      exact sj_iret dX10_isDigit_17 rfl (by decide) (Nat.le_of_ble_eq_true rfl) (Nat.le_of_ble_eq_true rfl) ⟨(by first | rw [if_pos (by omega)] | rw [if_neg (by omega)]), rfl, rfl⟩
    · refine sj_iconst dX10_isDigit_12 ?_
      refine sj_goto 17 dX10_isDigit_13 (by decide) ?_
      exact sj_iret dX10_isDigit_17 rfl (by decide) (Nat.le_of_ble_eq_true rfl) (Nat.le_of_ble_eq_true rfl) ⟨(by first | rw [if_pos (by omega)] | rw [if_neg (by omega)]), rfl, rfl⟩
theorem cm_isLetter {c : Int} (hc : -2147483648 ≤ c ∧ c < 2147483648) : sj_Con l yX10_isLetter mX10_isLetter G σ I [.int (zI c)] (fun r σ' I' => r = some (.int (zI (if 65 ≤ c ∧ c ≤ 72 then 1 else 0))) ∧ σ = σ' ∧ I = I') := by
  refine sj_con_of (L0 := [some (.int (zI c))]) (by decide) rfl rfl rfl (Nat.le_of_ble_eq_true rfl) rfl (fun Γ => ?_)
  refine sj_ild0 dX10_isLetter_0 ?_
  refine sj_bipush dX10_isLetter_1 (by decide) ?_
  refine sj_icmp_lt 16 dX10_isLetter_3 (by decide) (by omega) (by omega) (fun c_3 => ?_) (fun c_3 => ?_)
  · refine sj_iconst dX10_isLetter_16 ?_
    exact sj_iret dX10_isLetter_17 rfl (by decide) (Nat.le_of_ble_eq_true rfl) (Nat.le_of_ble_eq_true rfl) ⟨(by first | rw [if_pos (by omega)] | rw [if_neg (by omega)]), rfl, rfl⟩
  · refine sj_ild0 dX10_isLetter_6 ?_
    refine sj_bipush dX10_isLetter_7 (by decide) ?_
    refine sj_icmp_gt 16 dX10_isLetter_9 (by decide) (by omega) (by omega) (fun c_9 => ?_) (fun c_9 => ?_)
    · refine sj_iconst dX10_isLetter_16 ?_
      exact sj_iret dX10_isLetter_17 rfl (by decide) (Nat.le_of_ble_eq_true rfl) (Nat.le_of_ble_eq_true rfl) ⟨(by first | rw [if_pos (by omega)] | rw [if_neg (by omega)]), rfl, rfl⟩
    · refine sj_iconst dX10_isLetter_12 ?_
      refine sj_goto 17 dX10_isLetter_13 (by decide) ?_
      exact sj_iret dX10_isLetter_17 rfl (by decide) (Nat.le_of_ble_eq_true rfl) (Nat.le_of_ble_eq_true rfl) ⟨(by first | rw [if_pos (by omega)] | rw [if_neg (by omega)]), rfl, rfl⟩
/-- how many terms follow a sign; -9: it begins none -/
def jPt (c : Int) : Int := if c = 58 ∨ c = 101 ∨ c = 111 ∨ c = 116 then 1 else if c = 42 ∨ c = 43 ∨ c = 122 then 2 else if (48 ≤ c ∧ c ≤ 57) ∨ (65 ≤ c ∧ c ≤ 72) then 0 else -9
theorem jPt_cases (c : Int) : (jPt c = 1 ∧ (c = 58 ∨ c = 101 ∨ c = 111 ∨ c = 116)) ∨ (jPt c = 2 ∧ (c = 42 ∨ c = 43 ∨ c = 122)) ∨ (jPt c = 0 ∧ ((48 ≤ c ∧ c ≤ 57) ∨ (65 ≤ c ∧ c ≤ 72))) ∨ (jPt c = -9 ∧ ¬ (c = 58 ∨ c = 101 ∨ c = 111 ∨ c = 116 ∨ c = 42 ∨ c = 43 ∨ c = 122 ∨ (48 ≤ c ∧ c ≤ 57) ∨ (65 ≤ c ∧ c ≤ 72))) := by
  unfold jPt
  split
  · omega
  · split
    · omega
    · split <;> omega
theorem cm_parts {c : Int} (hc : -2147483648 ≤ c ∧ c < 2147483648) : sj_Con l yX10_parts mX10_parts G σ I [.int (zI c)] (fun r σ' I' => r = some (.int (zI (jPt c))) ∧ σ = σ' ∧ I = I') := by
  have hj := jPt_cases c
  refine sj_con_of (L0 := [some (.int (zI c))]) (by decide) rfl rfl rfl (Nat.le_of_ble_eq_true rfl) rfl (fun Γ => ?_)
  refine sj_ild0 dX10_parts_0 ?_
  rcases (show 42 = c ∨ 43 = c ∨ 58 = c ∨ 101 = c ∨ 111 = c ∨ 116 = c ∨ 122 = c ∨ (¬ 42 = c ∧ ¬ 43 = c ∧ ¬ 58 = c ∧ ¬ 101 = c ∧ ¬ 111 = c ∧ ¬ 116 = c ∧ ¬ 122 = c) by omega) with c_1 | c_1 | c_1 | c_1 | c_1 | c_1 | c_1 | c_1
  · refine sj_lookup 70 dX10_parts_1 (by decide) (by omega) (by rw [← c_1]) (by decide) ?_
    refine sj_iconst dX10_parts_70 ?_
    exact sj_iret dX10_parts_71 rfl rfl (Nat.le_of_ble_eq_true rfl) (Nat.le_of_ble_eq_true rfl) ⟨by congr 3; omega, rfl, rfl⟩
  · refine sj_lookup 70 dX10_parts_1 (by decide) (by omega) (by rw [← c_1]) (by decide) ?_
    refine sj_iconst dX10_parts_70 ?_
    exact sj_iret dX10_parts_71 rfl rfl (Nat.le_of_ble_eq_true rfl) (Nat.le_of_ble_eq_true rfl) ⟨by congr 3; omega, rfl, rfl⟩
  · refine sj_lookup 68 dX10_parts_1 (by decide) (by omega) (by rw [← c_1]) (by decide) ?_
    refine sj_iconst dX10_parts_68 ?_
    exact sj_iret dX10_parts_69 rfl rfl (Nat.le_of_ble_eq_true rfl) (Nat.le_of_ble_eq_true rfl) ⟨by congr 3; omega, rfl, rfl⟩
  · refine sj_lookup 68 dX10_parts_1 (by decide) (by omega) (by rw [← c_1]) (by decide) ?_
    refine sj_iconst dX10_parts_68 ?_
    exact sj_iret dX10_parts_69 rfl rfl (Nat.le_of_ble_eq_true rfl) (Nat.le_of_ble_eq_true rfl) ⟨by congr 3; omega, rfl, rfl⟩
  · refine sj_lookup 68 dX10_parts_1 (by decide) (by omega) (by rw [← c_1]) (by decide) ?_
    refine sj_iconst dX10_parts_68 ?_
    exact sj_iret dX10_parts_69 rfl rfl (Nat.le_of_ble_eq_true rfl) (Nat.le_of_ble_eq_true rfl) ⟨by congr 3; omega, rfl, rfl⟩
  · refine sj_lookup 68 dX10_parts_1 (by decide) (by omega) (by rw [← c_1]) (by decide) ?_
    refine sj_iconst dX10_parts_68 ?_
    exact sj_iret dX10_parts_69 rfl rfl (Nat.le_of_ble_eq_true rfl) (Nat.le_of_ble_eq_true rfl) ⟨by congr 3; omega, rfl, rfl⟩
  · refine sj_lookup 70 dX10_parts_1 (by decide) (by omega) (by rw [← c_1]) (by decide) ?_
    refine sj_iconst dX10_parts_70 ?_
    exact sj_iret dX10_parts_71 rfl rfl (Nat.le_of_ble_eq_true rfl) (Nat.le_of_ble_eq_true rfl) ⟨by congr 3; omega, rfl, rfl⟩
  · refine sj_lookup (off := 71) 72 dX10_parts_1 (by decide) (by omega) (by simp [Op.lookupswitch.offset_cons, Op.lookupswitch.offset_nil, c_1]) (by decide) ?_
    refine sj_ild0 dX10_parts_72 ?_
    refine sj_callS (cm_isDigit hc) kc_X10_93 rfl rfl (Nat.le_of_ble_eq_true rfl) dX10_parts_73 (fun r_73 σ_73 I_73 hp_73 => ?_)
    obtain ⟨rfl, rfl, rfl⟩ := hp_73
    have h73 : (if 48 ≤ c ∧ c ≤ 57 then (1 : Int) else 0) = 1 ∧ (48 ≤ c ∧ c ≤ 57) ∨ (if 48 ≤ c ∧ c ≤ 57 then (1 : Int) else 0) = 0 ∧ ¬ (48 ≤ c ∧ c ≤ 57) := by split <;> simp_all
    refine sj_if_ne 86 dX10_parts_76 (by decide) (by omega) (fun c_76 => ?_) (fun c_76 => ?_)
    · refine sj_iconst dX10_parts_86 ?_
      refine sj_goto 92 dX10_parts_87 (by decide) ?_
      exact sj_iret dX10_parts_92 rfl rfl (Nat.le_of_ble_eq_true rfl) (Nat.le_of_ble_eq_true rfl) ⟨by congr 3; omega, rfl, rfl⟩
    · refine sj_ild0 dX10_parts_79 ?_
      refine sj_callS (cm_isLetter hc) kc_X10_97 rfl rfl (Nat.le_of_ble_eq_true rfl) dX10_parts_80 (fun r_80 σ_80 I_80 hp_80 => ?_)
      obtain ⟨rfl, rfl, rfl⟩ := hp_80
      have h80 : (if 65 ≤ c ∧ c ≤ 72 then (1 : Int) else 0) = 1 ∧ (65 ≤ c ∧ c ≤ 72) ∨ (if 65 ≤ c ∧ c ≤ 72 then (1 : Int) else 0) = 0 ∧ ¬ (65 ≤ c ∧ c ≤ 72) := by split <;> simp_all
      refine sj_if_eq 90 dX10_parts_83 (by decide) (by omega) (fun c_83 => ?_) (fun c_83 => ?_)
      · refine sj_bipush dX10_parts_90 (by decide) ?_
        exact sj_iret dX10_parts_92 rfl rfl (Nat.le_of_ble_eq_true rfl) (Nat.le_of_ble_eq_true rfl) ⟨by congr 3; omega, rfl, rfl⟩
      · refine sj_iconst dX10_parts_86 ?_
        refine sj_goto 92 dX10_parts_87 (by decide) ?_
        exact sj_iret dX10_parts_92 rfl rfl (Nat.le_of_ble_eq_true rfl) (Nat.le_of_ble_eq_true rfl) ⟨by congr 3; omega, rfl, rfl⟩
theorem cm_write {o : Nat} {c : Int} (hS : mSh σ o) (hc : -2147483648 ≤ c ∧ c < 2147483648) (hl : 0 ≤ I o 6 ∧ I o 6 ≤ 80) : sj_Con l yX10_write mX10_write G σ I [.ref o, .int (zI c)] (fun r σ' I' => σ = σ' ∧ ((¬ (32 ≤ c ∧ c ≤ 126) ∧ r = some (.int (zI (-1))) ∧ I = I') ∨ ((32 ≤ c ∧ c ≤ 126) ∧ I o 6 = 80 ∧ r = some (.int (zI (-3))) ∧ I = I') ∨ ((32 ≤ c ∧ c ≤ 126) ∧ I o 6 < 80 ∧ r = some (.int (zI (I o 6 + 1))) ∧ I' = sj_up (sj_up I (o + 4) (I o 6).toNat c) o 6 (I o 6 + 1)))) := by
  obtain ⟨h_o, h_w, h_past, h_images, h_text, h_read, h_made, h_old, h_values, h_ranks, h_operator, h_indexAt, h_second, h_first, h_needed, h_shifts, h_around, h_best, h_isNeeded, h_toSee, h_held, h_there⟩ := id hS
  refine sj_con_of (L0 := [some (.ref o), some (.int (zI c))]) (by decide) rfl rfl rfl (Nat.le_of_ble_eq_true rfl) rfl (fun Γ => ?_)
  refine sj_ild1 dX10_write_0 ?_
  refine sj_bipush dX10_write_1 (by decide) ?_
  refine sj_bipush dX10_write_3 (by decide) ?_
  refine sj_callS (cm_isIn hc (by omega) (by omega)) kc_X10_74 rfl rfl (Nat.le_of_ble_eq_true rfl) dX10_write_5 (fun r_5 σ_5 I_5 hp_5 => ?_)
  obtain ⟨rfl, rfl, rfl⟩ := hp_5
  have h5 : (if 32 ≤ c ∧ c ≤ 126 then (1 : Int) else 0) = 1 ∧ (32 ≤ c ∧ c ≤ 126) ∨ (if 32 ≤ c ∧ c ≤ 126 then (1 : Int) else 0) = 0 ∧ ¬ (32 ≤ c ∧ c ≤ 126) := by split <;> simp_all
  refine sj_if_ne 13 dX10_write_8 (by decide) (by omega) (fun c_8 => ?_) (fun c_8 => ?_)
  · refine sj_ald0 dX10_write_13 ?_
    refine sj_getI fl_X10_90 (by assumption) rfl dX10_write_14 ?_
    refine sj_bipush dX10_write_17 (by decide) ?_
    refine sj_icmp_ne 25 dX10_write_19 (by decide) (by omega) (by omega) (fun c_19 => ?_) (fun c_19 => ?_)
    · refine sj_ald0 dX10_write_25 ?_
      refine sj_getR fl_X10_19 (by assumption) rfl (mr_5 _) dX10_write_26 ?_
      refine sj_ald0 dX10_write_29 ?_
      refine sj_getI fl_X10_90 (by assumption) rfl dX10_write_30 ?_
      refine sj_ild1 dX10_write_33 ?_
      refine sj_iast (by assumption) (by omega) (by omega) dX10_write_34 ?_
      refine sj_ald0 dX10_write_35 ?_
      refine sj_dup dX10_write_36 rfl ?_
      refine sj_getI fl_X10_90 (by assumption) rfl dX10_write_37 ?_
      rw [sj_up_ne (by omega)]
      refine sj_iconst dX10_write_40 ?_
      refine sj_iadd dX10_write_41 ?_
      refine sj_putI fl_X10_90 (by assumption) rfl rfl rfl dX10_write_42 ?_
      refine sj_ald0 dX10_write_45 ?_
      refine sj_getI fl_X10_90 (by assumption) rfl dX10_write_46 ?_
      rw [sj_up_self]
      exact sj_iret dX10_write_49 rfl rfl (Nat.le_of_ble_eq_true rfl) (Nat.le_of_ble_eq_true rfl) ⟨rfl, Or.inr (Or.inr ⟨by omega, by omega, rfl, rfl⟩)⟩
    · refine sj_bipush dX10_write_22 (by decide) ?_
      exact sj_iret dX10_write_24 rfl rfl (Nat.le_of_ble_eq_true rfl) (Nat.le_of_ble_eq_true rfl) ⟨rfl, Or.inr (Or.inl ⟨by omega, by omega, rfl, rfl⟩)⟩
  · refine sj_iconst dX10_write_11 ?_
    exact sj_iret dX10_write_12 rfl rfl (Nat.le_of_ble_eq_true rfl) (Nat.le_of_ble_eq_true rfl) ⟨rfl, Or.inl ⟨by omega, rfl, rfl⟩⟩
end MODEL1
