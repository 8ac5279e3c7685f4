theorem jbs (P : Prop) [Decidable P] : ((if P then (1 : Int) else 0) = 1 ∧ P) ∨ ((if P then (1 : Int) else 0) = 0 ∧ ¬ P) := by
  by_cases h : P
  · exact Or.inl ⟨if_pos h, h⟩
  · exact Or.inr ⟨if_neg h, h⟩
/-- how many of the first n streams have an equation -/
def jCnt (f : Nat → Int) : Nat → Int
  | 0 => 0
  | n + 1 => jCnt f n + (if 0 < f (1 + 250 * n) then 1 else 0)
theorem jCnt_le (f : Nat → Int) : ∀ n : Nat, 0 ≤ jCnt f n ∧ jCnt f n ≤ n
  | 0 => by simp [jCnt]
  | n + 1 => by
    have h := jCnt_le f n
    simp only [jCnt]
    split <;> omega
def jAs (f : Nat → Int) : Nat → Int
  | 0 => 0
  | n + 1 => jAs f n + jSz 0 (mB f n)
theorem jAs_le {f : Nat → Int} (hW : mW f) : ∀ n : Nat, n ≤ 8 → 0 ≤ jAs f n ∧ jAs f n ≤ 240 * n
  | 0, _ => by simp [jAs]
  | n + 1, h8 => by
    have h := jAs_le hW n (by omega)
    have h2 := jSz_le (mB f n) 0
    have h3 : (mB f n).length = (f (1 + 250 * n)).toNat := lst_len _ _ _
    have h4 := (hW n (by omega)).1
    simp only [jAs]
    omega
def jPb (L : List Int) : Bool := L.all (fun c => decide (c ≠ 122 ∧ c ≠ 101 ∧ c ≠ 111))
def jPa (f : Nat → Int) : Nat → Bool
  | 0 => true
  | n + 1 => jPa f n && jPb (mB f n)
def jUs (L : List Int) : Nat → Nat
  | 0 => 0
  | b + 1 => jUs L b ||| (if 0 < jOc (65 + b) L then 2 ^ b else 0)
theorem jUs_lt (L : List Int) : ∀ n : Nat, n ≤ 8 → jUs L n < 256
  | 0, _ => by simp [jUs]
  | n + 1, h => by
    have h2 := jUs_lt L n (by omega)
    simp only [jUs]
    split
    · exact or_lt8 _ h2 n (by omega)
    · rw [Nat.or_zero]; exact h2
theorem jNat {a : Int} (h : 0 ≤ a) : ∃ n : Nat, a = n := ⟨a.toNat, by omega⟩
section MODEL5
variable {l : Launch} {G : sjG} {σ : sjS} {I : sjI}
theorem cm_defined {o : Nat} (hS : mSh σ o) (hW : mW (I (o + 1))) : sj_Con l yX10_defined mX10_defined G σ I [.ref o] (fun r σ' I' => r = some (.int (zI (jCnt (I (o + 1)) 8))) ∧ σ = σ' ∧ I = I') := by
  obtain ⟨h_o, h_w, h_past, h_images, h_text, h_read, h_made, h_old, h_values, h_ranks, h_operator, h_indexAt, h_second, h_first, h_needed, h_shifts, h_around, h_best, h_isNeeded, h_toSee, h_held, h_there⟩ := id hS
  refine sj_con_of (L0 := [some (.ref o), none, none]) (by decide) rfl rfl rfl (Nat.le_of_ble_eq_true rfl) rfl (fun Γ => ?_)
  have lp : ∀ (d k : Nat), k + d = 8 → sj_V l Γ mX10_defined G (fun r σ' I' => r = some (.int (zI (jCnt (I (o + 1)) 8))) ∧ σ = σ' ∧ I = I') σ I 0 0 4 [some (.ref o), some (.int (zI (jCnt (I (o + 1)) k))), some (.int (zI k))] [] := by
    intro d
    induction d with
    | zero =>
      intro k hk
      have hk8 : k = 8 := by omega
      subst hk8
      refine sj_ild2 dX10_defined_4 ?_
      refine sj_bipush dX10_defined_5 (by decide) ?_
      refine sj_icmp_ge 32 dX10_defined_7 (by decide) (by omega) (by omega) (fun c_7 => ?_) (fun c_7 => ?_)
      rotate_left
      · exact absurd (by omega) c_7
      refine sj_ild1 dX10_defined_32 ?_
      exact sj_iret dX10_defined_33 rfl rfl (Nat.le_of_ble_eq_true rfl) (Nat.le_of_ble_eq_true rfl) ⟨rfl, rfl, rfl⟩
    | succ d ih =>
      intro k hk
      have hb := jbs (0 < I (o + 1) (1 + 250 * k))
      have hs : jCnt (I (o + 1)) (k + 1) = jCnt (I (o + 1)) k + (if 0 < I (o + 1) (1 + 250 * k) then 1 else 0) := rfl
      refine sj_ild2 dX10_defined_4 ?_
      refine sj_bipush dX10_defined_5 (by decide) ?_
      refine sj_icmp_ge 32 dX10_defined_7 (by decide) (by omega) (by omega) (fun c_7 => ?_) (fun c_7 => ?_)
      · exact absurd c_7 (by omega)
      refine sj_ild1 dX10_defined_10 ?_
      refine sj_ald0 dX10_defined_11 ?_
      refine sj_ild2 dX10_defined_12 ?_
      refine sj_callV (cm_has' hS (by omega) hW) kc_X10_122 (by assumption) rfl rfl rfl rfl (Nat.le_of_ble_eq_true rfl) dX10_defined_13 (fun r_13 σ_13 I_13 hp_13 => ?_)
      obtain ⟨rfl, rfl, rfl⟩ := hp_13
      refine sj_if_eq 23 dX10_defined_16 (by decide) (by omega) (fun c_16 => ?_) (fun c_16 => ?_)
      · refine sj_iconst dX10_defined_23 ?_
        refine sj_iadd dX10_defined_24 ?_
        refine sj_ist1 (by decide) rfl dX10_defined_25 ?_
        refine sj_inc2 (by decide) rfl dX10_defined_26 ?_
        refine sj_goto 4 dX10_defined_29 (by decide) ?_
        have h := ih (k + 1) (by omega)
        rw [hs] at h
        first | (rw [if_pos (by omega)] at h; exact h) | (rw [if_neg (by omega)] at h; exact h)
      · refine sj_iconst dX10_defined_19 ?_
        refine sj_goto 24 dX10_defined_20 (by decide) ?_
        refine sj_iadd dX10_defined_24 ?_
        refine sj_ist1 (by decide) rfl dX10_defined_25 ?_
        refine sj_inc2 (by decide) rfl dX10_defined_26 ?_
        refine sj_goto 4 dX10_defined_29 (by decide) ?_
        have h := ih (k + 1) (by omega)
        rw [hs] at h
        first | (rw [if_pos (by omega)] at h; exact h) | (rw [if_neg (by omega)] at h; exact h)
  refine sj_iconst dX10_defined_0 ?_
  refine sj_ist1 (by decide) rfl dX10_defined_1 ?_
  refine sj_iconst dX10_defined_2 ?_
  refine sj_ist2 (by decide) rfl dX10_defined_3 ?_
  exact lp 8 0 (by omega)
theorem cm_allSizes {o : Nat} (hS : mSh σ o) (hW : mW (I (o + 1))) : sj_Con l yX10_allSizes mX10_allSizes G σ I [.ref o] (fun r σ' I' => r = some (.int (zI (jAs (I (o + 1)) 8))) ∧ σ = σ' ∧ I = I') := by
  obtain ⟨h_o, h_w, h_past, h_images, h_text, h_read, h_made, h_old, h_values, h_ranks, h_operator, h_indexAt, h_second, h_first, h_needed, h_shifts, h_around, h_best, h_isNeeded, h_toSee, h_held, h_there⟩ := id hS
  refine sj_con_of (L0 := [some (.ref o), none, none]) (by decide) rfl rfl rfl (Nat.le_of_ble_eq_true rfl) rfl (fun Γ => ?_)
  have lp : ∀ (d k : Nat), k + d = 8 → sj_V l Γ mX10_allSizes G (fun r σ' I' => r = some (.int (zI (jAs (I (o + 1)) 8))) ∧ σ = σ' ∧ I = I') σ I 0 0 4 [some (.ref o), some (.int (zI (jAs (I (o + 1)) k))), some (.int (zI k))] [] := by
    intro d
    induction d with
    | zero =>
      intro k hk
      have hk8 : k = 8 := by omega
      subst hk8
      refine sj_ild2 dX10_allSizes_4 ?_
      refine sj_bipush dX10_allSizes_5 (by decide) ?_
      refine sj_icmp_ge 24 dX10_allSizes_7 (by decide) (by omega) (by omega) (fun c_7 => ?_) (fun c_7 => ?_)
      rotate_left
      · exact absurd (by omega) c_7
      refine sj_ild1 dX10_allSizes_24 ?_
      exact sj_iret dX10_allSizes_25 rfl rfl (Nat.le_of_ble_eq_true rfl) (Nat.le_of_ble_eq_true rfl) ⟨rfl, rfl, rfl⟩
    | succ d ih =>
      intro k hk
      refine sj_ild2 dX10_allSizes_4 ?_
      refine sj_bipush dX10_allSizes_5 (by decide) ?_
      refine sj_icmp_ge 24 dX10_allSizes_7 (by decide) (by omega) (by omega) (fun c_7 => ?_) (fun c_7 => ?_)
      · exact absurd c_7 (by omega)
      refine sj_ild1 dX10_allSizes_10 ?_
      refine sj_ald0 dX10_allSizes_11 ?_
      refine sj_ild2 dX10_allSizes_12 ?_
      refine sj_callV (cm_sizeOf hS (by omega) hW) kc_X10_119 (by assumption) rfl rfl rfl rfl (Nat.le_of_ble_eq_true rfl) dX10_allSizes_13 (fun r_13 σ_13 I_13 hp_13 => ?_)
      obtain ⟨rfl, rfl, rfl⟩ := hp_13
      refine sj_iadd dX10_allSizes_16 ?_
      refine sj_ist1 (by decide) rfl dX10_allSizes_17 ?_
      refine sj_inc2 (by decide) rfl dX10_allSizes_18 ?_
      refine sj_goto 4 dX10_allSizes_21 (by decide) ?_
      exact ih (k + 1) (by omega)
  refine sj_iconst dX10_allSizes_0 ?_
  refine sj_ist1 (by decide) rfl dX10_allSizes_1 ?_
  refine sj_iconst dX10_allSizes_2 ?_
  refine sj_ist2 (by decide) rfl dX10_allSizes_3 ?_
  exact lp 8 0 (by omega)
theorem cm_isKept {o F i : Nat} (hS : mSh σ o) (hF : I o 4 = F) (hF4 : F < 4) (hi : i < 2) : sj_Con l yX10_isKept mX10_isKept G σ I [.ref o, .int (zI i)] (fun r σ' I' => r = some (.int (zI (if F / 2 ^ i % 2 = 1 then 1 else 0))) ∧ σ = σ' ∧ I = I') := by
  obtain ⟨h_o, h_w, h_past, h_images, h_text, h_read, h_made, h_old, h_values, h_ranks, h_operator, h_indexAt, h_second, h_first, h_needed, h_shifts, h_around, h_best, h_isNeeded, h_toSee, h_held, h_there⟩ := id hS
  refine sj_con_of (L0 := [some (.ref o), some (.int (zI i))]) (by decide) rfl rfl rfl (Nat.le_of_ble_eq_true rfl) rfl (fun Γ => ?_)
  have hd : F / 2 ^ i < 1024 := Nat.lt_of_le_of_lt (Nat.div_le_self _ _) (by omega)
  refine sj_ald0 dX10_isKept_0 ?_
  refine sj_getI fl_X10_247 (by assumption) rfl dX10_isKept_1 ?_
  rw [hF]
  refine sj_ild1 dX10_isKept_4 ?_
  refine sj_ishr dX10_isKept_5 (zI_shr1 F (by omega) i (by omega)) ?_
  refine sj_iconst dX10_isKept_6 ?_
  refine sj_iand dX10_isKept_7 (zI_and1 _ hd) ?_
  refine sj_iconst dX10_isKept_8 ?_
  refine sj_icmp_ne 16 dX10_isKept_9 (by decide) (by omega) (by omega) (fun c_9 => ?_) (fun c_9 => ?_)
  · refine sj_iconst dX10_isKept_16 ?_
    exact sj_iret dX10_isKept_17 rfl (by decide) (Nat.le_of_ble_eq_true rfl) (Nat.le_of_ble_eq_true rfl) ⟨by first | rw [if_pos (by omega)] | rw [if_neg (by omega)], rfl, rfl⟩
  · refine sj_iconst dX10_isKept_12 ?_
    refine sj_goto 17 dX10_isKept_13 (by decide) ?_
    exact sj_iret dX10_isKept_17 rfl (by decide) (Nat.le_of_ble_eq_true rfl) (Nat.le_of_ble_eq_true rfl) ⟨by first | rw [if_pos (by omega)] | rw [if_neg (by omega)], rfl, rfl⟩
theorem cm_listing {o : Nat} {a k : Int} (hS : mSh σ o) (hW : mW (I (o + 1))) (ha : -2147483648 ≤ a ∧ a < 2147483648) (hk : -2147483648 ≤ k ∧ k < 2147483648) : sj_Con l yX10_listing mX10_listing G σ I [.ref o, .int (zI a), .int (zI k)] (fun r σ' I' => r = some (.int (zI (if (0 ≤ a ∧ a ≤ 7) ∧ 0 ≤ k then (if k < I (o + 1) (1 + 250 * a.toNat) then I (o + 1) (2 + 250 * a.toNat + k.toNat) else -9) else -1))) ∧ σ = σ' ∧ I = I') := by
  obtain ⟨h_o, h_w, h_past, h_images, h_text, h_read, h_made, h_old, h_values, h_ranks, h_operator, h_indexAt, h_second, h_first, h_needed, h_shifts, h_around, h_best, h_isNeeded, h_toSee, h_held, h_there⟩ := id hS
  refine sj_con_of (L0 := [some (.ref o), some (.int (zI a)), some (.int (zI k))]) (by decide) rfl rfl rfl (Nat.le_of_ble_eq_true rfl) rfl (fun Γ => ?_)
  have hb := jbs (0 ≤ a ∧ a ≤ 7)
  refine sj_ild1 dX10_listing_0 ?_
  refine sj_callS (cm_isStream ha) kc_X10_109 rfl rfl (Nat.le_of_ble_eq_true rfl) dX10_listing_1 (fun r_1 σ_1 I_1 hp_1 => ?_)
  obtain ⟨rfl, rfl, rfl⟩ := hp_1
  refine sj_if_eq 11 dX10_listing_4 (by decide) (by omega) (fun c_4 => ?_) (fun c_4 => ?_)
  · refine sj_iconst dX10_listing_11 ?_
    exact sj_iret dX10_listing_12 rfl rfl (Nat.le_of_ble_eq_true rfl) (Nat.le_of_ble_eq_true rfl) ⟨by rw [if_neg (by omega)], rfl, rfl⟩
  · refine sj_ild2 dX10_listing_7 ?_
    refine sj_if_ge 13 dX10_listing_8 (by decide) (by omega) (fun c_8 => ?_) (fun c_8 => ?_)
    · obtain ⟨n, rfl⟩ := jNat (a := a) (by omega)
      obtain ⟨j, rfl⟩ := jNat (a := k) (by omega)
      rw [if_pos (by omega)]
      rw [show ((n : Int)).toNat = n from rfl, show ((j : Int)).toNat = j from rfl]
      have hw := (hW n (by omega)).1
      refine sj_ild2 dX10_listing_13 ?_
      refine sj_ald0 dX10_listing_14 ?_
      refine sj_ild1 dX10_listing_15 ?_
      refine sj_callV (cm_bytes' hS (by omega)) kc_X10_78 (by assumption) rfl rfl rfl rfl (Nat.le_of_ble_eq_true rfl) dX10_listing_16 (fun r_16 σ_16 I_16 hp_16 => ?_)
      obtain ⟨rfl, rfl, rfl⟩ := hp_16
      refine sj_icmp_ge 36 dX10_listing_19 (by decide) (by omega) (by omega) (fun c_19 => ?_) (fun c_19 => ?_)
      · refine sj_bipush dX10_listing_36 (by decide) ?_
        exact sj_iret dX10_listing_38 rfl rfl (Nat.le_of_ble_eq_true rfl) (Nat.le_of_ble_eq_true rfl) ⟨by first | rw [if_pos (by omega)] | rw [if_neg (by omega)], rfl, rfl⟩
      · refine sj_ald0 dX10_listing_22 ?_
        refine sj_getR fl_X10_7 (by assumption) rfl (mr_0 _) dX10_listing_23 ?_
        refine sj_ild1 dX10_listing_26 ?_
        refine sj_callS (cm_begin) kc_X10_106 rfl rfl (Nat.le_of_ble_eq_true rfl) dX10_listing_27 (fun r_27 σ_27 I_27 hp_27 => ?_)
        obtain ⟨rfl, rfl, rfl⟩ := hp_27
        refine sj_ild2 dX10_listing_30 ?_
        refine sj_iadd dX10_listing_31 ?_
        refine sj_ialdJ (2 + 250 * n + j) (by assumption) (by omega) (by omega) (by omega) dX10_listing_32 ?_
        refine sj_goto 38 dX10_listing_33 (by decide) ?_
        exact sj_iret dX10_listing_38 rfl rfl (Nat.le_of_ble_eq_true rfl) (Nat.le_of_ble_eq_true rfl) ⟨by first | rw [if_pos (by omega)] | rw [if_neg (by omega)], rfl, rfl⟩
    · refine sj_iconst dX10_listing_11 ?_
      exact sj_iret dX10_listing_12 rfl rfl (Nat.le_of_ble_eq_true rfl) (Nat.le_of_ble_eq_true rfl) ⟨by rw [if_neg (by omega)], rfl, rfl⟩
theorem cm_uses {o : Nat} {a : Int} (hS : mSh σ o) (hW : mW (I (o + 1))) (ha : -2147483648 ≤ a ∧ a < 2147483648) : sj_Con l yX10_uses mX10_uses G σ I [.ref o, .int (zI a)] (fun r σ' I' => r = some (.int (zI (if 0 ≤ a ∧ a ≤ 7 then (if 0 < I (o + 1) (1 + 250 * a.toNat) then ((jUs (mB (I (o + 1)) a.toNat) 8 : Nat) : Int) else -9) else -1))) ∧ σ = σ' ∧ I = I') := by
  obtain ⟨h_o, h_w, h_past, h_images, h_text, h_read, h_made, h_old, h_values, h_ranks, h_operator, h_indexAt, h_second, h_first, h_needed, h_shifts, h_around, h_best, h_isNeeded, h_toSee, h_held, h_there⟩ := id hS
  refine sj_con_of (L0 := [some (.ref o), some (.int (zI a)), none, none]) (by decide) rfl rfl rfl (Nat.le_of_ble_eq_true rfl) rfl (fun Γ => ?_)
  have hb := jbs (0 ≤ a ∧ a ≤ 7)
  have lp : ∀ (n : Nat), a = n → n < 8 → ∀ (d k : Nat), k + d = 8 → sj_V l Γ mX10_uses G (fun r σ' I' => r = some (.int (zI (if 0 ≤ a ∧ a ≤ 7 then (if 0 < I (o + 1) (1 + 250 * a.toNat) then ((jUs (mB (I (o + 1)) a.toNat) 8 : Nat) : Int) else -9) else -1))) ∧ σ = σ' ∧ I = I') σ I 0 0 13 [some (.ref o), some (.int (zI n)), some (.int (zI (jUs (mB (I (o + 1)) n) k : Nat))), some (.int (zI k))] [] := by
    intro n hn hn8 d
    subst hn
    induction d with
    | zero =>
      intro k hk
      have hk8 : k = 8 := by omega
      subst hk8
      have hh := jbs (0 < I (o + 1) (1 + 250 * n))
      refine sj_ild3 dX10_uses_13 ?_
      refine sj_bipush dX10_uses_14 (by decide) ?_
      refine sj_icmp_ge 44 dX10_uses_16 (by decide) (by omega) (by omega) (fun c_16 => ?_) (fun c_16 => ?_)
      rotate_left
      · exact absurd (by omega) c_16
      refine sj_ald0 dX10_uses_44 ?_
      refine sj_ild1 dX10_uses_45 ?_
      refine sj_callV (cm_has' hS hn8 hW) kc_X10_122 (by assumption) rfl rfl rfl rfl (Nat.le_of_ble_eq_true rfl) dX10_uses_46 (fun r_46 σ_46 I_46 hp_46 => ?_)
      obtain ⟨rfl, rfl, rfl⟩ := hp_46
      refine sj_if_eq 56 dX10_uses_49 (by decide) (by omega) (fun c_49 => ?_) (fun c_49 => ?_)
      · refine sj_bipush dX10_uses_56 (by decide) ?_
        exact sj_iret dX10_uses_58 rfl rfl (Nat.le_of_ble_eq_true rfl) (Nat.le_of_ble_eq_true rfl) ⟨by rw [if_pos (by omega)]; first | (rw [if_pos (show 0 < I (o + 1) (1 + 250 * ((n : Int)).toNat) from by show 0 < I (o + 1) (1 + 250 * n); omega)]; rfl) | rw [if_neg (show ¬ 0 < I (o + 1) (1 + 250 * ((n : Int)).toNat) from by show ¬ 0 < I (o + 1) (1 + 250 * n); omega)], rfl, rfl⟩
      · refine sj_ild2 dX10_uses_52 ?_
        refine sj_goto 58 dX10_uses_53 (by decide) ?_
        exact sj_iret dX10_uses_58 rfl rfl (Nat.le_of_ble_eq_true rfl) (Nat.le_of_ble_eq_true rfl) ⟨by rw [if_pos (by omega)]; first | (rw [if_pos (show 0 < I (o + 1) (1 + 250 * ((n : Int)).toNat) from by show 0 < I (o + 1) (1 + 250 * n); omega)]; rfl) | rw [if_neg (show ¬ 0 < I (o + 1) (1 + 250 * ((n : Int)).toNat) from by show ¬ 0 < I (o + 1) (1 + 250 * n); omega)], rfl, rfl⟩
    | succ d ih =>
      intro k hk
      have hlt := jUs_lt (mB (I (o + 1)) n) k (by omega)
      have hle := jOc_le (65 + k) (mB (I (o + 1)) n)
      have hln : (mB (I (o + 1)) n).length = (I (o + 1) (1 + 250 * n)).toNat := lst_len _ _ _
      have hw1 := (hW n (by omega)).1
      have hs : jUs (mB (I (o + 1)) n) (k + 1) = jUs (mB (I (o + 1)) n) k ||| (if 0 < jOc (65 + k) (mB (I (o + 1)) n) then 2 ^ k else 0) := rfl
      refine sj_ild3 dX10_uses_13 ?_
      refine sj_bipush dX10_uses_14 (by decide) ?_
      refine sj_icmp_ge 44 dX10_uses_16 (by decide) (by omega) (by omega) (fun c_16 => ?_) (fun c_16 => ?_)
      · exact absurd c_16 (by omega)
      refine sj_ild2 dX10_uses_19 ?_
      refine sj_ald0 dX10_uses_20 ?_
      refine sj_ild1 dX10_uses_21 ?_
      refine sj_ild3 dX10_uses_22 ?_
      refine sj_callV (cm_occurrences hS hn8 (by omega) hW) kc_X10_125 (by assumption) rfl rfl rfl rfl (Nat.le_of_ble_eq_true rfl) dX10_uses_23 (fun r_23 σ_23 I_23 hp_23 => ?_)
      obtain ⟨rfl, rfl, rfl⟩ := hp_23
      refine sj_if_le 35 dX10_uses_26 (by decide) (by omega) (fun c_26 => ?_) (fun c_26 => ?_)
      · refine sj_iconst dX10_uses_35 ?_
        refine sj_ior dX10_uses_36 (by first | exact zI_or1 _ (by omega) k (by omega) | exact zI_or0 _ (by omega)) ?_
        refine sj_ist2 (by decide) rfl dX10_uses_37 ?_
        refine sj_inc3 (by decide) rfl dX10_uses_38 ?_
        refine sj_goto 13 dX10_uses_41 (by decide) ?_
        have h := ih (k + 1) (by omega)
        first | (rw [if_pos (by omega)] at hs; rw [hs] at h; exact h) | (rw [if_neg (by omega), Nat.or_zero] at hs; rw [hs] at h; exact h)
      · refine sj_iconst dX10_uses_29 ?_
        refine sj_ild3 dX10_uses_30 ?_
        refine sj_ishl dX10_uses_31 (zI_shl1 k (by omega)) ?_
        refine sj_goto 36 dX10_uses_32 (by decide) ?_
        refine sj_ior dX10_uses_36 (by first | exact zI_or1 _ (by omega) k (by omega) | exact zI_or0 _ (by omega)) ?_
        refine sj_ist2 (by decide) rfl dX10_uses_37 ?_
        refine sj_inc3 (by decide) rfl dX10_uses_38 ?_
        refine sj_goto 13 dX10_uses_41 (by decide) ?_
        have h := ih (k + 1) (by omega)
        first | (rw [if_pos (by omega)] at hs; rw [hs] at h; exact h) | (rw [if_neg (by omega), Nat.or_zero] at hs; rw [hs] at h; exact h)
  refine sj_ild1 dX10_uses_0 ?_
  refine sj_callS (cm_isStream ha) kc_X10_109 rfl rfl (Nat.le_of_ble_eq_true rfl) dX10_uses_1 (fun r_1 σ_1 I_1 hp_1 => ?_)
  obtain ⟨rfl, rfl, rfl⟩ := hp_1
  refine sj_if_ne 9 dX10_uses_4 (by decide) (by omega) (fun c_4 => ?_) (fun c_4 => ?_)
  · refine sj_iconst dX10_uses_9 ?_
    refine sj_ist2 (by decide) rfl dX10_uses_10 ?_
    refine sj_iconst dX10_uses_11 ?_
    refine sj_ist3 (by decide) rfl dX10_uses_12 ?_
    obtain ⟨n, rfl⟩ := jNat (a := a) (by omega)
    exact lp n rfl (by omega) 8 0 (by omega)
  · refine sj_iconst dX10_uses_7 ?_
    exact sj_iret dX10_uses_8 rfl rfl (Nat.le_of_ble_eq_true rfl) (Nat.le_of_ble_eq_true rfl) ⟨by rw [if_neg (by omega)], rfl, rfl⟩
theorem zI_bA {y : Int} (h : y = 1 ∨ y = 0) : zI y &&& zI 1 = zI y := by rcases h with rfl | rfl <;> decide
theorem zI_bB {y : Int} (h : y = 1 ∨ y = 0) : zI y &&& zI 0 = zI 0 := by rcases h with rfl | rfl <;> decide
theorem jPb_all {L : List Int} {c : Int} : jPb (L ++ [c]) = (jPb L && decide (c ≠ 122 ∧ c ≠ 101 ∧ c ≠ 111)) := by simp [jPb]
theorem cm_isPlain {o : Nat} (hS : mSh σ o) (hW : mW (I (o + 1))) : sj_Con l yX10_isPlain mX10_isPlain G σ I [.ref o] (fun r σ' I' => r = some (.int (zI (if jPa (I (o + 1)) 8 = true then 1 else 0))) ∧ σ = σ' ∧ I = I') := by
  obtain ⟨h_o, h_w, h_past, h_images, h_text, h_read, h_made, h_old, h_values, h_ranks, h_operator, h_indexAt, h_second, h_first, h_needed, h_shifts, h_around, h_best, h_isNeeded, h_toSee, h_held, h_there⟩ := id hS
  refine sj_con_of (L0 := [some (.ref o), none, none, none, none]) (by decide) rfl rfl rfl (Nat.le_of_ble_eq_true rfl) rfl (fun Γ => ?_)
  have lp : ∀ (d a : Nat) (x : Int), a + d = 8 → x = (if jPa (I (o + 1)) a = true then 1 else 0) → sj_V l Γ mX10_isPlain G (fun r σ' I' => r = some (.int (zI (if jPa (I (o + 1)) 8 = true then 1 else 0))) ∧ σ = σ' ∧ I = I') σ I 0 0 4 [some (.ref o), some (.int (zI x)), some (.int (zI a)), none, none] [] := by
    intro d
    induction d with
    | zero =>
      intro a x ha hx
      have ha8 : a = 8 := by omega
      subst ha8
      refine sj_ild2 dX10_isPlain_4 ?_
      refine sj_bipush dX10_isPlain_5 (by decide) ?_
      refine sj_icmp_ge 75 dX10_isPlain_7 (by decide) (by omega) (by omega) (fun c_7 => ?_) (fun c_7 => ?_)
      rotate_left
      · exact absurd (by omega) c_7
      refine sj_ild1 dX10_isPlain_75 ?_
      exact sj_iret dX10_isPlain_76 rfl (by rw [hx]; split <;> decide) (Nat.le_of_ble_eq_true rfl) (Nat.le_of_ble_eq_true rfl) ⟨by rw [hx], rfl, rfl⟩
    | succ d ih =>
      intro a x ha hx
      obtain ⟨hw1, hw2⟩ := hW a (by omega)
      have lq : ∀ (e k : Nat) (y : Int), (k : Int) + e = I (o + 1) (1 + 250 * a) → y = (if (jPa (I (o + 1)) a && jPb (lst (I (o + 1)) (2 + 250 * a) k)) = true then 1 else 0) → sj_V l Γ mX10_isPlain G (fun r σ' I' => r = some (.int (zI (if jPa (I (o + 1)) 8 = true then 1 else 0))) ∧ σ = σ' ∧ I = I') σ I 0 0 12 [some (.ref o), some (.int (zI y)), some (.int (zI a)), some (.int (zI k)), none] [] := by
        intro e
        induction e with
        | zero =>
          intro k y hk hy
          refine sj_ild3 dX10_isPlain_12 ?_
          refine sj_ald0 dX10_isPlain_13 ?_
          refine sj_ild2 dX10_isPlain_14 ?_
          refine sj_callV (cm_bytes' hS (by omega)) kc_X10_78 (by assumption) rfl rfl rfl rfl (Nat.le_of_ble_eq_true rfl) dX10_isPlain_15 (fun r_15 σ_15 I_15 hp_15 => ?_)
          obtain ⟨rfl, rfl, rfl⟩ := hp_15
          refine sj_icmp_ge 69 dX10_isPlain_18 (by decide) (by omega) (by omega) (fun c_18 => ?_) (fun c_18 => ?_)
          rotate_left
          · exact absurd (by omega) c_18
          refine sj_inc2 (by decide) rfl dX10_isPlain_69 ?_
          refine sj_goto 4 dX10_isPlain_72 (by decide) ?_
          refine sj_fg3 ?_
          refine ih (a + 1) y (by omega) ?_
          rw [hy, show k = (I (o + 1) (1 + 250 * a)).toNat by omega]
          rfl
        | succ e ih2 =>
          intro k y hk hy
          have hc := hw2 k (by omega)
          have hs := lst_succ (I (o + 1)) (2 + 250 * a) k
          have hy2 := jbs ((jPa (I (o + 1)) a && jPb (lst (I (o + 1)) (2 + 250 * a) k)) = true)
          rw [← hy] at hy2
          have hy3 : y = 1 ∨ y = 0 := by omega
          refine sj_ild3 dX10_isPlain_12 ?_
          refine sj_ald0 dX10_isPlain_13 ?_
          refine sj_ild2 dX10_isPlain_14 ?_
          refine sj_callV (cm_bytes' hS (by omega)) kc_X10_78 (by assumption) rfl rfl rfl rfl (Nat.le_of_ble_eq_true rfl) dX10_isPlain_15 (fun r_15 σ_15 I_15 hp_15 => ?_)
          obtain ⟨rfl, rfl, rfl⟩ := hp_15
          refine sj_icmp_ge 69 dX10_isPlain_18 (by decide) (by omega) (by omega) (fun c_18 => ?_) (fun c_18 => ?_)
          · exact absurd c_18 (by omega)
          refine sj_ald0 dX10_isPlain_21 ?_
          refine sj_getR fl_X10_7 (by assumption) rfl (mr_0 _) dX10_isPlain_22 ?_
          refine sj_ild2 dX10_isPlain_25 ?_
          refine sj_callS (cm_begin) kc_X10_106 rfl rfl (Nat.le_of_ble_eq_true rfl) dX10_isPlain_26 (fun r_26 σ_26 I_26 hp_26 => ?_)
          obtain ⟨rfl, rfl, rfl⟩ := hp_26
          refine sj_ild3 dX10_isPlain_29 ?_
          refine sj_iadd dX10_isPlain_30 ?_
          refine sj_ialdJ (2 + 250 * a + k) (by assumption) (by omega) (by omega) (by omega) dX10_isPlain_31 ?_
          refine sj_ist4 (by decide) rfl dX10_isPlain_32 ?_
          refine sj_ild1 dX10_isPlain_34 ?_
          refine sj_ild4 dX10_isPlain_35 ?_
          refine sj_bipush dX10_isPlain_37 (by decide) ?_
          refine sj_icmp_eq 60 dX10_isPlain_39 (by decide) (by omega) (by omega) (fun c_39 => ?_) (fun c_39 => ?_)
          · refine sj_iconst dX10_isPlain_60 ?_
            first
            | refine sj_iand dX10_isPlain_61 (zI_bA hy3) ?_
            | refine sj_iand dX10_isPlain_61 (zI_bB hy3) ?_
            refine sj_ist1 (by decide) rfl dX10_isPlain_62 ?_
            refine sj_inc3 (by decide) rfl dX10_isPlain_63 ?_
            refine sj_goto 12 dX10_isPlain_66 (by decide) ?_
            refine sj_fg4 (ih2 (k + 1) _ (by omega) ?_)
            rw [hs, jPb_all]
            first
            | (rw [decide_eq_true (by omega), Bool.and_true]; exact hy)
            | (rw [decide_eq_false (by omega), Bool.and_false, Bool.and_false]; rfl)
          · refine sj_ild4 dX10_isPlain_42 ?_
            refine sj_bipush dX10_isPlain_44 (by decide) ?_
            refine sj_icmp_eq 60 dX10_isPlain_46 (by decide) (by omega) (by omega) (fun c_46 => ?_) (fun c_46 => ?_)
            · refine sj_iconst dX10_isPlain_60 ?_
              first
              | refine sj_iand dX10_isPlain_61 (zI_bA hy3) ?_
              | refine sj_iand dX10_isPlain_61 (zI_bB hy3) ?_
              refine sj_ist1 (by decide) rfl dX10_isPlain_62 ?_
              refine sj_inc3 (by decide) rfl dX10_isPlain_63 ?_
              refine sj_goto 12 dX10_isPlain_66 (by decide) ?_
              refine sj_fg4 (ih2 (k + 1) _ (by omega) ?_)
              rw [hs, jPb_all]
              first
              | (rw [decide_eq_true (by omega), Bool.and_true]; exact hy)
              | (rw [decide_eq_false (by omega), Bool.and_false, Bool.and_false]; rfl)
            · refine sj_ild4 dX10_isPlain_49 ?_
              refine sj_bipush dX10_isPlain_51 (by decide) ?_
              refine sj_icmp_eq 60 dX10_isPlain_53 (by decide) (by omega) (by omega) (fun c_53 => ?_) (fun c_53 => ?_)
              · refine sj_iconst dX10_isPlain_60 ?_
                first
                | refine sj_iand dX10_isPlain_61 (zI_bA hy3) ?_
                | refine sj_iand dX10_isPlain_61 (zI_bB hy3) ?_
                refine sj_ist1 (by decide) rfl dX10_isPlain_62 ?_
                refine sj_inc3 (by decide) rfl dX10_isPlain_63 ?_
                refine sj_goto 12 dX10_isPlain_66 (by decide) ?_
                refine sj_fg4 (ih2 (k + 1) _ (by omega) ?_)
                rw [hs, jPb_all]
                first
                | (rw [decide_eq_true (by omega), Bool.and_true]; exact hy)
                | (rw [decide_eq_false (by omega), Bool.and_false, Bool.and_false]; rfl)
              · refine sj_iconst dX10_isPlain_56 ?_
                refine sj_goto 61 dX10_isPlain_57 (by decide) ?_
                first
                | refine sj_iand dX10_isPlain_61 (zI_bA hy3) ?_
                | refine sj_iand dX10_isPlain_61 (zI_bB hy3) ?_
                refine sj_ist1 (by decide) rfl dX10_isPlain_62 ?_
                refine sj_inc3 (by decide) rfl dX10_isPlain_63 ?_
                refine sj_goto 12 dX10_isPlain_66 (by decide) ?_
                refine sj_fg4 (ih2 (k + 1) _ (by omega) ?_)
                rw [hs, jPb_all]
                first
                | (rw [decide_eq_true (by omega), Bool.and_true]; exact hy)
                | (rw [decide_eq_false (by omega), Bool.and_false, Bool.and_false]; rfl)
      refine sj_ild2 dX10_isPlain_4 ?_
      refine sj_bipush dX10_isPlain_5 (by decide) ?_
      refine sj_icmp_ge 75 dX10_isPlain_7 (by decide) (by omega) (by omega) (fun c_7 => ?_) (fun c_7 => ?_)
      · exact absurd c_7 (by omega)
      refine sj_iconst dX10_isPlain_10 ?_
      refine sj_ist3 (by decide) rfl dX10_isPlain_11 ?_
      refine lq (I (o + 1) (1 + 250 * a)).toNat 0 x (by omega) ?_
      rw [hx]; simp [lst_zero, jPb]
  refine sj_iconst dX10_isPlain_0 ?_
  refine sj_ist1 (by decide) rfl dX10_isPlain_1 ?_
  refine sj_iconst dX10_isPlain_2 ?_
  refine sj_ist2 (by decide) rfl dX10_isPlain_3 ?_
  exact lp 8 0 1 (by omega) rfl
end MODEL5
