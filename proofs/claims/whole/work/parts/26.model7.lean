theorem jFl_rng : ∀ (L : List Int) (q : Int) (fr : Bool) (k : Int), 0 ≤ k → -9 ≤ jFl L q fr k ∧ jFl L q fr k ≤ k + L.length
  | [], q, fr, k, h => by
    simp only [jFl, List.length_nil]
    split <;> omega
  | c :: L, q, fr, k, h => by
    have i1 := jFl_rng L q fr (k + 1) (by omega)
    have i2 := jFl_rng L q false (k + 1) (by omega)
    have i3 := jFl_rng L (q + jPt c - 1) (decide (c = 58)) (k + 1) (by omega)
    simp only [jFl, List.length_cons]
    split
    · omega
    · split
      · split <;> omega
      · split <;> omega
section MODEL7
variable {l : Launch} {G : sjG} {σ : sjS} {I : sjI}
theorem cmr_keep {o F : Nat} {i : Int} (hS : mSh σ o) (hF : I o 4 = F) (hF4 : F < 4) (hW : mW (I (o + 1))) (hi : -2147483648 ≤ i ∧ i < 2147483648) : sj_Con l yX10_keep mX10_keep G σ I [.ref o, .int (zI i)] (fun r σ' I' => σ = σ' ∧ ((¬ (0 ≤ i ∧ i ≤ 1) ∧ r = some (.int (zI (-1))) ∧ I = I') ∨ ((0 ≤ i ∧ i ≤ 1) ∧ r = some (.int (zI (jCnt (I (o + 1)) 8))) ∧ I' = sj_up (sj_ur I (o + 3) (va_cpy (I (o + 1)) (I (o + 3)) 0 (2001 * i.toNat) 2001)) o 4 ((F ||| 2 ^ i.toNat : Nat) : Int)))) := by
  obtain ⟨h_o, h_w, h_past, h_images, h_text, h_read, h_made, h_old, h_values, h_ranks, h_operator, h_indexAt, h_second, h_first, h_needed, h_shifts, h_around, h_best, h_isNeeded, h_toSee, h_held, h_there⟩ := id hS
  refine sj_con_of (L0 := [some (.ref o), some (.int (zI i)), none]) (by decide) rfl rfl rfl (Nat.le_of_ble_eq_true rfl) rfl (fun Γ => ?_)
  have hb := jbs (0 ≤ i ∧ i ≤ 1)
  have lp : ∀ (q : Nat), i = q → q < 2 → ∀ (d k : Nat), k + d = 2001 → sj_V l Γ mX10_keep G (fun r σ' I' => σ = σ' ∧ ((¬ (0 ≤ i ∧ i ≤ 1) ∧ r = some (.int (zI (-1))) ∧ I = I') ∨ ((0 ≤ i ∧ i ≤ 1) ∧ r = some (.int (zI (jCnt (I (o + 1)) 8))) ∧ I' = sj_up (sj_ur I (o + 3) (va_cpy (I (o + 1)) (I (o + 3)) 0 (2001 * i.toNat) 2001)) o 4 ((F ||| 2 ^ i.toNat : Nat) : Int)))) σ (sj_ur I (o + 3) (va_cpy (I (o + 1)) (I (o + 3)) 0 (2001 * q) k)) 0 0 11 [some (.ref o), some (.int (zI q)), some (.int (zI k))] [] := by
    intro q hq hq2 d
    subst hq
    induction d with
    | zero =>
      intro k hk
      have hk1 : k = 2001 := by omega
      subst hk1
      refine sj_ild2 dX10_keep_11 ?_
      refine sj_sipush dX10_keep_12 (by decide) ?_
      refine sj_icmp_ge 42 dX10_keep_15 (by decide) (by omega) (by omega) (fun c_15 => ?_) (fun c_15 => ?_)
      rotate_left
      · exact absurd (by omega) c_15
      refine sj_ald0 dX10_keep_42 ?_
      refine sj_dup dX10_keep_43 rfl ?_
      refine sj_getI fl_X10_247 (by assumption) rfl dX10_keep_44 ?_
      rw [sj_ur_ne (by omega), hF]
      refine sj_iconst dX10_keep_47 ?_
      refine sj_ild1 dX10_keep_48 ?_
      refine sj_ishl dX10_keep_49 (zI_shl1 q (by omega)) ?_
      refine sj_ior dX10_keep_50 (zI_or1 F (by omega) q (by omega)) ?_
      refine sj_putI fl_X10_247 (by assumption) rfl rfl rfl dX10_keep_51 ?_
      refine sj_ald0 dX10_keep_54 ?_
      refine sj_callV (cm_defined hS (by rw [sj_up_row (by omega), sj_ur_ne (by omega)]; exact hW)) kc_X10_199 (by assumption) rfl rfl rfl rfl (Nat.le_of_ble_eq_true rfl) dX10_keep_55 (fun r_55 σ_55 I_55 hp_55 => ?_)
      obtain ⟨rfl, rfl, hI⟩ := hp_55
      exact sj_iret dX10_keep_58 rfl rfl (Nat.le_of_ble_eq_true rfl) (Nat.le_of_ble_eq_true rfl) ⟨rfl, Or.inr ⟨by omega, by rw [sj_up_row (by omega), sj_ur_ne (by omega)], hI.symm⟩⟩
    | succ d ih =>
      intro k hk
      refine sj_ild2 dX10_keep_11 ?_
      refine sj_sipush dX10_keep_12 (by decide) ?_
      refine sj_icmp_ge 42 dX10_keep_15 (by decide) (by omega) (by omega) (fun c_15 => ?_) (fun c_15 => ?_)
      · exact absurd c_15 (by omega)
      refine sj_ald0 dX10_keep_18 ?_
      refine sj_getR fl_X10_16 (by assumption) rfl (mr_3 _) dX10_keep_19 ?_
      refine sj_sipush dX10_keep_22 (by decide) ?_
      refine sj_ild1 dX10_keep_25 ?_
      refine sj_imul dX10_keep_26 ?_
      refine sj_ild2 dX10_keep_27 ?_
      refine sj_iadd dX10_keep_28 ?_
      refine sj_ald0 dX10_keep_29 ?_
      refine sj_getR fl_X10_7 (by assumption) rfl (mr_0 _) dX10_keep_30 ?_
      refine sj_ild2 dX10_keep_33 ?_
      refine sj_ialdJ (0 + k) (by assumption) (by omega) (by omega) (by omega) dX10_keep_34 ?_
      rw [sj_ur_ne (by omega)]
      refine sj_iastJ (2001 * q + k) (by assumption) (by omega) (by omega) (by omega) dX10_keep_35 ?_
      rw [cpy_step]
      refine sj_inc2 (by decide) rfl dX10_keep_36 ?_
      refine sj_goto 11 dX10_keep_39 (by decide) ?_
      exact ih (k + 1) (by omega)
  refine sj_ild1 dX10_keep_0 ?_
  refine sj_callS (cm_isImage hi) kc_X10_250 rfl rfl (Nat.le_of_ble_eq_true rfl) dX10_keep_1 (fun r_1 σ_1 I_1 hp_1 => ?_)
  obtain ⟨rfl, rfl, rfl⟩ := hp_1
  refine sj_if_ne 9 dX10_keep_4 (by decide) (by omega) (fun c_4 => ?_) (fun c_4 => ?_)
  · refine sj_iconst dX10_keep_9 ?_
    refine sj_ist2 (by decide) rfl dX10_keep_10 ?_
    obtain ⟨q, rfl⟩ := jNat (a := i) (by omega)
    have h := lp q rfl (by omega) 2001 0 (by omega)
    rw [cpy_zero] at h
    exact h
  · refine sj_iconst dX10_keep_7 ?_
    exact sj_iret dX10_keep_8 rfl rfl (Nat.le_of_ble_eq_true rfl) (Nat.le_of_ble_eq_true rfl) ⟨rfl, Or.inl ⟨by omega, rfl, rfl⟩⟩
theorem cm_back {o F : Nat} {i : Int} (hS : mSh σ o) (hp : 0 ≤ I o 2 ∧ I o 2 ≤ 8) (hF : I o 4 = F) (hF4 : F < 4) (hi : -2147483648 ≤ i ∧ i < 2147483648) (hW : (0 ≤ i ∧ i ≤ 1) → F / 2 ^ i.toNat % 2 = 1 → mW (fun k => I (o + 3) (2001 * i.toNat + k))) : sj_Con l yX10_back mX10_back G σ I [.ref o, .int (zI i)] (fun r σ' I' => σ = σ' ∧ ((¬ (0 ≤ i ∧ i ≤ 1) ∧ r = some (.int (zI (-1))) ∧ I = I') ∨ ((0 ≤ i ∧ i ≤ 1) ∧ ¬ F / 2 ^ i.toNat % 2 = 1 ∧ r = some (.int (zI (-2))) ∧ I = I') ∨ ((0 ≤ i ∧ i ≤ 1) ∧ F / 2 ^ i.toNat % 2 = 1 ∧ r = some (.int (zI (jCnt (I' (o + 1)) 8))) ∧ mChg o I I' ∧ ∀ k, k < 2001 → I' (o + 1) k = I (o + 3) (2001 * i.toNat + k)))) := by
  obtain ⟨h_o, h_w, h_past, h_images, h_text, h_read, h_made, h_old, h_values, h_ranks, h_operator, h_indexAt, h_second, h_first, h_needed, h_shifts, h_around, h_best, h_isNeeded, h_toSee, h_held, h_there⟩ := id hS
  refine sj_con_of (L0 := [some (.ref o), some (.int (zI i)), none]) (by decide) rfl rfl rfl (Nat.le_of_ble_eq_true rfl) rfl (fun Γ => ?_)
  have hb := jbs (0 ≤ i ∧ i ≤ 1)
  have lp : ∀ (q : Nat) (J : sjI), i = q → q < 2 → F / 2 ^ q % 2 = 1 → mChg o I J → J (o + 3) = I (o + 3) → ∀ (d k : Nat), k + d = 2001 → sj_V l Γ mX10_back G (fun r σ' I' => σ = σ' ∧ ((¬ (0 ≤ i ∧ i ≤ 1) ∧ r = some (.int (zI (-1))) ∧ I = I') ∨ ((0 ≤ i ∧ i ≤ 1) ∧ ¬ F / 2 ^ i.toNat % 2 = 1 ∧ r = some (.int (zI (-2))) ∧ I = I') ∨ ((0 ≤ i ∧ i ≤ 1) ∧ F / 2 ^ i.toNat % 2 = 1 ∧ r = some (.int (zI (jCnt (I' (o + 1)) 8))) ∧ mChg o I I' ∧ ∀ k, k < 2001 → I' (o + 1) k = I (o + 3) (2001 * i.toNat + k)))) σ (sj_ur J (o + 1) (va_cpy (J (o + 3)) (J (o + 1)) (2001 * q) 0 k)) 0 0 26 [some (.ref o), some (.int (zI q)), some (.int (zI k))] [] := by
    intro q J hq hq2 hbit hch h3 d
    subst hq
    induction d with
    | zero =>
      intro k hk
      have hk1 : k = 2001 := by omega
      subst hk1
      have hv : ∀ k, k < 2001 → va_cpy (J (o + 3)) (J (o + 1)) (2001 * q) 0 2001 k = I (o + 3) (2001 * q + k) := by
        intro k hk
        have e := cpy_in (f := J (o + 3)) (g := J (o + 1)) (sp := 2001 * q) (dp := 0) hk
        rw [Nat.zero_add] at e
        rw [e, h3]
      have hW2 : mW (va_cpy (J (o + 3)) (J (o + 1)) (2001 * q) 0 2001) := by
        intro a ha
        obtain ⟨w1, w2⟩ := hW (by omega) hbit a ha
        rw [hv _ (by omega)]
        refine ⟨w1, fun j hj => ?_⟩
        have w1' : I (o + 3) (2001 * q + (1 + 250 * a)) ≤ 240 := w1.2
        rw [hv _ (by omega)]
        exact w2 j hj
      refine sj_ild2 dX10_back_26 ?_
      refine sj_sipush dX10_back_27 (by decide) ?_
      refine sj_icmp_ge 57 dX10_back_30 (by decide) (by omega) (by omega) (fun c_30 => ?_) (fun c_30 => ?_)
      rotate_left
      · exact absurd (by omega) c_30
      refine sj_ald0 dX10_back_57 ?_
      refine sj_callV (cm_defined hS (by rw [sj_ur_self]; exact hW2)) kc_X10_199 (by assumption) rfl rfl rfl rfl (Nat.le_of_ble_eq_true rfl) dX10_back_58 (fun r_58 σ_58 I_58 hp_58 => ?_)
      obtain ⟨rfl, rfl, hI⟩ := hp_58
      exact sj_iret dX10_back_61 rfl rfl (Nat.le_of_ble_eq_true rfl) (Nat.le_of_ble_eq_true rfl) ⟨rfl, Or.inr (Or.inr ⟨by omega, hbit, by rw [← hI], by rw [← hI]; exact hch.w (fun a e _ _ => sj_ur_ne e), fun k hk => by rw [← hI, sj_ur_self]; exact hv k hk⟩)⟩
    | succ d ih =>
      intro k hk
      refine sj_ild2 dX10_back_26 ?_
      refine sj_sipush dX10_back_27 (by decide) ?_
      refine sj_icmp_ge 57 dX10_back_30 (by decide) (by omega) (by omega) (fun c_30 => ?_) (fun c_30 => ?_)
      · exact absurd c_30 (by omega)
      refine sj_ald0 dX10_back_33 ?_
      refine sj_getR fl_X10_7 (by assumption) rfl (mr_0 _) dX10_back_34 ?_
      refine sj_ild2 dX10_back_37 ?_
      refine sj_ald0 dX10_back_38 ?_
      refine sj_getR fl_X10_16 (by assumption) rfl (mr_3 _) dX10_back_39 ?_
      refine sj_sipush dX10_back_42 (by decide) ?_
      refine sj_ild1 dX10_back_45 ?_
      refine sj_imul dX10_back_46 ?_
      refine sj_ild2 dX10_back_47 ?_
      refine sj_iadd dX10_back_48 ?_
      refine sj_ialdJ (2001 * q + k) (by assumption) (by omega) (by omega) (by omega) dX10_back_49 ?_
      rw [sj_ur_ne (by omega)]
      refine sj_iastJ (0 + k) (by assumption) (by omega) (by omega) (by omega) dX10_back_50 ?_
      rw [cpy_step]
      refine sj_inc2 (by decide) rfl dX10_back_51 ?_
      refine sj_goto 26 dX10_back_54 (by decide) ?_
      exact ih (k + 1) (by omega)
  refine sj_ild1 dX10_back_0 ?_
  refine sj_callS (cm_isImage hi) kc_X10_250 rfl rfl (Nat.le_of_ble_eq_true rfl) dX10_back_1 (fun r_1 σ_1 I_1 hp_1 => ?_)
  obtain ⟨rfl, rfl, rfl⟩ := hp_1
  refine sj_if_ne 9 dX10_back_4 (by decide) (by omega) (fun c_4 => ?_) (fun c_4 => ?_)
  · obtain ⟨q, rfl⟩ := jNat (a := i) (by omega)
    have hk := jbs (F / 2 ^ q % 2 = 1)
    refine sj_ald0 dX10_back_9 ?_
    refine sj_ild1 dX10_back_10 ?_
    refine sj_callV (cm_isKept hS hF hF4 (by omega)) kc_X10_253 (by assumption) rfl rfl rfl rfl (Nat.le_of_ble_eq_true rfl) dX10_back_11 (fun r_11 σ_11 I_11 hp_11 => ?_)
    obtain ⟨rfl, rfl, rfl⟩ := hp_11
    refine sj_if_ne 20 dX10_back_14 (by decide) (by omega) (fun c_14 => ?_) (fun c_14 => ?_)
    · refine sj_ald0 dX10_back_20 ?_
      refine sj_callV (cm_remember hS hp) kc_X10_116 (by assumption) rfl rfl rfl rfl (Nat.le_of_ble_eq_true rfl) dX10_back_21 (fun r_21 σ_21 I_21 hp_21 => ?_)
      obtain ⟨rfl, rfl, hrm⟩ := hp_21
      refine sj_iconst dX10_back_24 ?_
      refine sj_ist2 (by decide) rfl dX10_back_25 ?_
      have h := lp q I_21 rfl (by omega) (by omega) (mRem_chg hrm (mKp.rf o I)) (hrm.1 (o + 3) (by omega) (by omega)) 2001 0 (by omega)
      rw [cpy_zero] at h
      exact h
    · refine sj_bipush dX10_back_17 (by decide) ?_
      exact sj_iret dX10_back_19 rfl rfl (Nat.le_of_ble_eq_true rfl) (Nat.le_of_ble_eq_true rfl) ⟨rfl, Or.inr (Or.inl ⟨by omega, fun z => by rw [show ((q : Int)).toNat = q from rfl] at z; omega, rfl, rfl⟩)⟩
  · refine sj_iconst dX10_back_7 ?_
    exact sj_iret dX10_back_8 rfl rfl (Nat.le_of_ble_eq_true rfl) (Nat.le_of_ble_eq_true rfl) ⟨rfl, Or.inl ⟨by omega, rfl, rfl⟩⟩
theorem mSet_cpy {f g : Nat → Int} {a : Nat} {B : List Int} (ha : a < 8) (hB : B.length ≤ 248) (hg : lst g 0 B.length = B) : mSet f (fun j => if j = 1 + 250 * a then (B.length : Int) else va_cpy g f 0 (2 + 250 * a) B.length j) a B := by
  refine ⟨by dsimp only; rw [if_neg (by omega), cpy_out (by omega)], if_pos rfl, ?_, fun b hb hn => ⟨by dsimp only; rw [if_neg (by omega), cpy_out (by omega)], fun j hj => by dsimp only; rw [if_neg (by omega), cpy_out (by omega)]⟩⟩
  rw [← hg, lst_len]
  apply lst_congr
  intro j hj
  rw [if_neg (by omega), cpy_in hj]
theorem cm_define {o n : Nat} {a : Int} {X : List Int} (hS : mSh σ o) (hp : 0 ≤ I o 2 ∧ I o 2 ≤ 8) (hW : mW (I (o + 1))) (hn : I o 6 = n ∧ n ≤ 80) (hX : lst (I (o + 4)) 0 n = X) (hb : ∀ x ∈ X, 32 ≤ x ∧ x ≤ 126) (ha : -2147483648 ≤ a ∧ a < 2147483648) : sj_Con l yX10_define mX10_define G σ I [.ref o, .int (zI a)] (fun r σ' I' => σ = σ' ∧ ((¬ (0 ≤ a ∧ a ≤ 7) ∧ r = some (.int (zI (-1))) ∧ mKp o I I') ∨ ((0 ≤ a ∧ a ≤ 7) ∧ jFl X 1 false 0 ≠ -9 ∧ r = some (.int (zI (-2))) ∧ mKp o I I') ∨ ((0 ≤ a ∧ a ≤ 7) ∧ jFl X 1 false 0 = -9 ∧ r = some (.int (zI (jSz 0 (jNb X)))) ∧ mChg o I I' ∧ mSet (I (o + 1)) (I' (o + 1)) a.toNat (jNb X)))) := by
  obtain ⟨h_o, h_w, h_past, h_images, h_text, h_read, h_made, h_old, h_values, h_ranks, h_operator, h_indexAt, h_second, h_first, h_needed, h_shifts, h_around, h_best, h_isNeeded, h_toSee, h_held, h_there⟩ := id hS
  refine sj_con_of (L0 := [some (.ref o), some (.int (zI a)), none]) (by decide) rfl rfl rfl (Nat.le_of_ble_eq_true rfl) rfl (fun Γ => ?_)
  have hbb := jbs (0 ≤ a ∧ a ≤ 7)
  have hY : (jNb X).length ≤ 80 := by
    have h1 := jNb_len X
    rw [← hX, lst_len] at h1
    rw [← hX]
    omega
  have lp : ∀ (q : Nat) (J : sjI), a = q → q < 8 → jFl X 1 false 0 = -9 → mChg o I J → J (o + 1) = I (o + 1) → J o 8 = (jNb X).length → lst (J (o + 5)) 0 (jNb X).length = jNb X → ∀ (d k : Nat), k + d = (jNb X).length → sj_V l Γ mX10_define G (fun r σ' I' => σ = σ' ∧ ((¬ (0 ≤ a ∧ a ≤ 7) ∧ r = some (.int (zI (-1))) ∧ mKp o I I') ∨ ((0 ≤ a ∧ a ≤ 7) ∧ jFl X 1 false 0 ≠ -9 ∧ r = some (.int (zI (-2))) ∧ mKp o I I') ∨ ((0 ≤ a ∧ a ≤ 7) ∧ jFl X 1 false 0 = -9 ∧ r = some (.int (zI (jSz 0 (jNb X)))) ∧ mChg o I I' ∧ mSet (I (o + 1)) (I' (o + 1)) a.toNat (jNb X)))) σ (sj_ur J (o + 1) (va_cpy (J (o + 5)) (J (o + 1)) 0 (2 + 250 * q) k)) 0 0 27 [some (.ref o), some (.int (zI q)), some (.int (zI k))] [] := by
    intro q J hq hq8 hf hch h1 h8 h5 d
    subst hq
    induction d with
    | zero =>
      intro k hk
      have hk1 : k = (jNb X).length := by omega
      subst hk1
      have hset := mSet_cpy (f := J (o + 1)) hq8 (by omega) h5
      have hrow : (sj_up (sj_ur J (o + 1) (va_cpy (J (o + 5)) (J (o + 1)) 0 (2 + 250 * q) (jNb X).length)) (o + 1) (1 + 250 * q) (jNb X).length) (o + 1) = fun j => if j = 1 + 250 * q then ((jNb X).length : Int) else va_cpy (J (o + 5)) (J (o + 1)) 0 (2 + 250 * q) (jNb X).length j := by
        funext j
        simp only [sj_up, sj_ur]
        simp
      rw [← hrow, h1] at hset
      rw [h1] at hrow
      have hW2 := mSet_W hset hW (by omega) (fun x hx => by have := hb x ((List.mem_filter.mp hx).1); omega)
      rw [h1]
      rw [h1] at *
      refine sj_ild2 dX10_define_27 ?_
      refine sj_ald0 dX10_define_28 ?_
      refine sj_getI fl_X10_100 (by assumption) rfl dX10_define_29 ?_
      rw [sj_ur_ne (by omega), h8]
      refine sj_icmp_ge 58 dX10_define_32 (by decide) (by omega) (by omega) (fun c_32 => ?_) (fun c_32 => ?_)
      rotate_left
      · exact absurd (by omega) c_32
      refine sj_ald0 dX10_define_58 ?_
      refine sj_getR fl_X10_7 (by assumption) rfl (mr_0 _) dX10_define_59 ?_
      refine sj_iconst dX10_define_62 ?_
      refine sj_sipush dX10_define_63 (by decide) ?_
      refine sj_ild1 dX10_define_66 ?_
      refine sj_imul dX10_define_67 ?_
      refine sj_iadd dX10_define_68 ?_
      refine sj_ald0 dX10_define_69 ?_
      refine sj_getI fl_X10_100 (by assumption) rfl dX10_define_70 ?_
      rw [sj_ur_ne (by omega), h8]
      refine sj_iastJ (1 + 250 * q) (by assumption) (by omega) (by omega) (by omega) dX10_define_73 ?_
      refine sj_ald0 dX10_define_74 ?_
      refine sj_ild1 dX10_define_75 ?_
      refine sj_callV (cm_sizeOf hS hq8 hW2) kc_X10_119 (by assumption) rfl rfl rfl rfl (Nat.le_of_ble_eq_true rfl) dX10_define_76 (fun r_76 σ_76 I_76 hp_76 => ?_)
      obtain ⟨rfl, rfl, hI⟩ := hp_76
      exact sj_iret dX10_define_79 rfl rfl (Nat.le_of_ble_eq_true rfl) (Nat.le_of_ble_eq_true rfl) ⟨rfl, Or.inr (Or.inr ⟨by omega, hf, by rw [mSet_B hset], by rw [← hI]; exact hch.w (fun a e _ _ => by rw [sj_up_row e, sj_ur_ne e]), by rw [← hI]; exact hset⟩)⟩
    | succ d ih =>
      intro k hk
      refine sj_ild2 dX10_define_27 ?_
      refine sj_ald0 dX10_define_28 ?_
      refine sj_getI fl_X10_100 (by assumption) rfl dX10_define_29 ?_
      rw [sj_ur_ne (by omega), h8]
      refine sj_icmp_ge 58 dX10_define_32 (by decide) (by omega) (by omega) (fun c_32 => ?_) (fun c_32 => ?_)
      · exact absurd c_32 (by omega)
      refine sj_ald0 dX10_define_35 ?_
      refine sj_getR fl_X10_7 (by assumption) rfl (mr_0 _) dX10_define_36 ?_
      refine sj_ild1 dX10_define_39 ?_
      refine sj_callS (cm_begin) kc_X10_106 rfl rfl (Nat.le_of_ble_eq_true rfl) dX10_define_40 (fun r_40 σ_40 I_40 hp_40 => ?_)
      obtain ⟨rfl, rfl, rfl⟩ := hp_40
      refine sj_ild2 dX10_define_43 ?_
      refine sj_iadd dX10_define_44 ?_
      refine sj_ald0 dX10_define_45 ?_
      refine sj_getR fl_X10_22 (by assumption) rfl (mr_7 _) dX10_define_46 ?_
      refine sj_ild2 dX10_define_49 ?_
      refine sj_ialdJ (0 + k) (by assumption) (by omega) (by omega) (by omega) dX10_define_50 ?_
      rw [sj_ur_ne (by omega)]
      refine sj_iastJ (2 + 250 * q + k) (by assumption) (by omega) (by omega) (by omega) dX10_define_51 ?_
      rw [cpy_step]
      refine sj_inc2 (by decide) rfl dX10_define_52 ?_
      refine sj_goto 27 dX10_define_55 (by decide) ?_
      exact ih (k + 1) (by omega)
  refine sj_ild1 dX10_define_0 ?_
  refine sj_callS (cm_isStream ha) kc_X10_109 rfl rfl (Nat.le_of_ble_eq_true rfl) dX10_define_1 (fun r_1 σ_1 I_1 hp_1 => ?_)
  obtain ⟨rfl, rfl, rfl⟩ := hp_1
  refine sj_if_ne 9 dX10_define_4 (by decide) (by omega) (fun c_4 => ?_) (fun c_4 => ?_)
  · refine sj_ald0 dX10_define_9 ?_
    refine sj_callV (cm_fault hS hn hX hb) kc_X10_112 (by assumption) rfl rfl rfl rfl (Nat.le_of_ble_eq_true rfl) dX10_define_10 (fun r_10 σ_10 I_10 hp_10 => ?_)
    obtain ⟨rfl, rfl, f1, f2, f3⟩ := hp_10
    have hkp : mKp o I I_10 := ⟨fun a ha => f1 a (by omega) (by omega), ⟨f2 2 (by decide), f2 4 (by decide), f2 6 (by decide), f2 15 (by decide)⟩, fun a ha => f1 a (by omega) (by omega)⟩
    refine sj_bipush dX10_define_13 (by decide) ?_
    have hrg := jFl_rng X 1 false 0 (by omega)
    have hXl : X.length = n := by rw [← hX, lst_len]
    refine sj_icmp_eq 21 dX10_define_15 (by decide) (by omega) (by omega) (fun c_15 => ?_) (fun c_15 => ?_)
    · refine sj_ald0 dX10_define_21 ?_
      refine sj_callV (cm_remember hS (by rw [f2 2 (by decide)]; exact hp)) kc_X10_116 (by assumption) rfl rfl rfl rfl (Nat.le_of_ble_eq_true rfl) dX10_define_22 (fun r_22 σ_22 I_22 hp_22 => ?_)
      obtain ⟨rfl, rfl, hrm⟩ := hp_22
      refine sj_iconst dX10_define_25 ?_
      refine sj_ist2 (by decide) rfl dX10_define_26 ?_
      obtain ⟨q, rfl⟩ := jNat (a := a) (by omega)
      obtain ⟨g8, g5⟩ := f3 (by omega)
      have h := lp q I_22 rfl (by omega) (by omega) (mRem_chg hrm hkp) (by rw [hrm.1 (o + 1) (by omega) (by omega), f1 (o + 1) (by omega) (by omega)]) (by rw [hrm.2.1 8 (by decide) (by decide), g8]) (by rw [hrm.1 (o + 5) (by omega) (by omega)]; exact g5) (jNb X).length 0 (by omega)
      rw [cpy_zero] at h
      exact h
    · refine sj_bipush dX10_define_18 (by decide) ?_
      exact sj_iret dX10_define_20 rfl rfl (Nat.le_of_ble_eq_true rfl) (Nat.le_of_ble_eq_true rfl) ⟨rfl, Or.inr (Or.inl ⟨by omega, by omega, rfl, hkp⟩)⟩
  · refine sj_iconst dX10_define_7 ?_
    exact sj_iret dX10_define_8 rfl rfl (Nat.le_of_ble_eq_true rfl) (Nat.le_of_ble_eq_true rfl) ⟨rfl, Or.inl ⟨by omega, rfl, mKp.rf o I⟩⟩
end MODEL7
