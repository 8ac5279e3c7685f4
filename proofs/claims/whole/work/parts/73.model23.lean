/-- what stream(a, what) tells, for what from 1 to 5 -/
def jStr (v : Nat → Int) (a : Nat) (what : Int) : Int :=
  if what = 1 then (jRh v (400 * a) 400 0 : Nat)
  else if what = 2 then (jPc (jDs v (400 * a) (jRh v (400 * a) 400 0)) : Nat)
  else if what = 3 then jSm v (400 * a) (jRh v (400 * a) 400 0)
  else if jRh v (400 * a) 400 0 < 200 then -9 else jPd v (400 * a) (decide (what = 4)) 100 1
section MODEL23
variable {l : Launch} {G : sjG} {σ : sjS} {I : sjI}
theorem cm_stream {o : Nat} {M a w : Int} {E : Nat → Option (List Int)} (hS : mSh σ o) (hW : mW (I (o + 1))) (hE : mEq (I (o + 1)) E) (hM : I (o + 1) 0 = M) (hM2 : 2 ≤ M ∧ M ≤ 10) (h15 : I o 15 = 0 ∨ (I o 15 = 1 ∧ mLd o M E I)) (ha : -2147483648 ≤ a ∧ a < 2147483648) (hw : -2147483648 ≤ w ∧ w < 2147483648) : sj_Con l yX10_stream mX10_stream G σ I [.ref o, .int (zI a), .int (zI w)] (fun r σ' I' => σ = σ' ∧ ((¬ ((0 ≤ a ∧ a ≤ 7) ∧ (0 ≤ w ∧ w ≤ 5)) ∧ r = some (.int (zI (-1))) ∧ I = I') ∨ ((0 ≤ a ∧ a ≤ 7) ∧ w = 0 ∧ r = some (.int (zI (if 0 < I (o + 1) (1 + 250 * a.toNat) then jSz 0 (mB (I (o + 1)) a.toNat) else -9))) ∧ I = I') ∨ ((0 ≤ a ∧ a ≤ 7) ∧ (1 ≤ w ∧ w ≤ 5) ∧ r = some (.int (zI (jStr (I' (o + 8)) a.toNat w))) ∧ mLy o I I' ∧ I' o 15 = 1 ∧ mLd o M E I'))) := by
  obtain ⟨h_o, h_w, h_past, h_images, h_text, h_read, h_made, h_old, h_values, h_ranks, h_operator, h_indexAt, h_second, h_first, h_needed, h_shifts, h_around, h_best, h_isNeeded, h_toSee, h_held, h_there⟩ := id hS
  refine sj_con_of (L0 := [some (.ref o), some (.int (zI a)), some (.int (zI w))]) (by decide) rfl rfl rfl (Nat.le_of_ble_eq_true rfl) rfl (fun Γ => ?_)
  have b1 := jbs (0 ≤ a ∧ a ≤ 7)
  have b2 := jbs (0 ≤ w ∧ w ≤ 5)
  have rest : ∀ (p : Nat) (J : sjI), a = p → p < 8 → (1 ≤ w ∧ w ≤ 5) → mLy o I J → J o 15 = 1 → mLd o M E J → sj_V l Γ mX10_stream G (fun r σ' I' => σ = σ' ∧ ((¬ ((0 ≤ a ∧ a ≤ 7) ∧ (0 ≤ w ∧ w ≤ 5)) ∧ r = some (.int (zI (-1))) ∧ I = I') ∨ ((0 ≤ a ∧ a ≤ 7) ∧ w = 0 ∧ r = some (.int (zI (if 0 < I (o + 1) (1 + 250 * a.toNat) then jSz 0 (mB (I (o + 1)) a.toNat) else -9))) ∧ I = I') ∨ ((0 ≤ a ∧ a ≤ 7) ∧ (1 ≤ w ∧ w ≤ 5) ∧ r = some (.int (zI (jStr (I' (o + 8)) a.toNat w))) ∧ mLy o I I' ∧ I' o 15 = 1 ∧ mLd o M E I'))) σ J 0 0 45 [some (.ref o), some (.int (zI p)), some (.int (zI w))] [] := by
    intro p J hp hp8 hw5 j1 j2 j3
    subst hp
    have hv : ∀ k, k < 3200 → J (o + 8) k = -9 ∨ (0 ≤ J (o + 8) k ∧ J (o + 8) k < 10) := fun k hk => by have := j3.1 k hk; omega
    have r2 := jRh_le (J (o + 8)) (400 * p) 400 0
    have hkn : ∀ j, j < jRh (J (o + 8)) (400 * p) 400 0 → 0 ≤ J (o + 8) (400 * p + j) ∧ J (o + 8) (400 * p + j) < 10 := fun j hj => by
      have h1 := jRh_known (J (o + 8)) (400 * p) 400 0 j (by omega) hj
      have h2 := hv (400 * p + j) (by omega)
      omega
    have fin : ∀ x : Int, x = jStr (J (o + 8)) p w → (fun r σ' I' => σ = σ' ∧ ((¬ ((0 ≤ (p : Int) ∧ (p : Int) ≤ 7) ∧ (0 ≤ w ∧ w ≤ 5)) ∧ r = some (.int (zI (-1))) ∧ I = I') ∨ ((0 ≤ (p : Int) ∧ (p : Int) ≤ 7) ∧ w = 0 ∧ r = some (.int (zI (if 0 < I (o + 1) (1 + 250 * (p : Int).toNat) then jSz 0 (mB (I (o + 1)) (p : Int).toNat) else -9))) ∧ I = I') ∨ ((0 ≤ (p : Int) ∧ (p : Int) ≤ 7) ∧ (1 ≤ w ∧ w ≤ 5) ∧ r = some (.int (zI (jStr (I' (o + 8)) (p : Int).toNat w))) ∧ mLy o I I' ∧ I' o 15 = 1 ∧ mLd o M E I')) : sjP) (some (.int (zI x))) σ J := by
      intro x hx
      exact ⟨rfl, Or.inr (Or.inr ⟨by omega, hw5, by rw [hx]; rfl, j1, j2, j3⟩)⟩
    refine sj_ild2 dX10_stream_45 ?_
    rcases (show w = 1 ∨ w = 2 ∨ w = 3 ∨ (w < 1 ∨ 3 < w) by omega) with c_46 | c_46 | c_46 | c_46
    · refine sj_tin 72 dX10_stream_46 (by omega) (by omega) (by rw [c_46]; rfl) (by decide) ?_
      refine sj_ald0 dX10_stream_72 ?_
      refine sj_ild1 dX10_stream_73 ?_
      refine sj_callV (cm_reach hS hp8 hv) kc_X10_196 (by assumption) rfl rfl rfl rfl (Nat.le_of_ble_eq_true rfl) dX10_stream_74 (fun r_74 σ_74 I_74 hp_74 => ?_)
      obtain ⟨rfl, rfl, rfl⟩ := hp_74
      exact sj_iret dX10_stream_77 rfl rfl (Nat.le_of_ble_eq_true rfl) (Nat.le_of_ble_eq_true rfl) (fin _ (by unfold jStr; rw [if_pos (by omega)]))
    · refine sj_tin 78 dX10_stream_46 (by omega) (by omega) (by rw [c_46]; rfl) (by decide) ?_
      refine sj_ald0 dX10_stream_78 ?_
      refine sj_ild1 dX10_stream_79 ?_
      refine sj_ald0 dX10_stream_80 ?_
      refine sj_ild1 dX10_stream_81 ?_
      refine sj_callV (cm_reach hS hp8 hv) kc_X10_196 (by assumption) rfl rfl rfl rfl (Nat.le_of_ble_eq_true rfl) dX10_stream_82 (fun r_82 σ_82 I_82 hp_82 => ?_)
      obtain ⟨rfl, rfl, rfl⟩ := hp_82
      refine sj_callV (cm_differentValues hS hp8 (by omega) hkn) kc_X10_225 (by assumption) rfl rfl rfl rfl (Nat.le_of_ble_eq_true rfl) dX10_stream_85 (fun r_85 σ_85 I_85 hp_85 => ?_)
      obtain ⟨rfl, rfl, rfl⟩ := hp_85
      exact sj_iret dX10_stream_88 rfl rfl (Nat.le_of_ble_eq_true rfl) (Nat.le_of_ble_eq_true rfl) (fin _ (by unfold jStr; rw [if_neg (by omega), if_pos (by omega)]))
    · refine sj_tin 89 dX10_stream_46 (by omega) (by omega) (by rw [c_46]; rfl) (by decide) ?_
      refine sj_ald0 dX10_stream_89 ?_
      refine sj_ild1 dX10_stream_90 ?_
      refine sj_ald0 dX10_stream_91 ?_
      refine sj_ild1 dX10_stream_92 ?_
      refine sj_callV (cm_reach hS hp8 hv) kc_X10_196 (by assumption) rfl rfl rfl rfl (Nat.le_of_ble_eq_true rfl) dX10_stream_93 (fun r_93 σ_93 I_93 hp_93 => ?_)
      obtain ⟨rfl, rfl, rfl⟩ := hp_93
      refine sj_callV (cm_sumOf hS hp8 (by omega)) kc_X10_228 (by assumption) rfl rfl rfl rfl (Nat.le_of_ble_eq_true rfl) dX10_stream_96 (fun r_96 σ_96 I_96 hp_96 => ?_)
      obtain ⟨rfl, rfl, rfl⟩ := hp_96
      exact sj_iret dX10_stream_99 rfl rfl (Nat.le_of_ble_eq_true rfl) (Nat.le_of_ble_eq_true rfl) (fin _ (by unfold jStr; rw [if_neg (by omega), if_neg (by omega), if_pos (by omega)]))
    · refine sj_tout 100 dX10_stream_46 (by omega) c_46 (by decide) ?_
      refine sj_ald0 dX10_stream_100 ?_
      refine sj_ild1 dX10_stream_101 ?_
      refine sj_ild2 dX10_stream_102 ?_
      refine sj_iconst dX10_stream_103 ?_
      refine sj_icmp_ne 111 dX10_stream_104 (by decide) (by omega) (by omega) (fun c_104 => ?_) (fun c_104 => ?_)
      · have hd : decide (w = 4) = false := decide_eq_false (by omega); have cp := cm_period (l := l) (G := G) (σ := σ) (I := J) (o := o) (a := p) (w := false) hS hp8 hv
        refine sj_iconst dX10_stream_111 ?_
        refine sj_callV (cp) kc_X10_231 (by assumption) rfl rfl rfl rfl (Nat.le_of_ble_eq_true rfl) dX10_stream_112 (fun r_112 σ_112 I_112 hp_112 => ?_)
        obtain ⟨rfl, rfl, rfl⟩ := hp_112
        exact sj_iret dX10_stream_115 rfl rfl (Nat.le_of_ble_eq_true rfl) (Nat.le_of_ble_eq_true rfl) (fin _ (by unfold jStr; rw [if_neg (show ¬ w = 1 by omega), if_neg (show ¬ w = 2 by omega), if_neg (show ¬ w = 3 by omega), hd]))
      · have hd : decide (w = 4) = true := decide_eq_true (by omega); have cp := cm_period (l := l) (G := G) (σ := σ) (I := J) (o := o) (a := p) (w := true) hS hp8 hv
        refine sj_iconst dX10_stream_107 ?_
        refine sj_goto 112 dX10_stream_108 (by decide) ?_
        refine sj_callV (cp) kc_X10_231 (by assumption) rfl rfl rfl rfl (Nat.le_of_ble_eq_true rfl) dX10_stream_112 (fun r_112 σ_112 I_112 hp_112 => ?_)
        obtain ⟨rfl, rfl, rfl⟩ := hp_112
        exact sj_iret dX10_stream_115 rfl rfl (Nat.le_of_ble_eq_true rfl) (Nat.le_of_ble_eq_true rfl) (fin _ (by unfold jStr; rw [if_neg (show ¬ w = 1 by omega), if_neg (show ¬ w = 2 by omega), if_neg (show ¬ w = 3 by omega), hd]))
  refine sj_ild1 dX10_stream_0 ?_
  refine sj_callS (cm_isStream ha) kc_X10_109 rfl rfl (Nat.le_of_ble_eq_true rfl) dX10_stream_1 (fun r_1 σ_1 I_1 hp_1 => ?_)
  obtain ⟨rfl, rfl, rfl⟩ := hp_1
  refine sj_if_eq 16 dX10_stream_4 (by decide) (by omega) (fun c_4 => ?_) (fun c_4 => ?_)
  · refine sj_iconst dX10_stream_16 ?_
    exact sj_iret dX10_stream_17 rfl rfl (Nat.le_of_ble_eq_true rfl) (Nat.le_of_ble_eq_true rfl) ⟨rfl, Or.inl ⟨by omega, rfl, rfl⟩⟩
  · refine sj_ild2 dX10_stream_7 ?_
    refine sj_iconst dX10_stream_8 ?_
    refine sj_iconst dX10_stream_9 ?_
    refine sj_callS (cm_isIn hw (by omega) (by omega)) kc_X10_74 rfl rfl (Nat.le_of_ble_eq_true rfl) dX10_stream_10 (fun r_10 σ_10 I_10 hp_10 => ?_)
    obtain ⟨rfl, rfl, rfl⟩ := hp_10
    refine sj_if_ne 18 dX10_stream_13 (by decide) (by omega) (fun c_13 => ?_) (fun c_13 => ?_)
    · obtain ⟨p, rfl⟩ := jNat (a := a) (by omega)
      have hh := jbs (0 < I (o + 1) (1 + 250 * p))
      have hw1 := (hW p (by omega)).1
      refine sj_ild2 dX10_stream_18 ?_
      refine sj_if_ne 41 dX10_stream_19 (by decide) (by omega) (fun c_19 => ?_) (fun c_19 => ?_)
      · refine sj_ald0 dX10_stream_41 ?_
        refine sj_callV (cm_layValues hS hW hE hM hM2 h15) kc_X10_193 (by assumption) rfl rfl rfl rfl (Nat.le_of_ble_eq_true rfl) dX10_stream_42 (fun r_42 σ_42 I_42 hp_42 => ?_)
        obtain ⟨rfl, rfl, j1, j2, j3⟩ := hp_42
        exact rest p _ rfl (by omega) (by omega) j1 j2 j3
      · refine sj_ald0 dX10_stream_22 ?_
        refine sj_ild1 dX10_stream_23 ?_
        refine sj_callV (cm_has' hS (by omega) hW) kc_X10_122 (by assumption) rfl rfl rfl rfl (Nat.le_of_ble_eq_true rfl) dX10_stream_24 (fun r_24 σ_24 I_24 hp_24 => ?_)
        obtain ⟨rfl, rfl, rfl⟩ := hp_24
        refine sj_if_eq 38 dX10_stream_27 (by decide) (by omega) (fun c_27 => ?_) (fun c_27 => ?_)
        · refine sj_bipush dX10_stream_38 (by decide) ?_
          exact sj_iret dX10_stream_40 rfl rfl (Nat.le_of_ble_eq_true rfl) (Nat.le_of_ble_eq_true rfl) ⟨rfl, Or.inr (Or.inl ⟨by omega, by omega, by first | rw [if_pos (show 0 < I (o + 1) (1 + 250 * (p : Int).toNat) from by show 0 < I (o + 1) (1 + 250 * p); omega)]; rfl | rw [if_neg (show ¬ 0 < I (o + 1) (1 + 250 * (p : Int).toNat) from by show ¬ 0 < I (o + 1) (1 + 250 * p); omega)], rfl⟩)⟩
        · refine sj_ald0 dX10_stream_30 ?_
          refine sj_ild1 dX10_stream_31 ?_
          refine sj_callV (cm_sizeOf hS (by omega) hW) kc_X10_119 (by assumption) rfl rfl rfl rfl (Nat.le_of_ble_eq_true rfl) dX10_stream_32 (fun r_32 σ_32 I_32 hp_32 => ?_)
          obtain ⟨rfl, rfl, rfl⟩ := hp_32
          refine sj_goto 40 dX10_stream_35 (by decide) ?_
          exact sj_iret dX10_stream_40 rfl rfl (Nat.le_of_ble_eq_true rfl) (Nat.le_of_ble_eq_true rfl) ⟨rfl, Or.inr (Or.inl ⟨by omega, by omega, by first | rw [if_pos (show 0 < I (o + 1) (1 + 250 * (p : Int).toNat) from by show 0 < I (o + 1) (1 + 250 * p); omega)]; rfl | rw [if_neg (show ¬ 0 < I (o + 1) (1 + 250 * (p : Int).toNat) from by show ¬ 0 < I (o + 1) (1 + 250 * p); omega)], rfl⟩)⟩
    · refine sj_iconst dX10_stream_16 ?_
      exact sj_iret dX10_stream_17 rfl rfl (Nat.le_of_ble_eq_true rfl) (Nat.le_of_ble_eq_true rfl) ⟨rfl, Or.inl ⟨by omega, rfl, rfl⟩⟩
end MODEL23
