theorem jPe_all {E : Nat → Option (List Int)} (h8 : ∀ a, 8 ≤ a → E a = none) (h : jPe E 8 = true) : ∀ b T, E b = some T → ∀ c ∈ T, c ≠ 122 ∧ c ≠ 101 ∧ c ≠ 111 := fun b T hb c hc => by
  have hb8 : b < 8 := by
    by_cases q : b < 8
    · exact q
    · rw [h8 b (by omega)] at hb; cases hb
  have h1 := jPe_mono (n := b + 1) h (by omega)
  unfold jPe at h1
  rw [Bool.and_eq_true] at h1
  have h2 := h1.2
  rw [hb] at h2
  unfold jPb at h2
  rw [List.all_eq_true] at h2
  exact of_decide_eq_true (h2 c hc)
section JUDGE12
variable {l : Launch} {G : sjG} {σ : sjS} {I : sjI}
theorem cx9_cycle {x : Nat} {a : Int} {X : List Int} {S : aSt} {H : List aSt} {im : Nat → Option aSt} (h : cI σ I x X S H im) (hR : rB σ x) (ha : -2147483648 ≤ a ∧ a < 2147483648) : sj_Con l yX9_cycle mX9_cycle G σ I [.ref x, .int (zI a)] (fun r σ' I' => rC σ I σ' I' x ∧ cI σ' I' x X S H im ∧ ((¬ (0 ≤ a ∧ a ≤ 7) ∧ r = some (.int (zI (-1)))) ∨ ((0 ≤ a ∧ a ≤ 7) ∧ ¬ jPe S.2 8 = true ∧ r = some (.int (zI (-2)))) ∨ ((0 ≤ a ∧ a ≤ 7) ∧ jPe S.2 8 = true ∧ r = some (.int (zI (if jCy (jSt S.2) a.toNat = -1000000 then -9 else jCy (jSt S.2) a.toNat + 1000)))))) := by
  obtain ⟨pv, ws, cy, η, ξ, μ, od, hj⟩ := id h
  obtain ⟨ρ, r0, r1, r6, r7, r8⟩ := id hj.1.1
  obtain ⟨τ, he, ht, hM⟩ := id hj.1.2.2.1
  have e0 := he.1
  have b1 := jbs (0 ≤ a ∧ a ≤ 7)
  have b2 := jbs (jPe S.2 8 = true)
  refine sj_con_of (L0 := [some (.ref x), some (.int (zI a))]) (by decide) rfl rfl rfl (Nat.le_of_ble_eq_true rfl) rfl (fun Γ => ?_)
  refine sj_wfV (fun hwf => ?_)
  have lx := hwf _ _ r0
  by_cases hg : 0 ≤ a ∧ a ≤ 7
  · by_cases hp : jPe S.2 8 = true
    · obtain ⟨aa, rfl⟩ := jNat (a := a) (by omega)
      rw [Int.toNat_natCast]
      have hP := jPe_all ht.1 hp
      rcases optEx cy with rfl | ⟨y, rfl⟩
      · refine sj_ild1 dX9_cycle_0 ?_
        refine sj_callS (cx9_isStream ha) kc_X9_58 rfl rfl (Nat.le_of_ble_eq_true rfl) dX9_cycle_1 (fun r_1 σ_1 I_1 hp_1 => ?_)
        obtain ⟨rfl, rfl, rfl⟩ := hp_1
        refine sj_if_ne 9 dX9_cycle_4 (by decide) (by omega) (fun c_4 => ?_) (fun c_4 => ?_)
        rotate_left
        · (exfalso; omega)
        refine sj_ald0 dX9_cycle_9 ?_
        refine sj_getR fl_X9_19 (by assumption) rfl r1.2.1 dX9_cycle_10 ?_
        refine sj_callV (cx2_isPlain he ht) kc_X9_115 (by assumption) rfl rfl rfl rfl (Nat.le_of_ble_eq_true rfl) dX9_cycle_13 (fun r_13 σ_13 I_13 hp_13 => ?_)
        obtain ⟨rfl, rfl, rfl⟩ := hp_13
        rw [if_pos hp]
        refine sj_if_ne 22 dX9_cycle_16 (by decide) (by omega) (fun c_16 => ?_) (fun c_16 => ?_)
        rotate_left
        · (exfalso; omega)
        refine sj_ald0 dX9_cycle_22 ?_
        refine sj_getNull fl_X9_131 (by assumption) rfl r8 dX9_cycle_23 ?_
        refine sj_ifnonnullN dX9_cycle_26 ?_
        refine sj_ald0 dX9_cycle_29 ?_
        refine sj_new (κ := 0) rfl kl_X9_135 wi_0 wz_0 dX9_cycle_30 (Nat.le_of_ble_eq_true rfl) (Nat.le_of_ble_eq_true rfl) ?_
        refine sj_dup dX9_cycle_33 rfl ?_
        refine sj_callIN (cx1_init (y := σ.1) (sj_nw_self _ _) rfl) kc_X9_137 rfl rfl (Nat.le_of_ble_eq_true rfl) dX9_cycle_34 (fun r_34 σ_34 I_34 hp_34 => ?_)
        obtain ⟨rfl, x1, x2, x3⟩ := hp_34
        have hcl : ∀ q, q < σ.1 → σ_34.2 q = σ.2 q ∧ I_34 q = I q := fun q hq => by
          rw [(x2 q hq).1, (x2 q hq).2, sj_nw_ne (by omega), sj_ur_ne (by omega)]
          exact ⟨rfl, rfl⟩
        have rx : σ_34.2 x = some (8, 0, ρ) := by rw [(hcl x lx).1]; exact r0
        have hcl2 : ∀ q, q < σ.1 → (q ≠ x → (sj_us σ_34 x (8, 0, sj_ru ρ 8 (some σ.1))).2 q = σ.2 q) ∧ I_34 q = I q := fun q hq => ⟨fun hq2 => by rw [sj_us_ne hq2]; exact (hcl q hq).1, (hcl q hq).2⟩
        have hx' : xR (sj_us σ_34 x (8, 0, sj_ru ρ 8 (some σ.1))) x pv ws (some σ.1) := ⟨_, sj_us_self _ _ _, r1, r6, r7, sj_ru_self _ _ _⟩
        have hy' : ySh (sj_us σ_34 x (8, 0, sj_ru ρ 8 (some σ.1))) σ.1 := x3.keep (fun q q1 q2 => sj_us_ne (by omega))
        obtain ⟨y1, y2⟩ := hj.fld hwf hcl2 hx' (Or.inl rfl) (fun hv => hj.2.2.2.2.1.imp id (fun ⟨v, w, q1, q2, q3⟩ => ⟨v, w, q1, q2, hv v _ w S (hj.2.2.2.2.2.1 w q2) q3⟩)) (fun hw w e => hw w (hj.2.2.2.2.2.1 w e)) (fun _ y e => by cases e; exact hy')
        obtain ⟨τ2, he2, ht2, hM2⟩ := id y1.1.2.2.1
        have y0 := hy'.1
        have rx2 : (sj_us σ_34 x (8, 0, sj_ru ρ 8 (some σ.1))).2 x = some (8, 0, sj_ru ρ 8 (some σ.1)) := sj_us_self _ _ _
        have hC := rC.of (I := I) (I' := I_34) hR hwf hcl2
        refine sj_putR fl_X9_131 (by assumption) rfl rfl rfl dX9_cycle_37 ?_
        refine sj_ald0 dX9_cycle_40 ?_
        refine sj_getR fl_X9_131 (by assumption) rfl (show sj_ru ρ 8 (some σ.1) 8 = some σ.1 from sj_ru_self _ _ _) dX9_cycle_41 ?_
        refine sj_ald0 dX9_cycle_44 ?_
        refine sj_getR fl_X9_19 (by assumption) rfl (show sj_ru ρ 8 (some σ.1) 1 = some (x + 4) from r1.2.1) dX9_cycle_45 ?_
        refine sj_ild1 dX9_cycle_48 ?_
        refine sj_callV (cx1_greatestThrough hy' he2 ht2 hP (by omega)) kc_X9_138 (by assumption) rfl rfl rfl rfl (Nat.le_of_ble_eq_true rfl) dX9_cycle_49 (fun r_49 σ_49 I_49 hp_49 => ?_)
        obtain ⟨rfl, rfl, x5⟩ := hp_49
        have hR2 := hR.keep hC
        have y3 := y1.scr hy'.blk ⟨_, _, y0, by decide, by decide, by decide, by decide, by decide, Or.inl (by decide)⟩ (fun q hq => x5 q (by omega) (by omega) (by omega))
        have off : x + 14 + 21 < σ.1 ∨ σ.1 + 3 < x + 14 := by obtain ⟨y, hy⟩ := hR2.2; exact hR2.1.off hy'.blk (ne_kind hy y0 (by decide))
        exact sj_iret dX9_cycle_52 rfl rfl (Nat.le_of_ble_eq_true rfl) (Nat.le_of_ble_eq_true rfl) ⟨hC.tr (fun q q1 q2 => ⟨rfl, x5 q (by omega) (by omega) (by omega)⟩), ⟨_, _, _, _, _, _, _, y3⟩, Or.inr (Or.inr ⟨hg, hp, rfl⟩)⟩
      · have hy' := hj.2.2.2.2.2.2 y rfl
        have y0 := hy'.1
        have off : x + 14 + 21 < y ∨ y + 3 < x + 14 := by obtain ⟨z, hz⟩ := hR.2; exact hR.1.off hy'.blk (ne_kind hz y0 (by decide))
        refine sj_ild1 dX9_cycle_0 ?_
        refine sj_callS (cx9_isStream ha) kc_X9_58 rfl rfl (Nat.le_of_ble_eq_true rfl) dX9_cycle_1 (fun r_1 σ_1 I_1 hp_1 => ?_)
        obtain ⟨rfl, rfl, rfl⟩ := hp_1
        refine sj_if_ne 9 dX9_cycle_4 (by decide) (by omega) (fun c_4 => ?_) (fun c_4 => ?_)
        rotate_left
        · (exfalso; omega)
        refine sj_ald0 dX9_cycle_9 ?_
        refine sj_getR fl_X9_19 (by assumption) rfl r1.2.1 dX9_cycle_10 ?_
        refine sj_callV (cx2_isPlain he ht) kc_X9_115 (by assumption) rfl rfl rfl rfl (Nat.le_of_ble_eq_true rfl) dX9_cycle_13 (fun r_13 σ_13 I_13 hp_13 => ?_)
        obtain ⟨rfl, rfl, rfl⟩ := hp_13
        rw [if_pos hp]
        refine sj_if_ne 22 dX9_cycle_16 (by decide) (by omega) (fun c_16 => ?_) (fun c_16 => ?_)
        rotate_left
        · (exfalso; omega)
        refine sj_ald0 dX9_cycle_22 ?_
        refine sj_getR fl_X9_131 (by assumption) rfl r8 dX9_cycle_23 ?_
        refine sj_ifnonnull 40 dX9_cycle_26 (by decide) ?_
        refine sj_ald0 dX9_cycle_40 ?_
        refine sj_getR fl_X9_131 (by assumption) rfl r8 dX9_cycle_41 ?_
        refine sj_ald0 dX9_cycle_44 ?_
        refine sj_getR fl_X9_19 (by assumption) rfl r1.2.1 dX9_cycle_45 ?_
        refine sj_ild1 dX9_cycle_48 ?_
        refine sj_callV (cx1_greatestThrough hy' he ht hP (by omega)) kc_X9_138 (by assumption) rfl rfl rfl rfl (Nat.le_of_ble_eq_true rfl) dX9_cycle_49 (fun r_49 σ_49 I_49 hp_49 => ?_)
        obtain ⟨rfl, rfl, x5⟩ := hp_49
        have y3 := hj.scr hy'.blk ⟨_, _, y0, by decide, by decide, by decide, by decide, by decide, Or.inl (by decide)⟩ (fun q hq => x5 q (by omega) (by omega) (by omega))
        exact sj_iret dX9_cycle_52 rfl rfl (Nat.le_of_ble_eq_true rfl) (Nat.le_of_ble_eq_true rfl) ⟨fun q q1 q2 => ⟨rfl, x5 q (by omega) (by omega) (by omega)⟩, ⟨_, _, _, _, _, _, _, y3⟩, Or.inr (Or.inr ⟨hg, hp, rfl⟩)⟩
    · refine sj_ild1 dX9_cycle_0 ?_
      refine sj_callS (cx9_isStream ha) kc_X9_58 rfl rfl (Nat.le_of_ble_eq_true rfl) dX9_cycle_1 (fun r_1 σ_1 I_1 hp_1 => ?_)
      obtain ⟨rfl, rfl, rfl⟩ := hp_1
      refine sj_if_ne 9 dX9_cycle_4 (by decide) (by omega) (fun c_4 => ?_) (fun c_4 => ?_)
      rotate_left
      · (exfalso; omega)
      refine sj_ald0 dX9_cycle_9 ?_
      refine sj_getR fl_X9_19 (by assumption) rfl r1.2.1 dX9_cycle_10 ?_
      refine sj_callV (cx2_isPlain he ht) kc_X9_115 (by assumption) rfl rfl rfl rfl (Nat.le_of_ble_eq_true rfl) dX9_cycle_13 (fun r_13 σ_13 I_13 hp_13 => ?_)
      obtain ⟨rfl, rfl, rfl⟩ := hp_13
      rw [if_neg hp]
      refine sj_if_ne 22 dX9_cycle_16 (by decide) (by omega) (fun c_16 => ?_) (fun c_16 => ?_)
      · (exfalso; omega)
      refine sj_bipush dX9_cycle_19 (by decide) ?_
      exact sj_iret dX9_cycle_21 rfl rfl (Nat.le_of_ble_eq_true rfl) (Nat.le_of_ble_eq_true rfl) ⟨rC.rf σ I x, h, Or.inr (Or.inl ⟨hg, hp, rfl⟩)⟩
  · refine sj_ild1 dX9_cycle_0 ?_
    refine sj_callS (cx9_isStream ha) kc_X9_58 rfl rfl (Nat.le_of_ble_eq_true rfl) dX9_cycle_1 (fun r_1 σ_1 I_1 hp_1 => ?_)
    obtain ⟨rfl, rfl, rfl⟩ := hp_1
    refine sj_if_ne 9 dX9_cycle_4 (by decide) (by omega) (fun c_4 => ?_) (fun c_4 => ?_)
    · (exfalso; omega)
    refine sj_iconst dX9_cycle_7 ?_
    exact sj_iret dX9_cycle_8 rfl rfl (Nat.le_of_ble_eq_true rfl) (Nat.le_of_ble_eq_true rfl) ⟨rC.rf σ I x, h, Or.inl ⟨hg, rfl⟩⟩
end JUDGE12
