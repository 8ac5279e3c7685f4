theorem vAt_ge {f : Nat → Int} {k : Nat} (h : 16 ≤ f k) : vAt f k ≠ -9 := by
  unfold vAt
  rw [if_neg (by omega)]
  omega
theorem vAt_lt {f : Nat → Int} {k : Nat} (h : f k < 16) : vAt f k = -9 := by
  unfold vAt
  rw [if_pos h]
section JUDGE10
variable {l : Launch} {G : sjG} {σ : sjS} {I : sjI}
theorem cx9_stream {x : Nat} {a u : Int} {X : List Int} {S : aSt} {H : List aSt} {im : Nat → Option aSt} (h : cI σ I x X S H im) (hR : rB σ x) (ha : -2147483648 ≤ a ∧ a < 2147483648) (hu : -2147483648 ≤ u ∧ u < 2147483648) : sj_Con l yX9_stream mX9_stream G σ I [.ref x, .int (zI a), .int (zI u)] (fun r σ' I' => rC σ I σ' I' x ∧ cI σ' I' x X S H im ∧ ((¬ ((0 ≤ a ∧ a ≤ 7) ∧ (0 ≤ u ∧ u ≤ 5)) ∧ r = some (.int (zI (-1)))) ∨ ((0 ≤ a ∧ a ≤ 7) ∧ u = 0 ∧ ((S.2 a.toNat = none ∧ r = some (.int (zI (-9)))) ∨ ∃ T, S.2 a.toNat = some T ∧ r = some (.int (zI T.length)))) ∨ ((0 ≤ a ∧ a ≤ 7) ∧ (1 ≤ u ∧ u ≤ 5) ∧ ∃ f n, n ≤ 400 ∧ (∀ k, k < n → f (400 * a.toNat + k) = jVal S.1 S.2 (400 * a.toNat + k) ∧ f (400 * a.toNat + k) ≠ -9) ∧ (n < 400 → f (400 * a.toNat + n) = jVal S.1 S.2 (400 * a.toNat + n) ∧ f (400 * a.toNat + n) = -9) ∧ r = some (.int (zI (jStr f a.toNat u)))))) := by
  obtain ⟨pv, ws, cy, η, ξ, μ, od, hj⟩ := id h
  obtain ⟨ρ, r0, ⟨_, r1, _⟩, _⟩ := id hj.1.1
  obtain ⟨τ0, he, ht, hM0⟩ := id hj.1.2.2.1
  have e0 := he.1
  have e1 := he.2.1
  have b1 := jbs (0 ≤ a ∧ a ≤ 7)
  refine sj_con_of (L0 := [some (.ref x), some (.int (zI a)), some (.int (zI u)), none]) (by decide) rfl rfl rfl (Nat.le_of_ble_eq_true rfl) rfl (fun Γ => ?_)
  by_cases hg : (0 ≤ a ∧ a ≤ 7) ∧ (0 ≤ u ∧ u ≤ 5)
  · obtain ⟨aa, rfl⟩ := jNat (a := a) (by omega)
    rw [Int.toNat_natCast]
    by_cases hz : u = 0
    · rcases ht.2 aa (by omega) with ⟨hv, hE⟩ | ⟨t, T, hv, hE, htm⟩
      · refine sj_ild1 dX9_stream_0 ?_
        refine sj_callS (cx9_isStream ha) kc_X9_58 rfl rfl (Nat.le_of_ble_eq_true rfl) dX9_stream_1 (fun r_1 σ_1 I_1 hp_1 => ?_)
        obtain ⟨rfl, rfl, rfl⟩ := hp_1
        refine sj_if_eq 16 dX9_stream_4 (by decide) (by omega) (fun c_4 => ?_) (fun c_4 => ?_)
        · (exfalso; omega)
        refine sj_ild2 dX9_stream_7 ?_
        refine sj_if_lt 16 dX9_stream_8 (by decide) (by omega) (fun c_8 => ?_) (fun c_8 => ?_)
        · (exfalso; omega)
        refine sj_ild2 dX9_stream_11 ?_
        refine sj_iconst dX9_stream_12 ?_
        refine sj_icmp_le 18 dX9_stream_13 (by decide) (by omega) (by omega) (fun c_13 => ?_) (fun c_13 => ?_)
        rotate_left
        · (exfalso; omega)
        refine sj_ild2 dX9_stream_18 ?_
        refine sj_if_ne 46 dX9_stream_19 (by decide) (by omega) (fun c_19 => ?_) (fun c_19 => ?_)
        · (exfalso; omega)
        refine sj_ald0 dX9_stream_22 ?_
        refine sj_getR fl_X9_19 (by assumption) rfl r1 dX9_stream_23 ?_
        refine sj_getR fl_X9_69 (by assumption) rfl (eR_1 _) dX9_stream_26 ?_
        refine sj_ild1 dX9_stream_29 ?_
        refine sj_aaldN rfl (by assumption) (by omega) (by decide) hv dX9_stream_30 ?_
        refine sj_astN3 (by decide) rfl dX9_stream_31 ?_
        refine sj_aldN3 dX9_stream_32 ?_
        refine sj_ifnonnullN dX9_stream_33 ?_
        refine sj_bipush dX9_stream_36 (by decide) ?_
        refine sj_goto 45 dX9_stream_38 (by decide) ?_
        exact sj_iret dX9_stream_45 rfl rfl (Nat.le_of_ble_eq_true rfl) (Nat.le_of_ble_eq_true rfl) ⟨rC.rf σ I x, h, Or.inr (Or.inl ⟨hg.1, hz, Or.inl ⟨hE, rfl⟩⟩)⟩
      · have t0 := htm.1.1
        refine sj_ild1 dX9_stream_0 ?_
        refine sj_callS (cx9_isStream ha) kc_X9_58 rfl rfl (Nat.le_of_ble_eq_true rfl) dX9_stream_1 (fun r_1 σ_1 I_1 hp_1 => ?_)
        obtain ⟨rfl, rfl, rfl⟩ := hp_1
        refine sj_if_eq 16 dX9_stream_4 (by decide) (by omega) (fun c_4 => ?_) (fun c_4 => ?_)
        · (exfalso; omega)
        refine sj_ild2 dX9_stream_7 ?_
        refine sj_if_lt 16 dX9_stream_8 (by decide) (by omega) (fun c_8 => ?_) (fun c_8 => ?_)
        · (exfalso; omega)
        refine sj_ild2 dX9_stream_11 ?_
        refine sj_iconst dX9_stream_12 ?_
        refine sj_icmp_le 18 dX9_stream_13 (by decide) (by omega) (by omega) (fun c_13 => ?_) (fun c_13 => ?_)
        rotate_left
        · (exfalso; omega)
        refine sj_ild2 dX9_stream_18 ?_
        refine sj_if_ne 46 dX9_stream_19 (by decide) (by omega) (fun c_19 => ?_) (fun c_19 => ?_)
        · (exfalso; omega)
        refine sj_ald0 dX9_stream_22 ?_
        refine sj_getR fl_X9_19 (by assumption) rfl r1 dX9_stream_23 ?_
        refine sj_getR fl_X9_69 (by assumption) rfl (eR_1 _) dX9_stream_26 ?_
        refine sj_ild1 dX9_stream_29 ?_
        refine sj_aald rfl (by assumption) (by omega) (by decide) hv dX9_stream_30 ?_
        refine sj_ast3 (by decide) rfl dX9_stream_31 ?_
        refine sj_ald3 dX9_stream_32 ?_
        refine sj_ifnonnull 41 dX9_stream_33 (by decide) ?_
        refine sj_ald3 dX9_stream_41 ?_
        refine sj_getI fl_X9_73 (by assumption) rfl dX9_stream_42 ?_
        rw [htm.2.1]
        exact sj_iret dX9_stream_45 rfl rfl (Nat.le_of_ble_eq_true rfl) (Nat.le_of_ble_eq_true rfl) ⟨rC.rf σ I x, h, Or.inr (Or.inl ⟨hg.1, hz, Or.inr ⟨T, hE, rfl⟩⟩)⟩
    · refine sj_ild1 dX9_stream_0 ?_
      refine sj_callS (cx9_isStream ha) kc_X9_58 rfl rfl (Nat.le_of_ble_eq_true rfl) dX9_stream_1 (fun r_1 σ_1 I_1 hp_1 => ?_)
      obtain ⟨rfl, rfl, rfl⟩ := hp_1
      refine sj_if_eq 16 dX9_stream_4 (by decide) (by omega) (fun c_4 => ?_) (fun c_4 => ?_)
      · (exfalso; omega)
      refine sj_ild2 dX9_stream_7 ?_
      refine sj_if_lt 16 dX9_stream_8 (by decide) (by omega) (fun c_8 => ?_) (fun c_8 => ?_)
      · (exfalso; omega)
      refine sj_ild2 dX9_stream_11 ?_
      refine sj_iconst dX9_stream_12 ?_
      refine sj_icmp_le 18 dX9_stream_13 (by decide) (by omega) (by omega) (fun c_13 => ?_) (fun c_13 => ?_)
      rotate_left
      · (exfalso; omega)
      refine sj_ild2 dX9_stream_18 ?_
      refine sj_if_ne 46 dX9_stream_19 (by decide) (by omega) (fun c_19 => ?_) (fun c_19 => ?_)
      rotate_left
      · (exfalso; omega)
      refine sj_ald0 dX9_stream_46 ?_
      refine sj_callV (cx9_valuesNow hj hR) kc_X9_145 (by assumption) rfl rfl rfl rfl (Nat.le_of_ble_eq_true rfl) dX9_stream_47 (fun r_47 σ_47 I_47 hp_47 => ?_)
      obtain ⟨v, w, rfl, hj1, hT1, hC1⟩ := hp_47
      obtain ⟨τ, hx1⟩ := hj1.vcx
      have v0 := hx1.1.1
      have hM := hx1.2.2.2.2.1
      refine sj_ast3 (by decide) rfl dX9_stream_50 ?_
      refine sj_ald3 dX9_stream_51 ?_
      refine sj_ild1 dX9_stream_52 ?_
      refine sj_callV (cx7_findUpToReach hx1 (by omega)) kc_X9_157 (by assumption) rfl rfl rfl rfl (Nat.le_of_ble_eq_true rfl) dX9_stream_53 (fun r_53 σ_53 I_53 hp_53 => ?_)
      obtain ⟨rfl, rfl, n1, n, n2, n3, n4⟩ := hp_53
      obtain ⟨hj2, hT2, hC2⟩ := hj1.vn (hR.keep hC1) n1
      have hvr := n1.2.1.vr hM
      have fin : ∀ z : Int, z = jStr (vAt (I_53 (vCl v w))) aa u → rC σ I σ_47 I_53 x ∧ cI σ_47 I_53 x X S H im ∧ ((¬ ((0 ≤ (aa : Int) ∧ (aa : Int) ≤ 7) ∧ (0 ≤ u ∧ u ≤ 5)) ∧ some (Value.int (zI z)) = some (.int (zI (-1)))) ∨ ((0 ≤ (aa : Int) ∧ (aa : Int) ≤ 7) ∧ u = 0 ∧ ((S.2 aa = none ∧ some (Value.int (zI z)) = some (.int (zI (-9)))) ∨ ∃ T, S.2 aa = some T ∧ some (Value.int (zI z)) = some (.int (zI T.length)))) ∨ ((0 ≤ (aa : Int) ∧ (aa : Int) ≤ 7) ∧ (1 ≤ u ∧ u ≤ 5) ∧ ∃ f n, n ≤ 400 ∧ (∀ k, k < n → f (400 * aa + k) = jVal S.1 S.2 (400 * aa + k) ∧ f (400 * aa + k) ≠ -9) ∧ (n < 400 → f (400 * aa + n) = jVal S.1 S.2 (400 * aa + n) ∧ f (400 * aa + n) = -9) ∧ some (Value.int (zI z)) = some (.int (zI (jStr f aa u))))) := fun z ez => ⟨hC1.tr hC2, ⟨_, _, _, _, _, _, _, hj2⟩, Or.inr (Or.inr ⟨hg.1, by omega, vAt (I_53 (vCl v w)), n, n2, fun k hk => ⟨n1.2.1.val hM (by omega) (by have := n3 k hk; omega), vAt_ge (n3 k hk)⟩, fun hn => ⟨n1.2.1.val hM (by omega) (n4 hn).1, vAt_lt (n4 hn).2⟩, by rw [ez]⟩)⟩
      refine sj_ild2 dX9_stream_56 ?_
      rcases (show u = 1 ∨ u = 2 ∨ u = 3 ∨ u = 4 ∨ (u < 1 ∨ 4 < u) by omega) with c_57 | c_57 | c_57 | c_57 | c_57
      · refine sj_tin 88 dX9_stream_57 (by omega) (by omega) (by rw [c_57]; rfl) (by decide) ?_
        refine sj_ald3 dX9_stream_88 ?_
        refine sj_ild1 dX9_stream_89 ?_
        refine sj_callV (cx7_reach hx1.1 hvr (by omega)) kc_X9_161 (by assumption) rfl rfl rfl rfl (Nat.le_of_ble_eq_true rfl) dX9_stream_90 (fun r_90 σ_90 I_90 hp_90 => ?_)
        obtain ⟨rfl, rfl, rfl⟩ := hp_90
        exact sj_iret dX9_stream_93 rfl rfl (Nat.le_of_ble_eq_true rfl) (Nat.le_of_ble_eq_true rfl) (fin _ (by unfold jStr; rw [if_pos c_57]))
      · refine sj_tin 94 dX9_stream_57 (by omega) (by omega) (by rw [c_57]; rfl) (by decide) ?_
        refine sj_ald3 dX9_stream_94 ?_
        refine sj_ild1 dX9_stream_95 ?_
        refine sj_callV (cx7_countDifferent hx1.1 hvr (by omega)) kc_X9_164 (by assumption) rfl rfl rfl rfl (Nat.le_of_ble_eq_true rfl) dX9_stream_96 (fun r_96 σ_96 I_96 hp_96 => ?_)
        obtain ⟨rfl, rfl, rfl⟩ := hp_96
        exact sj_iret dX9_stream_99 rfl rfl (Nat.le_of_ble_eq_true rfl) (Nat.le_of_ble_eq_true rfl) (fin _ (by unfold jStr; rw [if_neg (by omega), if_pos c_57]))
      · refine sj_tin 100 dX9_stream_57 (by omega) (by omega) (by rw [c_57]; rfl) (by decide) ?_
        refine sj_ald3 dX9_stream_100 ?_
        refine sj_ild1 dX9_stream_101 ?_
        refine sj_callV (cx7_sum hx1.1 hvr (by omega)) kc_X9_167 (by assumption) rfl rfl rfl rfl (Nat.le_of_ble_eq_true rfl) dX9_stream_102 (fun r_102 σ_102 I_102 hp_102 => ?_)
        obtain ⟨rfl, rfl, rfl⟩ := hp_102
        exact sj_iret dX9_stream_105 rfl rfl (Nat.le_of_ble_eq_true rfl) (Nat.le_of_ble_eq_true rfl) (fin _ (by unfold jStr; rw [if_neg (by omega), if_neg (by omega), if_pos c_57]))
      · refine sj_tin 106 dX9_stream_57 (by omega) (by omega) (by rw [c_57]; rfl) (by decide) ?_
        refine sj_ald3 dX9_stream_106 ?_
        refine sj_ild1 dX9_stream_107 ?_
        refine sj_callV (cx7_period hx1.1 hvr (by omega)) kc_X9_170 (by assumption) rfl rfl rfl rfl (Nat.le_of_ble_eq_true rfl) dX9_stream_108 (fun r_108 σ_108 I_108 hp_108 => ?_)
        obtain ⟨rfl, rfl, rfl⟩ := hp_108
        exact sj_iret dX9_stream_111 rfl rfl (Nat.le_of_ble_eq_true rfl) (Nat.le_of_ble_eq_true rfl) (fin _ (by unfold jStr; rw [if_neg (show ¬ u = 1 by omega), if_neg (show ¬ u = 2 by omega), if_neg (show ¬ u = 3 by omega), decide_eq_true c_57]))
      · refine sj_tout 112 dX9_stream_57 (by omega) c_57 (by decide) ?_
        refine sj_ald3 dX9_stream_112 ?_
        refine sj_ild1 dX9_stream_113 ?_
        refine sj_callV (cx7_lengthBeforePeriod hx1.1 hvr (by omega)) kc_X9_173 (by assumption) rfl rfl rfl rfl (Nat.le_of_ble_eq_true rfl) dX9_stream_114 (fun r_114 σ_114 I_114 hp_114 => ?_)
        obtain ⟨rfl, rfl, rfl⟩ := hp_114
        exact sj_iret dX9_stream_117 rfl rfl (Nat.le_of_ble_eq_true rfl) (Nat.le_of_ble_eq_true rfl) (fin _ (by unfold jStr; rw [if_neg (show ¬ u = 1 by omega), if_neg (show ¬ u = 2 by omega), if_neg (show ¬ u = 3 by omega), decide_eq_false (by omega)]))
  · refine sj_ild1 dX9_stream_0 ?_
    refine sj_callS (cx9_isStream ha) kc_X9_58 rfl rfl (Nat.le_of_ble_eq_true rfl) dX9_stream_1 (fun r_1 σ_1 I_1 hp_1 => ?_)
    obtain ⟨rfl, rfl, rfl⟩ := hp_1
    refine sj_if_eq 16 dX9_stream_4 (by decide) (by omega) (fun c_4 => ?_) (fun c_4 => ?_)
    · refine sj_iconst dX9_stream_16 ?_
      exact sj_iret dX9_stream_17 rfl rfl (Nat.le_of_ble_eq_true rfl) (Nat.le_of_ble_eq_true rfl) ⟨rC.rf σ I x, h, Or.inl ⟨hg, rfl⟩⟩
    · refine sj_ild2 dX9_stream_7 ?_
      refine sj_if_lt 16 dX9_stream_8 (by decide) (by omega) (fun c_8 => ?_) (fun c_8 => ?_)
      · refine sj_iconst dX9_stream_16 ?_
        exact sj_iret dX9_stream_17 rfl rfl (Nat.le_of_ble_eq_true rfl) (Nat.le_of_ble_eq_true rfl) ⟨rC.rf σ I x, h, Or.inl ⟨hg, rfl⟩⟩
      · refine sj_ild2 dX9_stream_11 ?_
        refine sj_iconst dX9_stream_12 ?_
        refine sj_icmp_le 18 dX9_stream_13 (by decide) (by omega) (by omega) (fun c_13 => ?_) (fun c_13 => ?_)
        · (exfalso; omega)
        refine sj_iconst dX9_stream_16 ?_
        exact sj_iret dX9_stream_17 rfl rfl (Nat.le_of_ble_eq_true rfl) (Nat.le_of_ble_eq_true rfl) ⟨rC.rf σ I x, h, Or.inl ⟨hg, rfl⟩⟩
end JUDGE10
