section JUDGE15
variable {l : Launch} {G : sjG} {σ : sjS} {I : sjI}
theorem cx9_keep {x : Nat} {i : Int} {X : List Int} {S : aSt} {H : List aSt} {im : Nat → Option aSt} (h : cI σ I x X S H im) (hR : rB σ x) (hi : -2147483648 ≤ i ∧ i < 2147483648) : sj_Con l yX9_keep mX9_keep G σ I [.ref x, .int (zI i)] (fun r σ' I' => rC σ I σ' I' x ∧ ((¬ (0 ≤ i ∧ i ≤ 1) ∧ r = some (.int (zI (-1))) ∧ cI σ' I' x X S H im) ∨ ((0 ≤ i ∧ i ≤ 1) ∧ r = some (.int (zI (jCe S.2 8))) ∧ cI σ' I' x X S H (fun k => if k = i.toNat then some S else im k)))) := by
  obtain ⟨pv, ws, cy, η, ξ, μ, od, hj⟩ := id h
  obtain ⟨ρ, r0, ⟨_, r1, _, _, r4, r5⟩, _⟩ := id hj.1.1
  obtain ⟨τ, he, ht, hM⟩ := id hj.1.2.2.1
  have e0 := he.1
  have a6 := hj.1.2.2.2.2.2.1
  have a7 := hj.1.2.2.2.2.2.2
  have b1 := jbs (0 ≤ i ∧ i ≤ 1)
  refine sj_con_of (L0 := [some (.ref x), some (.int (zI i)), none, none]) (by decide) rfl rfl rfl (Nat.le_of_ble_eq_true rfl) rfl (fun Γ => ?_)
  refine sj_wfV (fun hwf => ?_)
  have lx := hwf _ _ r0
  by_cases hg : 0 ≤ i ∧ i ≤ 1
  · obtain ⟨ii, rfl⟩ := jNat (a := i) (by omega)
    rw [Int.toNat_natCast]
    rcases hj.2.2.1 ii (by omega) with ⟨hv, hμ, hE⟩ | ⟨s, Si, hv, hE, hs4, hs, hvs⟩
    · refine sj_ild1 dX9_keep_0 ?_
      refine sj_callS (cx9_isImage hi) kc_X9_203 rfl rfl (Nat.le_of_ble_eq_true rfl) dX9_keep_1 (fun r_1 σ_1 I_1 hp_1 => ?_)
      obtain ⟨rfl, rfl, rfl⟩ := hp_1
      refine sj_if_ne 9 dX9_keep_4 (by decide) (by omega) (fun c_4 => ?_) (fun c_4 => ?_)
      rotate_left
      · (exfalso; omega)
      refine sj_ald0 dX9_keep_9 ?_
      refine sj_getR fl_X9_37 (by assumption) rfl r4 dX9_keep_10 ?_
      refine sj_ild1 dX9_keep_13 ?_
      refine sj_aaldN rfl (by assumption) (by omega) (by decide) hv dX9_keep_14 ?_
      refine sj_astN2 (by decide) rfl dX9_keep_15 ?_
      refine sj_aldN2 dX9_keep_16 ?_
      refine sj_ifnonnullN dX9_keep_17 ?_
      refine sj_new (κ := 1) rfl kl_X9_16 wi_1 wz_1 dX9_keep_20 (Nat.le_of_ble_eq_true rfl) (Nat.le_of_ble_eq_true rfl) ?_
      refine sj_dup dX9_keep_23 rfl ?_
      refine sj_callIN (cx2_init (e := σ.1) (sj_nw_self _ _) rfl) kc_X9_18 rfl rfl (Nat.le_of_ble_eq_true rfl) dX9_keep_24 (fun r_24 σ_24 I_24 hp_24 => ?_)
      obtain ⟨rfl, x1, x2, x3⟩ := hp_24
      have hcl : ∀ q, q < σ.1 → σ_24.2 q = σ.2 q ∧ I_24 q = I q := fun q hq => by
        rw [(x2 q hq).1, (x2 q hq).2, sj_nw_ne (by omega), sj_ur_ne (by omega)]
        exact ⟨rfl, rfl⟩
      have rx : σ_24.2 x = some (8, 0, ρ) := by rw [(hcl x lx).1]; exact r0
      have a6' : σ_24.2 (x + 12) = some (14, 2, ξ) := by rw [(hcl _ (hwf _ _ a6)).1]; exact a6
      have y0 := x3.1
      refine sj_ast2 (by decide) rfl dX9_keep_27 ?_
      refine sj_ald0 dX9_keep_28 ?_
      refine sj_getR fl_X9_37 (by assumption) rfl r4 dX9_keep_29 ?_
      refine sj_ild1 dX9_keep_32 ?_
      refine sj_ald2 dX9_keep_33 ?_
      refine sj_aast rfl (by assumption) (by assumption) (by omega) (by decide) dX9_keep_34 ?_
      obtain ⟨σ2, eσ⟩ : ∃ s2, s2 = sj_us σ_24 (x + 12) (14, 2, sj_ru ξ ii (some σ.1)) := ⟨_, rfl⟩
      rw [show (ii : Int).toNat = ii from rfl, ← eσ]
      have l12 := hwf _ _ a6
      have l4 := hwf _ _ he.1
      have l5 := hwf _ _ he.2.1
      have rx2 : σ2.2 x = some (8, 0, ρ) := by rw [eσ, sj_us_ne (by omega)]; exact rx
      have q2 : eqn σ2 I_24 σ.1 2 (fun _ => none) := ⟨by rw [eσ, sj_us_ne (by omega)]; exact x3.1, by rw [eσ, sj_us_ne (by omega)]; exact x3.2.1, x3.2.2⟩
      have he2 : eqn σ2 I_24 (x + 4) S.1 τ := ⟨by rw [eσ, sj_us_ne (by omega), (hcl _ l4).1]; exact he.1, by rw [eσ, sj_us_ne (by omega), (hcl _ l5).1]; exact he.2.1, by rw [(hcl _ l4).2]; exact he.2.2⟩
      have hk2 : tk σ2 τ := fun a t ha hat => by
        have z := ht.tk a t ha hat
        rw [eσ, sj_us_ne (ne_kind z a6 (by decide)), (hcl _ (hwf _ _ z)).1]
        exact z
      have e02 := he2.1
      have y02 := q2.1
      refine sj_ald2 dX9_keep_35 ?_
      refine sj_ald0 dX9_keep_36 ?_
      refine sj_getR fl_X9_19 (by assumption) rfl r1 dX9_keep_37 ?_
      refine sj_callV (cx2_copyFrom q2 he2 hk2 (by omega)) kc_X9_206 (by assumption) rfl rfl rfl rfl (Nat.le_of_ble_eq_true rfl) dX9_keep_40 (fun r_40 σ_40 I_40 hp_40 => ?_)
      obtain ⟨rfl, eI, ρc, hρ, e40⟩ := hp_40
      have rx3 : σ_40.2 x = some (8, 0, ρ) := by rw [e40, sj_us_ne (by omega)]; exact rx2
      have l13 := hwf _ _ a7
      have a73 : σ_40.2 (x + 13) = some (15, 2, μ) := by rw [e40, sj_us_ne (by omega), eσ, sj_us_ne (by omega), (hcl _ l13).1]; exact a7
      have q3 : eqn σ_40 I_40 σ.1 S.1 ρc := ⟨by rw [e40, sj_us_ne (by omega)]; exact q2.1, by rw [e40, sj_us_self], by rw [eI, sj_up_self]⟩
      have y03 := q3.1
      have hn3 : ∀ a, a < 8 → (ρc a = none ↔ S.2 a = none) := fun a ha => by rw [hρ a ha]; exact ht.non a ha
      obtain ⟨k1, k2, k3⟩ := hj.kep (σ' := σ_40) (I' := I_40) (s := σ.1) (i := ii) (ξ' := sj_ru ξ ii (some σ.1)) (ρ := ρc) hwf hR (by omega) ⟨he, ht, hM⟩ (Or.inr ⟨hv, rfl⟩) (sj_ru_self _ _ _) (fun j hj => sj_ru_ne hj) hρ (fun q w1 w2 w3 => by rw [e40, sj_us_ne w3, eσ, sj_us_ne w2, (hcl q w1).1]) (fun q w1 w2 _ => by rw [eI, sj_up_row w2, (hcl q w1).2]) q3 (by rw [e40, sj_us_ne (by omega), eσ, sj_us_self]) (fun v w w1 => by rw [hμ] at w1; cases w1)
      refine sj_ald0 dX9_keep_43 ?_
      refine sj_getR fl_X9_43 (by assumption) rfl r5 dX9_keep_44 ?_
      refine sj_ild1 dX9_keep_47 ?_
      refine sj_aaldN rfl (by assumption) (by omega) (by decide) hμ dX9_keep_48 ?_
      refine sj_astN3 (by decide) rfl dX9_keep_49 ?_
      refine sj_aldN3 dX9_keep_50 ?_
      refine sj_ifnullN 58 dX9_keep_51 (by decide) ?_
      refine sj_ald2 dX9_keep_58 ?_
      refine sj_callV (cx2_count q3 hn3) kc_X9_110 (by assumption) rfl rfl rfl rfl (Nat.le_of_ble_eq_true rfl) dX9_keep_59 (fun r_59 σ_59 I_59 hp_59 => ?_)
      obtain ⟨rfl, rfl, rfl⟩ := hp_59
      exact sj_iret dX9_keep_62 rfl rfl (Nat.le_of_ble_eq_true rfl) (Nat.le_of_ble_eq_true rfl) ⟨k3, Or.inr ⟨hg, rfl, _, _, _, _, _, _, _, k1⟩⟩
    · obtain ⟨τs, q2, qt, qM⟩ := id hs
      have y0 := q2.1
      have ls1 := hwf _ _ q2.1
      rcases hvs with hμ | ⟨v, w, hμ, hws, hvv⟩
      · refine sj_ild1 dX9_keep_0 ?_
        refine sj_callS (cx9_isImage hi) kc_X9_203 rfl rfl (Nat.le_of_ble_eq_true rfl) dX9_keep_1 (fun r_1 σ_1 I_1 hp_1 => ?_)
        obtain ⟨rfl, rfl, rfl⟩ := hp_1
        refine sj_if_ne 9 dX9_keep_4 (by decide) (by omega) (fun c_4 => ?_) (fun c_4 => ?_)
        rotate_left
        · (exfalso; omega)
        refine sj_ald0 dX9_keep_9 ?_
        refine sj_getR fl_X9_37 (by assumption) rfl r4 dX9_keep_10 ?_
        refine sj_ild1 dX9_keep_13 ?_
        refine sj_aald rfl (by assumption) (by omega) (by decide) hv dX9_keep_14 ?_
        refine sj_ast2 (by decide) rfl dX9_keep_15 ?_
        refine sj_ald2 dX9_keep_16 ?_
        refine sj_ifnonnull 35 dX9_keep_17 (by decide) ?_
        refine sj_ald2 dX9_keep_35 ?_
        refine sj_ald0 dX9_keep_36 ?_
        refine sj_getR fl_X9_19 (by assumption) rfl r1 dX9_keep_37 ?_
        refine sj_callV (cx2_copyFrom q2 he ht.tk hs4) kc_X9_206 (by assumption) rfl rfl rfl rfl (Nat.le_of_ble_eq_true rfl) dX9_keep_40 (fun r_40 σ_40 I_40 hp_40 => ?_)
        obtain ⟨rfl, eI, ρc, hρ, e40⟩ := hp_40
        have rx3 : σ_40.2 x = some (8, 0, ρ) := by rw [e40, sj_us_ne (ne_kind r0 q2.2.1 (by decide))]; exact r0
        have a73 : σ_40.2 (x + 13) = some (15, 2, μ) := by rw [e40, sj_us_ne (ne_kind a7 q2.2.1 (by decide))]; exact a7
        have a63 : σ_40.2 (x + 12) = some (14, 2, ξ) := by rw [e40, sj_us_ne (ne_kind a6 q2.2.1 (by decide))]; exact a6
        have q3 : eqn σ_40 I_40 s S.1 ρc := ⟨by rw [e40, sj_us_ne (by omega)]; exact q2.1, by rw [e40, sj_us_self], by rw [eI, sj_up_self]⟩
        have y03 := q3.1
        have hn3 : ∀ a, a < 8 → (ρc a = none ↔ S.2 a = none) := fun a ha => by rw [hρ a ha]; exact ht.non a ha
        obtain ⟨k1, k2, k3⟩ := hj.kep (σ' := σ_40) (I' := I_40) (s := s) (i := ii) (ξ' := ξ) (ρ := ρc) hwf hR (by omega) ⟨he, ht, hM⟩ (Or.inl hv) hv (fun j hj => rfl) hρ (fun q w1 w2 w3 => by rw [e40, sj_us_ne w3]) (fun q w1 w2 _ => by rw [eI, sj_up_row w2]) q3 a63 (fun v w w1 => by rw [hμ] at w1; cases w1)
        refine sj_ald0 dX9_keep_43 ?_
        refine sj_getR fl_X9_43 (by assumption) rfl r5 dX9_keep_44 ?_
        refine sj_ild1 dX9_keep_47 ?_
        refine sj_aaldN rfl (by assumption) (by omega) (by decide) hμ dX9_keep_48 ?_
        refine sj_astN3 (by decide) rfl dX9_keep_49 ?_
        refine sj_aldN3 dX9_keep_50 ?_
        refine sj_ifnullN 58 dX9_keep_51 (by decide) ?_
        refine sj_ald2 dX9_keep_58 ?_
        refine sj_callV (cx2_count q3 hn3) kc_X9_110 (by assumption) rfl rfl rfl rfl (Nat.le_of_ble_eq_true rfl) dX9_keep_59 (fun r_59 σ_59 I_59 hp_59 => ?_)
        obtain ⟨rfl, rfl, rfl⟩ := hp_59
        exact sj_iret dX9_keep_62 rfl rfl (Nat.le_of_ble_eq_true rfl) (Nat.le_of_ble_eq_true rfl) ⟨k3, Or.inr ⟨hg, rfl, _, _, _, _, _, _, _, k1⟩⟩
      · have nv1 := ne_kind hvv.1.1 q2.1 (by decide)
        have nv2 := ne_kind hvv.1.2 q2.1 (by decide)
        refine sj_ild1 dX9_keep_0 ?_
        refine sj_callS (cx9_isImage hi) kc_X9_203 rfl rfl (Nat.le_of_ble_eq_true rfl) dX9_keep_1 (fun r_1 σ_1 I_1 hp_1 => ?_)
        obtain ⟨rfl, rfl, rfl⟩ := hp_1
        refine sj_if_ne 9 dX9_keep_4 (by decide) (by omega) (fun c_4 => ?_) (fun c_4 => ?_)
        rotate_left
        · (exfalso; omega)
        refine sj_ald0 dX9_keep_9 ?_
        refine sj_getR fl_X9_37 (by assumption) rfl r4 dX9_keep_10 ?_
        refine sj_ild1 dX9_keep_13 ?_
        refine sj_aald rfl (by assumption) (by omega) (by decide) hv dX9_keep_14 ?_
        refine sj_ast2 (by decide) rfl dX9_keep_15 ?_
        refine sj_ald2 dX9_keep_16 ?_
        refine sj_ifnonnull 35 dX9_keep_17 (by decide) ?_
        refine sj_ald2 dX9_keep_35 ?_
        refine sj_ald0 dX9_keep_36 ?_
        refine sj_getR fl_X9_19 (by assumption) rfl r1 dX9_keep_37 ?_
        refine sj_callV (cx2_copyFrom q2 he ht.tk hs4) kc_X9_206 (by assumption) rfl rfl rfl rfl (Nat.le_of_ble_eq_true rfl) dX9_keep_40 (fun r_40 σ_40 I_40 hp_40 => ?_)
        obtain ⟨rfl, eI, ρc, hρ, e40⟩ := hp_40
        have rx3 : σ_40.2 x = some (8, 0, ρ) := by rw [e40, sj_us_ne (ne_kind r0 q2.2.1 (by decide))]; exact r0
        have a73 : σ_40.2 (x + 13) = some (15, 2, μ) := by rw [e40, sj_us_ne (ne_kind a7 q2.2.1 (by decide))]; exact a7
        have a63 : σ_40.2 (x + 12) = some (14, 2, ξ) := by rw [e40, sj_us_ne (ne_kind a6 q2.2.1 (by decide))]; exact a6
        have vS : vSh σ_40 v s w := ⟨by rw [e40, sj_us_ne (ne_kind hvv.1.1 q2.2.1 (by decide))]; exact hvv.1.1, by rw [e40, sj_us_ne (ne_kind hvv.1.2 q2.2.1 (by decide))]; exact hvv.1.2⟩
        have v0 := vS.1
        have iv : I_40 v = I v := by rw [eI, sj_up_row nv1]
        have ic : I_40 (vCl v w) = I (vCl v w) := by rw [eI, sj_up_row nv2]
        refine sj_ald0 dX9_keep_43 ?_
        refine sj_getR fl_X9_43 (by assumption) rfl r5 dX9_keep_44 ?_
        refine sj_ild1 dX9_keep_47 ?_
        refine sj_aald rfl (by assumption) (by omega) (by decide) hμ dX9_keep_48 ?_
        refine sj_ast3 (by decide) rfl dX9_keep_49 ?_
        refine sj_ald3 dX9_keep_50 ?_
        refine sj_ifnull dX9_keep_51 ?_
        refine sj_ald3 dX9_keep_54 ?_
        refine sj_callV (cx7_forget vS (by rw [iv]; rcases hvv.2.2 with z | z; exact Or.inr z; exact Or.inl z.1)) kc_X9_209 (by assumption) rfl rfl rfl rfl (Nat.le_of_ble_eq_true rfl) dX9_keep_55 (fun r_55 σ_55 I_55 hp_55 => ?_)
        obtain ⟨rfl, rfl, u1, u2, u3⟩ := hp_55
        have is : I_55 s = I_40 s := u1 s (Ne.symm nv1) (Ne.symm nv2)
        have q3 : eqn σ_40 I_55 s S.1 ρc := ⟨by rw [e40, sj_us_ne (by omega)]; exact q2.1, by rw [e40, sj_us_self], by rw [is, eI, sj_up_self]⟩
        have y03 := q3.1
        have hn3 : ∀ a, a < 8 → (ρc a = none ↔ S.2 a = none) := fun a ha => by rw [hρ a ha]; exact ht.non a ha
        have hz : ∀ j, j < 3200 → I_55 (vCl v w) j = 0 := by
          rcases u3 with ⟨z1, z2⟩ | z
          · rw [iv] at z1
            rcases hvv.2.2 with z | z
            · rw [z] at z1; exact absurd z1 (by decide)
            · rw [z2, ic]; exact z.2
          · exact z
        obtain ⟨k1, k2, k3⟩ := hj.kep (σ' := σ_40) (I' := I_55) (s := s) (i := ii) (ξ' := ξ) (ρ := ρc) hwf hR (by omega) ⟨he, ht, hM⟩ (Or.inl hv) hv (fun j hj => rfl) hρ (fun q w1 w2 w3 => by rw [e40, sj_us_ne w3]) (fun q w1 w2 w3 => by
          have w4 := w3 v w hμ hws
          rw [u1 q w4.1 w4.2, eI, sj_up_row w2]) q3 a63 (fun v2 w2 w1 w3 => by
          rw [hμ] at w1; cases w1
          rw [hws] at w3; cases w3
          exact ⟨u2, hz⟩)
        refine sj_ald2 dX9_keep_58 ?_
        refine sj_callV (cx2_count q3 hn3) kc_X9_110 (by assumption) rfl rfl rfl rfl (Nat.le_of_ble_eq_true rfl) dX9_keep_59 (fun r_59 σ_59 I_59 hp_59 => ?_)
        obtain ⟨rfl, rfl, rfl⟩ := hp_59
        exact sj_iret dX9_keep_62 rfl rfl (Nat.le_of_ble_eq_true rfl) (Nat.le_of_ble_eq_true rfl) ⟨k3, Or.inr ⟨hg, rfl, _, _, _, _, _, _, _, k1⟩⟩
  · refine sj_ild1 dX9_keep_0 ?_
    refine sj_callS (cx9_isImage hi) kc_X9_203 rfl rfl (Nat.le_of_ble_eq_true rfl) dX9_keep_1 (fun r_1 σ_1 I_1 hp_1 => ?_)
    obtain ⟨rfl, rfl, rfl⟩ := hp_1
    refine sj_if_ne 9 dX9_keep_4 (by decide) (by omega) (fun c_4 => ?_) (fun c_4 => ?_)
    · (exfalso; omega)
    refine sj_iconst dX9_keep_7 ?_
    exact sj_iret dX9_keep_8 rfl rfl (Nat.le_of_ble_eq_true rfl) (Nat.le_of_ble_eq_true rfl) ⟨rC.rf σ I x, Or.inl ⟨hg, rfl, h⟩⟩
end JUDGE15
