theorem te.non {σ : sjS} {I : sjI} {τ : Nat → Option Nat} {E : Nat → Option (List Int)} (h : te σ I τ E) : ∀ a, a < 8 → (τ a = none ↔ E a = none) := fun a ha => by
  rcases h.2 a ha with ⟨e1, e2⟩ | ⟨t, T, e1, e2, _⟩
  · rw [e1, e2]; exact ⟨fun _ => rfl, fun _ => rfl⟩
  · rw [e1, e2]; exact ⟨fun q => (by cases q), fun q => (by cases q)⟩
section JUDGE11
variable {l : Launch} {G : sjG} {σ : sjS} {I : sjI}
theorem cx9_back {x : Nat} {i : Int} {X : List Int} {S : aSt} {H : List aSt} {im : Nat → Option aSt} (h : cI σ I x X S H im) (hR : rB σ x) (hi : -2147483648 ≤ i ∧ i < 2147483648) : sj_Con l yX9_back mX9_back G σ I [.ref x, .int (zI i)] (fun r σ' I' => rC σ I σ' I' x ∧ ((¬ (0 ≤ i ∧ i ≤ 1) ∧ r = some (.int (zI (-1))) ∧ cI σ' I' x X S H im) ∨ ((0 ≤ i ∧ i ≤ 1) ∧ im i.toNat = none ∧ r = some (.int (zI (-2))) ∧ cI σ' I' x X S H im) ∨ ∃ S', (0 ≤ i ∧ i ≤ 1) ∧ im i.toNat = some S' ∧ r = some (.int (zI (jCe S'.2 8))) ∧ cI σ' I' x X S' (jHs H S) im)) := by
  obtain ⟨pv, ws, cy, η, ξ, μ, od, hj⟩ := id h
  obtain ⟨ρ, r0, ⟨_, r1, _, _, r4, _⟩, _⟩ := id hj.1.1
  have a6 := hj.1.2.2.2.2.2.1
  have b1 := jbs (0 ≤ i ∧ i ≤ 1)
  refine sj_con_of (L0 := [some (.ref x), some (.int (zI i)), none]) (by decide) rfl rfl rfl (Nat.le_of_ble_eq_true rfl) rfl (fun Γ => ?_)
  by_cases hg : 0 ≤ i ∧ i ≤ 1
  · obtain ⟨ii, rfl⟩ := jNat (a := i) (by omega)
    rw [Int.toNat_natCast]
    rcases hj.2.2.1 ii (by omega) with ⟨hv, _, hE⟩ | ⟨s, Si, hv, hE, hs4, hs, _⟩
    · refine sj_ild1 dX9_back_0 ?_
      refine sj_callS (cx9_isImage hi) kc_X9_203 rfl rfl (Nat.le_of_ble_eq_true rfl) dX9_back_1 (fun r_1 σ_1 I_1 hp_1 => ?_)
      obtain ⟨rfl, rfl, rfl⟩ := hp_1
      refine sj_if_ne 9 dX9_back_4 (by decide) (by omega) (fun c_4 => ?_) (fun c_4 => ?_)
      rotate_left
      · (exfalso; omega)
      refine sj_ald0 dX9_back_9 ?_
      refine sj_getR fl_X9_37 (by assumption) rfl r4 dX9_back_10 ?_
      refine sj_ild1 dX9_back_13 ?_
      refine sj_aaldN rfl (by assumption) (by omega) (by decide) hv dX9_back_14 ?_
      refine sj_astN2 (by decide) rfl dX9_back_15 ?_
      refine sj_aldN2 dX9_back_16 ?_
      refine sj_ifnonnullN dX9_back_17 ?_
      refine sj_bipush dX9_back_20 (by decide) ?_
      exact sj_iret dX9_back_22 rfl rfl (Nat.le_of_ble_eq_true rfl) (Nat.le_of_ble_eq_true rfl) ⟨rC.rf σ I x, Or.inr (Or.inl ⟨hg, hE, rfl, h⟩)⟩
    · refine sj_ild1 dX9_back_0 ?_
      refine sj_callS (cx9_isImage hi) kc_X9_203 rfl rfl (Nat.le_of_ble_eq_true rfl) dX9_back_1 (fun r_1 σ_1 I_1 hp_1 => ?_)
      obtain ⟨rfl, rfl, rfl⟩ := hp_1
      refine sj_if_ne 9 dX9_back_4 (by decide) (by omega) (fun c_4 => ?_) (fun c_4 => ?_)
      rotate_left
      · (exfalso; omega)
      refine sj_ald0 dX9_back_9 ?_
      refine sj_getR fl_X9_37 (by assumption) rfl r4 dX9_back_10 ?_
      refine sj_ild1 dX9_back_13 ?_
      refine sj_aald rfl (by assumption) (by omega) (by decide) hv dX9_back_14 ?_
      refine sj_ast2 (by decide) rfl dX9_back_15 ?_
      refine sj_ald2 dX9_back_16 ?_
      refine sj_ifnonnull 23 dX9_back_17 (by decide) ?_
      refine sj_ald0 dX9_back_23 ?_
      refine sj_callV (cx9_beginChange hj hR) kc_X9_66 (by assumption) rfl rfl rfl rfl (Nat.le_of_ble_eq_true rfl) dX9_back_24 (fun r_24 σ_24 I_24 hp_24 => ?_)
      obtain ⟨rfl, ⟨η', od', hj'⟩, x2, x3, x4, x5⟩ := hp_24
      obtain ⟨ρ', r0', ⟨_, r1', _⟩, _⟩ := id hj'.1.1
      obtain ⟨τ', he', ht', hM'⟩ := id hj'.1.2.2.1
      have e0' := he'.1
      obtain ⟨τs, k1, k2, k3⟩ : sys σ_24 I_24 s Si := by
        rcases hj'.2.2.1 ii (by omega) with ⟨q, _⟩ | ⟨s', S', q1, q2, q3, q4, _⟩
        · rw [hv] at q; cases q
        · rw [hv] at q1; cases q1
          rw [hE] at q2; cases q2
          exact q4
      refine sj_ald0 dX9_back_27 ?_
      refine sj_getR fl_X9_19 (by assumption) rfl r1' dX9_back_28 ?_
      refine sj_ald2 dX9_back_31 ?_
      refine sj_callV (cx2_copyFrom (e := x + 4) (e' := s) he' k1 k2.tk (Ne.symm hs4)) kc_X9_206 (by assumption) rfl rfl rfl rfl (Nat.le_of_ble_eq_true rfl) dX9_back_32 (fun r_32 σ_32 I_32 hp_32 => ?_)
      obtain ⟨rfl, rfl, ρ2, hρ, rfl⟩ := hp_32
      have hcl : ∀ q, ¬ (x + 4 ≤ q ∧ q ≤ x + 4 + 1) → cq σ_24 I_24 (sj_us σ_24 (x + 4 + 1) (13, 8, ρ2)) (sj_up I_24 (x + 4) 0 Si.1) q := fun q hq => ⟨sj_us_ne (by omega), sj_up_row (by omega)⟩
      have he2 : eqn (sj_us σ_24 (x + 4 + 1) (13, 8, ρ2)) (sj_up I_24 (x + 4) 0 Si.1) (x + 4) Si.1 ρ2 := ⟨by rw [sj_us_ne (by omega)]; exact he'.1, sj_us_self _ _ _, sj_up_self _ _ _ _⟩
      obtain ⟨y1, y2⟩ := hj'.pres (S' := Si) x2 hcl (fun hT => ⟨ρ2, he2, (k2.keep hT).cong hρ, k3⟩)
      have rx2 : (sj_us σ_24 (x + 4 + 1) (13, 8, ρ2)).2 x = some (8, 0, ρ') := by rw [sj_us_ne (by omega)]; exact r0'
      have e02 := he2.1
      refine sj_ald0 dX9_back_35 ?_
      refine sj_getR fl_X9_19 (by assumption) rfl r1' dX9_back_36 ?_
      refine sj_callV (cx2_count (E := Si.2) he2 (fun a ha => by rw [hρ a ha]; exact k2.non a ha)) kc_X9_110 (by assumption) rfl rfl rfl rfl (Nat.le_of_ble_eq_true rfl) dX9_back_39 (fun r_39 σ_39 I_39 hp_39 => ?_)
      obtain ⟨rfl, rfl, rfl⟩ := hp_39
      exact sj_iret dX9_back_42 rfl rfl (Nat.le_of_ble_eq_true rfl) (Nat.le_of_ble_eq_true rfl) ⟨x4.tr (fun q q1 q2 => hcl q (by omega)), Or.inr (Or.inr ⟨Si, hg, hE, rfl, pv, ws, cy, η', ξ, μ, od', y1⟩)⟩
  · refine sj_ild1 dX9_back_0 ?_
    refine sj_callS (cx9_isImage hi) kc_X9_203 rfl rfl (Nat.le_of_ble_eq_true rfl) dX9_back_1 (fun r_1 σ_1 I_1 hp_1 => ?_)
    obtain ⟨rfl, rfl, rfl⟩ := hp_1
    refine sj_if_ne 9 dX9_back_4 (by decide) (by omega) (fun c_4 => ?_) (fun c_4 => ?_)
    · (exfalso; omega)
    refine sj_iconst dX9_back_7 ?_
    exact sj_iret dX9_back_8 rfl rfl (Nat.le_of_ble_eq_true rfl) (Nat.le_of_ble_eq_true rfl) ⟨rC.rf σ I x, Or.inl ⟨hg, rfl, h⟩⟩
end JUDGE11
