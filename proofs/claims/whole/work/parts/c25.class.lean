/-- an equation is set -/
def jSe (E : Nat → Option (List Int)) (a : Nat) (o : Option (List Int)) : Nat → Option (List Int) := fun j => if j = a then o else E j
theorem jSe_self {E : Nat → Option (List Int)} {a : Nat} {o : Option (List Int)} (h : E a = o) : jSe E a o = E := by
  funext j
  unfold jSe
  by_cases q : j = a
  · rw [if_pos q, q, h]
  · rw [if_neg q]
theorem cJ.putT {σ : sjS} {I : sjI} {x a : Nat} {X : List Int} {S : aSt} {H : List aSt} {im : Nat → Option aSt} {pv ws cy : Option Nat} {η ξ μ τ : Nat → Option Nat} {od : Nat} (h : cJ σ I x X S H im pv ws cy η ξ μ od) (hf : fr I pv ws) (ha : a < 8) (he : eqn σ I (x + 4) S.1 τ) (ht : te σ I τ S.2) (u : Option Nat) (o : Option (List Int)) (hu : (u = none ∧ o = none) ∨ ∃ t T, u = some t ∧ o = some T ∧ tm σ I t T) : cI (sj_us σ (x + 4 + 1) (13, 8, sj_ru τ a u)) I x X (S.1, jSe S.2 a o) H im ∧ tS σ I (sj_us σ (x + 4 + 1) (13, 8, sj_ru τ a u)) I ∧ rC σ I (sj_us σ (x + 4 + 1) (13, 8, sj_ru τ a u)) I x := by
  have hcl : ∀ q, ¬ (x + 4 ≤ q ∧ q ≤ x + 4 + 1) → cq σ I (sj_us σ (x + 4 + 1) (13, 8, sj_ru τ a u)) I q := fun q hq => ⟨sj_us_ne (by omega), rfl⟩
  obtain ⟨_, _, _, hM⟩ := h.1.2.2.1
  have hS' : tS σ I (sj_us σ (x + 4 + 1) (13, 8, sj_ru τ a u)) I → sys (sj_us σ (x + 4 + 1) (13, 8, sj_ru τ a u)) I (x + 4) (S.1, jSe S.2 a o) := fun hT => by
    refine ⟨sj_ru τ a u, ⟨by rw [sj_us_ne (by omega)]; exact he.1, sj_us_self _ _ _, he.2.2⟩, ⟨fun j hj => by show jSe S.2 a o j = none; unfold jSe; rw [if_neg (by omega)]; exact ht.1 j hj, fun j hj => ?_⟩, hM⟩
    show (_ ∧ jSe S.2 a o j = none) ∨ ∃ t T, _ ∧ jSe S.2 a o j = some T ∧ _
    unfold jSe
    by_cases q : j = a
    · rw [q, sj_ru_self, if_pos rfl]
      exact hu.imp id (fun ⟨t, T, z1, z2, z3⟩ => ⟨t, T, z1, z2, hT t T z3⟩)
    · rw [sj_ru_ne q, if_neg q]
      exact (ht.2 j hj).imp id (fun ⟨t, T, z1, z2, z3⟩ => ⟨t, T, z1, z2, hT t T z3⟩)
  obtain ⟨y1, y2⟩ := h.pres (S' := (S.1, jSe S.2 a o)) hf hcl hS'
  exact ⟨⟨pv, ws, cy, η, ξ, μ, od, y1⟩, y2, fun q q1 q2 => hcl q (by omega)⟩
theorem jSi_zero {k : Nat} {T U : List Int} (h : jSi k T = some (0, U)) : U = T := by
  cases k with
  | zero => cases h; rfl
  | succ k =>
    cases e : jStep [] T with
    | none => rw [jSi_none e] at h; cases h; rfl
    | some T' =>
      by_cases q : 120 < T'.length
      · rw [jSi_full e q] at h; cases h
      · rw [jSi_some e q] at h
        cases e2 : jSi k T' with
        | none => rw [e2] at h; cases h
        | some z => rw [e2] at h; cases h
section JUDGE4
variable {l : Launch} {G : sjG} {σ : sjS} {I : sjI}
theorem cx9_undefine {x : Nat} {a : Int} {X : List Int} {S : aSt} {H : List aSt} {im : Nat → Option aSt} (h : cI σ I x X S H im) (hR : rB σ x) (ha : -2147483648 ≤ a ∧ a < 2147483648) : sj_Con l yX9_undefine mX9_undefine G σ I [.ref x, .int (zI a)] (fun r σ' I' => rC σ I σ' I' x ∧ ((¬ (0 ≤ a ∧ a ≤ 7) ∧ r = some (.int (zI (-1))) ∧ cI σ' I' x X S H im) ∨ ((0 ≤ a ∧ a ≤ 7) ∧ S.2 a.toNat = none ∧ r = some (.int (zI (-2))) ∧ cI σ' I' x X S H im) ∨ ∃ T, (0 ≤ a ∧ a ≤ 7) ∧ S.2 a.toNat = some T ∧ r = some (.int (zI T.length)) ∧ cI σ' I' x X (S.1, jSe S.2 a.toNat none) (jHs H S) im)) := by
  obtain ⟨pv, ws, cy, η, ξ, μ, od, hj⟩ := id h
  obtain ⟨ρ, r0, ⟨_, r1, _⟩, _⟩ := hj.1.1
  obtain ⟨τ, he, ht, hM⟩ := hj.1.2.2.1
  have e0 := he.1
  have e1 := he.2.1
  have b1 := jbs (0 ≤ a ∧ a ≤ 7)
  refine sj_con_of (L0 := [some (.ref x), some (.int (zI a)), none]) (by decide) rfl rfl rfl (Nat.le_of_ble_eq_true rfl) rfl (fun Γ => ?_)
  by_cases hg : 0 ≤ a ∧ a ≤ 7
  · obtain ⟨aa, rfl⟩ := jNat (a := a) (by omega)
    rw [Int.toNat_natCast]
    rcases ht.2 aa (by omega) with ⟨hv, hE⟩ | ⟨t, T, hv, hE, htm⟩
    · refine sj_ild1 dX9_undefine_0 ?_
      refine sj_callS (cx9_isStream ha) kc_X9_58 rfl rfl (Nat.le_of_ble_eq_true rfl) dX9_undefine_1 (fun r_1 σ_1 I_1 hp_1 => ?_)
      obtain ⟨rfl, rfl, rfl⟩ := hp_1
      refine sj_if_ne 9 dX9_undefine_4 (by decide) (by omega) (fun c_4 => ?_) (fun c_4 => ?_)
      rotate_left
      · (exfalso; omega)
      refine sj_ald0 dX9_undefine_9 ?_
      refine sj_getR fl_X9_19 (by assumption) rfl r1 dX9_undefine_10 ?_
      refine sj_getR fl_X9_69 (by assumption) rfl (eR_1 _) dX9_undefine_13 ?_
      refine sj_ild1 dX9_undefine_16 ?_
      refine sj_aaldN rfl (by assumption) (by omega) (by decide) hv dX9_undefine_17 ?_
      refine sj_astN2 (by decide) rfl dX9_undefine_18 ?_
      refine sj_aldN2 dX9_undefine_19 ?_
      refine sj_ifnonnullN dX9_undefine_20 ?_
      refine sj_bipush dX9_undefine_23 (by decide) ?_
      exact sj_iret dX9_undefine_25 rfl rfl (Nat.le_of_ble_eq_true rfl) (Nat.le_of_ble_eq_true rfl) ⟨rC.rf σ I x, Or.inr (Or.inl ⟨hg, hE, rfl, h⟩)⟩
    · refine sj_ild1 dX9_undefine_0 ?_
      refine sj_callS (cx9_isStream ha) kc_X9_58 rfl rfl (Nat.le_of_ble_eq_true rfl) dX9_undefine_1 (fun r_1 σ_1 I_1 hp_1 => ?_)
      obtain ⟨rfl, rfl, rfl⟩ := hp_1
      refine sj_if_ne 9 dX9_undefine_4 (by decide) (by omega) (fun c_4 => ?_) (fun c_4 => ?_)
      rotate_left
      · (exfalso; omega)
      refine sj_ald0 dX9_undefine_9 ?_
      refine sj_getR fl_X9_19 (by assumption) rfl r1 dX9_undefine_10 ?_
      refine sj_getR fl_X9_69 (by assumption) rfl (eR_1 _) dX9_undefine_13 ?_
      refine sj_ild1 dX9_undefine_16 ?_
      refine sj_aald rfl (by assumption) (by omega) (by decide) hv dX9_undefine_17 ?_
      refine sj_ast2 (by decide) rfl dX9_undefine_18 ?_
      refine sj_ald2 dX9_undefine_19 ?_
      refine sj_ifnonnull 26 dX9_undefine_20 (by decide) ?_
      refine sj_ald0 dX9_undefine_26 ?_
      refine sj_callV (cx9_beginChange hj hR) kc_X9_66 (by assumption) rfl rfl rfl rfl (Nat.le_of_ble_eq_true rfl) dX9_undefine_27 (fun r_27 σ_27 I_27 hp_27 => ?_)
      obtain ⟨rfl, ⟨η', od', hj'⟩, x2, x3, x4, x5⟩ := hp_27
      obtain ⟨ρ', r0', ⟨_, r1', _⟩, _⟩ := id hj'.1.1
      obtain ⟨τ', he', ht', hM'⟩ := id hj'.1.2.2.1
      have e0' := he'.1
      have e1' := he'.2.1
      obtain ⟨y1, y2, y3⟩ := hj'.putT (a := aa) x2 (by omega) he' ht' none none (Or.inl ⟨rfl, rfl⟩)
      have z := y2 t T (x3 t T htm)
      have z0 := z.1.1
      refine sj_ald0 dX9_undefine_30 ?_
      refine sj_getR fl_X9_19 (by assumption) rfl r1' dX9_undefine_31 ?_
      refine sj_getR fl_X9_69 (by assumption) rfl (eR_1 _) dX9_undefine_34 ?_
      refine sj_ild1 dX9_undefine_37 ?_
      refine sj_null dX9_undefine_38 ?_
      refine sj_aastN rfl (by assumption) (by omega) (by omega) dX9_undefine_39 ?_
      rw [Int.toNat_natCast]
      refine sj_ald2 dX9_undefine_40 ?_
      refine sj_getI fl_X9_73 (by assumption) rfl dX9_undefine_41 ?_
      rw [z.2.1]
      exact sj_iret dX9_undefine_44 rfl rfl (Nat.le_of_ble_eq_true rfl) (Nat.le_of_ble_eq_true rfl) ⟨x4.tr y3, Or.inr (Or.inr ⟨T, hg, hE, rfl, y1⟩)⟩
  · refine sj_ild1 dX9_undefine_0 ?_
    refine sj_callS (cx9_isStream ha) kc_X9_58 rfl rfl (Nat.le_of_ble_eq_true rfl) dX9_undefine_1 (fun r_1 σ_1 I_1 hp_1 => ?_)
    obtain ⟨rfl, rfl, rfl⟩ := hp_1
    refine sj_if_ne 9 dX9_undefine_4 (by decide) (by omega) (fun c_4 => ?_) (fun c_4 => ?_)
    · (exfalso; omega)
    refine sj_iconst dX9_undefine_7 ?_
    exact sj_iret dX9_undefine_8 rfl rfl (Nat.le_of_ble_eq_true rfl) (Nat.le_of_ble_eq_true rfl) ⟨rC.rf σ I x, Or.inl ⟨hg, rfl, h⟩⟩
theorem cx9_define {x : Nat} {a : Int} {X : List Int} {S : aSt} {H : List aSt} {im : Nat → Option aSt} (h : cI σ I x X S H im) (hR : rB σ x) (ha : -2147483648 ≤ a ∧ a < 2147483648) : sj_Con l yX9_define mX9_define G σ I [.ref x, .int (zI a)] (fun r σ' I' => rC σ I σ' I' x ∧ ((¬ (0 ≤ a ∧ a ≤ 7) ∧ r = some (.int (zI (-1))) ∧ cI σ' I' x X S H im) ∨ ((0 ≤ a ∧ a ≤ 7) ∧ jFl X 1 false 0 ≠ -9 ∧ r = some (.int (zI (-2))) ∧ cI σ' I' x X S H im) ∨ ((0 ≤ a ∧ a ≤ 7) ∧ jFl X 1 false 0 = -9 ∧ r = some (.int (zI (jCd X false).length)) ∧ cI σ' I' x X (S.1, jSe S.2 a.toNat (some (jCd X false))) (jHs H S) im))) := by
  obtain ⟨pv, ws, cy, η, ξ, μ, od, hj⟩ := id h
  obtain ⟨ρ, r0, ⟨r1, _⟩, _⟩ := hj.1.1
  have htx := hj.1.2.1
  have t0 := htx.1.1
  have b1 := jbs (0 ≤ a ∧ a ≤ 7)
  have hrg := jFl_rng X 1 false 0 (by omega)
  have hl8 := htx.2.2.1
  refine sj_con_of (L0 := [some (.ref x), some (.int (zI a)), none]) (by decide) rfl rfl rfl (Nat.le_of_ble_eq_true rfl) rfl (fun Γ => ?_)
  refine sj_wfV (fun hwf => ?_)
  by_cases hg : 0 ≤ a ∧ a ≤ 7
  · obtain ⟨aa, rfl⟩ := jNat (a := a) (by omega)
    rw [Int.toNat_natCast]
    refine sj_ild1 dX9_define_0 ?_
    refine sj_callS (cx9_isStream ha) kc_X9_58 rfl rfl (Nat.le_of_ble_eq_true rfl) dX9_define_1 (fun r_1 σ_1 I_1 hp_1 => ?_)
    obtain ⟨rfl, rfl, rfl⟩ := hp_1
    refine sj_if_ne 9 dX9_define_4 (by decide) (by omega) (fun c_4 => ?_) (fun c_4 => ?_)
    rotate_left
    · (exfalso; omega)
    refine sj_ald0 dX9_define_9 ?_
    refine sj_getR fl_X9_12 (by assumption) rfl r1 dX9_define_10 ?_
    refine sj_callV (cx6_firstFault htx) kc_X9_55 (by assumption) rfl rfl rfl rfl (Nat.le_of_ble_eq_true rfl) dX9_define_13 (fun r_13 σ_13 I_13 hp_13 => ?_)
    obtain ⟨rfl, rfl, rfl⟩ := hp_13
    refine sj_bipush dX9_define_16 (by decide) ?_
    refine sj_icmp_eq 24 dX9_define_18 (by decide) (by omega) (by omega) (fun c_18 => ?_) (fun c_18 => ?_)
    · refine sj_ald0 dX9_define_24 ?_
      refine sj_getR fl_X9_12 (by assumption) rfl r1 dX9_define_25 ?_
      refine sj_callV (cx6_read htx ((jCd_ok X 1 0 (by omega)).1 (by omega)).1) kc_X9_62 (by assumption) rfl rfl rfl rfl (Nat.le_of_ble_eq_true rfl) dX9_define_28 (fun r_28 σ_28 I_28 hp_28 => ?_)
      obtain ⟨rfl, x1, x2, x3⟩ := hp_28
      obtain ⟨hj1, hT1⟩ := hj.grow hwf x2
      have hC1 : rC σ I σ_28 I_28 x := fun q q1 q2 => ⟨(x2 q (hR.1.lt hwf q1 q2)).1, (x2 q (hR.1.lt hwf q1 q2)).2 (by omega)⟩
      obtain ⟨ρ1, r01, _⟩ := id hj1.1.1
      refine sj_ast2 (by decide) rfl dX9_define_31 ?_
      refine sj_ald0 dX9_define_32 ?_
      refine sj_callV (cx9_beginChange hj1 (hR.keep hC1)) kc_X9_66 (by assumption) rfl rfl rfl rfl (Nat.le_of_ble_eq_true rfl) dX9_define_33 (fun r_33 σ_33 I_33 hp_33 => ?_)
      obtain ⟨rfl, ⟨η', od', hj'⟩, w2, w3, w4, w5⟩ := hp_33
      obtain ⟨ρ', r0', ⟨_, r1', _⟩, _⟩ := id hj'.1.1
      obtain ⟨τ', he', ht', hM'⟩ := id hj'.1.2.2.1
      have e0' := he'.1
      have e1' := he'.2.1
      have hu := w3 _ _ x3
      have hu0 := hu.1.1
      obtain ⟨y1, y2, y3⟩ := hj'.putT (a := aa) w2 (by omega) he' ht' (some σ.1) (some (jCd X false)) (Or.inr ⟨_, _, rfl, rfl, hu⟩)
      have z := y2 _ _ hu
      have z0 := z.1.1
      refine sj_ald0 dX9_define_36 ?_
      refine sj_getR fl_X9_19 (by assumption) rfl r1' dX9_define_37 ?_
      refine sj_getR fl_X9_69 (by assumption) rfl (eR_1 _) dX9_define_40 ?_
      refine sj_ild1 dX9_define_43 ?_
      refine sj_ald2 dX9_define_44 ?_
      refine sj_aast rfl e1' hu0 (by omega) (by decide) dX9_define_45 ?_
      rw [Int.toNat_natCast]
      refine sj_ald2 dX9_define_46 ?_
      refine sj_getI fl_X9_73 (by assumption) rfl dX9_define_47 ?_
      rw [z.2.1]
      exact sj_iret dX9_define_50 rfl rfl (Nat.le_of_ble_eq_true rfl) (Nat.le_of_ble_eq_true rfl) ⟨(hC1.tr w4).tr y3, Or.inr (Or.inr ⟨hg, by omega, rfl, y1⟩)⟩
    · refine sj_bipush dX9_define_21 (by decide) ?_
      exact sj_iret dX9_define_23 rfl rfl (Nat.le_of_ble_eq_true rfl) (Nat.le_of_ble_eq_true rfl) ⟨rC.rf σ I x, Or.inr (Or.inl ⟨hg, by omega, rfl, h⟩)⟩
  · refine sj_ild1 dX9_define_0 ?_
    refine sj_callS (cx9_isStream ha) kc_X9_58 rfl rfl (Nat.le_of_ble_eq_true rfl) dX9_define_1 (fun r_1 σ_1 I_1 hp_1 => ?_)
    obtain ⟨rfl, rfl, rfl⟩ := hp_1
    refine sj_if_ne 9 dX9_define_4 (by decide) (by omega) (fun c_4 => ?_) (fun c_4 => ?_)
    · (exfalso; omega)
    refine sj_iconst dX9_define_7 ?_
    exact sj_iret dX9_define_8 rfl rfl (Nat.le_of_ble_eq_true rfl) (Nat.le_of_ble_eq_true rfl) ⟨rC.rf σ I x, Or.inl ⟨hg, rfl, h⟩⟩
end JUDGE4
