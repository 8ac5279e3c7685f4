section JUDGE9
variable {l : Launch} {G : sjG} {σ : sjS} {I : sjI}
theorem cx9_alike {x : Nat} {a : Int} {X : List Int} {S : aSt} {H : List aSt} {im : Nat → Option aSt} (h : cI σ I x X S H im) (hR : rB σ x) (ha : -2147483648 ≤ a ∧ a < 2147483648) : sj_Con l yX9_alike mX9_alike G σ I [.ref x, .int (zI a)] (fun r σ' I' => rC σ I σ' I' x ∧ cI σ' I' x X S H im ∧ ((¬ (0 ≤ a ∧ a ≤ 7) ∧ r = some (.int (zI (-1)))) ∨ ((0 ≤ a ∧ a ≤ 7) ∧ ∃ f, (∀ k, k < 3200 → f k = jVal S.1 S.2 k) ∧ r = some (.int (zI (jAl f a.toNat 8 : Nat)))))) := by
  obtain ⟨pv, ws, cy, η, ξ, μ, od, hj⟩ := id h
  obtain ⟨ρ, r0, _⟩ := id hj.1.1
  have b1 := jbs (0 ≤ a ∧ a ≤ 7)
  refine sj_con_of (L0 := [some (.ref x), some (.int (zI a)), none, none]) (by decide) rfl rfl rfl (Nat.le_of_ble_eq_true rfl) rfl (fun Γ => ?_)
  by_cases hg : 0 ≤ a ∧ a ≤ 7
  · obtain ⟨aa, haa⟩ := jNat (a := a) (by omega)
    refine sj_ild1 dX9_alike_0 ?_
    refine sj_callS (cx9_isStream ha) kc_X9_58 rfl rfl (Nat.le_of_ble_eq_true rfl) dX9_alike_1 (fun r_1 σ_1 I_1 hp_1 => ?_)
    obtain ⟨rfl, rfl, rfl⟩ := hp_1
    refine sj_if_ne 9 dX9_alike_4 (by decide) (by omega) (fun c_4 => ?_) (fun c_4 => ?_)
    rotate_left
    · (exfalso; omega)
    refine sj_ald0 dX9_alike_9 ?_
    refine sj_callV (cx9_valuesNow hj hR) kc_X9_145 (by assumption) rfl rfl rfl rfl (Nat.le_of_ble_eq_true rfl) dX9_alike_10 (fun r_10 σ_10 I_10 hp_10 => ?_)
    obtain ⟨v, w, rfl, hj1, hT1, hC1⟩ := hp_10
    obtain ⟨τ, hx1⟩ := hj1.vcx
    have v0 := hx1.1.1
    have hM := hx1.2.2.2.2.1
    refine sj_ast2 (by decide) rfl dX9_alike_13 ?_
    refine sj_iconst dX9_alike_14 ?_
    refine sj_ist3 (by decide) rfl dX9_alike_15 ?_
    suffices lp : ∀ (d k : Nat) (J : sjI), k + d = 8 → vN S.1 S.2 v w I_10 J → (∀ b i, b < k → i < 400 → J (vCl v w) (400 * b + i) ≠ 0) → sj_V l Γ mX9_alike G (fun r σ' I' => rC σ I σ' I' x ∧ cI σ' I' x X S H im ∧ ((¬ (0 ≤ a ∧ a ≤ 7) ∧ r = some (.int (zI (-1)))) ∨ ((0 ≤ a ∧ a ≤ 7) ∧ ∃ f, (∀ k, k < 3200 → f k = jVal S.1 S.2 k) ∧ r = some (.int (zI (jAl f a.toNat 8 : Nat)))))) σ_10 J (0 + mX9_isStream.2.2.2.2.2.cells + mX9_valuesNow.2.2.2.2.2.cells) (0 + mX9_isStream.2.2.2.2.2.slots + mX9_valuesNow.2.2.2.2.2.slots) 16 [some (.ref x), some (.int (zI a)), some (.ref v), some (.int (zI k))] [] from by
      exact lp 8 0 I_10 (by omega) (vN.rf hx1.2.2.2.2.2) (fun b i hb => absurd hb (by omega))
    intro d
    induction d with
    | zero =>
      intro k J hk hJ hf
      obtain ⟨hj2, hT2, hC2⟩ := hj1.vn (hR.keep hC1) hJ
      subst haa
      refine sj_ild3 dX9_alike_16 ?_
      refine sj_bipush dX9_alike_17 (by decide) ?_
      refine sj_icmp_ge 33 dX9_alike_19 (by decide) (by omega) (by omega) (fun c_19 => ?_) (fun c_19 => ?_)
      rotate_left
      · (exfalso; omega)
      refine sj_ald2 dX9_alike_33 ?_
      refine sj_ild1 dX9_alike_34 ?_
      refine sj_callV (cx7_alikeSet hx1.1 (hJ.2.1.vr hM) (by omega)) kc_X9_182 (by assumption) rfl rfl rfl rfl (Nat.le_of_ble_eq_true rfl) dX9_alike_35 (fun r_35 σ_35 I_35 hp_35 => ?_)
      obtain ⟨rfl, rfl, rfl⟩ := hp_35
      exact sj_iret dX9_alike_38 rfl rfl (Nat.le_of_ble_eq_true rfl) (Nat.le_of_ble_eq_true rfl) ⟨hC1.tr hC2, ⟨_, _, _, _, _, _, _, hj2⟩, Or.inr ⟨hg, _, fun q hq => hJ.2.1.val hM hq (by
        have := hf (q / 400) (q % 400) (by omega) (by omega)
        rw [show 400 * (q / 400) + q % 400 = q by omega] at this
        exact this), by rw [Int.toNat_natCast]⟩⟩
    | succ d ih =>
      intro k J hk hJ hf
      refine sj_ild3 dX9_alike_16 ?_
      refine sj_bipush dX9_alike_17 (by decide) ?_
      refine sj_icmp_ge 33 dX9_alike_19 (by decide) (by omega) (by omega) (fun c_19 => ?_) (fun c_19 => ?_)
      · (exfalso; omega)
      refine sj_ald2 dX9_alike_22 ?_
      refine sj_ild3 dX9_alike_23 ?_
      refine sj_callV (cx7_findAll (hx1.next hJ) (by omega)) kc_X9_176 (by assumption) rfl rfl rfl rfl (Nat.le_of_ble_eq_true rfl) dX9_alike_24 (fun r_24 σ_24 I_24 hp_24 => ?_)
      obtain ⟨rfl, rfl, x1, x2⟩ := hp_24
      refine sj_inc3 (by decide) rfl dX9_alike_27 ?_
      refine sj_goto 16 dX9_alike_30 (by decide) ?_
      exact ih (k + 1) _ (by omega) (hJ.tr x1) (fun b i hb hi => by
        by_cases e : b = k
        · rw [e]; exact x2 i hi
        · rw [x1.2.2.1 _ (by omega) (hf b i (by omega) hi)]; exact hf b i (by omega) hi)
  · refine sj_ild1 dX9_alike_0 ?_
    refine sj_callS (cx9_isStream ha) kc_X9_58 rfl rfl (Nat.le_of_ble_eq_true rfl) dX9_alike_1 (fun r_1 σ_1 I_1 hp_1 => ?_)
    obtain ⟨rfl, rfl, rfl⟩ := hp_1
    refine sj_if_ne 9 dX9_alike_4 (by decide) (by omega) (fun c_4 => ?_) (fun c_4 => ?_)
    · (exfalso; omega)
    refine sj_iconst dX9_alike_7 ?_
    exact sj_iret dX9_alike_8 rfl rfl (Nat.le_of_ble_eq_true rfl) (Nat.le_of_ble_eq_true rfl) ⟨rC.rf σ I x, h, Or.inl ⟨hg, rfl⟩⟩
end JUDGE9
