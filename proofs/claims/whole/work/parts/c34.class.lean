theorem cO.rnk {M : Int} (hM : 2 ≤ M ∧ M ≤ 10) {E : Nat → Option (List Int)} {f : Nat → Int} (h : cO M E f) {k : Nat} (hk : k < 3200) (h9 : vAt f k ≠ -9) : ∃ n, jStg M E n k = some (vAt f k, f k / 16 - 1) := by
  unfold vAt at h9 ⊢
  rcases h k hk with a | a | a
  · rw [if_pos (by omega)] at h9; exact absurd rfl h9
  · rw [if_pos (by omega)] at h9; exact absurd rfl h9
  · obtain ⟨r1, _, _, _, n, hn⟩ := a.rng hM hk
    rw [if_neg (by omega)]
    exact ⟨n, hn⟩
section JUDGE13
variable {l : Launch} {G : sjG} {σ : sjS} {I : sjI}
theorem cx9_needs {x : Nat} {a i u : Int} {X : List Int} {S : aSt} {H : List aSt} {im : Nat → Option aSt} (h : cI σ I x X S H im) (hR : rB σ x) (ha : -2147483648 ≤ a ∧ a < 2147483648) (hi : -2147483648 ≤ i ∧ i < 2147483648) (hu : -2147483648 ≤ u ∧ u < 2147483648) : sj_Con l yX9_needs mX9_needs G σ I [.ref x, .int (zI a), .int (zI i), .int (zI u)] (fun r σ' I' => rC σ I σ' I' x ∧ cI σ' I' x X S H im ∧ ((¬ ((0 ≤ a ∧ a ≤ 7) ∧ (0 ≤ i ∧ i ≤ 399) ∧ (0 ≤ u ∧ u ≤ 3)) ∧ r = some (.int (zI (-1)))) ∨ (((0 ≤ a ∧ a ≤ 7) ∧ (0 ≤ i ∧ i ≤ 399) ∧ (0 ≤ u ∧ u ≤ 3)) ∧ ∃ f g, f (400 * a.toNat + i.toNat) = jVal S.1 S.2 (400 * a.toNat + i.toNat) ∧ (f (400 * a.toNat + i.toNat) ≠ -9 → ∃ n, jStg S.1 S.2 n (400 * a.toNat + i.toNat) = some (f (400 * a.toNat + i.toNat), g (400 * a.toNat + i.toNat))) ∧ r = some (.int (zI (jNe S.2 f g (400 * a.toNat + i.toNat) u)))))) := by
  obtain ⟨pv, ws, cy, η, ξ, μ, od, hj⟩ := id h
  obtain ⟨ρ, r0, _⟩ := id hj.1.1
  have b1 := jbs (0 ≤ a ∧ a ≤ 7)
  have b2 := jbs (0 ≤ i ∧ i ≤ 399)
  refine sj_con_of (L0 := [some (.ref x), some (.int (zI a)), some (.int (zI i)), some (.int (zI u)), none, none]) (by decide) rfl rfl rfl (Nat.le_of_ble_eq_true rfl) rfl (fun Γ => ?_)
  by_cases hg : (0 ≤ a ∧ a ≤ 7) ∧ (0 ≤ i ∧ i ≤ 399) ∧ (0 ≤ u ∧ u ≤ 3)
  · obtain ⟨aa, rfl⟩ := jNat (a := a) (by omega)
    obtain ⟨ii, rfl⟩ := jNat (a := i) (by omega)
    rw [Int.toNat_natCast, Int.toNat_natCast]
    refine sj_ild1 dX9_needs_0 ?_
    refine sj_callS (cx9_isStream ha) kc_X9_58 rfl rfl (Nat.le_of_ble_eq_true rfl) dX9_needs_1 (fun r_1 σ_1 I_1 hp_1 => ?_)
    obtain ⟨rfl, rfl, rfl⟩ := hp_1
    refine sj_if_eq 23 dX9_needs_4 (by decide) (by omega) (fun c_4 => ?_) (fun c_4 => ?_)
    · (exfalso; omega)
    refine sj_ild2 dX9_needs_7 ?_
    refine sj_callS (cx9_isIndex hi) kc_X9_142 rfl rfl (Nat.le_of_ble_eq_true rfl) dX9_needs_8 (fun r_8 σ_8 I_8 hp_8 => ?_)
    obtain ⟨rfl, rfl, rfl⟩ := hp_8
    refine sj_if_eq 23 dX9_needs_11 (by decide) (by omega) (fun c_11 => ?_) (fun c_11 => ?_)
    · (exfalso; omega)
    refine sj_ild3 dX9_needs_14 ?_
    refine sj_if_lt 23 dX9_needs_15 (by decide) (by omega) (fun c_15 => ?_) (fun c_15 => ?_)
    · (exfalso; omega)
    refine sj_ild3 dX9_needs_18 ?_
    refine sj_iconst dX9_needs_19 ?_
    refine sj_icmp_le 25 dX9_needs_20 (by decide) (by omega) (by omega) (fun c_20 => ?_) (fun c_20 => ?_)
    rotate_left
    · (exfalso; omega)
    refine sj_ald0 dX9_needs_25 ?_
    refine sj_callV (cx9_valuesNow hj hR) kc_X9_145 (by assumption) rfl rfl rfl rfl (Nat.le_of_ble_eq_true rfl) dX9_needs_26 (fun r_26 σ_26 I_26 hp_26 => ?_)
    obtain ⟨v, w, rfl, hj1, hT1, hC1⟩ := hp_26
    obtain ⟨τ, hx1⟩ := hj1.vcx
    have v0 := hx1.1.1
    have hM := hx1.2.2.2.2.1
    obtain ⟨ρ1, rx1, _⟩ := id hj1.1.1
    refine sj_ast4 (by decide) rfl dX9_needs_29 ?_
    refine sj_ald4 dX9_needs_31 ?_
    refine sj_ild1 dX9_needs_33 ?_
    refine sj_ild2 dX9_needs_34 ?_
    refine sj_callV (cx7_find hx1 (by omega) (by omega)) kc_X9_149 (by assumption) rfl rfl rfl rfl (Nat.le_of_ble_eq_true rfl) dX9_needs_35 (fun r_35 σ_35 I_35 hp_35 => ?_)
    obtain ⟨rfl, rfl, n1, n2⟩ := hp_35
    obtain ⟨hj2, hT2, hC2⟩ := hj1.vn (hR.keep hC1) n1
    have hvr := n1.2.1.vr hM
    have hr1 := (hvr (400 * aa + ii) (by omega)).1
    have hr2 := (hvr (400 * aa + ii) (by omega)).2
    have hv1 := n1.2.1.val hM (by omega) n2
    have hv2 := n1.2.1.rnk hM (k := 400 * aa + ii) (by omega)
    have hR2 := (hR.keep hC1).keep hC2
    have fin : ∀ (J : sjI) (z : Int), rC σ_26 I_35 σ_26 J x → cI σ_26 J x X S H im → z = jNe S.2 (vAt (I_35 (vCl v w))) (fun q => I_35 (vCl v w) q / 16 - 1) (400 * aa + ii) u → rC σ I σ_26 J x ∧ cI σ_26 J x X S H im ∧ ((¬ ((0 ≤ (aa : Int) ∧ (aa : Int) ≤ 7) ∧ (0 ≤ (ii : Int) ∧ (ii : Int) ≤ 399) ∧ (0 ≤ u ∧ u ≤ 3)) ∧ some (Value.int (zI z)) = some (.int (zI (-1)))) ∨ (((0 ≤ (aa : Int) ∧ (aa : Int) ≤ 7) ∧ (0 ≤ (ii : Int) ∧ (ii : Int) ≤ 399) ∧ (0 ≤ u ∧ u ≤ 3)) ∧ ∃ f g, f (400 * aa + ii) = jVal S.1 S.2 (400 * aa + ii) ∧ (f (400 * aa + ii) ≠ -9 → ∃ n, jStg S.1 S.2 n (400 * aa + ii) = some (f (400 * aa + ii), g (400 * aa + ii))) ∧ some (Value.int (zI z)) = some (.int (zI (jNe S.2 f g (400 * aa + ii) u))))) := fun J z q1 q2 ez => ⟨(hC1.tr hC2).tr q1, q2, Or.inr ⟨hg, vAt (I_35 (vCl v w)), (fun q => I_35 (vCl v w) q / 16 - 1), hv1, hv2, by rw [ez]⟩⟩
    refine sj_ald4 dX9_needs_38 ?_
    refine sj_ild1 dX9_needs_40 ?_
    refine sj_ild2 dX9_needs_41 ?_
    refine sj_callV (cx7_at' hx1.1 hvr (by omega) (by omega)) kc_X9_153 (by assumption) rfl rfl rfl rfl (Nat.le_of_ble_eq_true rfl) dX9_needs_42 (fun r_42 σ_42 I_42 hp_42 => ?_)
    obtain ⟨rfl, rfl, rfl⟩ := hp_42
    refine sj_bipush dX9_needs_45 (by decide) ?_
    refine sj_icmp_ne 53 dX9_needs_47 (by decide) (by omega) (by omega) (fun c_47 => ?_) (fun c_47 => ?_)
    · refine sj_ild3 dX9_needs_53 ?_
      refine sj_iconst dX9_needs_54 ?_
      refine sj_icmp_ne 66 dX9_needs_55 (by decide) (by omega) (by omega) (fun c_55 => ?_) (fun c_55 => ?_)
      · refine sj_ald4 dX9_needs_66 ?_
        refine sj_ild1 dX9_needs_68 ?_
        refine sj_ild2 dX9_needs_69 ?_
        refine sj_callV (cx7_collectNeeded hx1.1 hx1.2.1 (hx1.next n1).2.2.1 (hx1.next n1).2.2.2.1 (by omega) (by omega) (by obtain ⟨n, hn⟩ := hv2 (by assumption); exact ⟨n, _, hn⟩)) kc_X9_188 (by assumption) rfl rfl rfl rfl (Nat.le_of_ble_eq_true rfl) dX9_needs_70 (fun r_70 σ_70 I_70 hp_70 => ?_)
        obtain ⟨Q, hQ, hQ1, hQ2, hQ3, rfl, rfl, hcl, hQr⟩ := hp_70
        have hW := hx1.2.1
        have w0 := hW.1
        have hj3 := hj2.scr hW.blk ⟨_, _, w0, by decide, by decide, by decide, by decide, by decide, Or.inr (by decide)⟩ (fun q hq => hcl q (by omega) (by omega) (by omega))
        have offw : x + 14 + 21 < w ∨ w + 4 < x + 14 := by obtain ⟨z, hz⟩ := hR2.2; exact hR2.1.off hW.blk (ne_kind hz w0 (by decide))
        have hC3 : rC σ_26 I_35 σ_26 I_70 x := fun q q1 q2 => ⟨rfl, hcl q (by omega) (by omega) (by omega)⟩
        have hR3 := hR2.keep hC3
        have hrow : ∀ j, j ≤ Q.length - 1 → I_70 (w + 3) j = (fun j => (Q.getD j 0 : Nat) : Nat → Int) j := fun j hj => hQr j (by omega)
        have hrng : ∀ j, j ≤ Q.length - 1 → 0 ≤ I_70 (w + 3) j ∧ I_70 (w + 3) j < 3200 := fun j hj => by
          have h32 := hQ3 (Q.getD j 0) (by rw [show Q.getD j 0 = Q[j]'(by omega) by simp [List.getD, show j < Q.length by omega]]; exact List.getElem_mem _)
          rw [hQr j (by omega)]; omega
        refine sj_ist5 (by decide) rfl dX9_needs_73 ?_
        refine sj_ild3 dX9_needs_75 ?_
        rcases (show 0 = u ∨ 2 = u ∨ (¬ 0 = u ∧ ¬ 2 = u) by omega) with c_76 | c_76 | c_76
        · refine sj_lookup 104 dX9_needs_76 (by decide) (by omega) (by rw [← c_76]) (by decide) ?_
          refine sj_ild5 dX9_needs_104 ?_
          exact sj_iret dX9_needs_106 rfl rfl (Nat.le_of_ble_eq_true rfl) (Nat.le_of_ble_eq_true rfl) (fin _ _ hC3 ⟨_, _, _, _, _, _, _, hj3⟩ (by rw [jNe, if_neg (by assumption), if_neg (by omega), if_pos (by omega), ← hQ]))
        · refine sj_lookup 107 dX9_needs_76 (by decide) (by omega) (by rw [← c_76]) (by decide) ?_
          refine sj_ald0 dX9_needs_107 ?_
          refine sj_callV (cx9_sharedWorkspace hj3 hR3) kc_X9_191 (by assumption) rfl rfl rfl rfl (Nat.le_of_ble_eq_true rfl) dX9_needs_108 (fun r_108 σ_108 I_108 hp_108 => ?_)
          obtain ⟨w2, rfl, hj4, hc4⟩ := hp_108
          obtain ⟨e, rfl, rfl⟩ : w2 = w ∧ σ_108 = σ_26 ∧ I_108 = I_70 := by
            rcases hc4 with ⟨e, e2, e3⟩ | ⟨e, _⟩
            · injection e with e; exact ⟨e.symm, e2, e3⟩
            · cases e
          subst e
          refine sj_ild5 dX9_needs_111 ?_
          refine sj_callV (cx8_greatestIndex (n := Q.length - 1) hW (by omega) hrng) kc_X9_195 (by assumption) rfl rfl rfl rfl (Nat.le_of_ble_eq_true rfl) dX9_needs_113 (fun r_113 σ_113 I_113 hp_113 => ?_)
          obtain ⟨rfl, rfl, rfl⟩ := hp_113
          exact sj_iret dX9_needs_116 rfl rfl (Nat.le_of_ble_eq_true rfl) (Nat.le_of_ble_eq_true rfl) (fin _ _ hC3 ⟨_, _, _, _, _, _, _, hj3⟩ (by rw [jNe, if_neg (by assumption), if_neg (by omega), if_neg (by omega), if_pos (by omega), ← hQ]; exact jHi_congr _ hrow))
        · refine sj_lookup (off := 41) 117 dX9_needs_76 (by decide) (by omega) (by simp [Op.lookupswitch.offset_cons, Op.lookupswitch.offset_nil, c_76]) (by decide) ?_
          refine sj_ald0 dX9_needs_117 ?_
          refine sj_callV (cx9_sharedWorkspace hj3 hR3) kc_X9_191 (by assumption) rfl rfl rfl rfl (Nat.le_of_ble_eq_true rfl) dX9_needs_118 (fun r_118 σ_118 I_118 hp_118 => ?_)
          obtain ⟨w2, rfl, hj4, hc4⟩ := hp_118
          obtain ⟨e, rfl, rfl⟩ : w2 = w ∧ σ_118 = σ_26 ∧ I_118 = I_70 := by
            rcases hc4 with ⟨e, e2, e3⟩ | ⟨e, _⟩
            · injection e with e; exact ⟨e.symm, e2, e3⟩
            · cases e
          subst e
          refine sj_ild5 dX9_needs_121 ?_
          refine sj_callV (cx8_countStreams (n := Q.length - 1) hW (by omega) hrng) kc_X9_200 (by assumption) rfl rfl rfl rfl (Nat.le_of_ble_eq_true rfl) dX9_needs_123 (fun r_123 σ_123 I_123 hp_123 => ?_)
          obtain ⟨rfl, rfl, rfl⟩ := hp_123
          exact sj_iret dX9_needs_126 rfl rfl (Nat.le_of_ble_eq_true rfl) (Nat.le_of_ble_eq_true rfl) (fin _ _ hC3 ⟨_, _, _, _, _, _, _, hj3⟩ (by rw [jNe, if_neg (by assumption), if_neg (by omega), if_neg (by omega), if_neg (by omega), ← hQ, jSs_congr _ hrow]))
      · refine sj_ald4 dX9_needs_58 ?_
        refine sj_ild1 dX9_needs_60 ?_
        refine sj_ild2 dX9_needs_61 ?_
        refine sj_callV (cx7_rank hx1.1 (by omega) (by omega) hr1) kc_X9_185 (by assumption) rfl rfl rfl rfl (Nat.le_of_ble_eq_true rfl) dX9_needs_62 (fun r_62 σ_62 I_62 hp_62 => ?_)
        obtain ⟨rfl, rfl, rfl⟩ := hp_62
        exact sj_iret dX9_needs_65 rfl rfl (Nat.le_of_ble_eq_true rfl) (Nat.le_of_ble_eq_true rfl) (fin _ _ (rC.rf _ _ _) ⟨_, _, _, _, _, _, _, hj2⟩ (by rw [jNe, if_neg (by assumption), if_pos (by omega)]))
    · refine sj_bipush dX9_needs_50 (by decide) ?_
      exact sj_iret dX9_needs_52 rfl rfl (Nat.le_of_ble_eq_true rfl) (Nat.le_of_ble_eq_true rfl) (fin _ _ (rC.rf _ _ _) ⟨_, _, _, _, _, _, _, hj2⟩ (by rw [jNe, if_pos (by omega)]))
  · refine sj_ild1 dX9_needs_0 ?_
    refine sj_callS (cx9_isStream ha) kc_X9_58 rfl rfl (Nat.le_of_ble_eq_true rfl) dX9_needs_1 (fun r_1 σ_1 I_1 hp_1 => ?_)
    obtain ⟨rfl, rfl, rfl⟩ := hp_1
    refine sj_if_eq 23 dX9_needs_4 (by decide) (by omega) (fun c_4 => ?_) (fun c_4 => ?_)
    · refine sj_iconst dX9_needs_23 ?_
      exact sj_iret dX9_needs_24 rfl rfl (Nat.le_of_ble_eq_true rfl) (Nat.le_of_ble_eq_true rfl) ⟨rC.rf σ I x, h, Or.inl ⟨hg, rfl⟩⟩
    · refine sj_ild2 dX9_needs_7 ?_
      refine sj_callS (cx9_isIndex hi) kc_X9_142 rfl rfl (Nat.le_of_ble_eq_true rfl) dX9_needs_8 (fun r_8 σ_8 I_8 hp_8 => ?_)
      obtain ⟨rfl, rfl, rfl⟩ := hp_8
      refine sj_if_eq 23 dX9_needs_11 (by decide) (by omega) (fun c_11 => ?_) (fun c_11 => ?_)
      · refine sj_iconst dX9_needs_23 ?_
        exact sj_iret dX9_needs_24 rfl rfl (Nat.le_of_ble_eq_true rfl) (Nat.le_of_ble_eq_true rfl) ⟨rC.rf σ I x, h, Or.inl ⟨hg, rfl⟩⟩
      · refine sj_ild3 dX9_needs_14 ?_
        refine sj_if_lt 23 dX9_needs_15 (by decide) (by omega) (fun c_15 => ?_) (fun c_15 => ?_)
        · refine sj_iconst dX9_needs_23 ?_
          exact sj_iret dX9_needs_24 rfl rfl (Nat.le_of_ble_eq_true rfl) (Nat.le_of_ble_eq_true rfl) ⟨rC.rf σ I x, h, Or.inl ⟨hg, rfl⟩⟩
        · refine sj_ild3 dX9_needs_18 ?_
          refine sj_iconst dX9_needs_19 ?_
          refine sj_icmp_le 25 dX9_needs_20 (by decide) (by omega) (by omega) (fun c_20 => ?_) (fun c_20 => ?_)
          · (exfalso; omega)
          refine sj_iconst dX9_needs_23 ?_
          exact sj_iret dX9_needs_24 rfl rfl (Nat.le_of_ble_eq_true rfl) (Nat.le_of_ble_eq_true rfl) ⟨rC.rf σ I x, h, Or.inl ⟨hg, rfl⟩⟩
end JUDGE13
