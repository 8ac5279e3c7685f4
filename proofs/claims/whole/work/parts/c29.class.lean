/-- values were found: the present values' row and the workspace changed -/
theorem cJ.fnd {σ : sjS} {I J : sjI} {x v w : Nat} {X : List Int} {S : aSt} {H : List aSt} {im : Nat → Option aSt} {cy : Option Nat} {η ξ μ : Nat → Option Nat} {od : Nat} (h : cJ σ I x X S H im (some v) (some w) cy η ξ μ od) (hR : rB σ x) (hcl : ∀ q, ¬ (w ≤ q ∧ q ≤ w + 4) → q ≠ vCl v w → q ≠ v → J q = I q) (hc : cO S.1 S.2 (J (vCl v w))) (hf : J v 3 = 1 ∨ (J v 3 = 0 ∧ ∀ j, j < 3200 → J (vCl v w) j = 0)) : cJ σ J x X S H im (some v) (some w) cy η ξ μ od ∧ tS σ I σ J ∧ rC σ I σ J x := by
  obtain ⟨⟨a1, a2, a3, a4, a5, a6, a7⟩, ⟨b1, b2⟩, c1, d1, e1, f1, g1⟩ := h
  have hW := f1 w rfl
  have hv : vals σ I v (x + 4) w S := by
    rcases e1 with q | ⟨v', w', q1, q2, q3⟩
    · cases q
    · cases q1; cases q2; exact q3
  have hκ := hv.1.1
  have hω := hW.1
  have cl : ∀ a n, blk σ a n → a ≠ v → a ≠ w → ∀ q, a ≤ q → q ≤ a + n → cq σ I σ J q := fun a n ha hne hnw q q1 q2 => ⟨rfl, by
    have o1 := vRo hv.1 hW ha hne.symm (Or.inl (fun e => hnw e.symm))
    have o2 := ha.off hW.blk hnw
    exact hcl q (by omega) (by omega) (by omega)⟩
  have hT : tS σ I σ J := fun t T ht => ht.keep (fun q q1 q2 => cl t 3 ht.blk (ne_kind ht.1.1 hκ (by decide)) (ne_kind ht.1.1 hω (by decide)) q q1 q2)
  have hsys : ∀ s S', sys σ I s S' → sys σ J s S' := fun s S' hs => by
    obtain ⟨τ, q1, _⟩ := id hs
    have hne : s ≠ v := ne_kind q1.1 hκ (by decide)
    have hnw : s ≠ w := ne_kind q1.1 hω (by decide)
    exact hs.keep hT (cl s 1 hs.blk hne hnw s (by omega) (by omega)) (cl s 1 hs.blk hne hnw (s + 1) (by omega) (by omega))
  have clt := cl _ 2 a2.blk (ne_kind a2.1.1 hκ (by decide)) (ne_kind a2.1.1 hω (by decide))
  refine ⟨⟨⟨a1, a2.keep (clt _ (by omega) (by omega)) (clt _ (by omega) (by omega)) rfl, hsys _ _ a3, a4.keep (cl _ 1 a4.blk (ne_kind a4.1 hκ (by decide)) (ne_kind a4.1 hω (by decide)) _ (by omega) (by omega)) rfl, a5, a6, a7⟩, ⟨fun j s q1 q2 => ⟨(b1 j s q1 q2).1, (b1 j s q1 q2).2.imp (fun S' q => hsys s S' q)⟩, fun k S' q1 => (b2 k S' q1).imp (fun s q => ⟨q.1, hsys s S' q.2⟩)⟩, fun i hi => ?_, d1, Or.inr ⟨v, w, rfl, rfl, hv.1, hc, hf⟩, f1, g1⟩, hT, ?_⟩
  · rcases c1 i hi with q | ⟨s, Si, q1, q2, q3, q4, q5⟩
    · exact Or.inl q
    · refine Or.inr ⟨s, Si, q1, q2, q3, hsys s Si q4, q5.imp id (fun ⟨v2, w2, r1, r2, r3⟩ => ⟨v2, w2, r1, r2, ?_⟩)⟩
      cases r2
      have hne : v2 ≠ v := fun e => by
        have e1 := r3.1.1
        rw [e, hκ] at e1
        injection e1 with e1
        have e2 := congrFun (congrArg (fun z => z.2.2) e1) 0
        have e3 : some (x + 4) = some s := e2
        injection e3 with e3
        exact q3 e3.symm
      have o1 := vRo r3.1 hW hv.1.blk hne (Or.inr (by decide))
      have o2 := vRo hv.1 hW r3.1.blk hne.symm (Or.inr (by decide))
      have c3 := vCl_cs v w
      have c4 := vCl_cs v2 w
      have c5 := hv.1.off hW
      have c6 := r3.1.off hW
      exact r3.keep ⟨rfl, hcl v2 (by omega) (by omega) (by omega)⟩ ⟨rfl, hcl _ (by omega) (by omega) (by omega)⟩
  · obtain ⟨y, hy⟩ := hR.2
    exact fun q q1 q2 => cl _ 21 hR.1 (ne_kind hy hκ (by decide)) (ne_kind hy hω (by decide)) q q1 q2
theorem cJ.vcx {σ : sjS} {I : sjI} {x v w : Nat} {X : List Int} {S : aSt} {H : List aSt} {im : Nat → Option aSt} {cy : Option Nat} {η ξ μ : Nat → Option Nat} {od : Nat} (h : cJ σ I x X S H im (some v) (some w) cy η ξ μ od) : ∃ τ, vCx σ I v (x + 4) w S.1 τ S.2 := by
  obtain ⟨τ, he, ht, hM⟩ := id h.1.2.2.1
  obtain ⟨w2, w5, _, _⟩ := h.pvO rfl rfl
  exact ⟨τ, w2.1, w5, he, ht, hM, w2.2.1⟩
theorem cJ.vn {σ : sjS} {I J : sjI} {x v w : Nat} {X : List Int} {S : aSt} {H : List aSt} {im : Nat → Option aSt} {cy : Option Nat} {η ξ μ : Nat → Option Nat} {od : Nat} (h : cJ σ I x X S H im (some v) (some w) cy η ξ μ od) (hR : rB σ x) (hn : vN S.1 S.2 v w I J) : cJ σ J x X S H im (some v) (some w) cy η ξ μ od ∧ tS σ I σ J ∧ rC σ I σ J x := by
  obtain ⟨w2, w5, _, _⟩ := h.pvO rfl rfl
  obtain ⟨n1, n2, n3, n4⟩ := hn
  refine h.fnd hR (fun q q1 q2 q3 => n1 q (by omega) (by omega) (by omega) q2 q3) n2 ?_
  rcases n4 with e | ⟨e, e'⟩
  · exact Or.inl e
  · rw [e, e']; exact w2.2.2
section JUDGE8
variable {l : Launch} {G : sjG} {σ : sjS} {I : sjI}
theorem cx9_value {x : Nat} {a i : Int} {X : List Int} {S : aSt} {H : List aSt} {im : Nat → Option aSt} (h : cI σ I x X S H im) (hR : rB σ x) (ha : -2147483648 ≤ a ∧ a < 2147483648) (hi : -2147483648 ≤ i ∧ i < 2147483648) : sj_Con l yX9_value mX9_value G σ I [.ref x, .int (zI a), .int (zI i)] (fun r σ' I' => rC σ I σ' I' x ∧ cI σ' I' x X S H im ∧ r = some (.int (zI (if (0 ≤ a ∧ a ≤ 7) ∧ (0 ≤ i ∧ i ≤ 399) then jVal S.1 S.2 (400 * a.toNat + i.toNat) else -1)))) := by
  obtain ⟨pv, ws, cy, η, ξ, μ, od, hj⟩ := id h
  obtain ⟨ρ, r0, _⟩ := id hj.1.1
  have b1 := jbs (0 ≤ a ∧ a ≤ 7)
  have b2 := jbs (0 ≤ i ∧ i ≤ 399)
  refine sj_con_of (L0 := [some (.ref x), some (.int (zI a)), some (.int (zI i)), none]) (by decide) rfl rfl rfl (Nat.le_of_ble_eq_true rfl) rfl (fun Γ => ?_)
  by_cases hg : (0 ≤ a ∧ a ≤ 7) ∧ (0 ≤ i ∧ i ≤ 399)
  · rw [if_pos hg]
    obtain ⟨aa, rfl⟩ := jNat (a := a) (by omega)
    obtain ⟨ii, rfl⟩ := jNat (a := i) (by omega)
    rw [Int.toNat_natCast, Int.toNat_natCast]
    refine sj_ild1 dX9_value_0 ?_
    refine sj_callS (cx9_isStream ha) kc_X9_58 rfl rfl (Nat.le_of_ble_eq_true rfl) dX9_value_1 (fun r_1 σ_1 I_1 hp_1 => ?_)
    obtain ⟨rfl, rfl, rfl⟩ := hp_1
    refine sj_if_eq 14 dX9_value_4 (by decide) (by omega) (fun c_4 => ?_) (fun c_4 => ?_)
    · (exfalso; omega)
    refine sj_ild2 dX9_value_7 ?_
    refine sj_callS (cx9_isIndex hi) kc_X9_142 rfl rfl (Nat.le_of_ble_eq_true rfl) dX9_value_8 (fun r_8 σ_8 I_8 hp_8 => ?_)
    obtain ⟨rfl, rfl, rfl⟩ := hp_8
    refine sj_if_ne 16 dX9_value_11 (by decide) (by omega) (fun c_11 => ?_) (fun c_11 => ?_)
    rotate_left
    · (exfalso; omega)
    refine sj_ald0 dX9_value_16 ?_
    refine sj_callV (cx9_valuesNow hj hR) kc_X9_145 (by assumption) rfl rfl rfl rfl (Nat.le_of_ble_eq_true rfl) dX9_value_17 (fun r_17 σ_17 I_17 hp_17 => ?_)
    obtain ⟨v, w, rfl, hj1, hT1, hC1⟩ := hp_17
    obtain ⟨τ, hx1⟩ := hj1.vcx
    have v0 := hx1.1.1
    refine sj_ast3 (by decide) rfl dX9_value_20 ?_
    refine sj_ald3 dX9_value_21 ?_
    refine sj_ild1 dX9_value_22 ?_
    refine sj_ild2 dX9_value_23 ?_
    refine sj_callV (cx7_find hx1 (by omega) (by omega)) kc_X9_149 (by assumption) rfl rfl rfl rfl (Nat.le_of_ble_eq_true rfl) dX9_value_24 (fun r_24 σ_24 I_24 hp_24 => ?_)
    obtain ⟨rfl, rfl, n1, n2⟩ := hp_24
    obtain ⟨hj2, hT2, hC2⟩ := hj1.vn (hR.keep hC1) n1
    have hM := hx1.2.2.2.2.1
    refine sj_ald3 dX9_value_27 ?_
    refine sj_ild1 dX9_value_28 ?_
    refine sj_ild2 dX9_value_29 ?_
    refine sj_callV (cx7_at' hx1.1 (n1.2.1.vr hM) (by omega) (by omega)) kc_X9_153 (by assumption) rfl rfl rfl rfl (Nat.le_of_ble_eq_true rfl) dX9_value_30 (fun r_30 σ_30 I_30 hp_30 => ?_)
    obtain ⟨rfl, rfl, rfl⟩ := hp_30
    rw [n1.2.1.val hM (by omega) n2]
    exact sj_iret dX9_value_33 rfl rfl (Nat.le_of_ble_eq_true rfl) (Nat.le_of_ble_eq_true rfl) ⟨hC1.tr hC2, ⟨_, _, _, _, _, _, _, hj2⟩, rfl⟩
  · rw [if_neg hg]
    refine sj_ild1 dX9_value_0 ?_
    refine sj_callS (cx9_isStream ha) kc_X9_58 rfl rfl (Nat.le_of_ble_eq_true rfl) dX9_value_1 (fun r_1 σ_1 I_1 hp_1 => ?_)
    obtain ⟨rfl, rfl, rfl⟩ := hp_1
    refine sj_if_eq 14 dX9_value_4 (by decide) (by omega) (fun c_4 => ?_) (fun c_4 => ?_)
    · refine sj_iconst dX9_value_14 ?_
      exact sj_iret dX9_value_15 rfl rfl (Nat.le_of_ble_eq_true rfl) (Nat.le_of_ble_eq_true rfl) ⟨rC.rf σ I x, h, rfl⟩
    · refine sj_ild2 dX9_value_7 ?_
      refine sj_callS (cx9_isIndex hi) kc_X9_142 rfl rfl (Nat.le_of_ble_eq_true rfl) dX9_value_8 (fun r_8 σ_8 I_8 hp_8 => ?_)
      obtain ⟨rfl, rfl, rfl⟩ := hp_8
      refine sj_if_ne 16 dX9_value_11 (by decide) (by omega) (fun c_11 => ?_) (fun c_11 => ?_)
      · (exfalso; omega)
      refine sj_iconst dX9_value_14 ?_
      exact sj_iret dX9_value_15 rfl rfl (Nat.le_of_ble_eq_true rfl) (Nat.le_of_ble_eq_true rfl) ⟨rC.rf σ I x, h, rfl⟩
theorem cx9_parting {x : Nat} {a b : Int} {X : List Int} {S : aSt} {H : List aSt} {im : Nat → Option aSt} (h : cI σ I x X S H im) (hR : rB σ x) (ha : -2147483648 ≤ a ∧ a < 2147483648) (hb : -2147483648 ≤ b ∧ b < 2147483648) : sj_Con l yX9_parting mX9_parting G σ I [.ref x, .int (zI a), .int (zI b)] (fun r σ' I' => rC σ I σ' I' x ∧ cI σ' I' x X S H im ∧ ((¬ ((0 ≤ a ∧ a ≤ 7) ∧ (0 ≤ b ∧ b ≤ 7)) ∧ r = some (.int (zI (-1)))) ∨ (((0 ≤ a ∧ a ≤ 7) ∧ (0 ≤ b ∧ b ≤ 7)) ∧ ∃ f, (∀ k, k < 400 → f (400 * a.toNat + k) = jVal S.1 S.2 (400 * a.toNat + k) ∧ f (400 * b.toNat + k) = jVal S.1 S.2 (400 * b.toNat + k)) ∧ r = some (.int (zI (jPr f (400 * a.toNat) (400 * b.toNat) 400 0)))))) := by
  obtain ⟨pv, ws, cy, η, ξ, μ, od, hj⟩ := id h
  obtain ⟨ρ, r0, _⟩ := id hj.1.1
  have b1 := jbs (0 ≤ a ∧ a ≤ 7)
  have b2 := jbs (0 ≤ b ∧ b ≤ 7)
  refine sj_con_of (L0 := [some (.ref x), some (.int (zI a)), some (.int (zI b)), none]) (by decide) rfl rfl rfl (Nat.le_of_ble_eq_true rfl) rfl (fun Γ => ?_)
  by_cases hg : (0 ≤ a ∧ a ≤ 7) ∧ (0 ≤ b ∧ b ≤ 7)
  · obtain ⟨aa, rfl⟩ := jNat (a := a) (by omega)
    obtain ⟨bb, rfl⟩ := jNat (a := b) (by omega)
    rw [Int.toNat_natCast, Int.toNat_natCast]
    refine sj_ild1 dX9_parting_0 ?_
    refine sj_callS (cx9_isStream ha) kc_X9_58 rfl rfl (Nat.le_of_ble_eq_true rfl) dX9_parting_1 (fun r_1 σ_1 I_1 hp_1 => ?_)
    obtain ⟨rfl, rfl, rfl⟩ := hp_1
    refine sj_if_eq 14 dX9_parting_4 (by decide) (by omega) (fun c_4 => ?_) (fun c_4 => ?_)
    · (exfalso; omega)
    refine sj_ild2 dX9_parting_7 ?_
    refine sj_callS (cx9_isStream hb) kc_X9_58 rfl rfl (Nat.le_of_ble_eq_true rfl) dX9_parting_8 (fun r_8 σ_8 I_8 hp_8 => ?_)
    obtain ⟨rfl, rfl, rfl⟩ := hp_8
    refine sj_if_ne 16 dX9_parting_11 (by decide) (by omega) (fun c_11 => ?_) (fun c_11 => ?_)
    rotate_left
    · (exfalso; omega)
    refine sj_ald0 dX9_parting_16 ?_
    refine sj_callV (cx9_valuesNow hj hR) kc_X9_145 (by assumption) rfl rfl rfl rfl (Nat.le_of_ble_eq_true rfl) dX9_parting_17 (fun r_17 σ_17 I_17 hp_17 => ?_)
    obtain ⟨v, w, rfl, hj1, hT1, hC1⟩ := hp_17
    obtain ⟨τ, hx1⟩ := hj1.vcx
    have v0 := hx1.1.1
    have hM := hx1.2.2.2.2.1
    refine sj_ast3 (by decide) rfl dX9_parting_20 ?_
    refine sj_ald3 dX9_parting_21 ?_
    refine sj_ild1 dX9_parting_22 ?_
    refine sj_callV (cx7_findAll hx1 (by omega)) kc_X9_176 (by assumption) rfl rfl rfl rfl (Nat.le_of_ble_eq_true rfl) dX9_parting_23 (fun r_23 σ_23 I_23 hp_23 => ?_)
    obtain ⟨rfl, rfl, n1, n2⟩ := hp_23
    refine sj_ald3 dX9_parting_26 ?_
    refine sj_ild2 dX9_parting_27 ?_
    refine sj_callV (cx7_findAll (hx1.next n1) (by omega)) kc_X9_176 (by assumption) rfl rfl rfl rfl (Nat.le_of_ble_eq_true rfl) dX9_parting_28 (fun r_28 σ_28 I_28 hp_28 => ?_)
    obtain ⟨rfl, rfl, n3, n4⟩ := hp_28
    have n5 := n1.tr n3
    obtain ⟨hj2, hT2, hC2⟩ := hj1.vn (hR.keep hC1) n5
    refine sj_ald3 dX9_parting_31 ?_
    refine sj_ild1 dX9_parting_32 ?_
    refine sj_ild2 dX9_parting_33 ?_
    refine sj_callV (cx7_firstParting hx1.1 (n5.2.1.vr hM) (by omega) (by omega)) kc_X9_179 (by assumption) rfl rfl rfl rfl (Nat.le_of_ble_eq_true rfl) dX9_parting_34 (fun r_34 σ_34 I_34 hp_34 => ?_)
    obtain ⟨rfl, rfl, rfl⟩ := hp_34
    exact sj_iret dX9_parting_37 rfl rfl (Nat.le_of_ble_eq_true rfl) (Nat.le_of_ble_eq_true rfl) ⟨hC1.tr hC2, ⟨_, _, _, _, _, _, _, hj2⟩, Or.inr ⟨hg, _, fun k hk => ⟨n5.2.1.val hM (by omega) (by rw [n3.2.2.1 _ (by omega) (n2 k hk)]; exact n2 k hk), n5.2.1.val hM (by omega) (n4 k hk)⟩, rfl⟩⟩
  · refine sj_ild1 dX9_parting_0 ?_
    refine sj_callS (cx9_isStream ha) kc_X9_58 rfl rfl (Nat.le_of_ble_eq_true rfl) dX9_parting_1 (fun r_1 σ_1 I_1 hp_1 => ?_)
    obtain ⟨rfl, rfl, rfl⟩ := hp_1
    refine sj_if_eq 14 dX9_parting_4 (by decide) (by omega) (fun c_4 => ?_) (fun c_4 => ?_)
    · refine sj_iconst dX9_parting_14 ?_
      exact sj_iret dX9_parting_15 rfl rfl (Nat.le_of_ble_eq_true rfl) (Nat.le_of_ble_eq_true rfl) ⟨rC.rf σ I x, h, Or.inl ⟨hg, rfl⟩⟩
    · refine sj_ild2 dX9_parting_7 ?_
      refine sj_callS (cx9_isStream hb) kc_X9_58 rfl rfl (Nat.le_of_ble_eq_true rfl) dX9_parting_8 (fun r_8 σ_8 I_8 hp_8 => ?_)
      obtain ⟨rfl, rfl, rfl⟩ := hp_8
      refine sj_if_ne 16 dX9_parting_11 (by decide) (by omega) (fun c_11 => ?_) (fun c_11 => ?_)
      · (exfalso; omega)
      refine sj_iconst dX9_parting_14 ?_
      exact sj_iret dX9_parting_15 rfl rfl (Nat.le_of_ble_eq_true rfl) (Nat.le_of_ble_eq_true rfl) ⟨rC.rf σ I x, h, Or.inl ⟨hg, rfl⟩⟩
end JUDGE8
