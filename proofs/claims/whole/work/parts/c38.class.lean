theorem lwAux2 {w q v x : Nat} (q1 : w ≤ q) (q2 : q ≤ w + 4) (a2 : w + 4 < x + 8 ∨ x + 8 + 5 < w) (a3 : v ≠ w) (a4 : v ≠ w + 1) (a5 : v ≠ w + 2) (a6 : v ≠ w + 3) (a7 : v ≠ w + 4) : q ≠ v ∧ q ≠ x + 13 := by omega
theorem jDf_congr {v w v' w' : Nat → Int} {s : Nat} (h : ∀ k, k < 400 → v (s + k) = v' (s + k) ∧ w (s + k) = w' (s + k)) : ∀ d i, i + d = 400 → jDf v w s d i = jDf v' w' s d i
  | 0, i, _ => rfl
  | d + 1, i, hd => by
    unfold jDf
    rw [(h i (by omega)).1, (h i (by omega)).2, jDf_congr h d (i + 1) (by omega)]
/-- an image's values are made -/
theorem cJ.fldI {σ σ' : sjS} {I I' : sjI} {x i s v w : Nat} {X : List Int} {S Si : aSt} {H : List aSt} {im : Nat → Option aSt} {pv ws cy : Option Nat} {η ξ μ μ' : Nat → Option Nat} {od : Nat} (h : cJ σ I x X S H im pv ws cy η ξ μ od) (hwf : ∀ a y, σ.2 a = some y → a < σ.1) (hcl : ∀ q, q < σ.1 → (q ≠ x → q ≠ x + 13 → σ'.2 q = σ.2 q) ∧ I' q = I q) (hx : xR σ' x pv (some w) cy) (h1 : ws = some w ∨ ws = none) (h13 : σ'.2 (x + 13) = some (15, 2, μ')) (hW : wSh σ' w) (hv : ξ i = some s) (hE : im i = some Si) (hμ : μ' i = some v) (hμ2 : ∀ j, j ≠ i → μ' j = μ j) (hi : i < 2) (hvn : vals σ' I' v s w Si) : cJ σ' I' x X S H im pv (some w) cy η ξ μ' od ∧ tS σ I σ' I' := by
  obtain ⟨⟨a1, a2, a3, a4, a5, a6, a7⟩, ⟨b1, b2⟩, c1, d1, e1, f1, g1⟩ := h
  have hx0 : ∃ y, σ.2 x = some (8, y) := by obtain ⟨ρ, q, _⟩ := a1; exact ⟨_, q⟩
  obtain ⟨y0, hx0⟩ := hx0
  have rb := a5.blk a6 a7
  have cl : ∀ (a n κ : Nat) (y : Nat × (Nat → Option Nat)), blk σ a n → σ.2 a = some (κ, y) → κ ≠ 8 → κ ≠ 3 → ∀ q, a ≤ q → q ≤ a + n → cq σ I σ' I' q := fun a n κ y hb hy k8 k3 q q1 q2 => by
    have o := hb.off a1.blk (ne_kind hy hx0 k8)
    have o2 := hb.off rb (ne_kind hy a5.1 k3)
    have := hcl q (hb.lt hwf q1 q2)
    exact ⟨this.1 (by omega) (by omega), this.2⟩
  have hT : tS σ I σ' I' := fun t T ht => ht.keep (fun q q1 q2 => cl t 3 _ _ ht.blk ht.1.1 (by decide) (by decide) q q1 q2)
  have hsys : ∀ s S', sys σ I s S' → sys σ' I' s S' := fun s S' hs => by
    obtain ⟨τ, q1, _⟩ := id hs
    have c := cl s 1 _ _ hs.blk q1.1 (by decide) (by decide)
    exact hs.keep hT (c s (by omega) (by omega)) (c (s + 1) (by omega) (by omega))
  have hval : ∀ v s w S', vals σ I v s w S' → vals σ' I' v s w S' := fun v s w S' hv => by
    have l0 := hcl _ (hwf _ _ hv.1.1)
    have l1 := hcl _ (hwf _ _ hv.1.2)
    exact hv.keep ⟨l0.1 (ne_kind hv.1.1 hx0 (by decide)) (ne_kind hv.1.1 a7 (by decide)), l0.2⟩ ⟨l1.1 (ne_kind hv.1.2 hx0 (by decide)) (ne_kind hv.1.2 a7 (by decide)), l1.2⟩
  have hww : ∀ w', ws = some w' → w' = w := fun w' e => by
    rcases h1 with z | z
    · rw [z] at e; cases e; rfl
    · rw [z] at e; cases e
  have clt := cl _ 2 _ _ a2.blk a2.1.1 (by decide) (by decide)
  have clh := cl _ 1 _ _ a4.blk a4.1 (by decide) (by decide)
  have clr : ∀ q, x + 8 ≤ q → q ≤ x + 8 + 4 → σ'.2 q = σ.2 q := fun q q1 q2 => (hcl q (rb.lt hwf q1 (by omega))).1 (by omega) (by omega)
  refine ⟨⟨⟨hx, a2.keep (clt _ (by omega) (by omega)) (clt _ (by omega) (by omega)) (clt _ (by omega) (by omega)).1, hsys _ _ a3, a4.keep (clh _ (by omega) (by omega)) (clh _ (by omega) (by omega)).1, a5.keep (fun q q1 q2 => clr q q1 (by omega)), by rw [clr (x + 12) (by omega) (by omega)]; exact a6, h13⟩, ⟨fun j s q1 q2 => ⟨(b1 j s q1 q2).1, (b1 j s q1 q2).2.imp (fun S' q => hsys s S' q)⟩, fun k S' q1 => (b2 k S' q1).imp (fun s q => ⟨q.1, hsys s S' q.2⟩)⟩, fun k hk => ?_, d1, e1.imp id (fun ⟨v, w', q1, q2, q3⟩ => ⟨v, w, q1, rfl, by rw [hww w' q2] at q3; exact hval v _ w S q3⟩), fun w' e => by cases e; exact hW, fun y hy => (g1 y hy).keep (fun q q1 q2 => (cl y 3 _ _ (g1 y hy).blk (g1 y hy).1 (by decide) (by decide) q q1 q2).1)⟩, hT⟩
  by_cases e : k = i
  · subst e
    rcases c1 k hk with q | ⟨s', Si', q1, q2, q3, q4, q5⟩
    · rw [q.1] at hv; cases hv
    · rw [hv] at q1; cases q1
      rw [hE] at q2; cases q2
      exact Or.inr ⟨s, Si, hv, hE, q3, hsys s Si q4, Or.inr ⟨v, w, hμ, rfl, hvn⟩⟩
  · rw [hμ2 k e]
    rcases c1 k hk with q | ⟨s', Si', q1, q2, q3, q4, q5⟩
    · exact Or.inl q
    · exact Or.inr ⟨s', Si', q1, q2, q3, hsys s' Si' q4, q5.imp id (fun ⟨v, w', r1, r2, r3⟩ => ⟨v, w, r1, rfl, by rw [hww w' r2] at r3; exact hval v s' w Si' r3⟩)⟩
theorem cJ.imx {σ : sjS} {I : sjI} {x i s v w : Nat} {X : List Int} {S Si : aSt} {H : List aSt} {im : Nat → Option aSt} {pv cy : Option Nat} {η ξ μ : Nat → Option Nat} {od : Nat} (h : cJ σ I x X S H im pv (some w) cy η ξ μ od) (hi : i < 2) (hv : ξ i = some s) (hE : im i = some Si) (hμ : μ i = some v) : (∃ τ, vCx σ I v s w Si.1 τ Si.2) ∧ s ≠ x + 4 ∧ vals σ I v s w Si := by
  rcases h.2.2.1 i hi with q | ⟨s', Si', q1, q2, q3, q4, q5⟩
  · rw [q.1] at hv; cases hv
  · rw [hv] at q1; cases q1
    rw [hE] at q2; cases q2
    rcases q5 with z | ⟨v', w', y1, y2, y3⟩
    · rw [z] at hμ; cases hμ
    · rw [y1] at hμ; cases hμ
      cases y2
      obtain ⟨τ, he, ht, hM⟩ := id q4
      exact ⟨⟨τ, y3.1, h.2.2.2.2.2.1 w rfl, he, ht, hM, y3.2.1⟩, q3, y3⟩
/-- an image's values were found -/
theorem cJ.ivn {σ : sjS} {I J : sjI} {x i s v w : Nat} {X : List Int} {S Si : aSt} {H : List aSt} {im : Nat → Option aSt} {pv cy : Option Nat} {η ξ μ : Nat → Option Nat} {od : Nat} (h : cJ σ I x X S H im pv (some w) cy η ξ μ od) (hR : rB σ x) (hi : i < 2) (hv : ξ i = some s) (hE : im i = some Si) (hμ : μ i = some v) (hn : vN Si.1 Si.2 v w I J) : cJ σ J x X S H im pv (some w) cy η ξ μ od ∧ tS σ I σ J ∧ rC σ I σ J x ∧ ∀ v2, pv = some v2 → J (vCl v2 w) = I (vCl v2 w) := by
  obtain ⟨_, hs4, hvv⟩ := h.imx hi hv hE hμ
  obtain ⟨n1, n2, n3, n4⟩ := hn
  obtain ⟨⟨a1, a2, a3, a4, a5, a6, a7⟩, ⟨b1, b2⟩, c1, d1, e1, f1, g1⟩ := h
  have hW := f1 w rfl
  have hκ := hvv.1.1
  have hω := hW.1
  have cl : ∀ (a n κ : Nat) (y : Nat × (Nat → Option Nat)), blk σ a n → σ.2 a = some (κ, y) → κ ≠ 6 → κ ≠ 7 → ∀ q, a ≤ q → q ≤ a + n → cq σ I σ J q := fun a n κ y ha hy k6 k7 q q1 q2 => ⟨rfl, by
    have hnw := ne_kind hy hω k7
    have o1 := vRo hvv.1 hW ha (Ne.symm (ne_kind hy hκ k6)) (Or.inl (Ne.symm hnw))
    have o2 := ha.off hW.blk hnw
    exact n1 q (by omega) (by omega) (by omega) (by omega) (by omega)⟩
  have hT : tS σ I σ J := fun t T ht => ht.keep (fun q q1 q2 => cl t 3 _ _ ht.blk ht.1.1 (by decide) (by decide) q q1 q2)
  have hsys : ∀ s S', sys σ I s S' → sys σ J s S' := fun s S' hs => by
    obtain ⟨τ, q1, _⟩ := id hs
    have c := cl s 1 _ _ hs.blk q1.1 (by decide) (by decide)
    exact hs.keep hT (c s (by omega) (by omega)) (c (s + 1) (by omega) (by omega))
  have hvl : ∀ v2 b S', b ≠ s → vals σ I v2 b w S' → J v2 = I v2 ∧ J (vCl v2 w) = I (vCl v2 w) := fun v2 b S' hne hv2 => by
    have t := hv2.two hvv hW (hv2.ref hvv hne)
    have c6 := hv2.1.off hW
    exact ⟨n1 v2 (by omega) (by omega) (by omega) t.2.1 t.1, n1 _ (by omega) (by omega) (by omega) t.2.2.2 t.2.2.1⟩
  have hval : ∀ v2 b S', b ≠ s → vals σ I v2 b w S' → vals σ J v2 b w S' := fun v2 b S' hne hv2 => hv2.keep ⟨rfl, (hvl v2 b S' hne hv2).1⟩ ⟨rfl, (hvl v2 b S' hne hv2).2⟩
  have clt := cl _ 2 _ _ a2.blk a2.1.1 (by decide) (by decide)
  refine ⟨⟨⟨a1, a2.keep (clt _ (by omega) (by omega)) (clt _ (by omega) (by omega)) rfl, hsys _ _ a3, a4.keep (cl _ 1 _ _ a4.blk a4.1 (by decide) (by decide) _ (by omega) (by omega)) rfl, a5, a6, a7⟩, ⟨fun j s q1 q2 => ⟨(b1 j s q1 q2).1, (b1 j s q1 q2).2.imp (fun S' q => hsys s S' q)⟩, fun k S' q1 => (b2 k S' q1).imp (fun s q => ⟨q.1, hsys s S' q.2⟩)⟩, fun k hk => ?_, d1, e1.imp id (fun ⟨v2, w2, q1, q2, q3⟩ => ⟨v2, w2, q1, q2, by cases q2; exact hval v2 _ S (Ne.symm hs4) q3⟩), f1, g1⟩, hT, ?_, fun v2 e => ?_⟩
  · rcases c1 k hk with q | ⟨s', Si', q1, q2, q3, q4, q5⟩
    · exact Or.inl q
    · refine Or.inr ⟨s', Si', q1, q2, q3, hsys s' Si' q4, q5.imp id (fun ⟨v2, w2, r1, r2, r3⟩ => ⟨v2, w2, r1, r2, ?_⟩)⟩
      cases r2
      by_cases e : k = i
      · subst e
        rw [hv] at q1; cases q1
        rw [hE] at q2; cases q2
        rw [hμ] at r1; cases r1
        refine ⟨hvv.1, n2, ?_⟩
        rcases n4 with e | ⟨e, e'⟩
        · exact Or.inl e
        · rw [e, e']; exact hvv.2.2
      · refine hval v2 s' Si' (fun e2 => ?_) r3
        rw [e2] at q1
        rcases (show (k = 0 ∧ i = 1) ∨ (k = 1 ∧ i = 0) by omega) with ⟨rfl, rfl⟩ | ⟨rfl, rfl⟩
        · exact d1.2.2 s q1 hv
        · exact d1.2.2 s hv q1
  · obtain ⟨y, hy⟩ := hR.2
    exact fun q q1 q2 => cl _ 21 _ _ hR.1 hy (by decide) (by decide) q q1 q2
  · rcases e1 with z | ⟨v3, w3, q1, q2, q3⟩
    · rw [z] at e; cases e
    · rw [q1] at e; cases e; cases q2
      exact (hvl v2 _ S (Ne.symm hs4) q3).2
section JUDGE16
variable {l : Launch} {G : sjG} {σ : sjS} {I : sjI}
theorem cx9_changed {x : Nat} {a i : Int} {X : List Int} {S : aSt} {H : List aSt} {im : Nat → Option aSt} (h : cI σ I x X S H im) (hR : rB σ x) (ha : -2147483648 ≤ a ∧ a < 2147483648) (hi : -2147483648 ≤ i ∧ i < 2147483648) : sj_Con l yX9_changed mX9_changed G σ I [.ref x, .int (zI a), .int (zI i)] (fun r σ' I' => rC σ I σ' I' x ∧ cI σ' I' x X S H im ∧ ((¬ ((0 ≤ a ∧ a ≤ 7) ∧ (0 ≤ i ∧ i ≤ 1)) ∧ r = some (.int (zI (-1)))) ∨ (((0 ≤ a ∧ a ≤ 7) ∧ (0 ≤ i ∧ i ≤ 1)) ∧ im i.toNat = none ∧ r = some (.int (zI (-2)))) ∨ ∃ Si, ((0 ≤ a ∧ a ≤ 7) ∧ (0 ≤ i ∧ i ≤ 1)) ∧ im i.toNat = some Si ∧ r = some (.int (zI (jDf (jVal S.1 S.2) (jVal Si.1 Si.2) (400 * a.toNat) 400 0))))) := by
  obtain ⟨pv, ws, cy, η, ξ, μ, od, hj⟩ := id h
  obtain ⟨ρ, r0, ⟨_, r1, _, _, r4, r5⟩, r6, r7, r8⟩ := id hj.1.1
  have a6 := hj.1.2.2.2.2.2.1
  have a7 := hj.1.2.2.2.2.2.2
  have b1 := jbs (0 ≤ a ∧ a ≤ 7)
  have b2 := jbs (0 ≤ i ∧ i ≤ 1)
  refine sj_con_of (L0 := [some (.ref x), some (.int (zI a)), some (.int (zI i)), none, none, none]) (by decide) rfl rfl rfl (Nat.le_of_ble_eq_true rfl) rfl (fun Γ => ?_)
  refine sj_wfV (fun hwf => ?_)
  have lx := hwf _ _ r0
  by_cases hg : (0 ≤ a ∧ a ≤ 7) ∧ (0 ≤ i ∧ i ≤ 1)
  · obtain ⟨aa, rfl⟩ := jNat (a := a) (by omega)
    obtain ⟨ii, rfl⟩ := jNat (a := i) (by omega)
    rw [Int.toNat_natCast, Int.toNat_natCast]
    rcases hj.2.2.1 ii (by omega) with ⟨hv, hμ, hE⟩ | ⟨s, Si, hv, hE, hs4, hs, hvs⟩
    · refine sj_ild1 dX9_changed_0 ?_
      refine sj_callS (cx9_isStream ha) kc_X9_58 rfl rfl (Nat.le_of_ble_eq_true rfl) dX9_changed_1 (fun r_1 σ_1 I_1 hp_1 => ?_)
      obtain ⟨rfl, rfl, rfl⟩ := hp_1
      refine sj_if_eq 14 dX9_changed_4 (by decide) (by omega) (fun c_4 => ?_) (fun c_4 => ?_)
      · (exfalso; omega)
      refine sj_ild2 dX9_changed_7 ?_
      refine sj_callS (cx9_isImage hi) kc_X9_203 rfl rfl (Nat.le_of_ble_eq_true rfl) dX9_changed_8 (fun r_8 σ_8 I_8 hp_8 => ?_)
      obtain ⟨rfl, rfl, rfl⟩ := hp_8
      refine sj_if_ne 16 dX9_changed_11 (by decide) (by omega) (fun c_11 => ?_) (fun c_11 => ?_)
      rotate_left
      · (exfalso; omega)
      refine sj_ald0 dX9_changed_16 ?_
      refine sj_getR fl_X9_37 (by assumption) rfl r4 dX9_changed_17 ?_
      refine sj_ild2 dX9_changed_20 ?_
      refine sj_aaldN rfl (by assumption) (by omega) (by decide) hv dX9_changed_21 ?_
      refine sj_astN3 (by decide) rfl dX9_changed_22 ?_
      refine sj_aldN3 dX9_changed_23 ?_
      refine sj_ifnonnullN dX9_changed_24 ?_
      refine sj_bipush dX9_changed_27 (by decide) ?_
      exact sj_iret dX9_changed_29 rfl rfl (Nat.le_of_ble_eq_true rfl) (Nat.le_of_ble_eq_true rfl) ⟨rC.rf σ I x, h, Or.inr (Or.inl ⟨hg, hE, rfl⟩)⟩
    · obtain ⟨τs, q2, qt, qM⟩ := id hs
      rcases hvs with hμ | ⟨v2, w0, hμ, hws, hvv⟩
      · have hcl1 : ∀ q, q < σ.1 → (sj_nw σ (6, 0, fun _ => none)).2 q = σ.2 q ∧ sj_ur I σ.1 (fun _ => 0) q = I q := fun q hq => ⟨sj_nw_ne (by omega), sj_ur_ne (by omega)⟩
        obtain ⟨hj1, hT1⟩ := hj.grow hwf (fun q hq => ⟨(hcl1 q hq).1, fun _ => (hcl1 q hq).2⟩)
        have hC1 : rC σ I (sj_nw σ (6, 0, fun _ => none)) (sj_ur I σ.1 (fun _ => 0)) x := rC.of hR hwf (fun q hq => ⟨fun _ => (hcl1 q hq).1, (hcl1 q hq).2⟩)
        have rx1 : (sj_nw σ (6, 0, fun _ => none)).2 x = some (8, 0, ρ) := by rw [(hcl1 x lx).1]; exact r0
        refine sj_ild1 dX9_changed_0 ?_
        refine sj_callS (cx9_isStream ha) kc_X9_58 rfl rfl (Nat.le_of_ble_eq_true rfl) dX9_changed_1 (fun r_1 σ_1 I_1 hp_1 => ?_)
        obtain ⟨rfl, rfl, rfl⟩ := hp_1
        refine sj_if_eq 14 dX9_changed_4 (by decide) (by omega) (fun c_4 => ?_) (fun c_4 => ?_)
        · (exfalso; omega)
        refine sj_ild2 dX9_changed_7 ?_
        refine sj_callS (cx9_isImage hi) kc_X9_203 rfl rfl (Nat.le_of_ble_eq_true rfl) dX9_changed_8 (fun r_8 σ_8 I_8 hp_8 => ?_)
        obtain ⟨rfl, rfl, rfl⟩ := hp_8
        refine sj_if_ne 16 dX9_changed_11 (by decide) (by omega) (fun c_11 => ?_) (fun c_11 => ?_)
        rotate_left
        · (exfalso; omega)
        refine sj_ald0 dX9_changed_16 ?_
        refine sj_getR fl_X9_37 (by assumption) rfl r4 dX9_changed_17 ?_
        refine sj_ild2 dX9_changed_20 ?_
        refine sj_aald rfl (by assumption) (by omega) (by decide) hv dX9_changed_21 ?_
        refine sj_ast3 (by decide) rfl dX9_changed_22 ?_
        refine sj_ald3 dX9_changed_23 ?_
        refine sj_ifnonnull 30 dX9_changed_24 (by decide) ?_
        refine sj_ald0 dX9_changed_30 ?_
        refine sj_getR fl_X9_43 (by assumption) rfl r5 dX9_changed_31 ?_
        refine sj_ild2 dX9_changed_34 ?_
        refine sj_aaldN rfl (by assumption) (by omega) (by decide) hμ dX9_changed_35 ?_
        refine sj_astN4 (by decide) rfl dX9_changed_36 ?_
        refine sj_aldN4 dX9_changed_38 ?_
        refine sj_ifnonnullN dX9_changed_40 ?_
        refine sj_new (κ := 6) rfl kl_X9_41 wi_6 wz_6 dX9_changed_43 (Nat.le_of_ble_eq_true rfl) (Nat.le_of_ble_eq_true rfl) ?_
        refine sj_dup dX9_changed_46 rfl ?_
        refine sj_ald3 dX9_changed_47 ?_
        refine sj_ald0 dX9_changed_48 ?_
        refine sj_callV (cx9_sharedWorkspace hj1 (hR.keep hC1)) kc_X9_191 (by assumption) rfl rfl rfl rfl (Nat.le_of_ble_eq_true rfl) dX9_changed_49 (fun r_49 σ_49 I_49 hp_49 => ?_)
        obtain ⟨w, rfl, hj2, hc⟩ := hp_49
        have hW := hj2.2.2.2.2.2.1 w rfl
        have hcl2 : ∀ q, q < σ.1 + 1 → (q ≠ x → σ_49.2 q = (sj_nw σ (6, 0, fun _ => none)).2 q) ∧ I_49 q = sj_ur I σ.1 (fun _ => 0) q := fun q hq => by
          rcases hc with ⟨_, rfl, rfl⟩ | ⟨_, _, _, k⟩
          · exact ⟨fun _ => rfl, rfl⟩
          · exact k q hq
        have hlen : σ_49.1 = vCl σ.1 w := by
          rcases hc with ⟨e1, rfl, rfl⟩ | ⟨_, e2, e3, _⟩
          · have lw := hwf _ _ (hj.2.2.2.2.2.1 w e1).1
            have := vCl_cs σ.1 w
            show σ.1 + 1 = vCl σ.1 w
            omega
          · have e2' : w = σ.1 + 1 := e2
            have e3' : σ_49.1 = σ.1 + 1 + 5 := e3
            rcases vCl_cs σ.1 w with ⟨c1, c2⟩ | ⟨c1, c2⟩
            · exact e3'.trans c2.symm
            · exact absurd e2' c1
        have hv0 : σ_49.2 σ.1 = some (6, 0, fun _ => none) := by rw [(hcl2 σ.1 (by omega)).1 (by omega)]; exact sj_nw_self _ _
        have hv3 : I_49 σ.1 = fun _ => 0 := by rw [(hcl2 σ.1 (by omega)).2]; exact sj_ur_self _ _ _
        obtain ⟨ρ2, q20, q21, q26, q27, q28⟩ := id hj2.1.1
        have ls := hwf _ _ q2.1
        have nsx : s ≠ x := ne_kind q2.1 r0 (by decide)
        have he2 := (show σ_49.2 s = σ.2 s by rw [(hcl2 s (by omega)).1 nsx, (hcl1 s ls).1]).trans q2.1
        refine sj_wfV (fun hwf2 => ?_)
        have lx2 := hwf2 _ _ q20
        refine sj_callI (cx7_init (v := σ.1) (e := s) (w := w) hv0 hlen (by rw [hv3]) he2 hW.1) kc_X9_212 rfl rfl (Nat.le_of_ble_eq_true rfl) dX9_changed_52 (fun r_52 σ_52 I_52 hp_52 => ?_)
        obtain ⟨rfl, x1, x2, x3, x4, x5⟩ := hp_52
        have hcs := vCl_cs σ.1 w
        have rx3 : σ_52.2 x = some (8, 0, ρ2) := by rw [x2 x (by omega) (by omega)]; exact q20
        have l13 := hwf _ _ a7
        have a73 : σ_52.2 (x + 13) = some (15, 2, μ) := by rw [x2 (x + 13) (by omega) (by omega), (hcl2 (x + 13) (by omega)).1 (by omega), (hcl1 (x + 13) l13).1]; exact a7
        have v0a := x4.1
        refine sj_ast4 (by decide) rfl dX9_changed_55 ?_
        refine sj_ald0 dX9_changed_57 ?_
        refine sj_getR fl_X9_43 (by assumption) rfl q21.2.2.2.2.2 dX9_changed_58 ?_
        refine sj_ild2 dX9_changed_61 ?_
        refine sj_ald4 dX9_changed_62 ?_
        refine sj_aast rfl (by assumption) (by assumption) (by omega) (by decide) dX9_changed_64 ?_
        obtain ⟨σA, eσ⟩ : ∃ s2, s2 = sj_us σ_52 (x + 13) (15, 2, sj_ru μ ii (some σ.1)) := ⟨_, rfl⟩
        rw [show (ii : Int).toNat = ii from rfl, ← eσ]
        have lw : ∀ q, w ≤ q → q ≤ w + 4 → q < vCl σ.1 w ∧ q ≠ σ.1 ∧ q ≠ x + 13 := fun q q1 q2 => by
          have c1 := hW.blk.lt hwf2 q1 q2
          have c2 := hW.blk.off (hj2.1.2.2.2.2.1.blk hj2.1.2.2.2.2.2.1 hj2.1.2.2.2.2.2.2) (ne_kind hW.1 hj2.1.2.2.2.2.1.1 (by decide))
          have c3 := ne_kind hv0 hW.1 (by decide)
          have c4 := ne_kind hv0 hW.2.1 (by decide)
          have c5 := ne_kind hv0 hW.2.2.1 (by decide)
          have c6 := ne_kind hv0 hW.2.2.2.1 (by decide)
          have c7 := ne_kind hv0 hW.2.2.2.2 (by decide)
          exact ⟨by rw [← hlen]; exact c1, lwAux2 q1 q2 c2 c3 c4 c5 c6 c7⟩
        have hS4 : vSh σA σ.1 s w := ⟨by rw [eσ, sj_us_ne (by omega)]; exact x4.1, by rw [eσ, sj_us_ne (by omega)]; exact x4.2⟩
        have hWA : wSh σA w := hW.keep (fun q q1 q2 => by obtain ⟨z1, z2, z3⟩ := lw q q1 q2; rw [eσ, sj_us_ne z3, x2 q z1 z2])
        have hclA : ∀ q, q < σ.1 → (q ≠ x → q ≠ x + 13 → σA.2 q = σ.2 q) ∧ I_52 q = I q := fun q hq => ⟨fun hq2 hq3 => by rw [eσ, sj_us_ne hq3, x2 q (by omega) (by omega), (hcl2 q (by omega)).1 hq2]; exact (hcl1 q hq).1, by rw [x3 q (by omega), (hcl2 q (by omega)).2]; exact (hcl1 q hq).2⟩
        have hxA : xR σA x pv (some w) cy := ⟨ρ2, by rw [eσ, sj_us_ne (by omega)]; exact rx3, q21, q26, q27, q28⟩
        have hμA : sj_ru μ ii (some σ.1) ii = some σ.1 := sj_ru_self _ _ _
        obtain ⟨hjA, hTA⟩ := hj.fldI (σ' := σA) (I' := I_52) (i := ii) (s := s) (v := σ.1) (w := w) (Si := Si) (μ' := sj_ru μ ii (some σ.1)) hwf hclA hxA (by rcases hc with ⟨e1, _⟩ | ⟨e1, _⟩; exact Or.inl e1; exact Or.inr e1) (by rw [eσ, sj_us_self]) hWA hv hE hμA (fun j hj => sj_ru_ne hj) (by omega) ⟨hS4, cO_zero (fun j _ => x5 j), Or.inr ⟨by rw [x3 σ.1 (by omega), hv3], fun j _ => x5 j⟩⟩
        have hCA : rC σ I σA I_52 x := fun q q1 q2 => by
          have c := hclA q (hR.1.lt hwf q1 q2)
          exact ⟨c.1 (by omega) (by omega), c.2⟩
        have r0A := hxA
        obtain ⟨ρA, rA0, _⟩ := r0A
        refine sj_ald0 dX9_changed_65 ?_
        refine sj_callV (cx9_valuesNow hjA (hR.keep hCA)) kc_X9_145 (by assumption) rfl rfl rfl rfl (Nat.le_of_ble_eq_true rfl) dX9_changed_66 (fun r_66 σ_66 I_66 hp_66 => ?_)
        obtain ⟨v, w', rfl, hjB, hTB, hCB⟩ := hp_66
        obtain ⟨τB, hxB⟩ := hjB.vcx
        have v0 := hxB.1.1
        have hM := hxB.2.2.2.2.1
        have hRB := (hR.keep hCA).keep hCB
        refine sj_ast5 (by decide) rfl dX9_changed_69 ?_
        refine sj_ald5 dX9_changed_71 ?_
        refine sj_ild1 dX9_changed_73 ?_
        refine sj_callV (cx7_findAll hxB (by omega)) kc_X9_176 (by assumption) rfl rfl rfl rfl (Nat.le_of_ble_eq_true rfl) dX9_changed_74 (fun r_74 σ_74 I_74 hp_74 => ?_)
        obtain ⟨rfl, rfl, n1, n2⟩ := hp_74
        obtain ⟨hjC, hTC, hCC⟩ := hjB.vn hRB n1
        obtain ⟨⟨τi, hxi⟩, hs4', hvi⟩ := hjC.imx (i := ii) (by omega) hv hE hμA
        have vi0 := hxi.1.1
        have hMi := hxi.2.2.2.2.1
        refine sj_ald4 dX9_changed_77 ?_
        refine sj_ild1 dX9_changed_79 ?_
        refine sj_callV (cx7_findAll hxi (by omega)) kc_X9_176 (by assumption) rfl rfl rfl rfl (Nat.le_of_ble_eq_true rfl) dX9_changed_80 (fun r_80 σ_80 I_80 hp_80 => ?_)
        obtain ⟨rfl, rfl, m1, m2⟩ := hp_80
        obtain ⟨hjD, hTD, hCD, hrow⟩ := hjC.ivn (hRB.keep hCC) (i := ii) (by omega) hv hE hμA m1
        have hrw := hrow v rfl
        refine sj_ald5 dX9_changed_83 ?_
        refine sj_ald4 dX9_changed_85 ?_
        refine sj_ild1 dX9_changed_87 ?_
        refine sj_callV (cx7_firstDifference hxB.1 hxi.1 (by rw [hrw]; exact n1.2.1.vr hM) (m1.2.1.vr hMi) (by omega)) kc_X9_215 (by assumption) rfl rfl rfl rfl (Nat.le_of_ble_eq_true rfl) dX9_changed_88 (fun r_88 σ_88 I_88 hp_88 => ?_)
        obtain ⟨rfl, rfl, rfl⟩ := hp_88
        rw [jDf_congr (v' := jVal S.1 S.2) (w' := jVal Si.1 Si.2) (fun k hk => ⟨by rw [hrw]; exact n1.2.1.val hM (by omega) (n2 k hk), m1.2.1.val hMi (by omega) (m2 k hk)⟩) 400 0 (by omega)]
        exact sj_iret dX9_changed_91 rfl rfl (Nat.le_of_ble_eq_true rfl) (Nat.le_of_ble_eq_true rfl) ⟨((hCA.tr hCB).tr hCC).tr hCD, ⟨_, _, _, _, _, _, _, hjD⟩, Or.inr (Or.inr ⟨Si, hg, hE, rfl⟩)⟩
      · subst hws
        have hjA := hj
        have hμA := hμ
        have hCA : rC σ I σ I x := rC.rf σ I x
        refine sj_ild1 dX9_changed_0 ?_
        refine sj_callS (cx9_isStream ha) kc_X9_58 rfl rfl (Nat.le_of_ble_eq_true rfl) dX9_changed_1 (fun r_1 σ_1 I_1 hp_1 => ?_)
        obtain ⟨rfl, rfl, rfl⟩ := hp_1
        refine sj_if_eq 14 dX9_changed_4 (by decide) (by omega) (fun c_4 => ?_) (fun c_4 => ?_)
        · (exfalso; omega)
        refine sj_ild2 dX9_changed_7 ?_
        refine sj_callS (cx9_isImage hi) kc_X9_203 rfl rfl (Nat.le_of_ble_eq_true rfl) dX9_changed_8 (fun r_8 σ_8 I_8 hp_8 => ?_)
        obtain ⟨rfl, rfl, rfl⟩ := hp_8
        refine sj_if_ne 16 dX9_changed_11 (by decide) (by omega) (fun c_11 => ?_) (fun c_11 => ?_)
        rotate_left
        · (exfalso; omega)
        refine sj_ald0 dX9_changed_16 ?_
        refine sj_getR fl_X9_37 (by assumption) rfl r4 dX9_changed_17 ?_
        refine sj_ild2 dX9_changed_20 ?_
        refine sj_aald rfl (by assumption) (by omega) (by decide) hv dX9_changed_21 ?_
        refine sj_ast3 (by decide) rfl dX9_changed_22 ?_
        refine sj_ald3 dX9_changed_23 ?_
        refine sj_ifnonnull 30 dX9_changed_24 (by decide) ?_
        refine sj_ald0 dX9_changed_30 ?_
        refine sj_getR fl_X9_43 (by assumption) rfl r5 dX9_changed_31 ?_
        refine sj_ild2 dX9_changed_34 ?_
        refine sj_aald rfl (by assumption) (by omega) (by decide) hμ dX9_changed_35 ?_
        refine sj_ast4 (by decide) rfl dX9_changed_36 ?_
        refine sj_ald4 dX9_changed_38 ?_
        refine sj_ifnonnull 65 dX9_changed_40 (by decide) ?_
        refine sj_ald0 dX9_changed_65 ?_
        refine sj_callV (cx9_valuesNow hjA (hR.keep hCA)) kc_X9_145 (by assumption) rfl rfl rfl rfl (Nat.le_of_ble_eq_true rfl) dX9_changed_66 (fun r_66 σ_66 I_66 hp_66 => ?_)
        obtain ⟨v, w', rfl, hjB, hTB, hCB⟩ := hp_66
        obtain ⟨τB, hxB⟩ := hjB.vcx
        have v0 := hxB.1.1
        have hM := hxB.2.2.2.2.1
        have hRB := (hR.keep hCA).keep hCB
        refine sj_ast5 (by decide) rfl dX9_changed_69 ?_
        refine sj_ald5 dX9_changed_71 ?_
        refine sj_ild1 dX9_changed_73 ?_
        refine sj_callV (cx7_findAll hxB (by omega)) kc_X9_176 (by assumption) rfl rfl rfl rfl (Nat.le_of_ble_eq_true rfl) dX9_changed_74 (fun r_74 σ_74 I_74 hp_74 => ?_)
        obtain ⟨rfl, rfl, n1, n2⟩ := hp_74
        obtain ⟨hjC, hTC, hCC⟩ := hjB.vn hRB n1
        obtain ⟨⟨τi, hxi⟩, hs4', hvi⟩ := hjC.imx (i := ii) (by omega) hv hE hμA
        have vi0 := hxi.1.1
        have hMi := hxi.2.2.2.2.1
        refine sj_ald4 dX9_changed_77 ?_
        refine sj_ild1 dX9_changed_79 ?_
        refine sj_callV (cx7_findAll hxi (by omega)) kc_X9_176 (by assumption) rfl rfl rfl rfl (Nat.le_of_ble_eq_true rfl) dX9_changed_80 (fun r_80 σ_80 I_80 hp_80 => ?_)
        obtain ⟨rfl, rfl, m1, m2⟩ := hp_80
        obtain ⟨hjD, hTD, hCD, hrow⟩ := hjC.ivn (hRB.keep hCC) (i := ii) (by omega) hv hE hμA m1
        have hrw := hrow v rfl
        refine sj_ald5 dX9_changed_83 ?_
        refine sj_ald4 dX9_changed_85 ?_
        refine sj_ild1 dX9_changed_87 ?_
        refine sj_callV (cx7_firstDifference hxB.1 hxi.1 (by rw [hrw]; exact n1.2.1.vr hM) (m1.2.1.vr hMi) (by omega)) kc_X9_215 (by assumption) rfl rfl rfl rfl (Nat.le_of_ble_eq_true rfl) dX9_changed_88 (fun r_88 σ_88 I_88 hp_88 => ?_)
        obtain ⟨rfl, rfl, rfl⟩ := hp_88
        rw [jDf_congr (v' := jVal S.1 S.2) (w' := jVal Si.1 Si.2) (fun k hk => ⟨by rw [hrw]; exact n1.2.1.val hM (by omega) (n2 k hk), m1.2.1.val hMi (by omega) (m2 k hk)⟩) 400 0 (by omega)]
        exact sj_iret dX9_changed_91 rfl rfl (Nat.le_of_ble_eq_true rfl) (Nat.le_of_ble_eq_true rfl) ⟨((hCA.tr hCB).tr hCC).tr hCD, ⟨_, _, _, _, _, _, _, hjD⟩, Or.inr (Or.inr ⟨Si, hg, hE, rfl⟩)⟩
  · refine sj_ild1 dX9_changed_0 ?_
    refine sj_callS (cx9_isStream ha) kc_X9_58 rfl rfl (Nat.le_of_ble_eq_true rfl) dX9_changed_1 (fun r_1 σ_1 I_1 hp_1 => ?_)
    obtain ⟨rfl, rfl, rfl⟩ := hp_1
    refine sj_if_eq 14 dX9_changed_4 (by decide) (by omega) (fun c_4 => ?_) (fun c_4 => ?_)
    · refine sj_iconst dX9_changed_14 ?_
      exact sj_iret dX9_changed_15 rfl rfl (Nat.le_of_ble_eq_true rfl) (Nat.le_of_ble_eq_true rfl) ⟨rC.rf σ I x, h, Or.inl ⟨hg, rfl⟩⟩
    · refine sj_ild2 dX9_changed_7 ?_
      refine sj_callS (cx9_isImage hi) kc_X9_203 rfl rfl (Nat.le_of_ble_eq_true rfl) dX9_changed_8 (fun r_8 σ_8 I_8 hp_8 => ?_)
      obtain ⟨rfl, rfl, rfl⟩ := hp_8
      refine sj_if_ne 16 dX9_changed_11 (by decide) (by omega) (fun c_11 => ?_) (fun c_11 => ?_)
      · (exfalso; omega)
      refine sj_iconst dX9_changed_14 ?_
      exact sj_iret dX9_changed_15 rfl rfl (Nat.le_of_ble_eq_true rfl) (Nat.le_of_ble_eq_true rfl) ⟨rC.rf σ I x, h, Or.inl ⟨hg, rfl⟩⟩
end JUDGE16
