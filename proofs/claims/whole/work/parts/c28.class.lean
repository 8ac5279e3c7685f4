/-- the object's own references change, and new things are there -/
theorem cJ.fld {σ σ' : sjS} {I I' : sjI} {x : Nat} {X : List Int} {S : aSt} {H : List aSt} {im : Nat → Option aSt} {pv ws cy pv' ws' cy' : Option Nat} {η ξ μ : Nat → Option Nat} {od : Nat} (h : cJ σ I x X S H im pv ws cy η ξ μ od) (hwf : ∀ a y, σ.2 a = some y → a < σ.1) (hcl : ∀ q, q < σ.1 → (q ≠ x → σ'.2 q = σ.2 q) ∧ I' q = I q) (hx : xR σ' x pv' ws' cy') (h1 : ws' = ws ∨ ws = none) (pvN : (∀ v s w S', wSh σ w → vals σ I v s w S' → vals σ' I' v s w S') → (pv' = none ∨ ∃ v w, pv' = some v ∧ ws' = some w ∧ vals σ' I' v (x + 4) w S)) (wsN : (∀ w, wSh σ w → wSh σ' w) → ∀ w, ws' = some w → wSh σ' w) (cyN : (∀ y, ySh σ y → ySh σ' y) → ∀ y, cy' = some y → ySh σ' y) : cJ σ' I' x X S H im pv' ws' cy' η ξ μ od ∧ tS σ I σ' I' := by
  obtain ⟨⟨a1, a2, a3, a4, a5, a6, a7⟩, ⟨b1, b2⟩, c1, d1, e1, f1, g1⟩ := h
  have hx0 : ∃ y, σ.2 x = some (8, y) := by obtain ⟨ρ, q, _⟩ := a1; exact ⟨_, q⟩
  obtain ⟨y0, hx0⟩ := hx0
  have cl : ∀ a n, blk σ a n → a ≠ x → ∀ q, a ≤ q → q ≤ a + n → cq σ I σ' I' q := fun a n hb hne q q1 q2 => by
    have o := hb.off a1.blk hne
    have := hcl q (hb.lt hwf q1 q2)
    exact ⟨this.1 (by omega), this.2⟩
  have hT : tS σ I σ' I' := fun t T ht => ht.keep (fun q q1 q2 => cl t 3 ht.blk (ne_kind ht.1.1 hx0 (by decide)) q q1 q2)
  have hsys : ∀ s S', sys σ I s S' → sys σ' I' s S' := fun s S' hs => by
    have hne : s ≠ x := by obtain ⟨τ, q1, _⟩ := hs; exact ne_kind q1.1 hx0 (by decide)
    exact hs.keep hT (cl s 1 hs.blk hne s (by omega) (by omega)) (cl s 1 hs.blk hne (s + 1) (by omega) (by omega))
  have hval : ∀ v s w S', wSh σ w → vals σ I v s w S' → vals σ' I' v s w S' := fun v s w S' hW hv => by
    have l0 := hcl _ (hwf _ _ hv.1.1)
    have l1 := hcl _ (hwf _ _ hv.1.2)
    exact hv.keep ⟨l0.1 (ne_kind hv.1.1 hx0 (by decide)), l0.2⟩ ⟨l1.1 (ne_kind hv.1.2 hx0 (by decide)), l1.2⟩
  have hws : ∀ w, wSh σ w → wSh σ' w := fun w hw => hw.keep (fun q q1 q2 => (cl w 4 hw.blk (ne_kind hw.1 hx0 (by decide)) q q1 q2).1)
  have hys : ∀ y, ySh σ y → ySh σ' y := fun y hy => hy.keep (fun q q1 q2 => (cl y 3 hy.blk (ne_kind hy.1 hx0 (by decide)) q q1 q2).1)
  have clt := cl _ 2 a2.blk (ne_kind a2.1.1 hx0 (by decide))
  have clr := cl _ 5 (a5.blk a6 a7) (ne_kind a5.1 hx0 (by decide))
  refine ⟨⟨⟨hx, a2.keep (clt _ (by omega) (by omega)) (clt _ (by omega) (by omega)) (clt _ (by omega) (by omega)).1, hsys _ _ a3, a4.keep (cl _ 1 a4.blk (ne_kind a4.1 hx0 (by decide)) _ (by omega) (by omega)) (cl _ 1 a4.blk (ne_kind a4.1 hx0 (by decide)) _ (by omega) (by omega)).1, a5.keep (fun q q1 q2 => (clr q q1 (by omega)).1), by rw [(clr (x + 12) (by omega) (by omega)).1]; exact a6, by rw [(clr (x + 13) (by omega) (by omega)).1]; exact a7⟩, ⟨fun j s q1 q2 => ⟨(b1 j s q1 q2).1, (b1 j s q1 q2).2.imp (fun S' q => hsys s S' q)⟩, fun k S' q1 => (b2 k S' q1).imp (fun s q => ⟨q.1, hsys s S' q.2⟩)⟩, fun i hi => ?_, d1, pvN hval, wsN hws, cyN hys⟩, hT⟩
  rcases c1 i hi with q | ⟨s, Si, q1, q2, q3, q4, q5⟩
  · exact Or.inl q
  · refine Or.inr ⟨s, Si, q1, q2, q3, hsys s Si q4, q5.imp id (fun ⟨v, w, r1, r2, r3⟩ => ⟨v, w, r1, ?_, hval v s w Si (f1 w r2) r3⟩)⟩
    rcases h1 with e | e
    · rw [e]; exact r2
    · rw [e] at r2; cases r2
theorem rC.of {σ σ' : sjS} {I I' : sjI} {x : Nat} (hR : rB σ x) (hwf : ∀ a y, σ.2 a = some y → a < σ.1) (hcl : ∀ q, q < σ.1 → (q ≠ x → σ'.2 q = σ.2 q) ∧ I' q = I q) : rC σ I σ' I' x := fun q q1 q2 => ⟨(hcl q (hR.1.lt hwf q1 q2)).1 (by omega), (hcl q (hR.1.lt hwf q1 q2)).2⟩
theorem lwAux {w q v x : Nat} (q1 : w ≤ q) (q2 : q ≤ w + 4) (a2 : w + 4 < x ∨ x + 0 < w) (a3 : v ≠ w) (a4 : v ≠ w + 1) (a5 : v ≠ w + 2) (a6 : v ≠ w + 3) (a7 : v ≠ w + 4) : q ≠ v ∧ q ≠ x := by omega
section JUDGE7
variable {l : Launch} {G : sjG} {σ : sjS} {I : sjI}
theorem cx9_sharedWorkspace {x : Nat} {X : List Int} {S : aSt} {H : List aSt} {im : Nat → Option aSt} {pv ws cy : Option Nat} {η ξ μ : Nat → Option Nat} {od : Nat} (h : cJ σ I x X S H im pv ws cy η ξ μ od) (hR : rB σ x) : sj_Con l yX9_sharedWorkspace mX9_sharedWorkspace G σ I [.ref x] (fun r σ' I' => ∃ w, r = some (.ref w) ∧ cJ σ' I' x X S H im pv (some w) cy η ξ μ od ∧ ((ws = some w ∧ σ' = σ ∧ I' = I) ∨ (ws = none ∧ w = σ.1 ∧ σ'.1 = σ.1 + 5 ∧ ∀ q, q < σ.1 → (q ≠ x → σ'.2 q = σ.2 q) ∧ I' q = I q))) := by
  obtain ⟨ρ, r0, r1, r6, r7, r8⟩ := id h.1.1
  refine sj_con_of (L0 := [some (.ref x)]) (by decide) rfl rfl rfl (Nat.le_of_ble_eq_true rfl) rfl (fun Γ => ?_)
  refine sj_wfV (fun hwf => ?_)
  have lx := hwf _ _ r0
  rcases optEx ws with rfl | ⟨w, rfl⟩
  · refine sj_ald0 dX9_sharedWorkspace_0 ?_
    refine sj_getNull fl_X9_226 (by assumption) rfl r7 dX9_sharedWorkspace_1 ?_
    refine sj_ifnonnullN dX9_sharedWorkspace_4 ?_
    refine sj_ald0 dX9_sharedWorkspace_7 ?_
    refine sj_new (κ := 7) rfl kl_X9_196 wi_7 wz_7 dX9_sharedWorkspace_8 (Nat.le_of_ble_eq_true rfl) (Nat.le_of_ble_eq_true rfl) ?_
    refine sj_dup dX9_sharedWorkspace_11 rfl ?_
    refine sj_callIN (cx8_init (w := σ.1) (sj_nw_self _ _) rfl) kc_X9_230 rfl rfl (Nat.le_of_ble_eq_true rfl) dX9_sharedWorkspace_12 (fun r_12 σ_12 I_12 hp_12 => ?_)
    obtain ⟨rfl, x1, x2, x3⟩ := hp_12
    have hcl : ∀ q, q < σ.1 → σ_12.2 q = σ.2 q ∧ I_12 q = I q := fun q hq => by
      rw [(x2 q hq).1, (x2 q hq).2, sj_nw_ne (by omega), sj_ur_ne (by omega)]
      exact ⟨rfl, rfl⟩
    have rx : σ_12.2 x = some (8, 0, ρ) := by rw [(hcl x lx).1]; exact r0
    have hcl2 : ∀ q, q < σ.1 → (q ≠ x → (sj_us σ_12 x (8, 0, sj_ru ρ 7 (some σ.1))).2 q = σ.2 q) ∧ I_12 q = I q := fun q hq => ⟨fun hq2 => by rw [sj_us_ne hq2]; exact (hcl q hq).1, (hcl q hq).2⟩
    have hx' : xR (sj_us σ_12 x (8, 0, sj_ru ρ 7 (some σ.1))) x pv (some σ.1) cy := ⟨_, sj_us_self _ _ _, r1, r6, sj_ru_self _ _ _, r8⟩
    obtain ⟨y1, y2⟩ := h.fld hwf hcl2 hx' (Or.inr rfl) (fun hv => Or.inl (by rcases h.2.2.2.2.1 with q | ⟨v, w, q1, q2, q3⟩; exact q; cases q2)) (fun hw w e => by
      cases e
      exact x3.keep (fun q q1 q2 => sj_us_ne (by omega))) (fun hy y e => hy y (h.2.2.2.2.2.2 y e))
    refine sj_putR fl_X9_226 (by assumption) rfl rfl rfl dX9_sharedWorkspace_15 ?_
    refine sj_ald0 dX9_sharedWorkspace_18 ?_
    refine sj_getR fl_X9_226 (sj_us_self _ _ _) rfl (show sj_ru ρ 7 (some σ.1) 7 = some σ.1 from sj_ru_self _ _ _) dX9_sharedWorkspace_19 ?_
    exact sj_aret dX9_sharedWorkspace_22 rfl (Or.inl ⟨_, rfl⟩) (Or.inr ⟨_, rfl⟩) (Nat.le_of_ble_eq_true rfl) (Nat.le_of_ble_eq_true rfl) ⟨σ.1, rfl, y1, Or.inr ⟨rfl, rfl, x1, hcl2⟩⟩
  · refine sj_ald0 dX9_sharedWorkspace_0 ?_
    refine sj_getR fl_X9_226 (by assumption) rfl r7 dX9_sharedWorkspace_1 ?_
    refine sj_ifnonnull 18 dX9_sharedWorkspace_4 (by decide) ?_
    refine sj_ald0 dX9_sharedWorkspace_18 ?_
    refine sj_getR fl_X9_226 (by assumption) rfl r7 dX9_sharedWorkspace_19 ?_
    exact sj_aret dX9_sharedWorkspace_22 rfl (Or.inl ⟨_, rfl⟩) (Or.inr ⟨_, rfl⟩) (Nat.le_of_ble_eq_true rfl) (Nat.le_of_ble_eq_true rfl) ⟨w, rfl, h, Or.inl ⟨rfl, rfl, rfl⟩⟩
theorem cx9_valuesNow {x : Nat} {X : List Int} {S : aSt} {H : List aSt} {im : Nat → Option aSt} {pv ws cy : Option Nat} {η ξ μ : Nat → Option Nat} {od : Nat} (h : cJ σ I x X S H im pv ws cy η ξ μ od) (hR : rB σ x) : sj_Con l yX9_valuesNow mX9_valuesNow G σ I [.ref x] (fun r σ' I' => ∃ v w, r = some (.ref v) ∧ cJ σ' I' x X S H im (some v) (some w) cy η ξ μ od ∧ tS σ I σ' I' ∧ rC σ I σ' I' x) := by
  obtain ⟨ρ, r0, r1, r6, r7, r8⟩ := id h.1.1
  obtain ⟨τ, he, _⟩ := id h.1.2.2.1
  refine sj_con_of (L0 := [some (.ref x)]) (by decide) rfl rfl rfl (Nat.le_of_ble_eq_true rfl) rfl (fun Γ => ?_)
  refine sj_wfV (fun hwf => ?_)
  have lx := hwf _ _ r0
  rcases optEx pv with rfl | ⟨v, rfl⟩
  · have hcl1 : ∀ q, q < σ.1 → (sj_nw σ (6, 0, fun _ => none)).2 q = σ.2 q ∧ sj_ur I σ.1 (fun _ => 0) q = I q := fun q hq => ⟨sj_nw_ne (by omega), sj_ur_ne (by omega)⟩
    obtain ⟨hj1, hT1⟩ := h.grow hwf (fun q hq => ⟨(hcl1 q hq).1, fun _ => (hcl1 q hq).2⟩)
    have hC1 : rC σ I (sj_nw σ (6, 0, fun _ => none)) (sj_ur I σ.1 (fun _ => 0)) x := rC.of hR hwf (fun q hq => ⟨fun _ => (hcl1 q hq).1, (hcl1 q hq).2⟩)
    have rx1 : (sj_nw σ (6, 0, fun _ => none)).2 x = some (8, 0, ρ) := by rw [(hcl1 x lx).1]; exact r0
    refine sj_ald0 dX9_valuesNow_0 ?_
    refine sj_getNull fl_X9_222 (by assumption) rfl r6 dX9_valuesNow_1 ?_
    refine sj_ifnonnullN dX9_valuesNow_4 ?_
    refine sj_ald0 dX9_valuesNow_7 ?_
    refine sj_new (κ := 6) rfl kl_X9_41 wi_6 wz_6 dX9_valuesNow_8 (Nat.le_of_ble_eq_true rfl) (Nat.le_of_ble_eq_true rfl) ?_
    refine sj_dup dX9_valuesNow_11 rfl ?_
    refine sj_ald0 dX9_valuesNow_12 ?_
    refine sj_getR fl_X9_19 (by assumption) rfl r1.2.1 dX9_valuesNow_13 ?_
    refine sj_ald0 dX9_valuesNow_16 ?_
    refine sj_callV (cx9_sharedWorkspace hj1 (hR.keep hC1)) kc_X9_191 (by assumption) rfl rfl rfl rfl (Nat.le_of_ble_eq_true rfl) dX9_valuesNow_17 (fun r_17 σ_17 I_17 hp_17 => ?_)
    obtain ⟨w, rfl, hj2, hc⟩ := hp_17
    have hW := hj2.2.2.2.2.2.1 w rfl
    have hcl2 : ∀ q, q < σ.1 + 1 → (q ≠ x → σ_17.2 q = (sj_nw σ (6, 0, fun _ => none)).2 q) ∧ I_17 q = sj_ur I σ.1 (fun _ => 0) q := fun q hq => by
      rcases hc with ⟨_, rfl, rfl⟩ | ⟨_, _, _, k⟩
      · exact ⟨fun _ => rfl, rfl⟩
      · exact k q hq
    have hlen : σ_17.1 = vCl σ.1 w := by
      rcases hc with ⟨e1, rfl, rfl⟩ | ⟨_, e2, e3, _⟩
      · have lw := hwf _ _ (h.2.2.2.2.2.1 w e1).1
        have := vCl_cs σ.1 w
        show σ.1 + 1 = vCl σ.1 w
        omega
      · have e2' : w = σ.1 + 1 := e2
        have e3' : σ_17.1 = σ.1 + 1 + 5 := e3
        rcases vCl_cs σ.1 w with ⟨c1, c2⟩ | ⟨c1, c2⟩
        · exact e3'.trans c2.symm
        · exact absurd e2' c1
    have hv0 : σ_17.2 σ.1 = some (6, 0, fun _ => none) := by rw [(hcl2 σ.1 (by omega)).1 (by omega)]; exact sj_nw_self _ _
    have hv3 : I_17 σ.1 = fun _ => 0 := by rw [(hcl2 σ.1 (by omega)).2]; exact sj_ur_self _ _ _
    obtain ⟨ρ2, q20, q21, q26, q27, q28⟩ := id hj2.1.1
    obtain ⟨τ2, he2, _⟩ := id hj2.1.2.2.1
    refine sj_wfV (fun hwf2 => ?_)
    have lx2 := hwf2 _ _ q20
    refine sj_callI (cx7_init (v := σ.1) (e := x + 4) (w := w) hv0 hlen (by rw [hv3]) he2.1 hW.1) kc_X9_212 rfl rfl (Nat.le_of_ble_eq_true rfl) dX9_valuesNow_20 (fun r_20 σ_20 I_20 hp_20 => ?_)
    obtain ⟨rfl, x1, x2, x3, x4, x5⟩ := hp_20
    have hcs := vCl_cs σ.1 w
    have rx3 : σ_20.2 x = some (8, 0, ρ2) := by rw [x2 x (by omega) (by omega)]; exact q20
    have hS4 : vSh (sj_us σ_20 x (8, 0, sj_ru ρ2 6 (some σ.1))) σ.1 (x + 4) w := ⟨by rw [sj_us_ne (by omega)]; exact x4.1, by rw [sj_us_ne (by omega)]; exact x4.2⟩
    have lw : ∀ q, w ≤ q → q ≤ w + 4 → q < vCl σ.1 w ∧ q ≠ σ.1 ∧ q ≠ x := fun q q1 q2 => by
      have a1 := hW.blk.lt hwf2 q1 q2
      have a2 := hW.blk.off hj2.1.1.blk (ne_kind hW.1 q20 (by decide))
      have a3 := ne_kind hv0 hW.1 (by decide)
      have a4 := ne_kind hv0 hW.2.1 (by decide)
      have a5 := ne_kind hv0 hW.2.2.1 (by decide)
      have a6 := ne_kind hv0 hW.2.2.2.1 (by decide)
      have a7 := ne_kind hv0 hW.2.2.2.2 (by decide)
      exact ⟨by rw [← hlen]; exact a1, lwAux q1 q2 a2 a3 a4 a5 a6 a7⟩
    have hcl4 : ∀ q, q < σ.1 → (q ≠ x → (sj_us σ_20 x (8, 0, sj_ru ρ2 6 (some σ.1))).2 q = σ.2 q) ∧ I_20 q = I q := fun q hq => ⟨fun hq2 => by rw [sj_us_ne hq2, x2 q (by omega) (by omega), (hcl2 q (by omega)).1 hq2]; exact (hcl1 q hq).1, by rw [x3 q (by omega), (hcl2 q (by omega)).2]; exact (hcl1 q hq).2⟩
    have hx4 : xR (sj_us σ_20 x (8, 0, sj_ru ρ2 6 (some σ.1))) x (some σ.1) (some w) cy := ⟨_, sj_us_self _ _ _, q21, sj_ru_self _ _ _, q27, q28⟩
    obtain ⟨y1, y2⟩ := h.fld hwf hcl4 hx4 (by rcases hc with ⟨e1, _⟩ | ⟨e1, _⟩; exact Or.inl e1.symm; exact Or.inr e1) (fun _ => Or.inr ⟨σ.1, w, rfl, rfl, hS4, cO_zero (fun j _ => x5 j), Or.inr ⟨by rw [x3 σ.1 (by omega), hv3], fun j _ => x5 j⟩⟩) (fun _ w' e => by
      cases e
      exact hW.keep (fun q q1 q2 => by obtain ⟨z1, z2, z3⟩ := lw q q1 q2; rw [sj_us_ne z3, x2 q z1 z2])) (fun hy y e => hy y (h.2.2.2.2.2.2 y e))
    refine sj_putR fl_X9_222 (by assumption) rfl rfl rfl dX9_valuesNow_23 ?_
    refine sj_ald0 dX9_valuesNow_26 ?_
    refine sj_getR fl_X9_222 (sj_us_self _ _ _) rfl (show sj_ru ρ2 6 (some σ.1) 6 = some σ.1 from sj_ru_self _ _ _) dX9_valuesNow_27 ?_
    exact sj_aret dX9_valuesNow_30 rfl (Or.inl ⟨_, rfl⟩) (Or.inr ⟨_, rfl⟩) (Nat.le_of_ble_eq_true rfl) (Nat.le_of_ble_eq_true rfl) ⟨σ.1, w, rfl, y1, y2, rC.of hR hwf hcl4⟩
  · obtain ⟨w, rfl⟩ := h.pvW rfl
    refine sj_ald0 dX9_valuesNow_0 ?_
    refine sj_getR fl_X9_222 (by assumption) rfl r6 dX9_valuesNow_1 ?_
    refine sj_ifnonnull 26 dX9_valuesNow_4 (by decide) ?_
    refine sj_ald0 dX9_valuesNow_26 ?_
    refine sj_getR fl_X9_222 (by assumption) rfl r6 dX9_valuesNow_27 ?_
    exact sj_aret dX9_valuesNow_30 rfl (Or.inl ⟨_, rfl⟩) (Or.inr ⟨_, rfl⟩) (Nat.le_of_ble_eq_true rfl) (Nat.le_of_ble_eq_true rfl) ⟨v, w, rfl, h, tS.rf σ I, rC.rf σ I x⟩
end JUDGE7
