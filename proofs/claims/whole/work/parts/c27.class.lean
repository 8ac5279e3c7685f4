theorem cJ.pvO {σ : sjS} {I : sjI} {x v w : Nat} {X : List Int} {S : aSt} {H : List aSt} {im : Nat → Option aSt} {pv ws cy : Option Nat} {η ξ μ : Nat → Option Nat} {od : Nat} (h : cJ σ I x X S H im pv ws cy η ξ μ od) (hv : pv = some v) (hw : ws = some w) : vals σ I v (x + 4) w S ∧ wSh σ w ∧ ((v < x + 4 ∨ x + 4 + 1 < v) ∧ (vCl v w < x + 4 ∨ x + 4 + 1 < vCl v w)) ∧ ((v < x + 6 ∨ x + 6 + 1 < v) ∧ (vCl v w < x + 6 ∨ x + 6 + 1 < vCl v w)) := by
  have hW := h.2.2.2.2.2.1 w hw
  rcases h.2.2.2.2.1 with q | ⟨v', w', q1, q2, q3⟩
  · rw [q] at hv; cases hv
  · rw [q1] at hv; cases hv
    rw [q2] at hw; cases hw
    obtain ⟨τ, e, _⟩ := id h.1.2.2.1
    exact ⟨q3, hW, vRo q3.1 hW e.blk (ne_kind q3.1.1 e.1 (by decide)) (Or.inr (by decide)), vRo q3.1 hW h.1.2.2.2.1.blk (ne_kind q3.1.1 h.1.2.2.2.1.1 (by decide)) (Or.inr (by decide))⟩
theorem cJ.pvW {σ : sjS} {I : sjI} {x v : Nat} {X : List Int} {S : aSt} {H : List aSt} {im : Nat → Option aSt} {pv ws cy : Option Nat} {η ξ μ : Nat → Option Nat} {od : Nat} (h : cJ σ I x X S H im pv ws cy η ξ μ od) (hv : pv = some v) : ∃ w, ws = some w := by
  rcases h.2.2.2.2.1 with q | ⟨v', w', q1, q2, q3⟩
  · rw [q] at hv; cases hv
  · exact ⟨w', q2⟩
theorem cJ.undo {σ : sjS} {I I' : sjI} {x ct : Nat} {X : List Int} {S S' : aSt} {H : List aSt} {im : Nat → Option aSt} {pv ws cy : Option Nat} {η ξ μ τs ρ' : Nat → Option Nat} {od : Nat} (h : cJ σ I x X S H im pv ws cy η ξ μ od) (hR : rB σ x) (hlen : H.length = ct + 1) (hts : te σ I τs S'.2) (hM : 2 ≤ S'.1 ∧ S'.1 ≤ 10) (hρ : ∀ a, a < 8 → ρ' a = τs a) (hI : ∀ q, q ≠ x + 4 → q ≠ x + 6 → (∀ v w, pv = some v → ws = some w → q ≠ v ∧ q ≠ vCl v w) → I' q = I q) (h4 : I' (x + 4) 0 = S'.1) (h61 : I' (x + 6) 1 = I (x + 6) 1) (h62 : I' (x + 6) 2 = ct) (hf : fr I' pv ws) : cJ (sj_us σ (x + 4 + 1) (13, 8, ρ')) I' x X S' H.dropLast im pv ws cy η ξ μ od ∧ rC σ I (sj_us σ (x + 4 + 1) (13, 8, ρ')) I' x := by
  have hdl : H.dropLast.length = ct := by rw [List.length_dropLast]; omega
  have key : ∀ I0 : sjI, (∀ q, I0 q = if q = x + 6 ∨ q = x + 4 then I q else I' q) → cJ σ I0 x X S H im pv ws cy η ξ μ od ∧ fr I0 pv ws ∧ tS σ I σ I0 := fun I0 e0 => by
    rcases optEx pv with rfl | ⟨v, rfl⟩
    · have e : I0 = I := by
        funext q
        rw [e0 q]
        by_cases z : q = x + 6 ∨ q = x + 4
        · rw [if_pos z]
        · rw [if_neg z]; exact hI q (by omega) (by omega) (fun v w ev => by cases ev)
      rw [e]
      exact ⟨h, fun v w ev => (by cases ev), tS.rf σ I⟩
    · obtain ⟨w, rfl⟩ := h.pvW rfl
      obtain ⟨w2, w5, w3, w4⟩ := h.pvO rfl rfl
      refine h.fgt (fun q q1 q2 => ?_) ?_ ?_
      · rw [e0 q]
        by_cases z : q = x + 6 ∨ q = x + 4
        · rw [if_pos z]
        · rw [if_neg z]; exact hI q (by omega) (by omega) (fun v w ev ew => by cases ev; cases ew; exact ⟨q1, q2⟩)
      · rw [e0 v, if_neg (by omega)]; exact (hf v w rfl rfl).1
      · rw [e0 (vCl v w), if_neg (by omega)]; exact (hf v w rfl rfl).2
  obtain ⟨k1, k2, k3⟩ := key (fun q => if q = x + 6 ∨ q = x + 4 then I q else I' q) (fun q => rfl)
  have hst := k1.hst (I' := fun q => if q = x + 4 then I q else I' q) (H' := H.dropLast) (fun q hq => by
    show (if q = x + 4 then I q else I' q) = if q = x + 6 ∨ q = x + 4 then I q else I' q
    by_cases z : q = x + 4
    · rw [if_pos z, if_pos (Or.inr z)]
    · rw [if_neg z, if_neg (by omega)]) (by
    obtain ⟨z1, z2, z3, z4, z5, z6⟩ := h.1.2.2.2.1
    refine ⟨z1, z2, ?_, ?_, z5, by omega⟩
    · show (if x + 6 = x + 4 then I (x + 6) else I' (x + 6)) 1 = od
      rw [if_neg (by omega), h61]; exact z3
    · show (if x + 6 = x + 4 then I (x + 6) else I' (x + 6)) 2 = _
      rw [if_neg (by omega), h62, hdl]) (fun k S' hk => ls_drop hk)
  have hfr : fr (fun q => if q = x + 4 then I q else I' q) pv ws := fun v w ev ew => by
    obtain ⟨w2, w5, w3, w4⟩ := h.pvO ev ew
    refine ⟨?_, fun j hj => ?_⟩
    · show (if v = x + 4 then I v else I' v) 3 = 0
      rw [if_neg (by omega)]; exact (hf v w ev ew).1
    · show (if vCl v w = x + 4 then I (vCl v w) else I' (vCl v w)) j = 0
      rw [if_neg (by omega)]; exact (hf v w ev ew).2 j hj
  have hcl : ∀ q, ¬ (x + 4 ≤ q ∧ q ≤ x + 4 + 1) → cq σ (fun q => if q = x + 4 then I q else I' q) (sj_us σ (x + 4 + 1) (13, 8, ρ')) I' q := fun q hq => ⟨sj_us_ne (by omega), by
    show I' q = if q = x + 4 then I q else I' q
    rw [if_neg (by omega)]⟩
  have hb0 := h.1.2.2.2.1.blk
  have h60 := h.1.2.2.2.1.1
  have hT6 : tS σ I σ (fun q => if q = x + 4 then I q else I' q) := fun t T ht => by
    have n6 : t ≠ x + 6 := ne_kind ht.1.1 h60 (by decide)
    have o6 := ht.blk.off hb0 n6
    refine (k3 t T ht).keep (fun q q1 q2 => ⟨rfl, ?_⟩)
    show (if q = x + 4 then I q else I' q) = if q = x + 6 ∨ q = x + 4 then I q else I' q
    by_cases z : q = x + 4
    · rw [if_pos z, if_pos (Or.inr z)]
    · rw [if_neg z, if_neg (by omega)]
  obtain ⟨τ0, he0, _⟩ := id h.1.2.2.1
  obtain ⟨y1, y2⟩ := hst.pres (S' := S') hfr hcl (fun hT => ⟨ρ', ⟨by rw [sj_us_ne (by omega)]; exact he0.1, sj_us_self _ _ _, h4⟩, (hts.keep (hT6.tr hT)).cong hρ, hM⟩)
  refine ⟨y1, fun q q1 q2 => ⟨sj_us_ne (by omega), hI q (by omega) (by omega) (fun v w ev ew => ?_)⟩⟩
  obtain ⟨w2, w5, w3, w4⟩ := h.pvO ev ew
  obtain ⟨y, hy⟩ := hR.2
  have off := vRo w2.1 w5 hR.1 (ne_kind w2.1.1 hy (by decide)) (Or.inl (ne_kind w5.1 hy (by decide)))
  omega
section JUDGE6
variable {l : Launch} {G : sjG} {σ : sjS} {I : sjI}
theorem cx9_forgetW {x : Nat} {pv ws cy : Option Nat} (hx : xR σ x pv ws cy) (hvv : ∀ v, pv = some v → ∃ e w, ws = some w ∧ vSh σ v e w ∧ (I v 3 = 1 ∨ (I v 3 = 0 ∧ ∀ j, j < 3200 → I (vCl v w) j = 0))) : sj_Con l yX9_forgetPresentValues mX9_forgetPresentValues G σ I [.ref x] (fun r σ' I' => r = none ∧ σ = σ' ∧ fr I' pv ws ∧ ∀ q, (∀ v w, pv = some v → ws = some w → q ≠ v ∧ q ≠ vCl v w) → I' q = I q) := by
  obtain ⟨ρ, r0, _, r6, _, _⟩ := hx
  refine sj_con_of (L0 := [some (.ref x)]) (by decide) rfl rfl rfl (Nat.le_of_ble_eq_true rfl) rfl (fun Γ => ?_)
  rcases optEx pv with rfl | ⟨v, rfl⟩
  · refine sj_ald0 dX9_forgetPresentValues_0 ?_
    refine sj_getNull fl_X9_222 (by assumption) rfl r6 dX9_forgetPresentValues_1 ?_
    refine sj_ifnullN 14 dX9_forgetPresentValues_4 (by decide) ?_
    exact sj_vret dX9_forgetPresentValues_14 rfl (Nat.le_of_ble_eq_true rfl) (Nat.le_of_ble_eq_true rfl) ⟨rfl, rfl, fun v w e => (by cases e), fun _ _ => rfl⟩
  · obtain ⟨e, w, rfl, hv, hv2⟩ := hvv v rfl
    have v0 := hv.1
    refine sj_ald0 dX9_forgetPresentValues_0 ?_
    refine sj_getR fl_X9_222 (by assumption) rfl r6 dX9_forgetPresentValues_1 ?_
    refine sj_ifnull dX9_forgetPresentValues_4 ?_
    refine sj_ald0 dX9_forgetPresentValues_7 ?_
    refine sj_getR fl_X9_222 (by assumption) rfl r6 dX9_forgetPresentValues_8 ?_
    refine sj_callV (cx7_forget hv (by rcases hv2 with q | q; exact Or.inr q; exact Or.inl q.1)) kc_X9_209 (by assumption) rfl rfl rfl rfl (Nat.le_of_ble_eq_true rfl) dX9_forgetPresentValues_11 (fun r_11 σ_11 I_11 hp_11 => ?_)
    obtain ⟨rfl, rfl, x1, x2, x3⟩ := hp_11
    have z : ∀ j, j < 3200 → I_11 (vCl v w) j = 0 := by
      rcases x3 with ⟨x4, x5⟩ | x4
      · rw [x5]
        rcases hv2 with q | q
        · rw [q] at x4; cases x4
        · exact q.2
      · exact x4
    exact sj_vret dX9_forgetPresentValues_14 rfl (Nat.le_of_ble_eq_true rfl) (Nat.le_of_ble_eq_true rfl) ⟨rfl, rfl, fun v' w' e' e2 => (by cases e'; cases e2; exact ⟨x2, z⟩), fun q hq => x1 q (hq v w rfl rfl).1 (hq v w rfl rfl).2⟩
theorem cx9_undo {x : Nat} {X : List Int} {S : aSt} {H : List aSt} {im : Nat → Option aSt} (h : cI σ I x X S H im) (hR : rB σ x) : sj_Con l yX9_undo mX9_undo G σ I [.ref x] (fun r σ' I' => rC σ I σ' I' x ∧ ((H.length = 0 ∧ r = some (.int (zI (-2))) ∧ cI σ' I' x X S H im) ∨ ∃ S', 0 < H.length ∧ H.getLast? = some S' ∧ r = some (.int (zI ((H.length - 1 : Nat)))) ∧ cI σ' I' x X S' H.dropLast im)) := by
  obtain ⟨pv, ws, cy, η, ξ, μ, od, hj⟩ := id h
  obtain ⟨ρ, r0, ⟨_, r1, r2, _⟩, _⟩ := id hj.1.1
  obtain ⟨τ, he, ht, hM⟩ := hj.1.2.2.1
  have hh := hj.1.2.2.2.1
  have h0 := hh.1
  have hct := hh.2.2.2.1
  have hc8 := hh.2.2.2.2.2
  refine sj_con_of (L0 := [some (.ref x)]) (by decide) rfl rfl rfl (Nat.le_of_ble_eq_true rfl) rfl (fun Γ => ?_)
  by_cases hn : H.length = 0
  · refine sj_ald0 dX9_undo_0 ?_
    refine sj_getR fl_X9_26 (by assumption) rfl r2 dX9_undo_1 ?_
    refine sj_getIN fl_X9_100 (by assumption) rfl dX9_undo_4 ?_
    rw [hct]
    refine sj_if_ne 13 dX9_undo_7 (by decide) (by omega) (fun c_7 => ?_) (fun c_7 => ?_)
    · (exfalso; omega)
    refine sj_bipush dX9_undo_10 (by decide) ?_
    exact sj_iret dX9_undo_12 rfl rfl (Nat.le_of_ble_eq_true rfl) (Nat.le_of_ble_eq_true rfl) ⟨rC.rf σ I x, Or.inl ⟨hn, rfl, h⟩⟩
  · obtain ⟨ct, hc⟩ : ∃ ct, H.length = ct + 1 := ⟨H.length - 1, by omega⟩
    obtain ⟨S', hS1, hS2⟩ := ls_last (H := H) (by omega)
    rw [show H.length - 1 = ct by omega] at hS1
    obtain ⟨s, hs1, hs2⟩ := hj.2.1.2 ct S' hS1
    have hs4 := (hj.2.1.1 _ s (Nat.mod_lt _ (by decide)) hs1).1
    obtain ⟨τs, k1, k2, k3⟩ := hs2
    have e0 := he.1
    have hx' : ∀ ρ' : Nat → Option Nat, xR (sj_us σ (x + 4 + 1) (13, 8, ρ')) x pv ws cy := fun ρ' => hj.1.1.keep (sj_us_ne (by omega))
    refine sj_ald0 dX9_undo_0 ?_
    refine sj_getR fl_X9_26 (by assumption) rfl r2 dX9_undo_1 ?_
    refine sj_getIN fl_X9_100 (by assumption) rfl dX9_undo_4 ?_
    rw [hct]
    refine sj_if_ne 13 dX9_undo_7 (by decide) (by omega) (fun c_7 => ?_) (fun c_7 => ?_)
    rotate_left
    · (exfalso; omega)
    refine sj_ald0 dX9_undo_13 ?_
    refine sj_getR fl_X9_26 (by assumption) rfl r2 dX9_undo_14 ?_
    refine sj_ald0 dX9_undo_17 ?_
    refine sj_getR fl_X9_19 (by assumption) rfl r1 dX9_undo_18 ?_
    refine sj_callV (cx3_restore (ct := ct) (by rw [← hc]; exact hh) he hs1 k1 k2.tk (Ne.symm hs4)) kc_X9_103 (by assumption) rfl rfl rfl rfl (Nat.le_of_ble_eq_true rfl) dX9_undo_21 (fun r_21 σ_21 I_21 hp_21 => ?_)
    obtain ⟨rfl, rfl, ρ', hρ, rfl⟩ := hp_21
    obtain ⟨ρx, rx0, ⟨_, rx1, rx2, _⟩, _⟩ := id (hx' ρ')
    refine sj_ald0 dX9_undo_24 ?_
    refine sj_callV (cx9_forgetW (hx' ρ') (fun v ev => by
      obtain ⟨w, ew⟩ := hj.pvW ev
      obtain ⟨w2, w5, w3, w4⟩ := hj.pvO ev ew
      refine ⟨x + 4, w, ew, ⟨by rw [sj_us_ne (by omega)]; exact w2.1.1, by rw [sj_us_ne (by omega)]; exact w2.1.2⟩, ?_⟩
      rw [sj_up_row (by omega), sj_up_row (by omega), sj_up_row (by omega), sj_up_row (by omega)]
      exact w2.2.2)) kc_X9_107 (by assumption) rfl rfl rfl rfl (Nat.le_of_ble_eq_true rfl) dX9_undo_25 (fun r_25 σ_25 I_25 hp_25 => ?_)
    obtain ⟨rfl, rfl, x1, x2⟩ := hp_25
    have i4 := x2 (x + 4) (fun v w ev ew => by obtain ⟨w2, w5, w3, w4⟩ := hj.pvO ev ew; omega)
    have i6 := x2 (x + 6) (fun v w ev ew => by obtain ⟨w2, w5, w3, w4⟩ := hj.pvO ev ew; omega)
    have i62 : I_25 (x + 6) 2 = ct := by rw [i6, sj_up_row (by omega), sj_up_self]
    obtain ⟨y1, y2⟩ := hj.undo hR hc k2 k3 hρ (fun q q1 q2 q3 => by rw [x2 q q3, sj_up_row q1, sj_up_row q2]) (by rw [i4, sj_up_self]) (by rw [i6, sj_up_row (by omega), sj_up_ne (by omega)]) i62 x1
    have h0' := y1.1.2.2.2.1.1
    refine sj_ald0 dX9_undo_28 ?_
    refine sj_getR fl_X9_26 (by assumption) rfl rx2 dX9_undo_29 ?_
    refine sj_getIN fl_X9_100 (by assumption) rfl dX9_undo_32 ?_
    rw [i62]
    exact sj_iret dX9_undo_35 rfl rfl (Nat.le_of_ble_eq_true rfl) (Nat.le_of_ble_eq_true rfl) ⟨y2, Or.inr ⟨S', by omega, hS2, by rw [show H.length - 1 = ct by omega], pv, ws, cy, η, ξ, μ, od, y1⟩⟩
end JUDGE6
