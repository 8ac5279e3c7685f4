/-- the history behind a change -/
def jHs (H : List aSt) (S : aSt) : List aSt := if H.length < 8 then H ++ [S] else H.tail ++ [S]
theorem blk.keep {σ σ' : sjS} {a n : Nat} (h : blk σ a n) (hk : ∀ q, a ≤ q → q ≤ a + n → σ'.2 q = σ.2 q) : blk σ' a n := by
  obtain ⟨⟨κ, x, h1, h2⟩, h3⟩ := h
  refine ⟨⟨κ, x, by rw [hk a (by omega) (by omega)]; exact h1, h2⟩, fun j j1 j2 => ?_⟩
  obtain ⟨κ', x', k1, k2⟩ := h3 j j1 j2
  exact ⟨κ', x', by rw [hk (a + j) (by omega) (by omega)]; exact k1, k2⟩
/-- the reference's block -/
def rB (σ : sjS) (x : Nat) : Prop := blk σ (x + 14) 21 ∧ ∃ y, σ.2 (x + 14) = some (9, y)
/-- the reference's block is not touched -/
def rC (σ : sjS) (I : sjI) (σ' : sjS) (I' : sjI) (x : Nat) : Prop := ∀ q, x + 14 ≤ q → q ≤ x + 14 + 21 → cq σ I σ' I' q
theorem rB.keep {σ σ' : sjS} {I I' : sjI} {x : Nat} (h : rB σ x) (k : rC σ I σ' I' x) : rB σ' x := ⟨h.1.keep (fun q q1 q2 => (k q q1 q2).1), by obtain ⟨y, hy⟩ := h.2; exact ⟨y, by rw [(k (x + 14) (by omega) (by omega)).1]; exact hy⟩⟩
theorem rC.tr {σ σ' σ2 : sjS} {I I' I2 : sjI} {x : Nat} (h : rC σ I σ' I' x) (k : rC σ' I' σ2 I2 x) : rC σ I σ2 I2 x := fun q q1 q2 => ⟨by rw [(k q q1 q2).1]; exact (h q q1 q2).1, by rw [(k q q1 q2).2]; exact (h q q1 q2).2⟩
theorem rC.rf (σ : sjS) (I : sjI) (x : Nat) : rC σ I σ I x := fun _ _ _ => ⟨rfl, rfl⟩
theorem blk.lt {σ : sjS} {a n : Nat} (hwf : ∀ a y, σ.2 a = some y → a < σ.1) (hb : blk σ a n) {q : Nat} (q1 : a ≤ q) (q2 : q ≤ a + n) : q < σ.1 := by
  by_cases e : q = a
  · subst e; obtain ⟨⟨κ, y, k1, _⟩, _⟩ := hb; exact hwf _ _ k1
  · obtain ⟨κ, y, k1, _⟩ := hb.2 (q - a) (by omega) (by omega)
    rw [show a + (q - a) = q by omega] at k1
    exact hwf _ _ k1
theorem te.cong {σ : sjS} {I : sjI} {τ ρ : Nat → Option Nat} {E : Nat → Option (List Int)} (h : te σ I τ E) (hρ : ∀ a, a < 8 → ρ a = τ a) : te σ I ρ E := ⟨h.1, fun a ha => by rw [hρ a ha]; exact h.2 a ha⟩
theorem cJ.recd {σ σ' : sjS} {I I' : sjI} {x s : Nat} {X : List Int} {S : aSt} {H : List aSt} {im : Nat → Option aSt} {pv ws cy : Option Nat} {η ξ μ η' τ ρ : Nat → Option Nat} {od : Nat} (h : cJ σ I x X S H im pv ws cy η ξ μ od) (hwf : ∀ a y, σ.2 a = some y → a < σ.1) (hR : rB σ x) (hτ : eqn σ I (x + 4) S.1 τ ∧ te σ I τ S.2 ∧ (2 ≤ S.1 ∧ S.1 ≤ 10)) (p1 : η ((od + H.length) % 8) = some s ∨ (η ((od + H.length) % 8) = none ∧ s = σ.1)) (p2 : η' ((od + H.length) % 8) = some s) (p3 : ∀ j, j ≠ (od + H.length) % 8 → η' j = η j) (p4 : ∀ a, a < 8 → ρ a = τ a) (p6 : ∀ q, q < σ.1 → q ≠ x + 6 + 1 → q ≠ s + 1 → σ'.2 q = σ.2 q) (p7 : ∀ q, q < σ.1 → q ≠ x + 6 → q ≠ s → I' q = I q) (p8 : eqn σ' I' s S.1 ρ) (p9 : his σ' I' (x + 6) η' (if H.length < 8 then od else (od + 1) % 8) (if H.length < 8 then H.length + 1 else H.length)) : (∃ od', cJ σ' I' x X S (jHs H S) im pv ws cy η' ξ μ od') ∧ tS σ I σ' I' ∧ rC σ I σ' I' x ∧ (∀ q, x + 8 ≤ q → q ≤ x + 8 + 5 → I' q = I q) := by
  obtain ⟨⟨a1, a2, a3, a4, a5, a6, a7⟩, ⟨b1, b2⟩, c1, ⟨d1, d2, d3⟩, e1, f1, g1⟩ := h
  obtain ⟨-, -, -, -, ho1, ho2⟩ := id a4
  have hsl : (od + H.length) % 8 < 8 := Nat.mod_lt _ (by decide)
  have sblk : s < σ.1 → blk σ s 1 ∧ ∃ y, σ.2 s = some (1, y) := fun hs => by
    rcases p1 with q | q
    · obtain ⟨S', τ', q1, _⟩ := (b1 _ s hsl q).2
      exact ⟨q1.blk, _, q1.1⟩
    · omega
  have s4 : s ≠ x + 4 := by
    rcases p1 with q | q
    · exact (b1 _ s hsl q).1
    · have := hwf _ _ hτ.1.1; omega
  have cl : ∀ a n, blk σ a n → a ≠ x + 6 → a ≠ s → ∀ q, a ≤ q → q ≤ a + n → cq σ I σ' I' q := fun a n hb n1 n2 q q1 q2 => by
    have hlt := hb.lt hwf q1 q2
    have o1 := hb.off a4.blk n1
    have o2 : q ≠ s ∧ q ≠ s + 1 := by
      by_cases hs : s < σ.1
      · have := hb.off (sblk hs).1 n2; omega
      · omega
    exact ⟨p6 q hlt (by omega) o2.2, p7 q hlt (by omega) o2.1⟩
  have nes : ∀ {a κ : Nat} {y : Nat × (Nat → Option Nat)}, σ.2 a = some (κ, y) → κ ≠ 1 → a ≠ s := fun {a κ y} hy hk => by
    by_cases hs : s < σ.1
    · obtain ⟨_, z, hz⟩ := sblk hs; exact ne_kind hy hz hk
    · have := hwf _ _ hy; omega
  have hT : tS σ I σ' I' := fun t T ht => ht.keep (fun q q1 q2 => cl t 3 ht.blk (ne_kind ht.1.1 a4.1 (by decide)) (nes ht.1.1 (by decide)) q q1 q2)
  have hsys : ∀ b S', b ≠ s → sys σ I b S' → sys σ' I' b S' := fun b S' hne hs => by
    have n6 : b ≠ x + 6 := by obtain ⟨τ', q1, _⟩ := hs; exact ne_kind q1.1 a4.1 (by decide)
    exact hs.keep hT (cl b 1 hs.blk n6 hne b (by omega) (by omega)) (cl b 1 hs.blk n6 hne (b + 1) (by omega) (by omega))
  have hval : ∀ v b w S', wSh σ w → vals σ I v b w S' → vals σ' I' v b w S' := fun v b w S' hW hv => by
    have n6 : v ≠ x + 6 := ne_kind hv.1.1 a4.1 (by decide)
    have ns := nes hv.1.1 (by decide)
    have l1 := hwf _ _ hv.1.2
    have o1 := vRo hv.1 hW a4.blk n6 (Or.inr (by decide))
    have o2 : vCl v w ≠ s ∧ vCl v w ≠ s + 1 := by
      by_cases hs : s < σ.1
      · have := vRo hv.1 hW (sblk hs).1 ns (Or.inr (by decide)); omega
      · omega
    exact hv.keep (cl v 0 hv.1.blk n6 ns v (by omega) (by omega)) ⟨p6 _ l1 (by omega) o2.2, p7 _ l1 (by omega) o2.1⟩
  have hold : ∀ j b, j < 8 → j ≠ (od + H.length) % 8 → η j = some b → b ≠ s := fun j b hj hne hb e => by
    rcases p1 with q | q
    · exact hne (d1 j _ b hj hsl hb (by rw [e]; exact q))
    · obtain ⟨S', hS'⟩ := (b1 j b hj hb).2
      have := hS'.blk.lt hwf (q := b) (by omega) (by omega)
      omega
  have hnew : sys σ' I' s S := ⟨ρ, p8, (hτ.2.1.keep hT).cong p4, hτ.2.2⟩
  have himg : ∀ i b, i < 2 → ξ i = some b → b ≠ s := fun i b hi hb e => by
    rcases p1 with q | q
    · exact d2 _ i b hsl hi (by rw [e]; exact q) hb
    · rcases c1 i hi with z | ⟨b', Si, z1, z2, z3, z4, _⟩
      · rw [z.1] at hb; cases hb
      · rw [z1] at hb; cases hb
        have := z4.blk.lt hwf (q := b) (by omega) (by omega)
        omega
  have rb := a5.blk a6 a7
  have r0 := a5.1
  have clr := cl _ 5 rb (ne_kind r0 a4.1 (by decide)) (nes r0 (by decide))
  have hx0 : cq σ I σ' I' x := by obtain ⟨ρx, q0, _⟩ := id a1; exact cl x 0 a1.blk (ne_kind q0 a4.1 (by decide)) (nes q0 (by decide)) x (by omega) (by omega)
  have clt := cl _ 2 a2.blk (ne_kind a2.1.1 a4.1 (by decide)) (nes a2.1.1 (by decide))
  have hlen : (jHs H S).length = if H.length < 8 then H.length + 1 else H.length := by
    unfold jHs
    by_cases q : H.length < 8
    · rw [if_pos q, if_pos q, List.length_append]; rfl
    · rw [if_neg q, if_neg q, List.length_append, List.length_tail, List.length_singleton]; omega
  refine ⟨⟨if H.length < 8 then od else (od + 1) % 8, ⟨⟨a1.keep hx0.1, a2.keep (clt _ (by omega) (by omega)) (clt _ (by omega) (by omega)) (clt _ (by omega) (by omega)).1, hsys _ _ (fun e => s4 e.symm) a3, by rw [hlen]; exact p9, a5.keep (fun q q1 q2 => (clr q q1 (by omega)).1), by rw [(clr (x + 12) (by omega) (by omega)).1]; exact a6, by rw [(clr (x + 13) (by omega) (by omega)).1]; exact a7⟩, ⟨fun j b hj hb => ?_, fun k S' hk => ?_⟩, fun i hi => (c1 i hi).keep (fun b S' q1 q => hsys b S' (himg i b hi q1) q) (fun v b w S' _ z q => hval v b w S' (f1 w z) q), ⟨fun j j' b hj hj' hb hb' => ?_, fun j i b hj hi hb hb' => ?_, d3⟩, e1.imp id (fun ⟨v, w, q1, q2, q3⟩ => ⟨v, w, q1, q2, hval v _ w S (f1 w q2) q3⟩), fun w hw => (f1 w hw).keep (fun q q1 q2 => (cl w 4 (f1 w hw).blk (ne_kind (f1 w hw).1 a4.1 (by decide)) (nes (f1 w hw).1 (by decide)) q q1 q2).1), fun y hy => (g1 y hy).keep (fun q q1 q2 => (cl y 3 (g1 y hy).blk (ne_kind (g1 y hy).1 a4.1 (by decide)) (nes (g1 y hy).1 (by decide)) q q1 q2).1)⟩⟩, hT, ?_, fun q q1 q2 => (clr q q1 q2).2⟩
  · by_cases e : j = (od + H.length) % 8
    · rw [e, p2] at hb; cases hb
      exact ⟨s4, S, hnew⟩
    · rw [p3 j e] at hb
      exact ⟨(b1 j b hj hb).1, (b1 j b hj hb).2.imp (fun S' q => hsys b S' (hold j b hj e hb) q)⟩
  · unfold jHs at hk
    by_cases q : H.length < 8
    · rw [if_pos q] at hk ⊢
      by_cases e : k < H.length
      · rw [List.getElem?_append_left e] at hk
        obtain ⟨b, z1, z2⟩ := b2 k S' hk
        have hne : (od + k) % 8 ≠ (od + H.length) % 8 := by omega
        exact ⟨b, by rw [p3 _ hne]; exact z1, hsys b S' (hold _ b (Nat.mod_lt _ (by decide)) hne z1) z2⟩
      · rw [List.getElem?_append_right (by omega)] at hk
        have hk0 : k - H.length = 0 := by
          by_cases z : k - H.length = 0
          · exact z
          · rw [List.getElem?_eq_none (by simp; omega)] at hk; cases hk
        rw [hk0] at hk
        cases hk
        exact ⟨s, by rw [show k = H.length by omega]; exact p2, hnew⟩
    · rw [if_neg q] at hk ⊢
      by_cases e : k < H.tail.length
      · rw [List.getElem?_append_left e, List.getElem?_tail] at hk
        rw [List.length_tail] at e
        obtain ⟨b, z1, z2⟩ := b2 (k + 1) S' hk
        have hsame : ((od + 1) % 8 + k) % 8 = (od + (k + 1)) % 8 := by omega
        have hne : (od + (k + 1)) % 8 ≠ (od + H.length) % 8 := by omega
        exact ⟨b, by rw [hsame, p3 _ hne]; exact z1, hsys b S' (hold _ b (Nat.mod_lt _ (by decide)) hne z1) z2⟩
      · rw [List.getElem?_append_right (by omega)] at hk
        rw [List.length_tail] at e hk
        have hk0 : k - (H.length - 1) = 0 := by
          by_cases z : k - (H.length - 1) = 0
          · exact z
          · rw [List.getElem?_eq_none (by simp; omega)] at hk; cases hk
        rw [hk0] at hk
        cases hk
        exact ⟨s, by rw [show ((od + 1) % 8 + k) % 8 = (od + H.length) % 8 by omega]; exact p2, hnew⟩
  · by_cases e : j = (od + H.length) % 8
    · by_cases e' : j' = (od + H.length) % 8
      · rw [e, e']
      · exfalso
        rw [e, p2] at hb; cases hb
        rw [p3 j' e'] at hb'
        exact hold j' s hj' e' hb' rfl
    · by_cases e' : j' = (od + H.length) % 8
      · exfalso
        rw [e', p2] at hb'; cases hb'
        rw [p3 j e] at hb
        exact hold j s hj e hb rfl
      · rw [p3 j e] at hb
        rw [p3 j' e'] at hb'
        exact d1 j j' b hj hj' hb hb'
  · by_cases e : j = (od + H.length) % 8
    · rw [e, p2] at hb; cases hb
      exact himg i s hi hb' rfl
    · rw [p3 j e] at hb
      exact d2 j i b hj hi hb hb'
  · obtain ⟨y, hy⟩ := hR.2
    exact fun q q1 q2 => cl _ 21 hR.1 (ne_kind hy a4.1 (by decide)) (nes hy (by decide)) q q1 q2
section JUDGE3
variable {l : Launch} {G : sjG} {σ : sjS} {I : sjI}
theorem cx9_beginChange {x : Nat} {X : List Int} {S : aSt} {H : List aSt} {im : Nat → Option aSt} {pv ws cy : Option Nat} {η ξ μ : Nat → Option Nat} {od : Nat} (h : cJ σ I x X S H im pv ws cy η ξ μ od) (hR : rB σ x) : sj_Con l yX9_beginChange mX9_beginChange G σ I [.ref x] (fun r σ' I' => r = none ∧ (∃ η' od', cJ σ' I' x X S (jHs H S) im pv ws cy η' ξ μ od') ∧ fr I' pv ws ∧ tS σ I σ' I' ∧ rC σ I σ' I' x ∧ σ.1 ≤ σ'.1 ∧ ∀ q, x + 8 ≤ q → q ≤ x + 8 + 5 → I' q = I q) := by
  obtain ⟨ρ, r0, ⟨_, r1, r2, _⟩, _⟩ := h.1.1
  obtain ⟨τ, he, ht, hM⟩ := h.1.2.2.1
  have hh := h.1.2.2.2.1
  have h0 := hh.1
  refine sj_con_of (L0 := [some (.ref x)]) (by decide) rfl rfl rfl (Nat.le_of_ble_eq_true rfl) rfl (fun Γ => ?_)
  refine sj_wfV (fun hwf => ?_)
  refine sj_ald0 dX9_beginChange_0 ?_
  refine sj_getR fl_X9_26 (by assumption) rfl r2 dX9_beginChange_1 ?_
  refine sj_ald0 dX9_beginChange_4 ?_
  refine sj_getR fl_X9_19 (by assumption) rfl r1 dX9_beginChange_5 ?_
  refine sj_callV (cx3_record hh he ht.tk (fun s hs => by
    obtain ⟨q1, S', τ', q2, _⟩ := h.2.1.1 _ s (Nat.mod_lt _ (by decide)) hs
    exact ⟨q1, _, _, q2⟩)) kc_X9_219 (by assumption) rfl rfl rfl rfl (Nat.le_of_ble_eq_true rfl) dX9_beginChange_8 (fun r_8 σ_8 I_8 hp_8 => ?_)
  obtain ⟨rfl, s, η', ρ', p1, p2, p3, p4, p5, p6, p7, p8, p9⟩ := hp_8
  obtain ⟨⟨od', hj⟩, hT, hC, hD⟩ := h.recd hwf hR ⟨he, ht, hM⟩ p1 p2 p3 p4 p6 p7 p8 p9
  have hx0 := hj.1.1
  obtain ⟨ρ2, r20, _⟩ := id hx0
  refine sj_ald0 dX9_beginChange_11 ?_
  refine sj_callV (cx9_forgetPresentValues hj (hR.keep hC)) kc_X9_107 (by assumption) rfl rfl rfl rfl (Nat.le_of_ble_eq_true rfl) dX9_beginChange_12 (fun r_12 σ_12 I_12 hp_12 => ?_)
  obtain ⟨rfl, rfl, y1, y2, y3, y4⟩ := hp_12
  exact sj_vret dX9_beginChange_15 rfl (Nat.le_of_ble_eq_true rfl) (Nat.le_of_ble_eq_true rfl) ⟨rfl, ⟨η', od', y1⟩, y2, hT.tr y3, hC.tr (fun q q1 q2 => ⟨rfl, y4 q (by omega) q2⟩), p5, fun q q1 q2 => by rw [y4 q q1 (by omega)]; exact hD q q1 q2⟩
theorem cx9_setModulus {x : Nat} {m : Int} {X : List Int} {S : aSt} {H : List aSt} {im : Nat → Option aSt} (h : cI σ I x X S H im) (hR : rB σ x) (hm : -2147483648 ≤ m ∧ m < 2147483648) : sj_Con l yX9_setModulus mX9_setModulus G σ I [.ref x, .int (zI m)] (fun r σ' I' => rC σ I σ' I' x ∧ ((¬ (2 ≤ m ∧ m ≤ 10) ∧ r = some (.int (zI (-1))) ∧ cI σ' I' x X S H im) ∨ ((2 ≤ m ∧ m ≤ 10) ∧ r = some (.int (zI S.1)) ∧ cI σ' I' x X (m, S.2) (jHs H S) im))) := by
  obtain ⟨pv, ws, cy, η, ξ, μ, od, hj⟩ := id h
  obtain ⟨ρ, r0, ⟨_, r1, _⟩, _⟩ := hj.1.1
  obtain ⟨τ, he, ht, hM⟩ := hj.1.2.2.1
  have e0 := he.1
  refine sj_con_of (L0 := [some (.ref x), some (.int (zI m)), none]) (by decide) rfl rfl rfl (Nat.le_of_ble_eq_true rfl) rfl (fun Γ => ?_)
  refine sj_ild1 dX9_setModulus_0 ?_
  refine sj_iconst dX9_setModulus_1 ?_
  refine sj_icmp_lt 11 dX9_setModulus_2 (by decide) (by omega) (by omega) (fun c_2 => ?_) (fun c_2 => ?_)
  · refine sj_iconst dX9_setModulus_11 ?_
    exact sj_iret dX9_setModulus_12 rfl rfl (Nat.le_of_ble_eq_true rfl) (Nat.le_of_ble_eq_true rfl) ⟨rC.rf σ I x, Or.inl ⟨by omega, rfl, h⟩⟩
  · refine sj_ild1 dX9_setModulus_5 ?_
    refine sj_bipush dX9_setModulus_6 (by decide) ?_
    refine sj_icmp_le 13 dX9_setModulus_8 (by decide) (by omega) (by omega) (fun c_8 => ?_) (fun c_8 => ?_)
    · refine sj_ald0 dX9_setModulus_13 ?_
      refine sj_getR fl_X9_19 (by assumption) rfl r1 dX9_setModulus_14 ?_
      refine sj_getI fl_X9_79 (by assumption) rfl dX9_setModulus_17 ?_
      rw [he.2.2]
      refine sj_ist2 (by decide) rfl dX9_setModulus_20 ?_
      refine sj_ald0 dX9_setModulus_21 ?_
      refine sj_callV (cx9_beginChange hj hR) kc_X9_66 (by assumption) rfl rfl rfl rfl (Nat.le_of_ble_eq_true rfl) dX9_setModulus_22 (fun r_22 σ_22 I_22 hp_22 => ?_)
      obtain ⟨rfl, ⟨η', od', hj'⟩, x2, x3, x4, x5⟩ := hp_22
      obtain ⟨ρ', r0', ⟨_, r1', _⟩, _⟩ := id hj'.1.1
      obtain ⟨τ', he', ht', hM'⟩ := id hj'.1.2.2.1
      have e0' := he'.1
      refine sj_ald0 dX9_setModulus_25 ?_
      refine sj_getR fl_X9_19 (by assumption) rfl r1' dX9_setModulus_26 ?_
      refine sj_ild1 dX9_setModulus_29 ?_
      refine sj_putI fl_X9_79 (by assumption) rfl rfl rfl dX9_setModulus_30 ?_
      have hcl : ∀ q, ¬ (x + 4 ≤ q ∧ q ≤ x + 4 + 1) → cq σ_22 I_22 σ_22 (sj_up I_22 (x + 4) 0 m) q := fun q hq => ⟨rfl, sj_up_row (by omega)⟩
      obtain ⟨y1, y2⟩ := hj'.pres (S' := (m, S.2)) x2 hcl (fun hT => ⟨τ', ⟨he'.1, he'.2.1, sj_up_self _ _ _ _⟩, ht'.keep hT, by show 2 ≤ m ∧ m ≤ 10; omega⟩)
      refine sj_ild2 dX9_setModulus_33 ?_
      exact sj_iret dX9_setModulus_34 rfl rfl (Nat.le_of_ble_eq_true rfl) (Nat.le_of_ble_eq_true rfl) ⟨x4.tr (fun q q1 q2 => hcl q (by omega)), Or.inr ⟨by omega, rfl, pv, ws, cy, η', ξ, μ, od', y1⟩⟩
    · refine sj_iconst dX9_setModulus_11 ?_
      exact sj_iret dX9_setModulus_12 rfl rfl (Nat.le_of_ble_eq_true rfl) (Nat.le_of_ble_eq_true rfl) ⟨rC.rf σ I x, Or.inl ⟨by omega, rfl, h⟩⟩
end JUDGE3
