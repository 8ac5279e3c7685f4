theorem vals.ref {σ : sjS} {I : sjI} {v v' s s' w : Nat} {S S' : aSt} (h : vals σ I v s w S) (h' : vals σ I v' s' w S') (hne : s ≠ s') : v ≠ v' := fun e => by
  have e1 := h.1.1
  rw [e, h'.1.1] at e1
  injection e1 with e1
  have e2 := congrFun (congrArg (fun z => z.2.2) e1) 0
  have e3 : some s' = some s := e2
  injection e3 with e3
  exact hne e3.symm
/-- two objects of values are apart -/
theorem vals.two {σ : sjS} {I : sjI} {v v' s s' w : Nat} {S S' : aSt} (h : vals σ I v s w S) (h' : vals σ I v' s' w S') (hW : wSh σ w) (hne : v ≠ v') : v ≠ v' ∧ v ≠ vCl v' w ∧ vCl v w ≠ v' ∧ vCl v w ≠ vCl v' w := by
  have o1 := vRo h.1 hW h'.1.blk hne (Or.inr (by decide))
  have o2 := vRo h'.1 hW h.1.blk hne.symm (Or.inr (by decide))
  have c3 := vCl_cs v w
  have c4 := vCl_cs v' w
  have c5 := h.1.off hW
  have c6 := h'.1.off hW
  omega
/-- an image is kept -/
theorem cJ.kep {σ σ' : sjS} {I I' : sjI} {x s i : Nat} {X : List Int} {S : aSt} {H : List aSt} {im : Nat → Option aSt} {pv ws cy : Option Nat} {η ξ μ ξ' τ ρ : Nat → Option Nat} {od : Nat} (h : cJ σ I x X S H im pv ws cy η ξ μ od) (hwf : ∀ a y, σ.2 a = some y → a < σ.1) (hR : rB σ x) (hi : i < 2) (hτ : eqn σ I (x + 4) S.1 τ ∧ te σ I τ S.2 ∧ (2 ≤ S.1 ∧ S.1 ≤ 10)) (p1 : ξ i = some s ∨ (ξ i = none ∧ s = σ.1)) (p2 : ξ' i = some s) (p3 : ∀ j, j ≠ i → ξ' j = ξ j) (p4 : ∀ a, a < 8 → ρ a = τ a) (p6 : ∀ q, q < σ.1 → q ≠ x + 12 → q ≠ s + 1 → σ'.2 q = σ.2 q) (p7 : ∀ q, q < σ.1 → q ≠ s → (∀ v w, μ i = some v → ws = some w → q ≠ v ∧ q ≠ vCl v w) → I' q = I q) (p8 : eqn σ' I' s S.1 ρ) (p9 : σ'.2 (x + 12) = some (14, 2, ξ')) (p10 : ∀ v w, μ i = some v → ws = some w → I' v 3 = 0 ∧ ∀ j, j < 3200 → I' (vCl v w) j = 0) : cJ σ' I' x X S H (fun k => if k = i then some S else im k) pv ws cy η ξ' μ od ∧ tS σ I σ' I' ∧ rC σ I σ' I' x := by
  obtain ⟨⟨a1, a2, a3, a4, a5, a6, a7⟩, ⟨b1, b2⟩, c1, ⟨d1, d2, d3⟩, e1, f1, g1⟩ := h
  have rb := a5.blk a6 a7
  have himv : ∀ v w, μ i = some v → ws = some w → ∃ Si, vals σ I v s w Si := fun v w hv hw => by
    rcases c1 i hi with z | ⟨b, Si, z1, z2, z3, z4, z5⟩
    · rw [z.2.1] at hv; cases hv
    · rcases z5 with z | ⟨v', w', y1, y2, y3⟩
      · rw [z] at hv; cases hv
      · rw [y1] at hv; cases hv
        rw [y2] at hw; cases hw
        rcases p1 with q | q
        · rw [z1] at q; cases q; exact ⟨Si, y3⟩
        · rw [z1] at q; cases q.1
  have sblk : s < σ.1 → blk σ s 1 ∧ (∃ y, σ.2 s = some (1, y)) ∧ ∃ y, σ.2 (s + 1) = some (13, y) := fun hs => by
    rcases p1 with q | q
    · rcases c1 i hi with z | ⟨b, Si, z1, z2, z3, z4, z5⟩
      · rw [z.1] at q; cases q
      · rw [z1] at q; cases q
        obtain ⟨τ', q1, _⟩ := id z4
        exact ⟨z4.blk, ⟨_, q1.1⟩, _, q1.2.1⟩
    · omega
  have s4 : s ≠ x + 4 := by
    rcases p1 with q | q
    · rcases c1 i hi with z | ⟨b, Si, z1, z2, z3, z4, z5⟩
      · rw [z.1] at q; cases q
      · rw [z1] at q; cases q; exact z3
    · have := hwf _ _ hτ.1.1; omega
  have nes : ∀ {a κ : Nat} {y : Nat × (Nat → Option Nat)}, σ.2 a = some (κ, y) → κ ≠ 1 → a ≠ s := fun {a κ y} hy hk => by
    by_cases hs : s < σ.1
    · obtain ⟨_, ⟨z, hz⟩, _⟩ := sblk hs; exact ne_kind hy hz hk
    · have := hwf _ _ hy; omega
  have nes1 : ∀ {a κ : Nat} {y : Nat × (Nat → Option Nat)}, σ.2 a = some (κ, y) → κ ≠ 13 → a ≠ s + 1 := fun {a κ y} hy hk => by
    by_cases hs : s < σ.1
    · obtain ⟨_, _, z, hz⟩ := sblk hs; exact ne_kind hy hz hk
    · have := hwf _ _ hy; omega
  have cl : ∀ (a n κ : Nat) (y : Nat × (Nat → Option Nat)), blk σ a n → σ.2 a = some (κ, y) → κ ≠ 3 → κ ≠ 6 → (κ ≠ 7 ∨ n ≤ 4) → a ≠ s → ∀ q, a ≤ q → q ≤ a + n → cq σ I σ' I' q := fun a n κ y hb hy k3 k6 k7 n2 q q1 q2 => by
    have hlt := hb.lt hwf q1 q2
    have o1 := hb.off rb (ne_kind hy a5.1 k3)
    have o2 : q ≠ s ∧ q ≠ s + 1 := by
      by_cases hs : s < σ.1
      · have := hb.off (sblk hs).1 n2; omega
      · omega
    refine ⟨p6 q hlt (by omega) o2.2, p7 q hlt o2.1 (fun v w hv hw => ?_)⟩
    obtain ⟨Si, z⟩ := himv v w hv hw
    have := vRo z.1 (f1 w hw) hb (Ne.symm (ne_kind hy z.1.1 k6)) (k7.imp (fun q => Ne.symm (ne_kind hy (f1 w hw).1 q)) id)
    omega
  have hT : tS σ I σ' I' := fun t T ht => ht.keep (fun q q1 q2 => cl t 3 _ _ ht.blk ht.1.1 (by decide) (by decide) (Or.inl (by decide)) (nes ht.1.1 (by decide)) q q1 q2)
  have hsys : ∀ b S', b ≠ s → sys σ I b S' → sys σ' I' b S' := fun b S' hne hs => by
    obtain ⟨τ', q1, _⟩ := id hs
    have c := cl b 1 _ _ hs.blk q1.1 (by decide) (by decide) (Or.inl (by decide)) hne
    exact hs.keep hT (c b (by omega) (by omega)) (c (b + 1) (by omega) (by omega))
  have hval : ∀ v b w S', b ≠ s → ws = some w → vals σ I v b w S' → vals σ' I' v b w S' := fun v b w S' hne hw hv => by
    have l0 := hwf _ _ hv.1.1
    have l1 := hwf _ _ hv.1.2
    refine hv.keep ⟨p6 _ l0 (ne_kind hv.1.1 a6 (by decide)) (nes1 hv.1.1 (by decide)), p7 _ l0 (nes hv.1.1 (by decide)) (fun v2 w2 h2 hw2 => ?_)⟩ ⟨p6 _ l1 (ne_kind hv.1.2 a6 (by decide)) (nes1 hv.1.2 (by decide)), p7 _ l1 (nes hv.1.2 (by decide)) (fun v2 w2 h2 hw2 => ?_)⟩
    · rw [hw] at hw2; cases hw2
      obtain ⟨Si, z⟩ := himv v2 w h2 hw
      have := hv.two z (f1 w hw) (hv.ref z hne)
      exact ⟨this.1, this.2.1⟩
    · rw [hw] at hw2; cases hw2
      obtain ⟨Si, z⟩ := himv v2 w h2 hw
      have := hv.two z (f1 w hw) (hv.ref z hne)
      exact ⟨this.2.2.1, this.2.2.2⟩
  have hnew : sys σ' I' s S := ⟨ρ, p8, (hτ.2.1.keep hT).cong p4, hτ.2.2⟩
  have hold : ∀ j b, j < 8 → η j = some b → b ≠ s := fun j b hj hb e => by
    rcases p1 with q | q
    · exact d2 j i b hj hi hb (by rw [e]; exact q)
    · obtain ⟨S', hS'⟩ := (b1 j b hj hb).2
      have := hS'.blk.lt hwf (q := b) (by omega) (by omega)
      omega
  have himg : ∀ k b, k < 2 → k ≠ i → ξ k = some b → b ≠ s := fun k b hk hki hb e => by
    rcases p1 with q | q
    · rw [e] at hb
      rcases (show (k = 0 ∧ i = 1) ∨ (k = 1 ∧ i = 0) by omega) with ⟨rfl, rfl⟩ | ⟨rfl, rfl⟩
      · exact d3 s hb q
      · exact d3 s q hb
    · rcases c1 k hk with z | ⟨b', Si, z1, z2, z3, z4, _⟩
      · rw [z.1] at hb; cases hb
      · rw [z1] at hb; cases hb
        have := z4.blk.lt hwf (q := b) (by omega) (by omega)
        omega
  have clr : ∀ q, x + 8 ≤ q → q ≤ x + 8 + 5 → q ≠ x + 12 → σ'.2 q = σ.2 q := fun q q1 q2 q3 => by
    have hlt := rb.lt hwf q1 q2
    refine p6 q hlt q3 ?_
    by_cases hs : s < σ.1
    · have := rb.off (sblk hs).1 (nes a5.1 (by decide)); omega
    · omega
  have hx0 : σ'.2 x = σ.2 x := by obtain ⟨ρx, q0, _⟩ := id a1; exact p6 x (hwf _ _ q0) (by omega) (nes1 q0 (by decide))
  have clt := cl _ 2 _ _ a2.blk a2.1.1 (by decide) (by decide) (Or.inl (by decide)) (nes a2.1.1 (by decide))
  have clh := cl _ 1 _ _ a4.blk a4.1 (by decide) (by decide) (Or.inl (by decide)) (nes a4.1 (by decide))
  refine ⟨⟨⟨a1.keep hx0, a2.keep (clt _ (by omega) (by omega)) (clt _ (by omega) (by omega)) (clt _ (by omega) (by omega)).1, hsys _ _ (fun e => s4 e.symm) a3, a4.keep (clh _ (by omega) (by omega)) (clh _ (by omega) (by omega)).1, a5.keep (fun q q1 q2 => clr q q1 (by omega) (by omega)), p9, by rw [clr (x + 13) (by omega) (by omega) (by omega)]; exact a7⟩, ⟨fun j b hj hb => ⟨(b1 j b hj hb).1, (b1 j b hj hb).2.imp (fun S' q => hsys b S' (hold j b hj hb) q)⟩, fun k S' hk => ?_⟩, fun k hk => ?_, ⟨d1, fun j k b hj hk hb hb' => ?_, fun b hb hb' => ?_⟩, e1.imp id (fun ⟨v, w, q1, q2, q3⟩ => ⟨v, w, q1, q2, hval v _ w S (fun e => s4 e.symm) q2 q3⟩), fun w hw => (f1 w hw).keep (fun q q1 q2 => (cl w 4 _ _ (f1 w hw).blk (f1 w hw).1 (by decide) (by decide) (Or.inr (by decide)) (nes (f1 w hw).1 (by decide)) q q1 q2).1), fun y hy => (g1 y hy).keep (fun q q1 q2 => (cl y 3 _ _ (g1 y hy).blk (g1 y hy).1 (by decide) (by decide) (Or.inl (by decide)) (nes (g1 y hy).1 (by decide)) q q1 q2).1)⟩, hT, ?_⟩
  · obtain ⟨b, z1, z2⟩ := b2 k S' hk
    exact ⟨b, z1, hsys b S' (hold _ b (Nat.mod_lt _ (by decide)) z1) z2⟩
  · by_cases e : k = i
    · subst e
      refine Or.inr ⟨s, S, p2, if_pos rfl, s4, hnew, ?_⟩
      rcases optEx (μ k) with e2 | ⟨v, e2⟩
      · exact Or.inl e2
      · have hw : ∃ w, ws = some w := by
          rcases c1 k hk with z | ⟨b, Si, z1, z2, z3, z4, z5⟩
          · rw [z.2.1] at e2; cases e2
          · rcases z5 with z | ⟨v', w', y1, y2, y3⟩
            · rw [z] at e2; cases e2
            · exact ⟨w', y2⟩
        obtain ⟨w, hw⟩ := hw
        obtain ⟨Si, z⟩ := himv v w e2 hw
        obtain ⟨t1, t2⟩ := p10 v w e2 hw
        exact Or.inr ⟨v, w, e2, hw, ⟨by rw [p6 _ (hwf _ _ z.1.1) (ne_kind z.1.1 a6 (by decide)) (nes1 z.1.1 (by decide))]; exact z.1.1, by rw [p6 _ (hwf _ _ z.1.2) (ne_kind z.1.2 a6 (by decide)) (nes1 z.1.2 (by decide))]; exact z.1.2⟩, cO_zero t2, Or.inr ⟨t1, t2⟩⟩
    · show imO σ' I' x ws (ξ' k) (μ k) (if k = i then some S else im k)
      rw [p3 k e, if_neg e]
      rcases c1 k hk with z | ⟨b, Si, z1, z2, z3, z4, z5⟩
      · exact Or.inl z
      · have hne := himg k b hk e z1
        exact Or.inr ⟨b, Si, z1, z2, z3, hsys b Si hne z4, z5.imp id (fun ⟨v, w, r1, r2, r3⟩ => ⟨v, w, r1, r2, hval v b w Si hne r2 r3⟩)⟩
  · by_cases e : k = i
    · rw [e, p2] at hb'; cases hb'
      exact hold j s hj hb rfl
    · rw [p3 k e] at hb'
      exact d2 j k b hj hk hb hb'
  · rcases (show i = 0 ∨ i = 1 by omega) with rfl | rfl
    · rw [p2] at hb; cases hb
      rw [p3 1 (by decide)] at hb'
      exact himg 1 s (by decide) (by decide) hb' rfl
    · rw [p2] at hb'; cases hb'
      rw [p3 0 (by decide)] at hb
      exact himg 0 s (by decide) (by decide) hb rfl
  · obtain ⟨y, hy⟩ := hR.2
    exact fun q q1 q2 => cl _ 21 _ _ hR.1 hy (by decide) (by decide) (Or.inl (by decide)) (nes hy (by decide)) q q1 q2
