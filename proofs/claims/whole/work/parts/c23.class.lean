/-! changes of the class's state -/
/-- the present values are forgotten -/
def fr (I : sjI) (pv ws : Option Nat) : Prop := ∀ v w, pv = some v → ws = some w → I v 3 = 0 ∧ ∀ j, j < 3200 → I (vCl v w) j = 0
theorem cO_zero {M : Int} {E : Nat → Option (List Int)} {f : Nat → Int} (h : ∀ j, j < 3200 → f j = 0) : cO M E f := fun k hk => Or.inl (h k hk)
theorem tS.rf (σ : sjS) (I : sjI) : tS σ I σ I := fun _ _ h => h
theorem tS.tr {σ σ' σ2 : sjS} {I I' I2 : sjI} (h : tS σ I σ' I') (k : tS σ' I' σ2 I2) : tS σ I σ2 I2 := fun t T ht => k t T (h t T ht)
theorem xR.blk {σ : sjS} {x : Nat} {pv ws cy : Option Nat} (h : xR σ x pv ws cy) : blk σ x 0 := by
  obtain ⟨ρ, r0, _⟩ := h
  exact ⟨⟨_, _, r0, by decide⟩, fun j h1 h2 => absurd h1 (by omega)⟩
theorem rSh.keep {σ σ' : sjS} {r : Nat} (h : rSh σ r) (hk : ∀ q, r ≤ q → q ≤ r + 3 → σ'.2 q = σ.2 q) : rSh σ' r := ⟨by rw [hk r (by omega) (by omega)]; exact h.1, by rw [hk (r + 1) (by omega) (by omega)]; exact h.2.1, by rw [hk (r + 2) (by omega) (by omega)]; exact h.2.2.1, by rw [hk (r + 3) (by omega) (by omega)]; exact h.2.2.2⟩
theorem wSh.keep {σ σ' : sjS} {w : Nat} (h : wSh σ w) (hk : ∀ q, w ≤ q → q ≤ w + 4 → σ'.2 q = σ.2 q) : wSh σ' w := ⟨by rw [hk w (by omega) (by omega)]; exact h.1, by rw [hk (w + 1) (by omega) (by omega)]; exact h.2.1, by rw [hk (w + 2) (by omega) (by omega)]; exact h.2.2.1, by rw [hk (w + 3) (by omega) (by omega)]; exact h.2.2.2.1, by rw [hk (w + 4) (by omega) (by omega)]; exact h.2.2.2.2⟩
theorem ySh.keep {σ σ' : sjS} {y : Nat} (h : ySh σ y) (hk : ∀ q, y ≤ q → q ≤ y + 3 → σ'.2 q = σ.2 q) : ySh σ' y := ⟨by rw [hk y (by omega) (by omega)]; exact h.1, by rw [hk (y + 1) (by omega) (by omega)]; exact h.2.1, by rw [hk (y + 2) (by omega) (by omega)]; exact h.2.2.1, by rw [hk (y + 3) (by omega) (by omega)]; exact h.2.2.2⟩
theorem xR.keep {σ σ' : sjS} {x : Nat} {pv ws cy : Option Nat} (h : xR σ x pv ws cy) (hk : σ'.2 x = σ.2 x) : xR σ' x pv ws cy := by
  obtain ⟨ρ, r0, r1⟩ := h
  exact ⟨ρ, by rw [hk]; exact r0, r1⟩
theorem imO.keep {σ σ' : sjS} {I I' : sjI} {x : Nat} {ws r m : Option Nat} {S : Option aSt} (h : imO σ I x ws r m S) (hsys : ∀ s S', r = some s → sys σ I s S' → sys σ' I' s S') (hval : ∀ v s w S', m = some v → ws = some w → vals σ I v s w S' → vals σ' I' v s w S') : imO σ' I' x ws r m S := by
  rcases h with q | ⟨s, Si, q1, q2, q3, q4, q5⟩
  · exact Or.inl q
  · exact Or.inr ⟨s, Si, q1, q2, q3, hsys s Si q1 q4, q5.imp id (fun ⟨v, w, r1, r2, r3⟩ => ⟨v, w, r1, r2, hval v s w Si r1 r2 r3⟩)⟩
/-- nothing that stood is touched -/
theorem cJ.grow {σ σ' : sjS} {I I' : sjI} {x : Nat} {X : List Int} {S : aSt} {H : List aSt} {im : Nat → Option aSt} {pv ws cy : Option Nat} {η ξ μ : Nat → Option Nat} {od : Nat} (h : cJ σ I x X S H im pv ws cy η ξ μ od) (hwf : ∀ a y, σ.2 a = some y → a < σ.1) (hcl : ∀ q, q < σ.1 → σ'.2 q = σ.2 q ∧ (q ≠ x + 3 → I' q = I q)) : cJ σ' I' x X S H im pv ws cy η ξ μ od ∧ tS σ I σ' I' := by
  obtain ⟨⟨a1, a2, a3, a4, a5, a6, a7⟩, ⟨b1, b2⟩, c1, d1, e1, f1, g1⟩ := h
  have lt : ∀ a n, blk σ a n → ∀ q, a ≤ q → q ≤ a + n → q < σ.1 := fun a n hb q q1 q2 => by
    by_cases e : q = a
    · subst e; obtain ⟨⟨κ, y, k1, _⟩, _⟩ := hb; exact hwf _ _ k1
    · obtain ⟨κ, y, k1, _⟩ := hb.2 (q - a) (by omega) (by omega)
      rw [show a + (q - a) = q by omega] at k1
      exact hwf _ _ k1
  have cl : ∀ a n, blk σ a n → a ≠ x + 1 → ∀ q, a ≤ q → q ≤ a + n → cq σ I σ' I' q := fun a n hb hne q q1 q2 => by
    have := hcl q (lt a n hb q q1 q2)
    exact ⟨this.1, this.2 (by have := hb.off a2.blk hne; omega)⟩
  have hT : tS σ I σ' I' := fun t T ht => ht.keep (fun q q1 q2 => cl t 3 ht.blk (ne_kind ht.1.1 a2.1.1 (by decide)) q q1 q2)
  have hsys : ∀ s S', sys σ I s S' → sys σ' I' s S' := fun s S' hs => by
    have hne : s ≠ x + 1 := by obtain ⟨τ, q1, _⟩ := hs; exact ne_kind q1.1 a2.1.1 (by decide)
    exact hs.keep hT (cl s 1 hs.blk hne s (by omega) (by omega)) (cl s 1 hs.blk hne (s + 1) (by omega) (by omega))
  have hval : ∀ v s w S', wSh σ w → vals σ I v s w S' → vals σ' I' v s w S' := fun v s w S' hW hv => by
    have o := vRo hv.1 hW a2.blk (ne_kind hv.1.1 a2.1.1 (by decide)) (Or.inr (by decide))
    have l0 := hwf _ _ hv.1.1
    have l1 := hwf _ _ hv.1.2
    exact hv.keep ⟨(hcl v l0).1, (hcl v l0).2 (by omega)⟩ ⟨(hcl _ l1).1, (hcl _ l1).2 (by omega)⟩
  have t1 := lt _ 2 a2.blk
  have r1 := lt _ 5 (a5.blk a6 a7)
  refine ⟨⟨⟨a1.keep (hcl x (lt x 0 a1.blk x (by omega) (by omega))).1, a2.keep ⟨(hcl _ (t1 _ (by omega) (by omega))).1, (hcl _ (t1 _ (by omega) (by omega))).2 (by omega)⟩ ⟨(hcl _ (t1 _ (by omega) (by omega))).1, (hcl _ (t1 _ (by omega) (by omega))).2 (by omega)⟩ (hcl _ (t1 _ (by omega) (by omega))).1, hsys _ _ a3, a4.keep (cl _ 1 a4.blk (ne_kind a4.1 a2.1.1 (by decide)) _ (by omega) (by omega)) (cl _ 1 a4.blk (ne_kind a4.1 a2.1.1 (by decide)) _ (by omega) (by omega)).1, a5.keep (fun q q1 q2 => (hcl q (r1 q q1 (by omega))).1), by rw [(hcl _ (r1 (x + 12) (by omega) (by omega))).1]; exact a6, by rw [(hcl _ (r1 (x + 13) (by omega) (by omega))).1]; exact a7⟩, ⟨fun j s q1 q2 => ⟨(b1 j s q1 q2).1, (b1 j s q1 q2).2.imp (fun S' q => hsys s S' q)⟩, fun k S' q1 => (b2 k S' q1).imp (fun s q => ⟨q.1, hsys s S' q.2⟩)⟩, fun i hi => (c1 i hi).keep (fun s S' _ q => hsys s S' q) (fun v s w S' _ z q => hval v s w S' (f1 w z) q), d1, e1.imp id (fun ⟨v, w, q1, q2, q3⟩ => ⟨v, w, q1, q2, hval v _ w S (f1 w q2) q3⟩), fun w hw => (f1 w hw).keep (fun q q1 q2 => (hcl q (lt w 4 (f1 w hw).blk q q1 q2)).1), fun y hy => (g1 y hy).keep (fun q q1 q2 => (hcl q (lt y 3 (g1 y hy).blk q q1 q2)).1)⟩, hT⟩
/-- the present system is another one; its values were forgotten -/
theorem cJ.pres {σ σ' : sjS} {I I' : sjI} {x : Nat} {X : List Int} {S S' : aSt} {H : List aSt} {im : Nat → Option aSt} {pv ws cy : Option Nat} {η ξ μ : Nat → Option Nat} {od : Nat} (h : cJ σ I x X S H im pv ws cy η ξ μ od) (hf : fr I pv ws) (hcl : ∀ q, ¬ (x + 4 ≤ q ∧ q ≤ x + 4 + 1) → cq σ I σ' I' q) (hS : tS σ I σ' I' → sys σ' I' (x + 4) S') : cJ σ' I' x X S' H im pv ws cy η ξ μ od ∧ tS σ I σ' I' := by
  obtain ⟨⟨a1, a2, a3, a4, a5, a6, a7⟩, ⟨b1, b2⟩, c1, d1, e1, f1, g1⟩ := h
  have hb := a3.blk
  have hκ : σ.2 (x + 4) = some (1, 0, eρ (x + 4)) := by obtain ⟨τ, q1, _⟩ := a3; exact q1.1
  have cl : ∀ a n, blk σ a n → a ≠ x + 4 → ∀ q, a ≤ q → q ≤ a + n → cq σ I σ' I' q := fun a n ha hne q q1 q2 => hcl q (by have := ha.off hb hne; omega)
  have hT : tS σ I σ' I' := fun t T ht => ht.keep (fun q q1 q2 => cl t 3 ht.blk (ne_kind ht.1.1 hκ (by decide)) q q1 q2)
  have hsys : ∀ s S', s ≠ x + 4 → sys σ I s S' → sys σ' I' s S' := fun s S' hne hs => hs.keep hT (cl s 1 hs.blk hne s (by omega) (by omega)) (cl s 1 hs.blk hne (s + 1) (by omega) (by omega))
  have hvq : ∀ v s w S', wSh σ w → vals σ I v s w S' → cq σ I σ' I' v ∧ cq σ I σ' I' (vCl v w) := fun v s w S' hW hv => by
    have o := vRo hv.1 hW hb (ne_kind hv.1.1 hκ (by decide)) (Or.inr (by decide))
    exact ⟨hcl v (by omega), hcl _ (by omega)⟩
  have hval : ∀ v s w S', wSh σ w → vals σ I v s w S' → vals σ' I' v s w S' := fun v s w S' hW hv => hv.keep (hvq v s w S' hW hv).1 (hvq v s w S' hW hv).2
  have cx : cq σ I σ' I' x := hcl x (by omega)
  refine ⟨⟨⟨a1.keep cx.1, a2.keep (hcl _ (by omega)) (hcl _ (by omega)) (hcl _ (by omega)).1, hS hT, a4.keep (hcl _ (by omega)) (hcl _ (by omega)).1, a5.keep (fun q q1 q2 => (hcl q (by omega)).1), by rw [(hcl (x + 12) (by omega)).1]; exact a6, by rw [(hcl (x + 13) (by omega)).1]; exact a7⟩, ⟨fun j s q1 q2 => ⟨(b1 j s q1 q2).1, (b1 j s q1 q2).2.imp (fun S' q => hsys s S' (b1 j s q1 q2).1 q)⟩, fun k S' q1 => ?_⟩, fun i hi => ?_, d1, ?_, fun w hw => (f1 w hw).keep (fun q q1 q2 => (cl w 4 (f1 w hw).blk (ne_kind (f1 w hw).1 hκ (by decide)) q q1 q2).1), fun y hy => (g1 y hy).keep (fun q q1 q2 => (cl y 3 (g1 y hy).blk (ne_kind (g1 y hy).1 hκ (by decide)) q q1 q2).1)⟩, hT⟩
  · obtain ⟨s, q2, q3⟩ := b2 k S' q1
    exact ⟨s, q2, hsys s S' (b1 _ s (Nat.mod_lt _ (by decide)) q2).1 q3⟩
  · rcases c1 i hi with q | ⟨s, Si, q1, q2, q3, q4, q5⟩
    · exact Or.inl q
    · exact Or.inr ⟨s, Si, q1, q2, q3, hsys s Si q3 q4, q5.imp id (fun ⟨v, w, r1, r2, r3⟩ => ⟨v, w, r1, r2, hval v s w Si (f1 w r2) r3⟩)⟩
  · rcases e1 with q | ⟨v, w, q1, q2, q3⟩
    · exact Or.inl q
    · obtain ⟨z1, z2⟩ := hf v w q1 q2
      have k := hval v _ w S (f1 w q2) q3
      have k0 := (hvq v _ w S (f1 w q2) q3).1.2
      have k1 := (hvq v _ w S (f1 w q2) q3).2.2
      exact Or.inr ⟨v, w, q1, q2, k.1, cO_zero (fun j hj => by rw [k1]; exact z2 j hj), Or.inr ⟨by rw [k0]; exact z1, fun j hj => by rw [k1]; exact z2 j hj⟩⟩
/-- the present values are forgotten -/
theorem cJ.fgt {σ : sjS} {I I' : sjI} {x v w : Nat} {X : List Int} {S : aSt} {H : List aSt} {im : Nat → Option aSt} {cy : Option Nat} {η ξ μ : Nat → Option Nat} {od : Nat} (h : cJ σ I x X S H im (some v) (some w) cy η ξ μ od) (hcl : ∀ q, q ≠ v → q ≠ vCl v w → I' q = I q) (h0 : I' v 3 = 0) (h1 : ∀ j, j < 3200 → I' (vCl v w) j = 0) : cJ σ I' x X S H im (some v) (some w) cy η ξ μ od ∧ fr I' (some v) (some w) ∧ tS σ I σ I' := by
  obtain ⟨⟨a1, a2, a3, a4, a5, a6, a7⟩, ⟨b1, b2⟩, c1, d1, e1, f1, g1⟩ := h
  have hW := f1 w rfl
  have hv : vals σ I v (x + 4) w S := by
    rcases e1 with q | ⟨v', w', q1, q2, q3⟩
    · cases q
    · cases q1; cases q2; exact q3
  have hκ := hv.1.1
  have cl : ∀ a n, blk σ a n → a ≠ v → (a ≠ w ∨ n ≤ 4) → ∀ q, a ≤ q → q ≤ a + n → cq σ I σ I' q := fun a n ha hne hn q q1 q2 => ⟨rfl, by have := vRo hv.1 hW ha hne.symm (hn.imp (fun z e => z e.symm) id); exact hcl q (by omega) (by omega)⟩
  have hT : tS σ I σ I' := fun t T ht => ht.keep (fun q q1 q2 => cl t 3 ht.blk (ne_kind ht.1.1 hκ (by decide)) (Or.inr (by decide)) q q1 q2)
  have hsys : ∀ s S', sys σ I s S' → sys σ I' s S' := fun s S' hs => by
    have hne : s ≠ v := by obtain ⟨τ, q1, _⟩ := hs; exact ne_kind q1.1 hκ (by decide)
    exact hs.keep hT (cl s 1 hs.blk hne (Or.inr (by decide)) s (by omega) (by omega)) (cl s 1 hs.blk hne (Or.inr (by decide)) (s + 1) (by omega) (by omega))
  refine ⟨⟨⟨a1, a2.keep (cl _ 2 a2.blk (ne_kind a2.1.1 hκ (by decide)) (Or.inr (by decide)) _ (by omega) (by omega)) (cl _ 2 a2.blk (ne_kind a2.1.1 hκ (by decide)) (Or.inr (by decide)) _ (by omega) (by omega)) rfl, hsys _ _ a3, a4.keep (cl _ 1 a4.blk (ne_kind a4.1 hκ (by decide)) (Or.inr (by decide)) _ (by omega) (by omega)) rfl, a5, a6, a7⟩, ⟨fun j s q1 q2 => ⟨(b1 j s q1 q2).1, (b1 j s q1 q2).2.imp (fun S' q => hsys s S' q)⟩, fun k S' q1 => (b2 k S' q1).imp (fun s q => ⟨q.1, hsys s S' q.2⟩)⟩, fun i hi => ?_, d1, Or.inr ⟨v, w, rfl, rfl, hv.1, cO_zero h1, Or.inr ⟨h0, h1⟩⟩, f1, g1⟩, fun v' w' e e' => by cases e; cases e'; exact ⟨h0, h1⟩, hT⟩
  rcases c1 i hi with q | ⟨s, Si, q1, q2, q3, q4, q5⟩
  · exact Or.inl q
  · refine Or.inr ⟨s, Si, q1, q2, q3, hsys s Si q4, q5.imp id (fun ⟨v2, w2, r1, r2, r3⟩ => ⟨v2, w2, r1, r2, ?_⟩)⟩
    cases r2
    have hne : v2 ≠ v := fun e => by
      have e1 := r3.1.1
      rw [e, hκ] at e1
      injection e1 with e1
      have e2 := congrFun (congrArg (fun z => z.2.2) e1) 0
      have e3 : some (x + 4) = some s := e2
      injection e3 with e3
      exact q3 e3.symm
    have o1 := vRo r3.1 hW hv.1.blk hne (Or.inr (by decide))
    have o2 := vRo hv.1 hW r3.1.blk hne.symm (Or.inr (by decide))
    have c3 := vCl_cs v w
    have c4 := vCl_cs v2 w
    have c5 := hv.1.off hW
    have c6 := r3.1.off hW
    exact r3.keep ⟨rfl, hcl v2 (by omega) (by omega)⟩ ⟨rfl, hcl _ (by omega) (by omega)⟩
section JUDGE2
variable {l : Launch} {G : sjG} {σ : sjS} {I : sjI}
theorem cx9_forgetPresentValues {x : Nat} {X : List Int} {S : aSt} {H : List aSt} {im : Nat → Option aSt} {pv ws cy : Option Nat} {η ξ μ : Nat → Option Nat} {od : Nat} (h : cJ σ I x X S H im pv ws cy η ξ μ od) (hR : blk σ (x + 14) 21 ∧ ∃ y, σ.2 (x + 14) = some (9, y)) : sj_Con l yX9_forgetPresentValues mX9_forgetPresentValues G σ I [.ref x] (fun r σ' I' => r = none ∧ σ = σ' ∧ cJ σ I' x X S H im pv ws cy η ξ μ od ∧ fr I' pv ws ∧ tS σ I σ I' ∧ ∀ q, x + 8 ≤ q → q ≤ x + 14 + 21 → I' q = I q) := by
  obtain ⟨ρ, r0, _, r6, _, _⟩ := h.1.1
  refine sj_con_of (L0 := [some (.ref x)]) (by decide) rfl rfl rfl (Nat.le_of_ble_eq_true rfl) rfl (fun Γ => ?_)
  rcases optEx pv with rfl | ⟨v, rfl⟩
  · refine sj_ald0 dX9_forgetPresentValues_0 ?_
    refine sj_getNull fl_X9_222 (by assumption) rfl r6 dX9_forgetPresentValues_1 ?_
    refine sj_ifnullN 14 dX9_forgetPresentValues_4 (by decide) ?_
    exact sj_vret dX9_forgetPresentValues_14 rfl (Nat.le_of_ble_eq_true rfl) (Nat.le_of_ble_eq_true rfl) ⟨rfl, rfl, h, fun v w e e' => (by cases e), tS.rf σ I, fun _ _ _ => rfl⟩
  · obtain ⟨w, rfl, hv⟩ : ∃ w, ws = some w ∧ vals σ I v (x + 4) w S := by
      rcases h.2.2.2.2.1 with q | ⟨v', w, q1, q2, q3⟩
      · cases q
      · cases q1; exact ⟨w, q2, q3⟩
    have v0 := hv.1.1
    have hW := h.2.2.2.2.2.1 w rfl
    have off := vRo hv.1 hW hR.1 (by obtain ⟨y, hy⟩ := hR.2; exact ne_kind v0 hy (by decide)) (Or.inl (by obtain ⟨y, hy⟩ := hR.2; exact ne_kind hW.1 hy (by decide)))
    have off2 := vRo hv.1 hW (h.1.2.2.2.2.1.blk h.1.2.2.2.2.2.1 h.1.2.2.2.2.2.2) (ne_kind v0 h.1.2.2.2.2.1.1 (by decide)) (Or.inl (ne_kind hW.1 h.1.2.2.2.2.1.1 (by decide)))
    refine sj_ald0 dX9_forgetPresentValues_0 ?_
    refine sj_getR fl_X9_222 (by assumption) rfl r6 dX9_forgetPresentValues_1 ?_
    refine sj_ifnull dX9_forgetPresentValues_4 ?_
    refine sj_ald0 dX9_forgetPresentValues_7 ?_
    refine sj_getR fl_X9_222 (by assumption) rfl r6 dX9_forgetPresentValues_8 ?_
    refine sj_callV (cx7_forget hv.1 (by rcases hv.2.2 with q | q; exact Or.inr q; exact Or.inl q.1)) kc_X9_209 (by assumption) rfl rfl rfl rfl (Nat.le_of_ble_eq_true rfl) dX9_forgetPresentValues_11 (fun r_11 σ_11 I_11 hp_11 => ?_)
    obtain ⟨rfl, rfl, x1, x2, x3⟩ := hp_11
    have z : ∀ j, j < 3200 → I_11 (vCl v w) j = 0 := by
      rcases x3 with ⟨x4, x5⟩ | x4
      · rw [x5]
        rcases hv.2.2 with q | q
        · rw [q] at x4; cases x4
        · exact q.2
      · exact x4
    obtain ⟨y1, y2, y3⟩ := h.fgt x1 x2 z
    exact sj_vret dX9_forgetPresentValues_14 rfl (Nat.le_of_ble_eq_true rfl) (Nat.le_of_ble_eq_true rfl) ⟨rfl, rfl, y1, y2, y3, fun q q1 q2 => x1 q (by omega) (by omega)⟩
end JUDGE2
