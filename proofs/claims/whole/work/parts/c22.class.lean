/-! blocks: an object and the rows behind it -/
def blk (σ : sjS) (a n : Nat) : Prop := (∃ κ x, σ.2 a = some (κ, x) ∧ κ < 10) ∧ ∀ j, 1 ≤ j → j ≤ n → ∃ κ x, σ.2 (a + j) = some (κ, x) ∧ 10 ≤ κ
theorem blk.off {σ : sjS} {a n b m : Nat} (h : blk σ a n) (k : blk σ b m) (hne : a ≠ b) : a + n < b ∨ b + m < a := by
  by_cases e : a + n < b ∨ b + m < a
  · exact e
  · exfalso
    obtain ⟨⟨κ, x, h1, h2⟩, h3⟩ := h
    obtain ⟨⟨κ', x', k1, k2⟩, k3⟩ := k
    by_cases c : a < b
    · obtain ⟨κ2, x2, h4, h5⟩ := h3 (b - a) (by omega) (by omega)
      rw [show a + (b - a) = b by omega, k1] at h4
      cases h4
      omega
    · obtain ⟨κ2, x2, h4, h5⟩ := k3 (a - b) (by omega) (by omega)
      rw [show b + (a - b) = a by omega, h1] at h4
      cases h4
      omega
theorem tm.blk {σ : sjS} {I : sjI} {t : Nat} {T : List Int} (h : tm σ I t T) : blk σ t 3 := by
  obtain ⟨s0, s1, s2, s3⟩ := h.1
  refine ⟨⟨_, _, s0, by decide⟩, fun j h1 h2 => ?_⟩
  rcases (show j = 1 ∨ j = 2 ∨ j = 3 by omega) with rfl | rfl | rfl
  · exact ⟨_, _, s1, by decide⟩
  · exact ⟨_, _, s2, by decide⟩
  · exact ⟨_, _, s3, by decide⟩
theorem eqn.blk {σ : sjS} {I : sjI} {e : Nat} {M : Int} {τ : Nat → Option Nat} (h : eqn σ I e M τ) : blk σ e 1 :=
  ⟨⟨_, _, h.1, by decide⟩, fun j h1 h2 => by rw [show j = 1 by omega]; exact ⟨_, _, h.2.1, by decide⟩⟩
theorem his.blk {σ : sjS} {I : sjI} {h : Nat} {η : Nat → Option Nat} {od ct : Nat} (k : his σ I h η od ct) : blk σ h 1 :=
  ⟨⟨_, _, k.1, by decide⟩, fun j h1 h2 => by rw [show j = 1 by omega]; exact ⟨_, _, k.2.1, by decide⟩⟩
theorem vSh.blk {σ : sjS} {v e w : Nat} (h : vSh σ v e w) : blk σ v 0 := ⟨⟨_, _, h.1, by decide⟩, fun j h1 h2 => absurd h1 (by omega)⟩
theorem tx.blk {σ : sjS} {I : sjI} {b : Nat} {X : List Int} (h : tx σ I b X) : blk σ b 2 := by
  obtain ⟨s0, s1, s2⟩ := h.1
  refine ⟨⟨_, _, s0, by decide⟩, fun j h1 h2 => ?_⟩
  rcases (show j = 1 ∨ j = 2 by omega) with rfl | rfl
  · exact ⟨_, _, s1, by decide⟩
  · exact ⟨_, _, s2, by decide⟩
theorem wSh.blk {σ : sjS} {w : Nat} (h : wSh σ w) : blk σ w 4 := by
  obtain ⟨s0, s1, s2, s3, s4⟩ := h
  refine ⟨⟨_, _, s0, by decide⟩, fun j h1 h2 => ?_⟩
  rcases (show j = 1 ∨ j = 2 ∨ j = 3 ∨ j = 4 by omega) with rfl | rfl | rfl | rfl
  · exact ⟨_, _, s1, by decide⟩
  · exact ⟨_, _, s2, by decide⟩
  · exact ⟨_, _, s3, by decide⟩
  · exact ⟨_, _, s4, by decide⟩
/-- an object of values and its row are outside of a block -/
theorem vRo {σ : sjS} {v e w b n : Nat} (h : vSh σ v e w) (hW : wSh σ w) (hb : blk σ b n) (hv : v ≠ b) (hn : w ≠ b ∨ n ≤ 4) : (v < b ∨ b + n < v) ∧ (vCl v w < b ∨ b + n < vCl v w) := by
  have o := h.blk.off hb hv
  have o2 := hW.blk
  rcases vCl_cs v w with ⟨c1, c2⟩ | ⟨c1, c2⟩
  · have h5 : blk σ w 5 := ⟨o2.1, fun j j1 j2 => by
      by_cases e : j ≤ 4
      · exact o2.2 j j1 e
      · have := h.2
        rw [c2] at this
        exact ⟨_, _, by rw [show w + j = v + 6 by omega]; exact this, by decide⟩⟩
    by_cases e : w = b
    · omega
    · have := h5.off hb e
      omega
  · have h1 : blk σ v 1 := ⟨h.blk.1, fun j j1 j2 => by
      have := h.2
      rw [c2] at this
      exact ⟨_, _, by rw [show v + j = v + 1 by omega]; exact this, by decide⟩⟩
    have := h1.off hb hv
    omega
theorem ySh.blk {σ : sjS} {y : Nat} (h : ySh σ y) : blk σ y 3 := by
  obtain ⟨s0, s1, s2, s3⟩ := h
  refine ⟨⟨_, _, s0, by decide⟩, fun j h1 h2 => ?_⟩
  rcases (show j = 1 ∨ j = 2 ∨ j = 3 by omega) with rfl | rfl | rfl
  · exact ⟨_, _, s1, by decide⟩
  · exact ⟨_, _, s2, by decide⟩
  · exact ⟨_, _, s3, by decide⟩
theorem rSh.blk {σ : sjS} {r : Nat} {n1 n2 : Nat} {ξ μ : Nat → Option Nat} (h : rSh σ r) (h4 : σ.2 (r + 4) = some (14, n1, ξ)) (h5 : σ.2 (r + 5) = some (15, n2, μ)) : blk σ r 5 := by
  obtain ⟨s0, s1, s2, s3⟩ := h
  refine ⟨⟨_, _, s0, by decide⟩, fun j h1 h2 => ?_⟩
  rcases (show j = 1 ∨ j = 2 ∨ j = 3 ∨ j = 4 ∨ j = 5 by omega) with rfl | rfl | rfl | rfl | rfl
  · exact ⟨_, _, s1, by decide⟩
  · exact ⟨_, _, s2, by decide⟩
  · exact ⟨_, _, s3, by decide⟩
  · exact ⟨_, _, h4, by decide⟩
  · exact ⟨_, _, h5, by decide⟩
theorem mSh.blk {σ : sjS} {o : Nat} (h : mSh σ o) : blk σ o 21 := by
  obtain ⟨h_o, h_w, h_past, h_images, h_text, h_read, h_made, h_old, h_values, h_ranks, h_operator, h_indexAt, h_second, h_first, h_needed, h_shifts, h_around, h_best, h_isNeeded, h_toSee, h_held, h_there⟩ := h
  refine ⟨⟨_, _, h_o, by decide⟩, fun j h1 h2 => ?_⟩
  rcases (show j = 1 ∨ j = 2 ∨ j = 3 ∨ j = 4 ∨ j = 5 ∨ j = 6 ∨ j = 7 ∨ j = 8 ∨ j = 9 ∨ j = 10 ∨ j = 11 ∨ j = 12 ∨ j = 13 ∨ j = 14 ∨ j = 15 ∨ j = 16 ∨ j = 17 ∨ j = 18 ∨ j = 19 ∨ j = 20 ∨ j = 21 by omega) with rfl | rfl | rfl | rfl | rfl | rfl | rfl | rfl | rfl | rfl | rfl | rfl | rfl | rfl | rfl | rfl | rfl | rfl | rfl | rfl | rfl
  · exact ⟨_, _, h_w, by decide⟩
  · exact ⟨_, _, h_past, by decide⟩
  · exact ⟨_, _, h_images, by decide⟩
  · exact ⟨_, _, h_text, by decide⟩
  · exact ⟨_, _, h_read, by decide⟩
  · exact ⟨_, _, h_made, by decide⟩
  · exact ⟨_, _, h_old, by decide⟩
  · exact ⟨_, _, h_values, by decide⟩
  · exact ⟨_, _, h_ranks, by decide⟩
  · exact ⟨_, _, h_operator, by decide⟩
  · exact ⟨_, _, h_indexAt, by decide⟩
  · exact ⟨_, _, h_second, by decide⟩
  · exact ⟨_, _, h_first, by decide⟩
  · exact ⟨_, _, h_needed, by decide⟩
  · exact ⟨_, _, h_shifts, by decide⟩
  · exact ⟨_, _, h_around, by decide⟩
  · exact ⟨_, _, h_best, by decide⟩
  · exact ⟨_, _, h_isNeeded, by decide⟩
  · exact ⟨_, _, h_toSee, by decide⟩
  · exact ⟨_, _, h_held, by decide⟩
  · exact ⟨_, _, h_there, by decide⟩
/-! the class's state -/
/-- a modulus and equations -/
abbrev aSt : Type := Int × (Nat → Option (List Int))
def sys (σ : sjS) (I : sjI) (s : Nat) (S : aSt) : Prop := ∃ τ, eqn σ I s S.1 τ ∧ te σ I τ S.2 ∧ (2 ≤ S.1 ∧ S.1 ≤ 10)
def vals (σ : sjS) (I : sjI) (v s w : Nat) (S : aSt) : Prop := vSh σ v s w ∧ cO S.1 S.2 (I (vCl v w)) ∧ (I v 3 = 1 ∨ (I v 3 = 0 ∧ ∀ j, j < 3200 → I (vCl v w) j = 0))
/-- q is not touched -/
def cq (σ : sjS) (I : sjI) (σ' : sjS) (I' : sjI) (q : Nat) : Prop := σ'.2 q = σ.2 q ∧ I' q = I q
/-- terms stay -/
def tS (σ : sjS) (I : sjI) (σ' : sjS) (I' : sjI) : Prop := ∀ t T, tm σ I t T → tm σ' I' t T
theorem eqn.keep {σ σ' : sjS} {I I' : sjI} {e : Nat} {M : Int} {τ : Nat → Option Nat} (h : eqn σ I e M τ) (h0 : cq σ I σ' I' e) (h1 : cq σ I σ' I' (e + 1)) : eqn σ' I' e M τ := ⟨by rw [h0.1]; exact h.1, by rw [h1.1]; exact h.2.1, by rw [h0.2]; exact h.2.2⟩
theorem sys.keep {σ σ' : sjS} {I I' : sjI} {s : Nat} {S : aSt} (h : sys σ I s S) (hT : tS σ I σ' I') (h0 : cq σ I σ' I' s) (h1 : cq σ I σ' I' (s + 1)) : sys σ' I' s S := by
  obtain ⟨τ, a1, a2, a3⟩ := h
  exact ⟨τ, a1.keep h0 h1, a2.keep hT, a3⟩
theorem sys.blk {σ : sjS} {I : sjI} {s : Nat} {S : aSt} (h : sys σ I s S) : blk σ s 1 := by obtain ⟨τ, a1, _⟩ := h; exact a1.blk
theorem vals.keep {σ σ' : sjS} {I I' : sjI} {v s w : Nat} {S : aSt} (h : vals σ I v s w S) (h0 : cq σ I σ' I' v) (h1 : cq σ I σ' I' (vCl v w)) : vals σ' I' v s w S := ⟨⟨by rw [h0.1]; exact h.1.1, by rw [h1.1]; exact h.1.2⟩, by rw [h1.2]; exact h.2.1, by rw [h0.2, h1.2]; exact h.2.2⟩
theorem tx.keep {σ σ' : sjS} {I I' : sjI} {b : Nat} {X : List Int} (h : tx σ I b X) (h0 : cq σ I σ' I' b) (h1 : cq σ I σ' I' (b + 1)) (h2 : σ'.2 (b + 2) = σ.2 (b + 2)) : tx σ' I' b X := ⟨⟨by rw [h0.1]; exact h.1.1, by rw [h1.1]; exact h.1.2.1, by rw [h2]; exact h.1.2.2⟩, by rw [h0.2]; exact h.2.1, h.2.2.1, by rw [h1.2]; exact h.2.2.2.1, h.2.2.2.2⟩
theorem his.keep {σ σ' : sjS} {I I' : sjI} {h : Nat} {η : Nat → Option Nat} {od ct : Nat} (k : his σ I h η od ct) (h0 : cq σ I σ' I' h) (h1 : σ'.2 (h + 1) = σ.2 (h + 1)) : his σ' I' h η od ct := ⟨by rw [h0.1]; exact k.1, by rw [h1]; exact k.2.1, by rw [h0.2]; exact k.2.2.1, by rw [h0.2]; exact k.2.2.2.1, k.2.2.2.2⟩
/-- the references of the object -/
def xR (σ : sjS) (x : Nat) (pv ws cy : Option Nat) : Prop := ∃ ρ, σ.2 x = some (8, 0, ρ) ∧ (ρ 0 = some (x + 1) ∧ ρ 1 = some (x + 4) ∧ ρ 2 = some (x + 6) ∧ ρ 3 = some (x + 8) ∧ ρ 4 = some (x + 12) ∧ ρ 5 = some (x + 13)) ∧ ρ 6 = pv ∧ ρ 7 = ws ∧ ρ 8 = cy
/-- images: what is kept, and its values -/
def imO (σ : sjS) (I : sjI) (x : Nat) (ws : Option Nat) (r m : Option Nat) (S : Option aSt) : Prop := (r = none ∧ m = none ∧ S = none) ∨ ∃ s Si, r = some s ∧ S = some Si ∧ s ≠ x + 4 ∧ sys σ I s Si ∧ (m = none ∨ ∃ v w, m = some v ∧ ws = some w ∧ vals σ I v s w Si)
/-- all but what the references are -/
def cJ (σ : sjS) (I : sjI) (x : Nat) (X : List Int) (S : aSt) (H : List aSt) (im : Nat → Option aSt) (pv ws cy : Option Nat) (η ξ μ : Nat → Option Nat) (od : Nat) : Prop :=
  (xR σ x pv ws cy ∧ tx σ I (x + 1) X ∧ sys σ I (x + 4) S ∧ his σ I (x + 6) η od H.length ∧ rSh σ (x + 8) ∧ σ.2 (x + 12) = some (14, 2, ξ) ∧ σ.2 (x + 13) = some (15, 2, μ)) ∧
  ((∀ j s, j < 8 → η j = some s → s ≠ x + 4 ∧ ∃ S', sys σ I s S') ∧ (∀ k S', H[k]? = some S' → ∃ s, η ((od + k) % 8) = some s ∧ sys σ I s S')) ∧
  (∀ i, i < 2 → imO σ I x ws (ξ i) (μ i) (im i)) ∧
  ((∀ j j' s, j < 8 → j' < 8 → η j = some s → η j' = some s → j = j') ∧ (∀ j i s, j < 8 → i < 2 → η j = some s → ξ i = some s → False) ∧ (∀ s, ξ 0 = some s → ξ 1 = some s → False)) ∧
  (pv = none ∨ ∃ v w, pv = some v ∧ ws = some w ∧ vals σ I v (x + 4) w S) ∧ (∀ w, ws = some w → wSh σ w) ∧ ∀ y, cy = some y → ySh σ y
/-- what a scratch row's change leaves -/
theorem cJ.scr {σ : sjS} {I I' : sjI} {x : Nat} {X : List Int} {S : aSt} {H : List aSt} {im : Nat → Option aSt} {pv ws cy : Option Nat} {η ξ μ : Nat → Option Nat} {od b n : Nat} (h : cJ σ I x X S H im pv ws cy η ξ μ od) (hb : blk σ b n) (hk : ∃ κ y, σ.2 b = some (κ, y) ∧ κ ≠ 4 ∧ κ ≠ 1 ∧ κ ≠ 6 ∧ κ ≠ 5 ∧ κ ≠ 2 ∧ (κ ≠ 7 ∨ n ≤ 4)) (hI : ∀ q, ¬ (b ≤ q ∧ q ≤ b + n) → I' q = I q) : cJ σ I' x X S H im pv ws cy η ξ μ od := by
  obtain ⟨κ, y, hκ, k4, k1, k6, k5, k2, k7⟩ := hk
  obtain ⟨⟨a1, a2, a3, a4, a5, a6, a7⟩, ⟨b1, b2⟩, c1, d1, e1, f1, g1⟩ := h
  have cl : ∀ a m, blk σ a m → a ≠ b → ∀ q, a ≤ q → q ≤ a + m → cq σ I σ I' q := fun a m ha hne q q1 q2 => ⟨rfl, hI q (by have := ha.off hb hne; omega)⟩
  have hT : tS σ I σ I' := fun t T ht => ht.keep (fun q q1 q2 => cl t 3 ht.blk (ne_kind ht.1.1 hκ (by omega)) q q1 q2)
  have hsys : ∀ s S', sys σ I s S' → sys σ I' s S' := fun s S' hs => by
    have hne : s ≠ b := by obtain ⟨τ, q1, _⟩ := hs; exact ne_kind q1.1 hκ (by omega)
    exact hs.keep hT (cl s 1 hs.blk hne s (by omega) (by omega)) (cl s 1 hs.blk hne (s + 1) (by omega) (by omega))
  have hval : ∀ v s w S', wSh σ w → vals σ I v s w S' → vals σ I' v s w S' := fun v s w S' hW hv => by
    have o := vRo hv.1 hW hb (ne_kind hv.1.1 hκ (by omega)) (k7.imp (fun q => ne_kind hW.1 hκ (by omega)) id)
    exact hv.keep ⟨rfl, hI v (by omega)⟩ ⟨rfl, hI (vCl v w) (by omega)⟩
  refine ⟨⟨a1, a2.keep (cl _ 2 a2.blk (ne_kind a2.1.1 hκ (by omega)) _ (by omega) (by omega)) (cl _ 2 a2.blk (ne_kind a2.1.1 hκ (by omega)) _ (by omega) (by omega)) rfl, hsys _ _ a3, a4.keep (cl _ 1 a4.blk (ne_kind a4.1 hκ (by omega)) _ (by omega) (by omega)) rfl, a5, a6, a7⟩, ⟨fun j s q1 q2 => ⟨(b1 j s q1 q2).1, (b1 j s q1 q2).2.imp (fun S' q => hsys s S' q)⟩, fun k S' q1 => (b2 k S' q1).imp (fun s q => ⟨q.1, hsys s S' q.2⟩)⟩, fun i hi => ?_, d1, e1.imp id (fun ⟨v, w, q1, q2, q3⟩ => ⟨v, w, q1, q2, hval v _ w S (f1 w q2) q3⟩), f1, g1⟩
  rcases c1 i hi with q | ⟨s, Si, q1, q2, q3, q4, q5⟩
  · exact Or.inl q
  · exact Or.inr ⟨s, Si, q1, q2, q3, hsys s Si q4, q5.imp id (fun ⟨v, w, r1, r2, r3⟩ => ⟨v, w, r1, r2, hval v s w Si (f1 w r2) r3⟩)⟩
/-- the same with a new text -/
theorem cJ.txt {σ : sjS} {I I' : sjI} {x : Nat} {X Y : List Int} {S : aSt} {H : List aSt} {im : Nat → Option aSt} {pv ws cy : Option Nat} {η ξ μ : Nat → Option Nat} {od : Nat} (h : cJ σ I x X S H im pv ws cy η ξ μ od) (hI : ∀ q, ¬ (x + 1 ≤ q ∧ q ≤ x + 1 + 2) → I' q = I q) (hY : tx σ I' (x + 1) Y) : cJ σ I' x Y S H im pv ws cy η ξ μ od := by
  obtain ⟨⟨a1, a2, a3, a4, a5, a6, a7⟩, ⟨b1, b2⟩, c1, d1, e1, f1, g1⟩ := h
  have hb := a2.blk
  have hκ := a2.1.1
  have cl : ∀ a m, blk σ a m → a ≠ x + 1 → ∀ q, a ≤ q → q ≤ a + m → cq σ I σ I' q := fun a m ha hne q q1 q2 => ⟨rfl, hI q (by have := ha.off hb hne; omega)⟩
  have hT : tS σ I σ I' := fun t T ht => ht.keep (fun q q1 q2 => cl t 3 ht.blk (ne_kind ht.1.1 hκ (by decide)) q q1 q2)
  have hsys : ∀ s S', sys σ I s S' → sys σ I' s S' := fun s S' hs => by
    have hne : s ≠ x + 1 := by obtain ⟨τ, q1, _⟩ := hs; exact ne_kind q1.1 hκ (by decide)
    exact hs.keep hT (cl s 1 hs.blk hne s (by omega) (by omega)) (cl s 1 hs.blk hne (s + 1) (by omega) (by omega))
  have hval : ∀ v s w S', wSh σ w → vals σ I v s w S' → vals σ I' v s w S' := fun v s w S' hW hv => by
    have o := vRo hv.1 hW hb (ne_kind hv.1.1 hκ (by decide)) (Or.inl (ne_kind hW.1 hκ (by decide)))
    exact hv.keep ⟨rfl, hI v (by omega)⟩ ⟨rfl, hI (vCl v w) (by omega)⟩
  refine ⟨⟨a1, hY, hsys _ _ a3, a4.keep (cl _ 1 a4.blk (ne_kind a4.1 hκ (by decide)) _ (by omega) (by omega)) rfl, a5, a6, a7⟩, ⟨fun j s q1 q2 => ⟨(b1 j s q1 q2).1, (b1 j s q1 q2).2.imp (fun S' q => hsys s S' q)⟩, fun k S' q1 => (b2 k S' q1).imp (fun s q => ⟨q.1, hsys s S' q.2⟩)⟩, fun i hi => ?_, d1, e1.imp id (fun ⟨v, w, q1, q2, q3⟩ => ⟨v, w, q1, q2, hval v _ w S (f1 w q2) q3⟩), f1, g1⟩
  rcases c1 i hi with q | ⟨s, Si, q1, q2, q3, q4, q5⟩
  · exact Or.inl q
  · exact Or.inr ⟨s, Si, q1, q2, q3, hsys s Si q4, q5.imp id (fun ⟨v, w, r1, r2, r3⟩ => ⟨v, w, r1, r2, hval v s w Si (f1 w r2) r3⟩)⟩
/-- the class's object at x holds this -/
def cI (σ : sjS) (I : sjI) (x : Nat) (X : List Int) (S : aSt) (H : List aSt) (im : Nat → Option aSt) : Prop := ∃ pv ws cy η ξ μ od, cJ σ I x X S H im pv ws cy η ξ μ od
section JUDGE1
variable {l : Launch} {G : sjG} {σ : sjS} {I : sjI}
theorem cx9_isStream {a : Int} (ha : -2147483648 ≤ a ∧ a < 2147483648) : sj_Con l yX9_isStream mX9_isStream G σ I [.int (zI a)] (fun r σ' I' => r = some (.int (zI (if 0 ≤ a ∧ a ≤ 7 then 1 else 0))) ∧ σ = σ' ∧ I = I') := by
  refine sj_con_of (L0 := [some (.int (zI a))]) (by decide) rfl rfl rfl (Nat.le_of_ble_eq_true rfl) rfl (fun Γ => ?_)
  refine sj_ild0 dX9_isStream_0 ?_
  refine sj_if_lt 14 dX9_isStream_1 (by decide) (by omega) (fun c_1 => ?_) (fun c_1 => ?_)
  · refine sj_iconst dX9_isStream_14 ?_
    exact sj_iret dX9_isStream_15 rfl (by decide) (Nat.le_of_ble_eq_true rfl) (Nat.le_of_ble_eq_true rfl) ⟨by first | rw [if_pos (by omega)] | rw [if_neg (by omega)], rfl, rfl⟩
  · refine sj_ild0 dX9_isStream_4 ?_
    refine sj_bipush dX9_isStream_5 (by decide) ?_
    refine sj_icmp_ge 14 dX9_isStream_7 (by decide) (by omega) (by omega) (fun c_7 => ?_) (fun c_7 => ?_)
    · refine sj_iconst dX9_isStream_14 ?_
      exact sj_iret dX9_isStream_15 rfl (by decide) (Nat.le_of_ble_eq_true rfl) (Nat.le_of_ble_eq_true rfl) ⟨by first | rw [if_pos (by omega)] | rw [if_neg (by omega)], rfl, rfl⟩
    · refine sj_iconst dX9_isStream_10 ?_
      refine sj_goto 15 dX9_isStream_11 (by decide) ?_
      exact sj_iret dX9_isStream_15 rfl (by decide) (Nat.le_of_ble_eq_true rfl) (Nat.le_of_ble_eq_true rfl) ⟨by first | rw [if_pos (by omega)] | rw [if_neg (by omega)], rfl, rfl⟩
theorem cx9_isIndex {a : Int} (ha : -2147483648 ≤ a ∧ a < 2147483648) : sj_Con l yX9_isIndex mX9_isIndex G σ I [.int (zI a)] (fun r σ' I' => r = some (.int (zI (if 0 ≤ a ∧ a ≤ 399 then 1 else 0))) ∧ σ = σ' ∧ I = I') := by
  refine sj_con_of (L0 := [some (.int (zI a))]) (by decide) rfl rfl rfl (Nat.le_of_ble_eq_true rfl) rfl (fun Γ => ?_)
  refine sj_ild0 dX9_isIndex_0 ?_
  refine sj_if_lt 15 dX9_isIndex_1 (by decide) (by omega) (fun c_1 => ?_) (fun c_1 => ?_)
  · refine sj_iconst dX9_isIndex_15 ?_
    exact sj_iret dX9_isIndex_16 rfl (by decide) (Nat.le_of_ble_eq_true rfl) (Nat.le_of_ble_eq_true rfl) ⟨by first | rw [if_pos (by omega)] | rw [if_neg (by omega)], rfl, rfl⟩
  · refine sj_ild0 dX9_isIndex_4 ?_
    refine sj_sipush dX9_isIndex_5 (by decide) ?_
    refine sj_icmp_ge 15 dX9_isIndex_8 (by decide) (by omega) (by omega) (fun c_8 => ?_) (fun c_8 => ?_)
    · refine sj_iconst dX9_isIndex_15 ?_
      exact sj_iret dX9_isIndex_16 rfl (by decide) (Nat.le_of_ble_eq_true rfl) (Nat.le_of_ble_eq_true rfl) ⟨by first | rw [if_pos (by omega)] | rw [if_neg (by omega)], rfl, rfl⟩
    · refine sj_iconst dX9_isIndex_11 ?_
      refine sj_goto 16 dX9_isIndex_12 (by decide) ?_
      exact sj_iret dX9_isIndex_16 rfl (by decide) (Nat.le_of_ble_eq_true rfl) (Nat.le_of_ble_eq_true rfl) ⟨by first | rw [if_pos (by omega)] | rw [if_neg (by omega)], rfl, rfl⟩
theorem cx9_isImage {a : Int} (ha : -2147483648 ≤ a ∧ a < 2147483648) : sj_Con l yX9_isImage mX9_isImage G σ I [.int (zI a)] (fun r σ' I' => r = some (.int (zI (if 0 ≤ a ∧ a ≤ 1 then 1 else 0))) ∧ σ = σ' ∧ I = I') := by
  refine sj_con_of (L0 := [some (.int (zI a))]) (by decide) rfl rfl rfl (Nat.le_of_ble_eq_true rfl) rfl (fun Γ => ?_)
  refine sj_ild0 dX9_isImage_0 ?_
  refine sj_if_lt 13 dX9_isImage_1 (by decide) (by omega) (fun c_1 => ?_) (fun c_1 => ?_)
  · refine sj_iconst dX9_isImage_13 ?_
    exact sj_iret dX9_isImage_14 rfl (by decide) (Nat.le_of_ble_eq_true rfl) (Nat.le_of_ble_eq_true rfl) ⟨by first | rw [if_pos (by omega)] | rw [if_neg (by omega)], rfl, rfl⟩
  · refine sj_ild0 dX9_isImage_4 ?_
    refine sj_iconst dX9_isImage_5 ?_
    refine sj_icmp_ge 13 dX9_isImage_6 (by decide) (by omega) (by omega) (fun c_6 => ?_) (fun c_6 => ?_)
    · refine sj_iconst dX9_isImage_13 ?_
      exact sj_iret dX9_isImage_14 rfl (by decide) (Nat.le_of_ble_eq_true rfl) (Nat.le_of_ble_eq_true rfl) ⟨by first | rw [if_pos (by omega)] | rw [if_neg (by omega)], rfl, rfl⟩
    · refine sj_iconst dX9_isImage_9 ?_
      refine sj_goto 14 dX9_isImage_10 (by decide) ?_
      exact sj_iret dX9_isImage_14 rfl (by decide) (Nat.le_of_ble_eq_true rfl) (Nat.le_of_ble_eq_true rfl) ⟨by first | rw [if_pos (by omega)] | rw [if_neg (by omega)], rfl, rfl⟩
theorem cx9_write {x : Nat} {c : Int} {X : List Int} {S : aSt} {H : List aSt} {im : Nat → Option aSt} (h : cI σ I x X S H im) (hc : -2147483648 ≤ c ∧ c < 2147483648) : sj_Con l yX9_write mX9_write G σ I [.ref x, .int (zI c)] (fun r σ' I' => σ = σ' ∧ (∀ q, ¬ (x + 1 ≤ q ∧ q ≤ x + 1 + 2) → I' q = I q) ∧ ((¬ (32 ≤ c ∧ c ≤ 126) ∧ r = some (.int (zI (-1))) ∧ cI σ I' x X S H im) ∨ ((32 ≤ c ∧ c ≤ 126) ∧ X.length = 80 ∧ r = some (.int (zI (-3))) ∧ cI σ I' x X S H im) ∨ ((32 ≤ c ∧ c ≤ 126) ∧ X.length < 80 ∧ r = some (.int (zI ((X.length : Int) + 1))) ∧ cI σ I' x (X ++ [c]) S H im))) := by
  obtain ⟨pv, ws, cy, η, ξ, μ, od, hj⟩ := id h
  obtain ⟨⟨ρ, r0, ⟨r1, _⟩, _⟩, htx, _⟩ := hj.1
  have t0 := htx.1.1
  refine sj_con_of (L0 := [some (.ref x), some (.int (zI c))]) (by decide) rfl rfl rfl (Nat.le_of_ble_eq_true rfl) rfl (fun Γ => ?_)
  refine sj_ild1 dX9_write_0 ?_
  refine sj_bipush dX9_write_1 (by decide) ?_
  refine sj_icmp_lt 12 dX9_write_3 (by decide) (by omega) (by omega) (fun c_3 => ?_) (fun c_3 => ?_)
  · refine sj_iconst dX9_write_12 ?_
    exact sj_iret dX9_write_13 rfl rfl (Nat.le_of_ble_eq_true rfl) (Nat.le_of_ble_eq_true rfl) ⟨rfl, fun _ _ => rfl, Or.inl ⟨by omega, rfl, h⟩⟩
  · refine sj_ild1 dX9_write_6 ?_
    refine sj_bipush dX9_write_7 (by decide) ?_
    refine sj_icmp_le 14 dX9_write_9 (by decide) (by omega) (by omega) (fun c_9 => ?_) (fun c_9 => ?_)
    · refine sj_ald0 dX9_write_14 ?_
      refine sj_getR fl_X9_12 (by assumption) rfl r1 dX9_write_15 ?_
      refine sj_ild1 dX9_write_18 ?_
      refine sj_callV (cx6_append htx (by omega)) kc_X9_47 (by assumption) rfl rfl rfl rfl (Nat.le_of_ble_eq_true rfl) dX9_write_19 (fun r_19 σ_19 I_19 hp_19 => ?_)
      obtain ⟨rfl, x1⟩ := hp_19
      rcases x1 with ⟨x2, rfl, rfl⟩ | ⟨x2, rfl, x3, x4⟩
      · exact sj_iret dX9_write_22 rfl rfl (Nat.le_of_ble_eq_true rfl) (Nat.le_of_ble_eq_true rfl) ⟨rfl, fun _ _ => rfl, Or.inr (Or.inl ⟨by omega, x2, rfl, h⟩)⟩
      · exact sj_iret dX9_write_22 rfl rfl (Nat.le_of_ble_eq_true rfl) (Nat.le_of_ble_eq_true rfl) ⟨rfl, fun q hq => x3 q (by omega) (by omega), Or.inr (Or.inr ⟨by omega, x2, rfl, pv, ws, cy, η, ξ, μ, od, hj.txt (fun q hq => x3 q (by omega) (by omega)) x4⟩)⟩
    · refine sj_iconst dX9_write_12 ?_
      exact sj_iret dX9_write_13 rfl rfl (Nat.le_of_ble_eq_true rfl) (Nat.le_of_ble_eq_true rfl) ⟨rfl, fun _ _ => rfl, Or.inl ⟨by omega, rfl, h⟩⟩
theorem cx9_wipe {x : Nat} {X : List Int} {S : aSt} {H : List aSt} {im : Nat → Option aSt} (h : cI σ I x X S H im) : sj_Con l yX9_wipe mX9_wipe G σ I [.ref x] (fun r σ' I' => σ = σ' ∧ (∀ q, ¬ (x + 1 ≤ q ∧ q ≤ x + 1 + 2) → I' q = I q) ∧ r = some (.int (zI X.length)) ∧ cI σ I' x [] S H im) := by
  obtain ⟨pv, ws, cy, η, ξ, μ, od, hj⟩ := id h
  obtain ⟨⟨ρ, r0, ⟨r1, _⟩, _⟩, htx, _⟩ := hj.1
  have t0 := htx.1.1
  refine sj_con_of (L0 := [some (.ref x)]) (by decide) rfl rfl rfl (Nat.le_of_ble_eq_true rfl) rfl (fun Γ => ?_)
  refine sj_ald0 dX9_wipe_0 ?_
  refine sj_getR fl_X9_12 (by assumption) rfl r1 dX9_wipe_1 ?_
  refine sj_callV (cx6_empty htx) kc_X9_51 (by assumption) rfl rfl rfl rfl (Nat.le_of_ble_eq_true rfl) dX9_wipe_4 (fun r_4 σ_4 I_4 hp_4 => ?_)
  obtain ⟨rfl, rfl, x1, x2⟩ := hp_4
  exact sj_iret dX9_wipe_7 rfl rfl (Nat.le_of_ble_eq_true rfl) (Nat.le_of_ble_eq_true rfl) ⟨rfl, fun q hq => x1 q (by omega), rfl, pv, ws, cy, η, ξ, μ, od, hj.txt (fun q hq => x1 q (by omega)) x2⟩
theorem cx9_fault {x : Nat} {X : List Int} {S : aSt} {H : List aSt} {im : Nat → Option aSt} (h : cI σ I x X S H im) : sj_Con l yX9_fault mX9_fault G σ I [.ref x] (fun r σ' I' => r = some (.int (zI (jFl X 1 false 0))) ∧ σ = σ' ∧ I = I') := by
  obtain ⟨pv, ws, cy, η, ξ, μ, od, hj⟩ := id h
  obtain ⟨⟨ρ, r0, ⟨r1, _⟩, _⟩, htx, _⟩ := hj.1
  have t0 := htx.1.1
  refine sj_con_of (L0 := [some (.ref x)]) (by decide) rfl rfl rfl (Nat.le_of_ble_eq_true rfl) rfl (fun Γ => ?_)
  refine sj_ald0 dX9_fault_0 ?_
  refine sj_getR fl_X9_12 (by assumption) rfl r1 dX9_fault_1 ?_
  refine sj_callV (cx6_firstFault htx) kc_X9_55 (by assumption) rfl rfl rfl rfl (Nat.le_of_ble_eq_true rfl) dX9_fault_4 (fun r_4 σ_4 I_4 hp_4 => ?_)
  obtain ⟨rfl, rfl, rfl⟩ := hp_4
  exact sj_iret dX9_fault_7 rfl rfl (Nat.le_of_ble_eq_true rfl) (Nat.le_of_ble_eq_true rfl) ⟨rfl, rfl, rfl⟩
theorem cx9_listing {x : Nat} {a k : Int} {X : List Int} {S : aSt} {H : List aSt} {im : Nat → Option aSt} (h : cI σ I x X S H im) (ha : -2147483648 ≤ a ∧ a < 2147483648) (hk : -2147483648 ≤ k ∧ k < 2147483648) : sj_Con l yX9_listing mX9_listing G σ I [.ref x, .int (zI a), .int (zI k)] (fun r σ' I' => r = some (.int (zI (if (0 ≤ a ∧ a ≤ 7) ∧ 0 ≤ k then (if k.toNat < (jEnc ((S.2 a.toNat).getD [])).length then (jEnc ((S.2 a.toNat).getD [])).getD k.toNat 0 else -9) else -1))) ∧ σ = σ' ∧ I = I') := by
  obtain ⟨pv, ws, cy, η, ξ, μ, od, hj⟩ := id h
  obtain ⟨⟨ρ, r0, ⟨_, r1, _⟩, _⟩, _, ⟨τ, ⟨e0, e1, e2⟩, ht, hM⟩, _⟩ := hj.1
  have b1 := jbs (0 ≤ a ∧ a ≤ 7)
  refine sj_con_of (L0 := [some (.ref x), some (.int (zI a)), some (.int (zI k)), none]) (by decide) rfl rfl rfl (Nat.le_of_ble_eq_true rfl) rfl (fun Γ => ?_)
  by_cases hg : (0 ≤ a ∧ a ≤ 7) ∧ 0 ≤ k
  · rw [if_pos hg]
    obtain ⟨aa, rfl⟩ := jNat (a := a) (by omega)
    obtain ⟨kk, rfl⟩ := jNat (a := k) (by omega)
    rw [Int.toNat_natCast, Int.toNat_natCast]
    rcases ht.2 aa (by omega) with ⟨hv, hE⟩ | ⟨t, T, hv, hE, htm⟩
    · rw [hE]
      refine sj_ild1 dX9_listing_0 ?_
      refine sj_callS (cx9_isStream ha) kc_X9_58 rfl rfl (Nat.le_of_ble_eq_true rfl) dX9_listing_1 (fun r_1 σ_1 I_1 hp_1 => ?_)
      obtain ⟨rfl, rfl, rfl⟩ := hp_1
      refine sj_if_eq 11 dX9_listing_4 (by decide) (by omega) (fun c_4 => ?_) (fun c_4 => ?_)
      · (exfalso; omega)
      refine sj_ild2 dX9_listing_7 ?_
      refine sj_if_ge 13 dX9_listing_8 (by decide) (by omega) (fun c_8 => ?_) (fun c_8 => ?_)
      rotate_left
      · (exfalso; omega)
      refine sj_ald0 dX9_listing_13 ?_
      refine sj_getR fl_X9_19 (by assumption) rfl r1 dX9_listing_14 ?_
      refine sj_getR fl_X9_69 (by assumption) rfl (eR_1 _) dX9_listing_17 ?_
      refine sj_ild1 dX9_listing_20 ?_
      refine sj_aaldN rfl (by assumption) (by omega) (by decide) hv dX9_listing_21 ?_
      refine sj_astN3 (by decide) rfl dX9_listing_22 ?_
      refine sj_aldN3 dX9_listing_23 ?_
      refine sj_ifnonnullN dX9_listing_24 ?_
      refine sj_bipush dX9_listing_27 (by decide) ?_
      refine sj_goto 37 dX9_listing_29 (by decide) ?_
      exact sj_iret dX9_listing_37 rfl rfl (Nat.le_of_ble_eq_true rfl) (Nat.le_of_ble_eq_true rfl) ⟨rfl, rfl, rfl⟩
    · rw [hE]
      have t0 := htm.1.1
      refine sj_ild1 dX9_listing_0 ?_
      refine sj_callS (cx9_isStream ha) kc_X9_58 rfl rfl (Nat.le_of_ble_eq_true rfl) dX9_listing_1 (fun r_1 σ_1 I_1 hp_1 => ?_)
      obtain ⟨rfl, rfl, rfl⟩ := hp_1
      refine sj_if_eq 11 dX9_listing_4 (by decide) (by omega) (fun c_4 => ?_) (fun c_4 => ?_)
      · (exfalso; omega)
      refine sj_ild2 dX9_listing_7 ?_
      refine sj_if_ge 13 dX9_listing_8 (by decide) (by omega) (fun c_8 => ?_) (fun c_8 => ?_)
      rotate_left
      · (exfalso; omega)
      refine sj_ald0 dX9_listing_13 ?_
      refine sj_getR fl_X9_19 (by assumption) rfl r1 dX9_listing_14 ?_
      refine sj_getR fl_X9_69 (by assumption) rfl (eR_1 _) dX9_listing_17 ?_
      refine sj_ild1 dX9_listing_20 ?_
      refine sj_aald rfl (by assumption) (by omega) (by decide) hv dX9_listing_21 ?_
      refine sj_ast3 (by decide) rfl dX9_listing_22 ?_
      refine sj_ald3 dX9_listing_23 ?_
      refine sj_ifnonnull 32 dX9_listing_24 (by decide) ?_
      refine sj_ald3 dX9_listing_32 ?_
      refine sj_ild2 dX9_listing_33 ?_
      refine sj_callV (cx5_byteAt htm (by omega)) kc_X9_125 (by assumption) rfl rfl rfl rfl (Nat.le_of_ble_eq_true rfl) dX9_listing_34 (fun r_34 σ_34 I_34 hp_34 => ?_)
      obtain ⟨rfl, rfl, rfl⟩ := hp_34
      exact sj_iret dX9_listing_37 rfl rfl (Nat.le_of_ble_eq_true rfl) (Nat.le_of_ble_eq_true rfl) ⟨rfl, rfl, rfl⟩
  · rw [if_neg hg]
    refine sj_ild1 dX9_listing_0 ?_
    refine sj_callS (cx9_isStream ha) kc_X9_58 rfl rfl (Nat.le_of_ble_eq_true rfl) dX9_listing_1 (fun r_1 σ_1 I_1 hp_1 => ?_)
    obtain ⟨rfl, rfl, rfl⟩ := hp_1
    refine sj_if_eq 11 dX9_listing_4 (by decide) (by omega) (fun c_4 => ?_) (fun c_4 => ?_)
    · refine sj_iconst dX9_listing_11 ?_
      exact sj_iret dX9_listing_12 rfl rfl (Nat.le_of_ble_eq_true rfl) (Nat.le_of_ble_eq_true rfl) ⟨rfl, rfl, rfl⟩
    · refine sj_ild2 dX9_listing_7 ?_
      refine sj_if_ge 13 dX9_listing_8 (by decide) (by omega) (fun c_8 => ?_) (fun c_8 => ?_)
      · (exfalso; omega)
      refine sj_iconst dX9_listing_11 ?_
      exact sj_iret dX9_listing_12 rfl rfl (Nat.le_of_ble_eq_true rfl) (Nat.le_of_ble_eq_true rfl) ⟨rfl, rfl, rfl⟩
theorem cx9_uses {x : Nat} {a : Int} {X : List Int} {S : aSt} {H : List aSt} {im : Nat → Option aSt} (h : cI σ I x X S H im) (ha : -2147483648 ≤ a ∧ a < 2147483648) : sj_Con l yX9_uses mX9_uses G σ I [.ref x, .int (zI a)] (fun r σ' I' => r = some (.int (zI (if 0 ≤ a ∧ a ≤ 7 then (match S.2 a.toNat with | none => -9 | some T => (jUs (jEnc T) 8 : Nat)) else -1))) ∧ σ = σ' ∧ I = I') := by
  obtain ⟨pv, ws, cy, η, ξ, μ, od, hj⟩ := id h
  obtain ⟨⟨ρ, r0, ⟨_, r1, _⟩, _⟩, _, ⟨τ, ⟨e0, e1, e2⟩, ht, hM⟩, _⟩ := hj.1
  have b1 := jbs (0 ≤ a ∧ a ≤ 7)
  refine sj_con_of (L0 := [some (.ref x), some (.int (zI a)), none]) (by decide) rfl rfl rfl (Nat.le_of_ble_eq_true rfl) rfl (fun Γ => ?_)
  by_cases hg : 0 ≤ a ∧ a ≤ 7
  · rw [if_pos hg]
    obtain ⟨aa, rfl⟩ := jNat (a := a) (by omega)
    rw [Int.toNat_natCast]
    rcases ht.2 aa (by omega) with ⟨hv, hE⟩ | ⟨t, T, hv, hE, htm⟩
    · rw [hE]
      refine sj_ild1 dX9_uses_0 ?_
      refine sj_callS (cx9_isStream ha) kc_X9_58 rfl rfl (Nat.le_of_ble_eq_true rfl) dX9_uses_1 (fun r_1 σ_1 I_1 hp_1 => ?_)
      obtain ⟨rfl, rfl, rfl⟩ := hp_1
      refine sj_if_ne 9 dX9_uses_4 (by decide) (by omega) (fun c_4 => ?_) (fun c_4 => ?_)
      rotate_left
      · (exfalso; omega)
      refine sj_ald0 dX9_uses_9 ?_
      refine sj_getR fl_X9_19 (by assumption) rfl r1 dX9_uses_10 ?_
      refine sj_getR fl_X9_69 (by assumption) rfl (eR_1 _) dX9_uses_13 ?_
      refine sj_ild1 dX9_uses_16 ?_
      refine sj_aaldN rfl (by assumption) (by omega) (by decide) hv dX9_uses_17 ?_
      refine sj_astN2 (by decide) rfl dX9_uses_18 ?_
      refine sj_aldN2 dX9_uses_19 ?_
      refine sj_ifnonnullN dX9_uses_20 ?_
      refine sj_bipush dX9_uses_23 (by decide) ?_
      refine sj_goto 32 dX9_uses_25 (by decide) ?_
      exact sj_iret dX9_uses_32 rfl rfl (Nat.le_of_ble_eq_true rfl) (Nat.le_of_ble_eq_true rfl) ⟨rfl, rfl, rfl⟩
    · rw [hE]
      have t0 := htm.1.1
      refine sj_ild1 dX9_uses_0 ?_
      refine sj_callS (cx9_isStream ha) kc_X9_58 rfl rfl (Nat.le_of_ble_eq_true rfl) dX9_uses_1 (fun r_1 σ_1 I_1 hp_1 => ?_)
      obtain ⟨rfl, rfl, rfl⟩ := hp_1
      refine sj_if_ne 9 dX9_uses_4 (by decide) (by omega) (fun c_4 => ?_) (fun c_4 => ?_)
      rotate_left
      · (exfalso; omega)
      refine sj_ald0 dX9_uses_9 ?_
      refine sj_getR fl_X9_19 (by assumption) rfl r1 dX9_uses_10 ?_
      refine sj_getR fl_X9_69 (by assumption) rfl (eR_1 _) dX9_uses_13 ?_
      refine sj_ild1 dX9_uses_16 ?_
      refine sj_aald rfl (by assumption) (by omega) (by decide) hv dX9_uses_17 ?_
      refine sj_ast2 (by decide) rfl dX9_uses_18 ?_
      refine sj_ald2 dX9_uses_19 ?_
      refine sj_ifnonnull 28 dX9_uses_20 (by decide) ?_
      refine sj_ald2 dX9_uses_28 ?_
      refine sj_callV (cx5_streamSet htm) kc_X9_128 (by assumption) rfl rfl rfl rfl (Nat.le_of_ble_eq_true rfl) dX9_uses_29 (fun r_29 σ_29 I_29 hp_29 => ?_)
      obtain ⟨rfl, rfl, rfl⟩ := hp_29
      exact sj_iret dX9_uses_32 rfl rfl (Nat.le_of_ble_eq_true rfl) (Nat.le_of_ble_eq_true rfl) ⟨rfl, rfl, rfl⟩
  · rw [if_neg hg]
    refine sj_ild1 dX9_uses_0 ?_
    refine sj_callS (cx9_isStream ha) kc_X9_58 rfl rfl (Nat.le_of_ble_eq_true rfl) dX9_uses_1 (fun r_1 σ_1 I_1 hp_1 => ?_)
    obtain ⟨rfl, rfl, rfl⟩ := hp_1
    refine sj_if_ne 9 dX9_uses_4 (by decide) (by omega) (fun c_4 => ?_) (fun c_4 => ?_)
    · (exfalso; omega)
    refine sj_iconst dX9_uses_7 ?_
    exact sj_iret dX9_uses_8 rfl rfl (Nat.le_of_ble_eq_true rfl) (Nat.le_of_ble_eq_true rfl) ⟨rfl, rfl, rfl⟩
end JUDGE1
