/-! what the reference's rows hold -/
/-- a row of 2001 holds a modulus and equations -/
def mSt (f : Nat → Int) (S : aSt) : Prop := f 0 = S.1 ∧ (2 ≤ S.1 ∧ S.1 ≤ 10) ∧ mW f ∧ mEq f S.2
theorem mB_congr {f f' : Nat → Int} {a : Nat} (ha : a < 8) (hW : mW f) (hf : ∀ k, k < 2001 → f' k = f k) : mB f' a = mB f a := by
  have h1 := (hW a ha).1
  unfold mB
  rw [hf (1 + 250 * a) (by omega)]
  exact lst_congr (fun j hj => hf _ (by omega))
theorem mSt.congr {f f' : Nat → Int} {S : aSt} (h : mSt f S) (hf : ∀ k, k < 2001 → f' k = f k) : mSt f' S := by
  obtain ⟨h1, h2, h3, h4, h5⟩ := h
  refine ⟨by rw [hf 0 (by omega)]; exact h1, h2, fun a ha => ?_, h4, fun a ha => ?_⟩
  · have := h3 a ha
    rw [hf (1 + 250 * a) (by omega)]
    refine ⟨this.1, fun j hj => ?_⟩
    rw [hf (2 + 250 * a + j) (by omega)]
    exact this.2 j hj
  · rw [hf (1 + 250 * a) (by omega), mB_congr ha h3 hf]
    exact h5 a ha
theorem mSt.term {f : Nat → Int} {S : aSt} (h : mSt f S) {a : Nat} (ha : a < 8) : (S.2 a = none ∧ f (1 + 250 * a) = 0 ∧ mB f a = []) ∨ ∃ T, S.2 a = some T ∧ 0 < f (1 + 250 * a) ∧ mB f a = jEnc T ∧ jOk 1 T ∧ T.length ≤ 120 := by
  rcases h.2.2.2.2 a ha with ⟨q1, q2⟩ | q
  · refine Or.inl ⟨q1, q2, ?_⟩
    unfold mB
    rw [q2]
    rfl
  · exact Or.inr q
theorem mSt.set {f f' : Nat → Int} {S : aSt} {a : Nat} {T : List Int} (h : mSt f S) (ha : a < 8) (hs : mSet f f' a (jEnc T)) (hT : jOk 1 T) (hl : T.length ≤ 120) : mSt f' (S.1, jSe S.2 a (some T)) := by
  have hlen := jEnc_len T
  have hne := jOk_len T 1 hT
  have hW := mSet_W hs h.2.2.1 (by omega) (jEnc_byte (jOk_vc T 1 hT))
  refine ⟨by rw [hs.1]; exact h.1, h.2.1, hW, fun b hb => ?_, fun b hb => ?_⟩
  · show (if b = a then some T else S.2 b) = none
    rw [if_neg (by omega)]
    exact h.2.2.2.1 b hb
  · show ((if b = a then some T else S.2 b) = none ∧ _) ∨ ∃ U, (if b = a then some T else S.2 b) = some U ∧ _
    by_cases e : b = a
    · rw [if_pos e, e]
      exact Or.inr ⟨T, rfl, by rw [hs.2.1]; omega, mSet_B hs, hT, hl⟩
    · rw [if_neg e]
      have k := hs.2.2.2 b hb e
      have hw := (h.2.2.1 b hb).1
      rw [k.1, show mB f' b = mB f b by unfold mB; rw [k.1]; exact lst_congr (fun j hj => k.2 j (by omega))]
      exact h.2.2.2.2 b hb
theorem mSt.del {f f' : Nat → Int} {S : aSt} {a : Nat} (h : mSt f S) (ha : a < 8) (hs : mSet f f' a []) : mSt f' (S.1, jSe S.2 a none) := by
  have hW := mSet_W hs h.2.2.1 (by simp) (fun x hx => by cases hx)
  refine ⟨by rw [hs.1]; exact h.1, h.2.1, hW, fun b hb => ?_, fun b hb => ?_⟩
  · show (if b = a then none else S.2 b) = none
    rw [if_neg (by omega)]
    exact h.2.2.2.1 b hb
  · show ((if b = a then none else S.2 b) = none ∧ _) ∨ ∃ U, (if b = a then none else S.2 b) = some U ∧ _
    by_cases e : b = a
    · rw [if_pos e, e]
      exact Or.inl ⟨rfl, by rw [hs.2.1]; rfl⟩
    · rw [if_neg e]
      have k := hs.2.2.2 b hb e
      have hw := (h.2.2.1 b hb).1
      rw [k.1, show mB f' b = mB f b by unfold mB; rw [k.1]; exact lst_congr (fun j hj => k.2 j (by omega))]
      exact h.2.2.2.2 b hb
/-- text, present, history, images -/
abbrev aQ : Type := List Int × aSt × List aSt × (Nat → Option aSt)
/-- the reference at o holds this -/
def rI (σ : sjS) (I : sjI) (o : Nat) (Q : aQ) : Prop :=
  mSh σ o ∧ mSt (I (o + 1)) Q.2.1 ∧ (I o 6 = Q.1.length ∧ Q.1.length ≤ 80 ∧ lst (I (o + 4)) 0 Q.1.length = Q.1 ∧ ∀ c ∈ Q.1, 32 ≤ c ∧ c ≤ 126) ∧
  (I o 2 = Q.2.2.1.length ∧ Q.2.2.1.length ≤ 8 ∧ ∀ (k : Nat) (S' : aSt), Q.2.2.1[k]? = some S' → mSt (fun j => I (o + 2) (2001 * k + j)) S') ∧
  (∃ F : Nat, I o 4 = F ∧ F < 4 ∧ ∀ i, i < 2 → (F / 2 ^ i % 2 = 1 ↔ Q.2.2.2 i ≠ none) ∧ ∀ S', Q.2.2.2 i = some S' → mSt (fun j => I (o + 3) (2001 * i + j)) S') ∧
  (I o 15 = 0 ∨ (I o 15 = 1 ∧ mLd o Q.2.1.1 Q.2.1.2 I))
def cQ (σ : sjS) (I : sjI) (x : Nat) (Q : aQ) : Prop := cI σ I x Q.1 Q.2.1 Q.2.2.1 Q.2.2.2
theorem mSh.keep {σ σ' : sjS} {o : Nat} (h : mSh σ o) (hk : ∀ q, o ≤ q → q ≤ o + 21 → σ'.2 q = σ.2 q) : mSh σ' o := by
  unfold mSh at h ⊢
  rw [hk o (by omega) (by omega), hk (o + 1) (by omega) (by omega), hk (o + 2) (by omega) (by omega), hk (o + 3) (by omega) (by omega), hk (o + 4) (by omega) (by omega), hk (o + 5) (by omega) (by omega), hk (o + 6) (by omega) (by omega), hk (o + 7) (by omega) (by omega), hk (o + 8) (by omega) (by omega), hk (o + 9) (by omega) (by omega), hk (o + 10) (by omega) (by omega), hk (o + 11) (by omega) (by omega), hk (o + 12) (by omega) (by omega), hk (o + 13) (by omega) (by omega), hk (o + 14) (by omega) (by omega), hk (o + 15) (by omega) (by omega), hk (o + 16) (by omega) (by omega), hk (o + 17) (by omega) (by omega), hk (o + 18) (by omega) (by omega), hk (o + 19) (by omega) (by omega), hk (o + 20) (by omega) (by omega), hk (o + 21) (by omega) (by omega)]
  exact h
/-- the class's calls leave the reference -/
theorem rI.keep {σ σ' : sjS} {I I' : sjI} {x : Nat} {Q : aQ} (h : rI σ I (x + 14) Q) (hk : rC σ I σ' I' x) : rI σ' I' (x + 14) Q := by
  obtain ⟨h1, h2, h3, h4, h5, h6⟩ := h
  have e0 := (hk (x + 14) (by omega) (by omega)).2
  have e1 := (hk (x + 14 + 1) (by omega) (by omega)).2
  have e2 := (hk (x + 14 + 2) (by omega) (by omega)).2
  have e3 := (hk (x + 14 + 3) (by omega) (by omega)).2
  have e4 := (hk (x + 14 + 4) (by omega) (by omega)).2
  have e8 := (hk (x + 14 + 8) (by omega) (by omega)).2
  have e9 := (hk (x + 14 + 9) (by omega) (by omega)).2
  unfold rI
  rw [e0, e1, e2, e3, e4]
  exact ⟨h1.keep (fun q q1 q2 => (hk q q1 q2).1), h2, h3, h4, h5, h6.imp id (fun q => ⟨q.1, q.2.of_rows e8 e9⟩)⟩
/-- the reference's calls leave the class -/
theorem cQ.keep {σ : sjS} {I I' : sjI} {x : Nat} {Q : aQ} (h : cQ σ I x Q) (hR : rB σ x) (hI : ∀ q, q < x + 14 ∨ x + 14 + 21 < q → I' q = I q) : cQ σ I' x Q := by
  obtain ⟨pv, ws, cy, η, ξ, μ, od, hj⟩ := h
  obtain ⟨y, hy⟩ := hR.2
  exact ⟨pv, ws, cy, η, ξ, μ, od, hj.scr hR.1 ⟨9, y, hy, by decide, by decide, by decide, by decide, by decide, Or.inl (by decide)⟩ (fun q hq => hI q (by omega))⟩
theorem rI.rB {σ : sjS} {I : sjI} {x : Nat} {Q : aQ} (h : rI σ I (x + 14) Q) : rB σ x := ⟨h.1.blk, _, h.1.1⟩
/-- nothing that counts has changed -/
theorem rI.kp {σ : sjS} {I I' : sjI} {o : Nat} {Q : aQ} (h : rI σ I o Q) (hk : mKp o I I') : rI σ I' o Q := by
  obtain ⟨h1, h2, h3, h4, h5, h6⟩ := h
  obtain ⟨k1, ⟨k2, k3, k4, k5⟩, _⟩ := hk
  unfold rI
  rw [k1 (o + 1) (by omega), k1 (o + 2) (by omega), k1 (o + 3) (by omega), k1 (o + 4) (by omega), k2, k3, k4, k5]
  exact ⟨h1, h2, h3, h4, h5, h6.imp id (fun q => ⟨q.1, q.2.of_rows (k1 (o + 8) (by omega)) (k1 (o + 9) (by omega))⟩)⟩
/-- a change -/
theorem rI.chg {σ : sjS} {I I' : sjI} {o : Nat} {X : List Int} {S S' : aSt} {H : List aSt} {im : Nat → Option aSt} (h : rI σ I o (X, S, H, im)) (hk : mChg o I I') (hS : mSt (I' (o + 1)) S') : rI σ I' o (X, S', jHs H S, im) := by
  obtain ⟨h1, h2, h3, ⟨h4, h4a, h4b⟩, h5, h6⟩ := h
  obtain ⟨k1, ⟨k2, k3, k4⟩, _, k5⟩ := hk
  have h2' : mSt (I (o + 1)) S := h2
  have h4' : I o 2 = (H.length : Int) := h4
  have h4a' : H.length ≤ 8 := h4a
  have h4b' : ∀ (k : Nat) (S' : aSt), H[k]? = some S' → mSt (fun j => I (o + 2) (2001 * k + j)) S' := h4b
  refine ⟨h1, hS, ?_, ?_, ?_, Or.inl k4⟩
  · rw [k1 (o + 4) (by omega), k3]; exact h3
  · show I' o 2 = ((jHs H S).length : Int) ∧ (jHs H S).length ≤ 8 ∧ ∀ (k : Nat) (S' : aSt), (jHs H S)[k]? = some S' → mSt (fun j => I' (o + 2) (2001 * k + j)) S'
    unfold jHs
    rcases k5 with ⟨z1, z2, z3, z4⟩ | ⟨z1, z2, z3, z4⟩
    · rw [if_pos (show H.length < 8 by omega)]
      have ht : (I o 2).toNat = H.length := by omega
      rw [ht] at z3 z4
      refine ⟨by rw [z2, List.length_append, List.length_singleton]; omega, by rw [List.length_append, List.length_singleton]; omega, fun k S2 hk2 => ?_⟩
      by_cases e : k < H.length
      · rw [List.getElem?_append_left e] at hk2
        exact (h4b' k S2 hk2).congr (fun j hj => z3 _ (by omega))
      · rw [List.getElem?_append_right (by omega)] at hk2
        have hk0 : k - H.length = 0 := by
          by_cases z : k - H.length = 0
          · exact z
          · rw [List.getElem?_eq_none (by simp; omega)] at hk2; cases hk2
        rw [hk0] at hk2
        cases hk2
        rw [show k = H.length by omega]
        exact h2'.congr (fun j hj => z4 j hj)
    · rw [if_neg (show ¬ H.length < 8 by omega)]
      refine ⟨by rw [z2, List.length_append, List.length_singleton, List.length_tail]; omega, by rw [List.length_append, List.length_singleton, List.length_tail]; omega, fun k S2 hk2 => ?_⟩
      by_cases e : k < H.tail.length
      · rw [List.getElem?_append_left e, List.getElem?_tail] at hk2
        rw [List.length_tail] at e
        refine (h4b' (k + 1) S2 hk2).congr (fun j hj => ?_)
        show I' (o + 2) (2001 * k + j) = I (o + 2) (2001 * (k + 1) + j)
        rw [z3 _ (by omega), show 2001 + (2001 * k + j) = 2001 * (k + 1) + j by omega]
      · rw [List.getElem?_append_right (by omega)] at hk2
        rw [List.length_tail] at e hk2
        have hk0 : k - (H.length - 1) = 0 := by
          by_cases z : k - (H.length - 1) = 0
          · exact z
          · rw [List.getElem?_eq_none (by simp; omega)] at hk2; cases hk2
        rw [hk0] at hk2
        cases hk2
        rw [show k = 7 by omega]
        refine h2'.congr (fun j hj => ?_)
        show I' (o + 2) (2001 * 7 + j) = I (o + 1) j
        exact z4 j hj
  · rw [k1 (o + 3) (by omega), k2]; exact h5
