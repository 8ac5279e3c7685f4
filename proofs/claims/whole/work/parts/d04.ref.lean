/-! bytes and codes -/
theorem jIns_enc {b : Int} (hb : 65 ≤ b ∧ b ≤ 72) (U : List Int) : ∀ T : List Int, (∀ c ∈ T, jVc c) → jIns b (jEnc U) (jEnc T) = jEnc (jIns b U T)
  | [], _ => rfl
  | c :: T, h => by
    have ih := jIns_enc hb U T (fun c hc => h c (List.mem_cons_of_mem _ hc))
    have hv := h c List.mem_cons_self
    unfold jVc at hv
    rw [jEnc_cons, jIns_app, jIns_cons, jEnc_app, ih]
    congr 1
    by_cases h1 : 128 ≤ c
    · rw [jE_front h1, jIns_cons, jIns_one, if_neg (by omega), if_neg (by omega), if_neg (by omega), jEnc_cons, jE_front h1]
      rfl
    · rw [jE_else h1, jIns_one]
      by_cases e : c = b
      · rw [if_pos e, if_pos e]
      · rw [if_neg e, if_neg e, jEnc_cons, jE_else h1]
        rfl
theorem jOc_enc {b : Int} (hb : 65 ≤ b ∧ b ≤ 72) : ∀ T : List Int, (∀ c ∈ T, jVc c) → jOc b (jEnc T) = jOc b T
  | [], _ => rfl
  | c :: T, h => by
    have ih := jOc_enc hb T (fun c hc => h c (List.mem_cons_of_mem _ hc))
    have hv := h c List.mem_cons_self
    unfold jVc at hv
    rw [jEnc_cons, jOc_app, ih]
    by_cases h1 : 128 ≤ c
    · rw [jE_front h1]
      simp only [jOc]
      rw [if_neg (show ¬ (58 : Int) = b by omega), if_neg (show ¬ c - 80 = b by omega), if_neg (show ¬ c = b by omega)]
      omega
    · rw [jE_else h1]
      simp only [jOc]
      omega
theorem jPb_enc2 : ∀ T : List Int, (∀ c ∈ T, jVc c) → jPb (jEnc T) = jPb T
  | [], _ => rfl
  | c :: T, h => by
    have ih := jPb_enc2 T (fun c hc => h c (List.mem_cons_of_mem _ hc))
    have hv := h c List.mem_cons_self
    unfold jVc at hv
    unfold jPb at ih ⊢
    rw [jEnc_cons, List.all_append, ih, List.all_cons]
    congr 1
    by_cases h1 : 128 ≤ c
    · rw [jE_front h1]
      simp only [List.all_cons, List.all_nil, Bool.and_true]
      rw [decide_eq_true (show (58 : Int) ≠ 122 ∧ (58 : Int) ≠ 101 ∧ (58 : Int) ≠ 111 by decide), decide_eq_true (show c - 80 ≠ 122 ∧ c - 80 ≠ 101 ∧ c - 80 ≠ 111 by omega), decide_eq_true (show c ≠ 122 ∧ c ≠ 101 ∧ c ≠ 111 by omega)]
      rfl
    · rw [jE_else h1]
      simp only [List.all_cons, List.all_nil, Bool.and_true]
theorem jSi_ok : ∀ (n : Nat) (T : List Int) (k : Nat) (U : List Int), jOk 1 T → T.length ≤ 120 → jSi n T = some (k, U) → jOk 1 U ∧ U.length ≤ 120
  | 0, T, k, U, h1, h2, h => by
    unfold jSi at h
    cases h
    exact ⟨h1, h2⟩
  | n + 1, T, k, U, h1, h2, h => by
    cases hs : jStep [] T with
    | none =>
      rw [jSi_none hs] at h
      cases h
      exact ⟨h1, h2⟩
    | some T' =>
      by_cases h3 : 120 < T'.length
      · rw [jSi_full hs h3] at h; cases h
      · rw [jSi_some hs h3] at h
        cases h4 : jSi n T' with
        | none => rw [h4] at h; cases h
        | some z =>
          rw [h4] at h
          cases h
          exact jSi_ok n T' z.1 z.2 (jStep_ok h1 hs).1 (by omega) h4
theorem mSt.cnt {f : Nat → Int} {S : aSt} (h : mSt f S) : ∀ n, n ≤ 8 → jCnt f n = jCe S.2 n
  | 0, _ => rfl
  | n + 1, hn => by
    unfold jCnt jCe
    rw [h.cnt n (by omega)]
    rcases h.term (a := n) (by omega) with ⟨q1, q2, _⟩ | ⟨T, q1, q2, _⟩
    · rw [if_neg (by omega), if_pos q1]
    · rw [if_pos q2, if_neg (by rw [q1]; exact fun e => by cases e)]
theorem mSt.sz {f : Nat → Int} {S : aSt} (h : mSt f S) {a : Nat} (ha : a < 8) : jSz 0 (mB f a) = ((S.2 a).getD []).length := by
  rcases h.term ha with ⟨q1, _, q3⟩ | ⟨T, q1, _, q3, q4, _⟩
  · rw [q1, q3]; rfl
  · rw [q1, q3, jSz_enc T 0 (by decide) (jOk_vc T 1 q4)]; rfl
theorem mSt.enc {f : Nat → Int} {S : aSt} (h : mSt f S) {a : Nat} (ha : a < 8) : mB f a = jEnc ((S.2 a).getD []) := by
  rcases h.term ha with ⟨q1, _, q3⟩ | ⟨T, q1, _, q3, q4, _⟩
  · rw [q1, q3]; rfl
  · rw [q1, q3]; rfl
theorem mSt.vc {f : Nat → Int} {S : aSt} (h : mSt f S) {a : Nat} (ha : a < 8) : ∀ c ∈ (S.2 a).getD [], jVc c := by
  rcases h.term ha with ⟨q1, _, q3⟩ | ⟨T, q1, _, q3, q4, _⟩
  · rw [q1]; intro c hc; cases hc
  · rw [q1]; exact jOk_vc T 1 q4
theorem mSt.all {f : Nat → Int} {S : aSt} (h : mSt f S) : ∀ n, n ≤ 8 → jAs f n = jTe S.2 n
  | 0, _ => rfl
  | n + 1, hn => by
    unfold jAs jTe
    rw [h.all n (by omega), h.sz (a := n) (by omega)]
theorem mSt.pl {f : Nat → Int} {S : aSt} (h : mSt f S) : ∀ n, n ≤ 8 → jPa f n = jPe S.2 n
  | 0, _ => rfl
  | n + 1, hn => by
    unfold jPa jPe
    rw [h.pl n (by omega), h.enc (a := n) (by omega), jPb_enc2 _ (h.vc (a := n) (by omega))]
theorem mSt.mod {f : Nat → Int} {S : aSt} {m : Int} (h : mSt f S) (hm : 2 ≤ m ∧ m ≤ 10) : mSt (fun j => if j = 0 then m else f j) (m, S.2) := by
  obtain ⟨h1, h2, h3, h4, h5⟩ := h
  refine ⟨if_pos rfl, hm, fun a ha => ?_, h4, fun a ha => ?_⟩
  · have := h3 a ha
    simp only [if_neg (show ¬ 1 + 250 * a = 0 by omega)]
    refine ⟨this.1, fun j hj => ?_⟩
    rw [if_neg (show ¬ 2 + 250 * a + j = 0 by omega)]
    exact this.2 j hj
  · have e : mB (fun j => if j = 0 then m else f j) a = mB f a := by
      unfold mB
      simp only [if_neg (show ¬ 1 + 250 * a = 0 by omega)]
      exact lst_congr (fun j hj => if_neg (by omega))
    rw [e]
    simp only [if_neg (show ¬ 1 + 250 * a = 0 by omega)]
    exact h5 a ha
/-- the text changes -/
theorem rI.txt {σ : sjS} {I I' : sjI} {o : Nat} {X : List Int} {Q : aQ} (h : rI σ I o Q) (hI : ∀ q, q ≠ o → q ≠ o + 4 → I' q = I q) (hj : ∀ j, j ≠ 6 → I' o j = I o j) (h6 : I' o 6 = X.length ∧ X.length ≤ 80 ∧ lst (I' (o + 4)) 0 X.length = X ∧ ∀ c ∈ X, 32 ≤ c ∧ c ≤ 126) : rI σ I' o (X, Q.2) := by
  obtain ⟨h1, h2, h3, h4, h5, h7⟩ := h
  unfold rI
  rw [hI (o + 1) (by omega) (by omega), hI (o + 2) (by omega) (by omega), hI (o + 3) (by omega) (by omega), hj 2 (by decide), hj 4 (by decide), hj 15 (by decide)]
  exact ⟨h1, h2, h6, h4, h5, h7.imp id (fun q => ⟨q.1, q.2.of_rows (hI (o + 8) (by omega) (by omega)) (hI (o + 9) (by omega) (by omega))⟩)⟩
/-- values were laid -/
theorem rI.ne {σ : sjS} {I I' : sjI} {o : Nat} {Q : aQ} (h : rI σ I o Q) (hn : mNe o I I') (h15 : I' o 15 = 1) (hL : mLd o Q.2.1.1 Q.2.1.2 I') : rI σ I' o Q := by
  obtain ⟨h1, h2, h3, h4, h5, h7⟩ := h
  unfold rI
  rw [hn.1 (o + 1) (by omega) (by omega) (by omega) (by omega), hn.1 (o + 2) (by omega) (by omega) (by omega) (by omega), hn.1 (o + 3) (by omega) (by omega) (by omega) (by omega), hn.1 (o + 4) (by omega) (by omega) (by omega) (by omega), hn.2 2 (by decide) (by decide) (by decide) (by decide), hn.2 4 (by decide) (by decide) (by decide) (by decide), hn.2 6 (by decide) (by decide) (by decide) (by decide)]
  exact ⟨h1, h2, h3, h4, h5, Or.inr ⟨h15, hL⟩⟩
theorem mNe.out {o : Nat} {I I' : sjI} (hn : mNe o I I') : ∀ q, q < o ∨ o + 21 < q → I' q = I q := fun q hq => hn.1 q (by omega) (by omega) (by omega) (by omega)
def rPost (σ : sjS) (I : sjI) (o : Nat) (z : Int × aQ) : sjP := fun r σ' I' => σ = σ' ∧ (∀ q, q < o ∨ o + 21 < q → I' q = I q) ∧ r = some (.int (zI z.1)) ∧ rI σ' I' o z.2
