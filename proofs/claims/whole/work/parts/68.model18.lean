/-- how many of the first n cells are not known -/
def jUn (w : Nat → Int) : Nat → Nat
  | 0 => 0
  | n + 1 => jUn w n + (if w n = -9 then 1 else 0)
theorem jUn_le (w : Nat → Int) : ∀ n, jUn w n ≤ n
  | 0 => Nat.le_refl _
  | n + 1 => by
    have := jUn_le w n
    simp only [jUn]
    split <;> omega
theorem jUn_congr {w u : Nat → Int} : ∀ n, (∀ k, k < n → w k = u k) → jUn w n = jUn u n
  | 0, _ => rfl
  | n + 1, h => by
    simp only [jUn]
    rw [jUn_congr n (fun k hk => h k (by omega)), h n (by omega)]
theorem jUn_set {w u : Nat → Int} {k : Nat} (h9 : w k = -9) (hu : u k ≠ -9) (he : ∀ j, j ≠ k → u j = w j) : ∀ n, k < n → jUn u n + 1 = jUn w n
  | 0, h => absurd h (by omega)
  | n + 1, h => by
    simp only [jUn]
    by_cases e : k = n
    · subst e
      rw [if_neg hu, if_pos h9, jUn_congr k (fun j hj => he j (by omega))]
    · rw [he n (by omega)]
      have := jUn_set h9 hu he n (by omega)
      omega
/-- the row holds these equations -/
def mEq (f : Nat → Int) (E : Nat → Option (List Int)) : Prop := (∀ a, 8 ≤ a → E a = none) ∧ ∀ a, a < 8 → (E a = none ∧ f (1 + 250 * a) = 0) ∨ ∃ T, E a = some T ∧ 0 < f (1 + 250 * a) ∧ mB f a = jEnc T ∧ jOk 1 T ∧ T.length ≤ 120
def mLy (o : Nat) (I J : sjI) : Prop := (∀ a, a ≠ o → ¬ (o + 8 ≤ a ∧ a ≤ o + 14) → J a = I a) ∧ ∀ j, j ≠ 15 → j ≠ 21 → j ≠ 22 → j ≠ 23 → J o j = I o j
def mPart (o : Nat) (M : Int) (E : Nat → Option (List Int)) (J : sjI) : Prop := (∀ k, k < 3200 → J (o + 8) k = -9 ∨ (0 ≤ J (o + 8) k ∧ J (o + 8) k < M)) ∧ (∀ k, k < 3200 → 0 ≤ J (o + 9) k ∧ J (o + 9) k + jUn (J (o + 8)) 3200 ≤ 3200) ∧ ∀ k, k < 3200 → J (o + 8) k ≠ -9 → ∃ n, jStg M E n k = some (J (o + 8) k, J (o + 9) k)
/-- the cell cannot be filled -/
def mNo (o : Nat) (M : Int) (E : Nat → Option (List Int)) (J : sjI) (k : Nat) : Prop := J (o + 8) k = -9 → ∀ T, E (k / 400) = some T → jEv M (J (o + 8)) T (k % 400) = none
/-- all values are there -/
def mLd (o : Nat) (M : Int) (E : Nat → Option (List Int)) (J : sjI) : Prop := (∀ k, k < 3200 → J (o + 8) k = -9 ∨ (0 ≤ J (o + 8) k ∧ J (o + 8) k < M)) ∧ (∀ k, k < 3200 → 0 ≤ J (o + 9) k ∧ J (o + 9) k ≤ 3200) ∧ (∀ k, k < 3200 → J (o + 8) k ≠ -9 → ∃ n, jStg M E n k = some (J (o + 8) k, J (o + 9) k)) ∧ ∀ n k z, k < 3200 → jStg M E n k = some z → J (o + 8) k = z.1 ∧ J (o + 9) k = z.2
section MODEL18
variable {l : Launch} {G : sjG} {σ : sjS} {I : sjI}
theorem mLd_of {o : Nat} {M : Int} {E : Nat → Option (List Int)} {J : sjI} (hE : ∀ a, 8 ≤ a → E a = none) (h : mPart o M E J) (hn : ∀ k, k < 3200 → mNo o M E J k) : mLd o M E J :=
  ⟨h.1, fun k hk => by have := h.2.1 k hk; omega, h.2.2, fun n k z hk hs => jStg_full hE h.2.2 (fun k T hk h9 hT => hn k hk h9 T hT) n k z hk hs⟩
theorem cm_find' {o k : Nat} {M : Int} {E : Nat → Option (List Int)} {J : sjI} (hS : mSh σ o) (hW : mW (I (o + 1))) (hE : mEq (I (o + 1)) E) (hk : k < 3200) (hM : I (o + 1) 0 = M) (hM2 : 2 ≤ M ∧ M ≤ 10) (hL : mLy o I J) (hP : mPart o M E J) : sj_Con l yX10_find mX10_find G σ J [.ref o, .int (zI k)] (fun r σ' J' => σ = σ' ∧ mLy o I J' ∧ J' o 15 = J o 15 ∧ mPart o M E J' ∧ ((r = some (.int (zI 0)) ∧ J' (o + 8) = J (o + 8) ∧ mNo o M E J' k) ∨ (r = some (.int (zI 1)) ∧ jUn (J' (o + 8)) 3200 + 1 = jUn (J (o + 8)) 3200))) := by
  have hw1 : J (o + 1) = I (o + 1) := hL.1 (o + 1) (by omega) (by omega)
  have hEk := hE.2 (k / 400) (by omega)
  obtain ⟨T, hT1, hT2⟩ : ∃ T, (0 < J (o + 1) (1 + 250 * (k / 400)) → mB (J (o + 1)) (k / 400) = jEnc T ∧ jOk 1 T ∧ T.length ≤ 120) ∧ ((E (k / 400) = none ∧ ¬ 0 < J (o + 1) (1 + 250 * (k / 400))) ∨ E (k / 400) = some T) := by
    rw [hw1]
    rcases hEk with ⟨e1, e2⟩ | ⟨T, e1, e2, e3⟩
    · exact ⟨[], fun h => absurd h (by omega), Or.inl ⟨e1, by omega⟩⟩
    · exact ⟨T, fun _ => e3, Or.inr e1⟩
  have h := cm_find (l := l) (G := G) (I := J) (T := T) hS (by rw [hw1]; exact hW) hk (by rw [hw1]; exact hM) hM2 hT1 hP.1 (fun k hk => by have := hP.2.1 k hk; omega)
  refine h.weak (fun r σ' J' hq => ?_)
  obtain ⟨rfl, hq⟩ := hq
  rcases hq with ⟨rfl, hcp, hno⟩ | ⟨nd, x, q1, q2, q3, q4, rfl, hcp⟩
  · have h8 : J' (o + 8) = J (o + 8) := hcp.1 (o + 8) (by omega) (by omega)
    have h9 : J' (o + 9) = J (o + 9) := hcp.1 (o + 9) (by omega) (by omega)
    refine ⟨rfl, ⟨fun a e1 e2 => by rw [hcp.1 a e1 (by omega)]; exact hL.1 a e1 e2, fun j e1 e2 e3 e4 => by rw [hcp.2 j e2 e3 e4]; exact hL.2 j e1 e2 e3 e4⟩, hcp.2 15 (by decide) (by decide) (by decide), ?_, Or.inl ⟨rfl, h8, ?_⟩⟩
    · unfold mPart
      rw [h8, h9]
      exact hP
    · intro z T' hT'
      rw [h8] at z ⊢
      rcases hno with n1 | n1 | n1
      · exact absurd z n1
      · rcases hT2 with ⟨t1, -⟩ | t1
        · rw [t1] at hT'; cases hT'
        · rw [hw1] at n1
          rcases hEk with ⟨e1, -⟩ | ⟨_, -, e2, -⟩
          · rw [e1] at hT'; cases hT'
          · exact absurd e2 n1
      · rcases hT2 with ⟨t1, -⟩ | t1
        · rw [t1] at hT'; cases hT'
        · rw [t1] at hT'
          cases hT'
          exact n1
  · have hET : E (k / 400) = some T := by
      rcases hT2 with ⟨-, t1⟩ | t1
      · exact absurd q2 t1
      · exact t1
    have h8 : J' (o + 8) = sj_up J (o + 8) k x (o + 8) := by rw [hcp.1 (o + 8) (by omega) (by omega), sj_up_row (by omega)]
    have h9 : J' (o + 9) = sj_up J (o + 9) k (jRk (J (o + 9)) 0 nd) (o + 9) := by
      rw [hcp.1 (o + 9) (by omega) (by omega)]
      funext j
      by_cases e : j = k
      · subst e; rw [sj_up_self, sj_up_self]
      · rw [sj_up_ne (by omega), sj_up_ne (by omega), sj_up_ne (by omega)]
    have hun : jUn (J' (o + 8)) 3200 + 1 = jUn (J (o + 8)) 3200 := jUn_set q1 (by rw [h8, sj_up_self]; omega) (fun j e => by rw [h8, sj_up_ne (by omega)]) 3200 hk
    obtain ⟨-, hmore⟩ := jEv_more (w := J (o + 8)) q3 (fun _ _ _ => rfl)
    have hrk := jRk_le (ρ := J (o + 9)) (B := 3200 - (jUn (J (o + 8)) 3200 : Int)) nd 0 (fun q hq => by have := hP.2.1 q (hmore q hq).2; omega) (by have := jUn_le (J (o + 8)) 3200; omega)
    obtain ⟨n, hn⟩ := jStg_all (M := M) (E := E) (w := J (o + 8)) (ρ := J (o + 9)) nd (fun q hq => hP.2.2 q (hmore q hq).2 (hmore q hq).1)
    have hst := jStg_mk hET q3 hn
    refine ⟨rfl, ⟨fun a e1 e2 => by rw [hcp.1 a e1 (by omega), sj_up_row (by omega), sj_up_row (by omega)]; exact hL.1 a e1 e2, fun j e1 e2 e3 e4 => by rw [hcp.2 j e2 e3 e4, sj_up_row (by omega), sj_up_row (by omega)]; exact hL.2 j e1 e2 e3 e4⟩, by rw [hcp.2 15 (by decide) (by decide) (by decide), sj_up_row (by omega), sj_up_row (by omega)], ⟨?_, ?_, ?_⟩, Or.inr ⟨rfl, hun⟩⟩
    · intro j hj
      rw [h8]
      by_cases e : j = k
      · subst e; rw [sj_up_self]; exact Or.inr q4
      · rw [sj_up_ne (by omega)]; exact hP.1 j hj
    · intro j hj
      rw [h9]
      by_cases e : j = k
      · subst e; rw [sj_up_self]; omega
      · rw [sj_up_ne (by omega)]; have := hP.2.1 j hj; omega
    · intro j hj hne
      rw [h8, h9]
      rw [h8] at hne
      by_cases e : j = k
      · subst e; rw [sj_up_self, sj_up_self]; exact ⟨n + 1, hst⟩
      · rw [sj_up_ne (by omega), sj_up_ne (by omega)]
        rw [sj_up_ne (by omega)] at hne
        exact hP.2.2 j hj hne
end MODEL18
