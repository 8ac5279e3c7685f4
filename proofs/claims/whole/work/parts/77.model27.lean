/-- what gather leaves -/
def mGa (o : Nat) (I J : sjI) : Prop := (∀ a, a ≠ o → ¬ (o + 10 ≤ a ∧ a ≤ o + 14) → a ≠ o + 18 → a ≠ o + 19 → J a = I a) ∧ ∀ j, j ≠ 21 → j ≠ 22 → j ≠ 23 → J o j = I o j
/-- the rows hold the queue -/
def mQr (o k : Nat) (J : sjI) (Q : List Nat) : Prop := (∀ j, j < Q.length → J (o + 19) j = (Q.getD j 0 : Nat)) ∧ ∀ q, q < 3200 → J (o + 18) q = if q ∈ Q ∧ q ≠ k then 1 else 0
/-- what the queue keeps -/
def jQi (M : Int) (E : Nat → Option (List Int)) (k s : Nat) (Q : List Nat) : Prop := Q.Nodup ∧ k ∈ Q ∧ ∀ q ∈ Q, q < 3200 ∧ (q = k ∨ jKs M E s q)
theorem jKs_zero {M : Int} {E : Nat → Option (List Int)} {q : Nat} : ¬ jKs M E 0 q := fun ⟨z, hz⟩ => by
  unfold jStg at hz
  cases hz
theorem jKs_least {M : Int} {E : Nat → Option (List Int)} {k : Nat} : ∀ n, jKs M E n k → ∃ s, jKs M E (s + 1) k ∧ ¬ jKs M E s k
  | 0, h => absurd h jKs_zero
  | n + 1, h => by
    rcases Classical.em (jKs M E n k) with h1 | h1
    · exact jKs_least n h1
    · exact ⟨n, h, h1⟩
theorem jQi.len {M : Int} {E : Nat → Option (List Int)} {k s : Nat} {Q : List Nat} (h : jQi M E k s Q) : Q.length ≤ 3200 := jNd_le 3200 Q h.1 (fun x hx => (h.2.2 x hx).1)
theorem jQi.add {M : Int} {E : Nat → Option (List Int)} {k s q : Nat} {Q : List Nat} (h : jQi M E k s Q) (hq : q < 3200) (hs : jKs M E s q) (hn : q ∉ Q) : jQi M E k s (Q ++ [q]) :=
  ⟨List.nodup_append.mpr ⟨h.1, by simp, fun a ha b hb => by rw [List.mem_singleton.mp hb]; exact fun e => hn (e ▸ ha)⟩, List.mem_append.mpr (Or.inl h.2.1), fun x hx => by
    rcases List.mem_append.mp hx with h1 | h1
    · exact h.2.2 x h1
    · rw [List.mem_singleton.mp h1]; exact ⟨hq, Or.inr hs⟩⟩
theorem jQi.nl {M : Int} {E : Nat → Option (List Int)} {k s q : Nat} {Q : List Nat} (h : jQi M E k s Q) (hk : jKs M E (s + 1) k) (hq : q ∈ Q) : ∀ x ∈ jNl E q, x < 3200 ∧ jKs M E s x := by
  rcases (h.2.2 q hq).2 with h1 | h1
  · rw [h1]; exact jKs_nl hk
  · cases s with
    | zero => exact absurd h1 jKs_zero
    | succ s => exact fun x hx => ⟨(jKs_nl h1 x hx).1, jKs_le (jKs_nl h1 x hx).2 (Nat.le_succ s)⟩
theorem mQr.add {o k q : Nat} {J : sjI} {Q : List Nat} (h : mQr o k J Q) (hk : q ≠ k) : mQr o k (sj_up (sj_up J (o + 18) q 1) (o + 19) Q.length (q : Nat)) (Q ++ [q]) := by
  refine ⟨fun j hj => ?_, fun x hx => ?_⟩
  · rw [List.length_append, List.length_singleton] at hj
    rcases Nat.lt_or_ge j Q.length with h1 | h1
    · rw [sj_up_ne (by omega), sj_up_ne (by omega), h.1 j h1]
      congr 1
      simp [List.getD, List.getElem?_append_left h1]
    · have h2 : j = Q.length := by omega
      subst h2
      rw [sj_up_self]
      congr 1
      simp [List.getD]
  · rw [sj_up_ne (by omega)]
    rcases Nat.decEq x q with h1 | h1
    · rw [sj_up_ne (by omega), h.2 x hx]
      have h2 : (x ∈ Q ++ [q]) ↔ x ∈ Q := ⟨fun z => (List.mem_append.mp z).elim id (fun y => absurd (List.mem_singleton.mp y) h1), fun z => List.mem_append.mpr (Or.inl z)⟩
      simp only [h2]
    · subst h1
      rw [sj_up_self, if_pos ⟨List.mem_append.mpr (Or.inr (List.mem_singleton.mpr rfl)), hk⟩]
