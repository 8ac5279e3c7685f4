/-- the cells that a cell needs at once -/
def jNl (E : Nat → Option (List Int)) (q : Nat) : List Nat := match E (q / 400) with
  | none => []
  | some T => (jN T (q % 400)).getD []
/-- a queue takes the cells of a list that it has not -/
def jAd : List Nat → List Nat → List Nat
  | Q, [] => Q
  | Q, q :: l => jAd (if q ∈ Q then Q else Q ++ [q]) l
/-- the queue, from its place n on, d places at the most -/
def jQu (E : Nat → Option (List Int)) : Nat → List Nat → Nat → List Nat
  | 0, Q, _ => Q
  | d + 1, Q, n => if n < Q.length then jQu E d (jAd Q (jNl E (Q.getD n 0))) (n + 1) else Q
/-- a cell's value follows -/
def jKn (M : Int) (E : Nat → Option (List Int)) (q : Nat) : Prop := ∃ n z, jStg M E n q = some z
/-- a cell's value follows at a stage -/
def jKs (M : Int) (E : Nat → Option (List Int)) (n q : Nat) : Prop := ∃ z, jStg M E n q = some z
theorem jKs_le {M : Int} {E : Nat → Option (List Int)} {n m q : Nat} (h : jKs M E n q) (hm : n ≤ m) : jKs M E m q := by
  obtain ⟨z, hz⟩ := h
  exact ⟨z, jStg_le hz hm⟩
theorem jKs_nl {M : Int} {E : Nat → Option (List Int)} {n k : Nat} (h : jKs M E (n + 1) k) : ∀ q ∈ jNl E k, q < 3200 ∧ jKs M E n q := by
  obtain ⟨z, hz⟩ := h
  obtain ⟨T, nd, x, hE, he, _⟩ := jStg_some hz
  intro q hq
  unfold jNl at hq
  rw [hE] at hq
  change q ∈ (jN T (k % 400)).getD [] at hq
  have hj : jN T (k % 400) = some nd ∧ nd.all (fun q => decide (((jStg M E n q).map Prod.fst).getD (-9) ≠ -9)) = true := by
    unfold jEv at he
    cases e : jN T (k % 400) with
    | none => rw [e] at he; exact absurd he (by simp)
    | some l =>
      rw [e] at he
      simp only at he
      split at he
      · rename_i hall
        have h1 : (l, jV M _ T (k % 400)) = (nd, x) := Option.some.inj he
        have h2 : l = nd := congrArg Prod.fst h1
        subst h2
        exact ⟨rfl, hall⟩
      · exact absurd he (by simp)
  rw [hj.1] at hq
  have hq2 : q ∈ nd := hq
  refine ⟨jN_lt _ _ _ _ (Nat.le_refl _) hj.1 q hq2, ?_⟩
  have h3 := List.all_eq_true.mp hj.2 q hq2
  exact jStg_v (of_decide_eq_true h3)
/-- a cell that follows at stage n is none of those that need it -/
theorem jAd_mem : ∀ (l Q : List Nat) (x : Nat), x ∈ jAd Q l → x ∈ Q ∨ x ∈ l
  | [], Q, x, h => Or.inl h
  | q :: l, Q, x, h => by
    unfold jAd at h
    rcases jAd_mem l _ x h with h1 | h1
    · split at h1
      · exact Or.inl h1
      · rcases List.mem_append.mp h1 with h2 | h2
        · exact Or.inl h2
        · exact Or.inr (List.mem_cons.mpr (Or.inl (List.mem_singleton.mp h2)))
    · exact Or.inr (List.mem_cons.mpr (Or.inr h1))
theorem jAd_nodup : ∀ (l Q : List Nat), Q.Nodup → (jAd Q l).Nodup
  | [], _, h => h
  | q :: l, Q, h => by
    unfold jAd
    refine jAd_nodup l _ ?_
    split
    · exact h
    · rename_i hn
      exact List.nodup_append.mpr ⟨h, by simp, fun a ha b hb => by rw [List.mem_singleton.mp hb]; exact fun e => hn (e ▸ ha)⟩
theorem jAd_pre : ∀ (l Q : List Nat), ∃ R, jAd Q l = Q ++ R
  | [], Q => ⟨[], (List.append_nil Q).symm⟩
  | q :: l, Q => by
    unfold jAd
    split
    · exact jAd_pre l Q
    · obtain ⟨R, hR⟩ := jAd_pre l (Q ++ [q])
      exact ⟨q :: R, by rw [hR, List.append_assoc]; rfl⟩
theorem jNd_le : ∀ (N : Nat) (L : List Nat), L.Nodup → (∀ x ∈ L, x < N) → L.length ≤ N
  | 0, L, _, h => by
    cases L with
    | nil => exact Nat.le_refl _
    | cons a _ => exact absurd (h a (List.mem_cons.mpr (Or.inl rfl))) (by omega)
  | N + 1, L, hn, h => by
    have h1 := jNd_le N (L.erase N) (hn.erase N) (fun x hx => by
      have h2 := (List.Nodup.mem_erase_iff hn).mp hx
      have h3 := h x h2.2
      have h4 := h2.1
      omega)
    have h5 := List.length_erase (a := N) (l := L)
    split at h5 <;> omega
