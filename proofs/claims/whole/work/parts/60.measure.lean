/-! rewriting ends: a measure -/
def jNt : List Int → Nat
  | [] => 0
  | c :: L => (if c = 116 then 0 else 1) + jNt L
theorem jNt_app : ∀ A B : List Int, jNt (A ++ B) = jNt A + jNt B
  | [], B => by simp [jNt]
  | a :: A, B => by
    have h := jNt_app A B
    simp only [List.cons_append, jNt, h]
    omega
theorem jNt_le : ∀ L : List Int, jNt L ≤ L.length
  | [] => Nat.le_refl _
  | c :: L => by
    have h := jNt_le L
    simp only [jNt, List.length_cons]
    split <;> omega
/-- the heads over which a tail moves without a part being lost -/
def jPv (h : Int) : Bool := decide (h = 43 ∨ h = 42 ∨ h = 122 ∨ h = 101 ∨ h = 111 ∨ (48 ≤ h ∧ h ≤ 57))
def jRd (c : Int) (L : List Int) : Bool := (jRoot (jTk 1 (c :: L))).isSome
def jW (n : Nat) : Nat → Nat → List Int → Nat
  | _, _, [] => 0
  | r, τ, c :: L => if jRd c L = true then (if c = 116 ∧ jPv (L.headD 0) = true then (n - r) * (121 - n) + (τ + 1) else 0) else jW n (r + (if c = 116 then 0 else 1)) (if c = 116 then τ + 1 else 0) L
theorem jW_cons (n r τ : Nat) (c : Int) (L : List Int) : jW n r τ (c :: L) = if jRd c L = true then (if c = 116 ∧ jPv (L.headD 0) = true then (n - r) * (121 - n) + (τ + 1) else 0) else jW n (r + (if c = 116 then 0 else 1)) (if c = 116 then τ + 1 else 0) L := rfl
theorem jRd_116 (h : Int) (L : List Int) : jRd 116 (h :: L) = (jPv h || decide (128 ≤ h)) := by
  have e : jTk 1 (116 :: h :: L) = 116 :: h :: jTk (0 + jAr h) L := rfl
  unfold jRd
  rw [e, jRoot_cons, if_pos rfl, jRt_cons]
  unfold jPv
  by_cases h1 : 128 ≤ h
  · rw [if_pos h1]; simp [h1]
  · rw [if_neg h1]
    by_cases h2 : h = 43 ∨ h = 42
    · rw [if_pos h2]; rcases h2 with rfl | rfl <;> rfl
    · rw [if_neg h2]
      by_cases h3 : h = 122
      · rw [if_pos h3]; subst h3; rfl
      · rw [if_neg h3]
        by_cases h4 : h = 101 ∨ h = 111
        · rw [if_pos h4]; rcases h4 with rfl | rfl <;> rfl
        · rw [if_neg h4]
          by_cases h5 : 48 ≤ h ∧ h ≤ 57
          · rw [if_pos h5]; simp [h5]
          · rw [if_neg h5]
            have hd : (h = 43 ∨ h = 42 ∨ h = 122 ∨ h = 101 ∨ h = 111 ∨ (48 ≤ h ∧ h ≤ 57)) = False := by
              apply eq_false
              omega
            simp [hd, h1]
theorem jW_le (n : Nat) : ∀ (L : List Int) (r τ : Nat), jW n r τ L ≤ (n - r) * (121 - n) + τ + (L.length - jNt L)
  | [], r, τ => Nat.zero_le _
  | c :: L, r, τ => by
    have hl := jNt_le L
    rw [jW_cons]
    by_cases hc : c = 116
    · simp only [hc, if_true, true_and, jNt, List.length_cons, Nat.add_zero]
      have ih := jW_le n L r (τ + 1)
      split
      · split <;> omega
      · omega
    · simp only [hc, if_false, false_and, jNt, List.length_cons]
      have ih := jW_le n L (r + 1) 0
      have hm : (n - (r + 1)) * (121 - n) ≤ (n - r) * (121 - n) := Nat.mul_le_mul_right _ (by omega)
      split
      · omega
      · omega
/-- no rule applies within A, in front of B -/
def jNr : List Int → List Int → Prop
  | [], _ => True
  | a :: A, B => jRd a (A ++ B) = false ∧ jNr A B
theorem jW_pos (n : Nat) {u : Int} {L : List Int} (hu : jPv u = true) : ∀ (A : List Int) (r τ : Nat), jNr A (116 :: u :: L) → 1 ≤ jW n r τ (A ++ 116 :: u :: L)
  | [], r, τ, _ => by
    rw [List.nil_append, jW_cons, jRd_116, hu, Bool.true_or, if_pos rfl, if_pos ⟨rfl, hu⟩]
    omega
  | a :: A, r, τ, h => by
    rw [List.cons_append, jW_cons, h.1, if_neg (by decide)]
    exact jW_pos n hu A _ _ h.2
theorem jW_fall (n : Nat) {u : Int} {L W : List Int} (hu : jPv u = true) (ht : W.length - jNt W ≤ 120 - n) (hn : n ≤ 120) : ∀ (A : List Int) (r τ : Nat), jNr A (116 :: u :: L) → r + jNt A + 1 ≤ n → jW n r τ (A ++ u :: W) < jW n r τ (A ++ 116 :: u :: L)
  | [], r, τ, _, hr => by
    have hu2 : ¬ u = 116 := by intro e; subst e; exact absurd hu (by decide)
    have h1 : jW n r τ ([] ++ 116 :: u :: L) = (n - r) * (121 - n) + (τ + 1) := by
      rw [List.nil_append, jW_cons, jRd_116, hu, Bool.true_or, if_pos rfl, if_pos ⟨rfl, hu⟩]
    rw [h1, List.nil_append, jW_cons]
    simp only [hu2, if_false, false_and]
    simp only [jNt] at hr
    split
    · omega
    · have hb := jW_le n W (r + 1) 0
      have hm : (n - r) * (121 - n) = (n - (r + 1)) * (121 - n) + (121 - n) := by
        rw [show n - r = (n - (r + 1)) + 1 by omega, Nat.add_mul, Nat.one_mul]
      omega
  | a :: A, r, τ, h, hr => by
    have hu2 : ¬ u = 116 := by intro e; subst e; exact absurd hu (by decide)
    rw [List.cons_append, List.cons_append, jW_cons n r τ a (A ++ 116 :: u :: L), h.1, if_neg (by decide), jW_cons]
    by_cases ha : a = 116
    · subst ha
      simp only [if_true, true_and, Nat.add_zero]
      simp only [jNt, if_true] at hr
      cases A with
      | nil =>
        have e1 : jW n r (τ + 1) ([] ++ 116 :: u :: L) = (n - r) * (121 - n) + (τ + 1 + 1) := by
          rw [List.nil_append, jW_cons, jRd_116, hu, Bool.true_or, if_pos rfl, if_pos ⟨rfl, hu⟩]
        rw [e1, List.nil_append, jRd_116, hu, Bool.true_or, if_pos rfl, if_pos (by exact hu)]
        omega
      | cons b A =>
        have h1 := h.1
        rw [List.cons_append, jRd_116] at h1
        rw [List.cons_append, jRd_116, h1, if_neg (by decide)]
        rw [List.cons_append]
        exact jW_fall n hu ht hn (b :: A) r (τ + 1) h.2 (by omega)
    · simp only [ha, if_false, false_and]
      simp only [jNt, ha, if_false] at hr
      split
      · exact jW_pos n hu A _ _ h.2
      · exact jW_fall n hu ht hn A (r + 1) 0 h.2 (by omega)
theorem jStep_spec2 : ∀ (L A : List Int) (m : Nat) (T : List Int), jOk m L → jStep A L = some T → ∃ X M M' R, L = X ++ (M ++ R) ∧ T = A ++ (X ++ (M' ++ R)) ∧ jOk 1 M ∧ jRoot M = some M' ∧ jNr X (M ++ R)
  | [], A, m, T, _, h => by cases h
  | c :: L, A, 0, T, hm, h => hm.elim
  | c :: L, A, m + 1, T, hm, h => by
    have hs := jOk_split (c :: L) 1 m (by rw [Nat.add_comm]; exact hm)
    cases hr : jRoot (jTk 1 (c :: L)) with
    | some M' =>
      rw [jStep_some hr] at h
      cases h
      exact ⟨[], jTk 1 (c :: L), M', jDr 1 (c :: L), (jTkDr _ 1).symm, rfl, hs.1, hr, trivial⟩
    | none =>
      rw [jStep_none hr] at h
      obtain ⟨X, M, M', R, e1, e2, e3, e4, e5⟩ := jStep_spec2 L (A ++ [c]) _ T hm.2 h
      refine ⟨c :: X, M, M', R, by rw [e1]; rfl, by rw [e2, List.append_assoc]; rfl, e3, e4, ?_, e5⟩
      unfold jRd
      rw [← e1, hr]
      rfl
/-- a rule lowers the number of parts that are no tails, or it moves a tail inwards -/
theorem jRoot_fall {M M' : List Int} (h : jOk 1 M) (hr : jRoot M = some M') : jNt M' < jNt M ∨ ∃ u L W, M = 116 :: u :: L ∧ M' = u :: W ∧ jPv u = true ∧ jNt M' = jNt M := by
  obtain ⟨c, L, rfl, hv, hL⟩ := jOk_ne h
  rw [Nat.zero_add] at hL
  rw [jRoot_cons] at hr
  split at hr
  · rename_i hc
    subst hc
    obtain ⟨u, N, rfl, hu, hN⟩ := jOk_ne (n := 0) hL
    rw [Nat.zero_add] at hN
    rw [jRt_cons] at hr
    have two : jAr u = 2 → jNt N = jNt (jTk 1 N) + jNt (jDr 1 N) := fun _ => by rw [← jNt_app, jTkDr]
    split at hr
    · cases hr
      left
      have hu2 : ¬ u = 116 := by omega
      simp only [jNt, if_true, hu2, if_false]
      omega
    · split at hr
      · rename_i h2
        cases hr
        right
        refine ⟨u, N, _, rfl, rfl, ?_, ?_⟩
        · unfold jPv; exact decide_eq_true (by omega)
        · have e := two (if_pos (by omega))
          simp only [jNt, jNt_app, if_true, e]
          omega
      · split at hr
        · rename_i h3
          cases hr
          right
          refine ⟨u, N, _, rfl, by rw [h3], ?_, ?_⟩
          · unfold jPv; exact decide_eq_true (by omega)
          · have e := two (if_pos (by omega))
            subst h3
            simp only [jNt, jNt_app, if_true, e]
            omega
        · split at hr
          · rename_i h4
            cases hr
            right
            refine ⟨u, N, _, rfl, rfl, ?_, ?_⟩
            · unfold jPv; exact decide_eq_true (by omega)
            · simp only [jNt, if_true]
              omega
          · split at hr
            · rename_i h5
              cases hr
              right
              have ha : jAr u = 0 := by unfold jAr; rw [if_neg (by omega), if_pos (by omega)]
              rw [ha] at hN
              have hN0 : N = [] := by
                cases N with
                | nil => rfl
                | cons x N => exact hN.elim
              subst hN0
              refine ⟨u, [], [], rfl, rfl, ?_, ?_⟩
              · unfold jPv; exact decide_eq_true (by omega)
              · simp only [jNt, if_true]
                omega
            · cases hr
  · left
    rename_i hc1
    split at hr
    · rename_i hc
      have hac : jAr c = 1 := by unfold jAr; rw [if_neg (by omega), if_neg (by omega)]
      rw [hac] at hL
      obtain ⟨u, N, rfl, hu, hN⟩ := jOk_ne hL
      rw [jRe_cons] at hr
      split at hr
      · cases hr
        simp only [jNt, hc1, if_false]
        omega
      · split at hr
        · rename_i hz
          cases hr
          have e : jNt N = jNt (jTk 1 N) + jNt (jDr 1 N) := by rw [← jNt_app, jTkDr]
          subst hz
          simp only [jNt, hc1, if_false]
          split <;> simp <;> omega
        · cases hr
    · split at hr
      · rename_i hz
        unfold jRz at hr
        split at hr
        · cases hr
          have e : jNt L = jNt (jTk 1 L) + jNt (jDr 1 L) := by rw [← jNt_app, jTkDr]
          have e2 : jNt (jTk 1 L).tail ≤ jNt (jTk 1 L) := by
            cases jTk 1 L with
            | nil => exact Nat.le_refl _
            | cons x P => simp only [List.tail_cons, jNt]; omega
          simp only [jNt, hc1, if_false]
          omega
        · cases hr
      · cases hr
def jMu (T : List Int) : Nat := 3722 * jNt T + jW (jNt T) 0 0 T
theorem jMu_rest {T : List Int} (h : T.length ≤ 120) : jW (jNt T) 0 0 T ≤ 3721 := by
  have h1 := jW_le (jNt T) T 0 0
  have h2 := jNt_le T
  have h3 : (jNt T) * (121 - jNt T) + (120 - jNt T) ≤ 3721 := by
    have : ∀ n, n < 121 → n * (121 - n) + (120 - n) ≤ 3721 := by decide +kernel
    exact this _ (by omega)
  rw [Nat.sub_zero] at h1
  omega
theorem jMu_step {T T' : List Int} (hok : jOk 1 T) (h : T.length ≤ 120) (h' : T'.length ≤ 120) (hs : jStep [] T = some T') : jMu T' < jMu T := by
  obtain ⟨X, M, M', R, e1, e2, e3, e4, e5⟩ := jStep_spec2 T [] 1 T' hok hs
  rw [List.nil_append] at e2
  have hr' := jMu_rest h'
  unfold jMu
  have n1 : jNt T = jNt X + (jNt M + jNt R) := by rw [e1, jNt_app, jNt_app]
  have n2 : jNt T' = jNt X + (jNt M' + jNt R) := by rw [e2, jNt_app, jNt_app]
  rcases jRoot_fall e3 e4 with hlt | ⟨u, L, W, rfl, rfl, hp, heq⟩
  · omega
  · have hn : jNt T' = jNt T := by omega
    rw [hn]
    have hle := jNt_le T
    have hW : (W ++ R).length - jNt (W ++ R) ≤ 120 - jNt T := by
      have l1 : T'.length = X.length + (1 + (W ++ R).length) := by
        rw [e2]
        simp only [List.length_append, List.length_cons]
        omega
      have l2 : jNt T' = jNt X + ((if u = 116 then 0 else 1) + jNt (W ++ R)) := by
        rw [n2, jNt_app]
        simp only [jNt]
        omega
      have hu2 : ¬ u = 116 := by intro e; subst e; exact absurd hp (by decide)
      rw [if_neg hu2] at l2
      have l3 := jNt_le X
      omega
    have hx : 0 + jNt X + 1 ≤ jNt T := by
      have hu2 : ¬ u = 116 := by intro e; subst e; exact absurd hp (by decide)
      rw [n1]
      simp only [jNt, hu2, if_false, if_true]
      omega
    have hf := jW_fall (jNt T) (L := L ++ R) (W := W ++ R) hp hW (by omega) X 0 0 e5 hx
    have q1 : T' = X ++ u :: (W ++ R) := e2
    have q2 : T = X ++ 116 :: u :: (L ++ R) := e1
    rw [← q1] at hf
    rw [← q2] at hf
    omega
theorem jNt_pos : ∀ (L : List Int) (n : Nat), jOk (n + 1) L → 1 ≤ jNt L
  | [], n, h => h.elim
  | c :: L, n, h => by
    simp only [jNt]
    by_cases hc : c = 116
    · subst hc
      have h2 := h.2
      rw [show n + jAr 116 = n + 1 from rfl] at h2
      have := jNt_pos L n h2
      omega
    · rw [if_neg hc]; omega
theorem jTer_of : ∀ (m : Nat) (T : List Int), jMu T ≤ m → jOk 1 T → T.length ≤ 120 → jTer m T
  | 0, T, hm, hok, hl => by
    show jStep [] T = none
    have h1 := jNt_pos T 0 hok
    unfold jMu at hm
    omega
  | m + 1, T, hm, hok, hl => by
    unfold jTer
    cases hs : jStep [] T with
    | none => exact trivial
    | some T' =>
      obtain ⟨o1, o2⟩ := jStep_ok hok hs
      by_cases h : 120 < T'.length
      · exact Or.inl h
      · have := jMu_step hok hl (by omega) hs
        exact Or.inr (jTer_of m T' (by omega) o1 (by omega))
theorem jTer_all {T : List Int} (hok : jOk 1 T) (hl : T.length ≤ 120) : jTer 1000000 T := by
  refine jTer_of 1000000 T ?_ hok hl
  have h1 := jMu_rest hl
  have h2 := jNt_le T
  unfold jMu
  omega
