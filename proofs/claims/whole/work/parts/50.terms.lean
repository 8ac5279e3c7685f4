/-! terms as lists of codes, one a part: a front's digit is in its code (128 + digit) -/
def jAr (c : Int) : Nat := if c = 43 ∨ c = 42 ∨ c = 122 then 2 else if (48 ≤ c ∧ c ≤ 57) ∨ (65 ≤ c ∧ c ≤ 72) then 0 else 1
def jVc (c : Int) : Prop := c = 43 ∨ c = 42 ∨ c = 122 ∨ (48 ≤ c ∧ c ≤ 57) ∨ (65 ≤ c ∧ c ≤ 72) ∨ c = 101 ∨ c = 111 ∨ c = 116 ∨ (128 ≤ c ∧ c ≤ 137)
/-- L is n terms -/
def jOk : Nat → List Int → Prop
  | 0, [] => True
  | 0, _ :: _ => False
  | _ + 1, [] => False
  | n + 1, c :: L => jVc c ∧ jOk (n + jAr c) L
/-- the first n terms of L -/
def jTk : Nat → List Int → List Int
  | 0, _ => []
  | _ + 1, [] => []
  | n + 1, c :: L => c :: jTk (n + jAr c) L
/-- what is behind them -/
def jDr : Nat → List Int → List Int
  | 0, L => L
  | _ + 1, [] => []
  | n + 1, c :: L => jDr (n + jAr c) L
theorem jTkDr : ∀ (L : List Int) (n : Nat), jTk n L ++ jDr n L = L
  | [], 0 => rfl
  | [], _ + 1 => rfl
  | _ :: _, 0 => rfl
  | c :: L, n + 1 => by
    show c :: (jTk (n + jAr c) L ++ jDr (n + jAr c) L) = c :: L
    rw [jTkDr L]
theorem jTk_0 (L : List Int) : jTk 0 L = [] := by cases L <;> rfl
theorem jDr_0 (L : List Int) : jDr 0 L = L := by cases L <;> rfl
theorem jOk_split : ∀ (L : List Int) (n m : Nat), jOk (n + m) L → jOk n (jTk n L) ∧ jOk m (jDr n L)
  | L, 0, m, h => by
    rw [jTk_0, jDr_0]
    rw [Nat.zero_add] at h
    exact ⟨trivial, h⟩
  | [], n + 1, m, h => by
    rw [show n + 1 + m = (n + m) + 1 by omega] at h
    exact h.elim
  | c :: L, n + 1, m, h => by
    rw [show n + 1 + m = (n + m) + 1 by omega] at h
    obtain ⟨h1, h2⟩ := h
    have h3 := jOk_split L (n + jAr c) m (by rw [show n + jAr c + m = n + m + jAr c by omega]; exact h2)
    exact ⟨⟨h1, h3.1⟩, h3.2⟩
theorem jOk_app : ∀ (A B : List Int) (n m : Nat), jOk n A → jOk m B → jOk (n + m) (A ++ B)
  | [], B, 0, m, _, h => by rw [Nat.zero_add]; exact h
  | [], B, n + 1, m, h, _ => h.elim
  | c :: A, B, 0, m, h, _ => h.elim
  | c :: A, B, n + 1, m, h, h2 => by
    rw [show n + 1 + m = (n + m) + 1 by omega]
    refine ⟨h.1, ?_⟩
    have h3 := jOk_app A B (n + jAr c) m h.2 h2
    rw [show n + m + jAr c = n + jAr c + m by omega]
    exact h3
theorem jTk_app : ∀ (A B : List Int) (n : Nat), jOk n A → jTk n (A ++ B) = A ∧ jDr n (A ++ B) = B
  | [], B, 0, _ => ⟨jTk_0 _, jDr_0 _⟩
  | [], B, n + 1, h => h.elim
  | c :: A, B, 0, h => h.elim
  | c :: A, B, n + 1, h => by
    have h3 := jTk_app A B (n + jAr c) h.2
    exact ⟨congrArg (List.cons c) h3.1, h3.2⟩
theorem jTk_all {A : List Int} {n : Nat} (h : jOk n A) : jTk n A = A ∧ jDr n A = [] := by
  have := jTk_app A [] n h
  rwa [List.append_nil] at this
theorem jOk_len : ∀ (A : List Int) (n : Nat), jOk n A → n ≤ A.length
  | [], 0, _ => Nat.le_refl _
  | [], n + 1, h => h.elim
  | c :: A, 0, h => h.elim
  | c :: A, n + 1, h => by
    have := jOk_len A (n + jAr c) h.2
    simp only [List.length_cons]
    omega
theorem jOk_vc : ∀ (A : List Int) (n : Nat), jOk n A → ∀ x ∈ A, jVc x
  | [], n, _, x, hx => by cases hx
  | c :: A, 0, h, x, hx => h.elim
  | c :: A, n + 1, h, x, hx => by
    rcases List.mem_cons.mp hx with rfl | hx
    · exact h.1
    · exact jOk_vc A _ h.2 x hx
/-- two terms in a row -/
theorem jOk_two {L : List Int} (h : jOk 2 L) : jOk 1 (jTk 1 L) ∧ jOk 1 (jDr 1 L) ∧ jTk 1 L ++ jDr 1 L = L :=
  ⟨(jOk_split L 1 1 h).1, (jOk_split L 1 1 h).2, jTkDr L 1⟩
theorem jOk_ne {L : List Int} {n : Nat} (h : jOk (n + 1) L) : ∃ c M, L = c :: M ∧ jVc c ∧ jOk (n + jAr c) M := by
  cases L with
  | nil => exact h.elim
  | cons c M => exact ⟨c, M, rfl, h.1, h.2⟩
/-! their bytes -/
def jE (c : Int) : List Int := if 128 ≤ c then [58, c - 80] else [c]
def jEnc (L : List Int) : List Int := L.flatMap jE
theorem jEnc_app (A B : List Int) : jEnc (A ++ B) = jEnc A ++ jEnc B := by simp [jEnc]
theorem jEnc_cons (c : Int) (B : List Int) : jEnc (c :: B) = jE c ++ jEnc B := by simp [jEnc]
theorem jEnc_nil : jEnc [] = [] := rfl
theorem jE_len (c : Int) : (jE c).length = if 128 ≤ c then 2 else 1 := by unfold jE; split <;> rfl
theorem jEnc_len : ∀ L : List Int, L.length ≤ (jEnc L).length ∧ (jEnc L).length ≤ 2 * L.length
  | [] => by simp [jEnc]
  | c :: L => by
    have h := jEnc_len L
    have h2 := jE_len c
    rw [jEnc_cons, List.length_append, List.length_cons]
    split at h2 <;> omega
theorem jE_front {c : Int} (h : 128 ≤ c) : jE c = [58, c - 80] := if_pos h
theorem jE_else {c : Int} (h : ¬ 128 ≤ c) : jE c = [c] := if_neg h
/-- the first byte of a code, and how many terms follow it -/
theorem jE_head (c : Int) : ∃ M, jE c = (if 128 ≤ c then 58 else c) :: M := by
  unfold jE
  split
  · exact ⟨_, rfl⟩
  · exact ⟨_, rfl⟩
theorem jAr_pt {c : Int} (h : jVc c) : ((jAr c : Nat) : Int) = jPt (if 128 ≤ c then 58 else c) := by
  unfold jVc at h
  have hp := jPt_cases (if 128 ≤ c then 58 else c)
  unfold jAr
  by_cases h1 : 128 ≤ c
  · rw [if_pos h1] at hp ⊢
    rw [if_neg (by omega), if_neg (by omega)]
    omega
  · rw [if_neg h1] at hp ⊢
    split
    · omega
    · split <;> omega
theorem jVc_byte {c : Int} (h : jVc c) : ∀ x ∈ jE c, 0 ≤ x ∧ x < 128 := by
  intro x hx
  unfold jVc at h
  unfold jE at hx
  split at hx
  · rcases List.mem_cons.mp hx with rfl | hx
    · omega
    · rw [List.mem_singleton] at hx; omega
  · rw [List.mem_singleton] at hx; omega
theorem jEnc_byte {L : List Int} (h : ∀ c ∈ L, jVc c) : ∀ x ∈ jEnc L, 0 ≤ x ∧ x < 128 := by
  intro x hx
  obtain ⟨c, hc, hx2⟩ := List.mem_flatMap.mp hx
  exact jVc_byte (h c hc) x hx2
/-- the number of terms in the bytes is the number of codes -/
theorem jSz_enc : ∀ (L : List Int) (p : Int), p ≠ 58 → (∀ c ∈ L, jVc c) → jSz p (jEnc L) = L.length
  | [], p, _, _ => rfl
  | c :: L, p, hp, h => by
    have hv := h c List.mem_cons_self
    unfold jVc at hv
    rw [jEnc_cons]
    by_cases h1 : 128 ≤ c
    · have ih := jSz_enc L (c - 80) (by omega) (fun x hx => h x (List.mem_cons_of_mem _ hx))
      rw [jE_front h1]
      simp only [List.cons_append, List.nil_append, jSz, ih, List.length_cons]
      rw [if_neg hp, if_pos True.intro]
      omega
    · have ih := jSz_enc L c (by omega) (fun x hx => h x (List.mem_cons_of_mem _ hx))
      rw [jE_else h1]
      simp only [List.cons_append, List.nil_append, jSz, ih, List.length_cons]
      rw [if_neg hp]
      omega
