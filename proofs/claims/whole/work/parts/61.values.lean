/-! values: what a term needs at an index, and its value. A value's cell: 400 * stream + index -/
def jNd : Nat → List Int → Nat → Option (List Nat)
  | 0, _, _ => none
  | _ + 1, [], _ => none
  | f + 1, c :: L, i =>
    if 1000000000 < i then none
    else if 65 ≤ c ∧ c ≤ 72 then (if i < 400 then some [400 * (c - 65).toNat + i] else none)
    else if 48 ≤ c ∧ c ≤ 57 then some []
    else if 128 ≤ c then (if i = 0 then some [] else jNd f L (i - 1))
    else if c = 116 then jNd f L (i + 1)
    else if c = 101 then jNd f L (2 * i)
    else if c = 111 then jNd f L (2 * i + 1)
    else if c = 122 then (if i % 2 = 0 then jNd f L (i / 2) else jNd f (jDr 1 L) (i / 2))
    else (jNd f L i).bind (fun a => (jNd f (jDr 1 L) i).map (fun b => a ++ b))
def jVl : Nat → Int → (Nat → Int) → List Int → Nat → Int
  | 0, _, _, _, _ => 0
  | _ + 1, _, _, [], _ => 0
  | f + 1, M, v, c :: L, i =>
    if 65 ≤ c ∧ c ≤ 72 then v (400 * (c - 65).toNat + i)
    else if 48 ≤ c ∧ c ≤ 57 then (c - 48) % M
    else if 128 ≤ c then (if i = 0 then (c - 128) % M else jVl f M v L (i - 1))
    else if c = 116 then jVl f M v L (i + 1)
    else if c = 101 then jVl f M v L (2 * i)
    else if c = 111 then jVl f M v L (2 * i + 1)
    else if c = 122 then (if i % 2 = 0 then jVl f M v L (i / 2) else jVl f M v (jDr 1 L) (i / 2))
    else if c = 43 then (jVl f M v L i + jVl f M v (jDr 1 L) i) % M
    else (jVl f M v L i * jVl f M v (jDr 1 L) i) % M
theorem jDr_len : ∀ (L : List Int) (n : Nat), (jDr n L).length ≤ L.length
  | [], 0 => Nat.le_refl _
  | [], _ + 1 => Nat.le_refl _
  | _ :: _, 0 => Nat.le_refl _
  | c :: L, n + 1 => by
    have h := jDr_len L (n + jAr c)
    show (jDr (n + jAr c) L).length ≤ L.length + 1
    omega
theorem jNd_fuel : ∀ (f g : Nat) (L : List Int) (i : Nat), L.length ≤ f → L.length ≤ g → jNd f L i = jNd g L i
  | 0, 0, L, i, _, _ => rfl
  | 0, g + 1, [], i, _, _ => rfl
  | 0, g + 1, c :: L, i, h, _ => absurd h (by simp)
  | f + 1, 0, [], i, _, _ => rfl
  | f + 1, 0, c :: L, i, _, h => absurd h (by simp)
  | f + 1, g + 1, [], i, _, _ => rfl
  | f + 1, g + 1, c :: L, i, h1, h2 => by
    have l1 : L.length ≤ f := by simpa using h1
    have l2 : L.length ≤ g := by simpa using h2
    have d := jDr_len L 1
    have e := fun j => jNd_fuel f g L j l1 l2
    have e2 := fun j => jNd_fuel f g (jDr 1 L) j (by omega) (by omega)
    simp only [jNd, e, e2]
theorem jVl_fuel (M : Int) (v : Nat → Int) : ∀ (f g : Nat) (L : List Int) (i : Nat), L.length ≤ f → L.length ≤ g → jVl f M v L i = jVl g M v L i
  | 0, 0, L, i, _, _ => rfl
  | 0, g + 1, [], i, _, _ => rfl
  | 0, g + 1, c :: L, i, h, _ => absurd h (by simp)
  | f + 1, 0, [], i, _, _ => rfl
  | f + 1, 0, c :: L, i, _, h => absurd h (by simp)
  | f + 1, g + 1, [], i, _, _ => rfl
  | f + 1, g + 1, c :: L, i, h1, h2 => by
    have l1 : L.length ≤ f := by simpa using h1
    have l2 : L.length ≤ g := by simpa using h2
    have d := jDr_len L 1
    have e := fun j => jVl_fuel M v f g L j l1 l2
    have e2 := fun j => jVl_fuel M v f g (jDr 1 L) j (by omega) (by omega)
    simp only [jVl, e, e2]
/-- what the first term of L needs at i; none: it cannot be computed whatever is known -/
def jN (L : List Int) (i : Nat) : Option (List Nat) := jNd L.length L i
def jV (M : Int) (v : Nat → Int) (L : List Int) (i : Nat) : Int := jVl L.length M v L i
theorem jN_cons (c : Int) (L : List Int) (i : Nat) : jN (c :: L) i = if 1000000000 < i then none
    else if 65 ≤ c ∧ c ≤ 72 then (if i < 400 then some [400 * (c - 65).toNat + i] else none)
    else if 48 ≤ c ∧ c ≤ 57 then some []
    else if 128 ≤ c then (if i = 0 then some [] else jN L (i - 1))
    else if c = 116 then jN L (i + 1)
    else if c = 101 then jN L (2 * i)
    else if c = 111 then jN L (2 * i + 1)
    else if c = 122 then (if i % 2 = 0 then jN L (i / 2) else jN (jDr 1 L) (i / 2))
    else (jN L i).bind (fun a => (jN (jDr 1 L) i).map (fun b => a ++ b)) := by
  have d := jDr_len L 1
  have e2 := fun j => jNd_fuel L.length (jDr 1 L).length (jDr 1 L) j d (Nat.le_refl _)
  unfold jN
  rw [List.length_cons]
  simp only [jNd, e2]
theorem jV_cons (M : Int) (v : Nat → Int) (c : Int) (L : List Int) (i : Nat) : jV M v (c :: L) i =
    if 65 ≤ c ∧ c ≤ 72 then v (400 * (c - 65).toNat + i)
    else if 48 ≤ c ∧ c ≤ 57 then (c - 48) % M
    else if 128 ≤ c then (if i = 0 then (c - 128) % M else jV M v L (i - 1))
    else if c = 116 then jV M v L (i + 1)
    else if c = 101 then jV M v L (2 * i)
    else if c = 111 then jV M v L (2 * i + 1)
    else if c = 122 then (if i % 2 = 0 then jV M v L (i / 2) else jV M v (jDr 1 L) (i / 2))
    else if c = 43 then (jV M v L i + jV M v (jDr 1 L) i) % M
    else (jV M v L i * jV M v (jDr 1 L) i) % M := by
  have d := jDr_len L 1
  have e2 := fun j => jVl_fuel M v L.length (jDr 1 L).length (jDr 1 L) j d (Nat.le_refl _)
  unfold jV
  rw [List.length_cons]
  simp only [jVl, e2]
