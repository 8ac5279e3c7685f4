/-! stretches of a row as lists -/
def lst (f : Nat → Int) (s n : Nat) : List Int := (List.range n).map (fun j => f (s + j))
theorem lst_len (f : Nat → Int) (s n : Nat) : (lst f s n).length = n := by simp [lst]
theorem lst_zero (f : Nat → Int) (s : Nat) : lst f s 0 = [] := rfl
theorem lst_succ (f : Nat → Int) (s n : Nat) : lst f s (n + 1) = lst f s n ++ [f (s + n)] := by simp [lst, List.range_succ]
theorem lst_cons (f : Nat → Int) (s n : Nat) : lst f s (n + 1) = f s :: lst f (s + 1) n := by
  simp only [lst, List.range_succ_eq_map, List.map_cons, List.map_map, Nat.add_zero]
  congr 1
  apply List.map_congr_left
  intro j _
  show f (s + (j + 1)) = f (s + 1 + j)
  congr 1; omega
theorem lst_congr {f g : Nat → Int} {s t n : Nat} (h : ∀ j, j < n → f (s + j) = g (t + j)) : lst f s n = lst g t n := by
  apply List.map_congr_left
  intro j hj
  exact h j (List.mem_range.mp hj)
theorem lst_app (f : Nat → Int) (s n m : Nat) : lst f s (n + m) = lst f s n ++ lst f (s + n) m := by
  induction m with
  | zero => simp [lst_zero]
  | succ m ih => rw [← Nat.add_assoc, lst_succ, ih, lst_succ, List.append_assoc, Nat.add_assoc]
theorem lst_get {f : Nat → Int} {s n j : Nat} (h : j < n) : (lst f s n)[j]? = some (f (s + j)) := by
  simp [lst, h]
theorem lst_at {f : Nat → Int} {s n j : Nat} {L : List Int} (e : lst f s n = L) (h : j < n) : L[j]? = some (f (s + j)) := by rw [← e]; exact lst_get h
theorem lst_getD {f : Nat → Int} {s n j : Nat} {L : List Int} (e : lst f s n = L) (h : j < n) : f (s + j) = L.getD j 0 := by
  rw [List.getD_eq_getElem?_getD, lst_at e h]; rfl
theorem lst_eq {f : Nat → Int} {s n : Nat} {L : List Int} (hn : L.length = n) (h : ∀ j, j < n → f (s + j) = L.getD j 0) : lst f s n = L := by
  apply List.ext_getElem?
  intro j
  by_cases hj : j < n
  · rw [lst_get hj, h j hj, List.getD_eq_getElem?_getD, List.getElem?_eq_getElem (by omega)]; rfl
  · rw [List.getElem?_eq_none (by rw [lst_len]; omega), List.getElem?_eq_none (by omega)]
theorem lst_mem {f : Nat → Int} {s n : Nat} {x : Int} (h : x ∈ lst f s n) : ∃ j, j < n ∧ f (s + j) = x := by
  obtain ⟨j, hj, e⟩ := List.mem_map.mp h
  exact ⟨j, List.mem_range.mp hj, e⟩
theorem lst_of {f : Nat → Int} {s n j : Nat} (h : j < n) : f (s + j) ∈ lst f s n := List.mem_map.mpr ⟨j, List.mem_range.mpr h, rfl⟩
/-- writing behind a stretch leaves it -/
theorem lst_up {I : sjI} {a b j s n : Nat} {v : Int} (h : a ≠ b ∨ j < s ∨ s + n ≤ j) : lst (sj_up I a j v b) s n = lst (I b) s n := by
  apply lst_congr
  intro i hi
  rw [sj_up_ne]
  omega
theorem lst_up_succ {I : sjI} {a s n : Nat} {v : Int} : lst (sj_up I a (s + n) v a) s (n + 1) = lst (I a) s n ++ [v] := by
  rw [lst_succ, lst_up (Or.inr (Or.inr (Nat.le_refl _))), sj_up_self]
/-! copying step by step -/
theorem cpy_zero {I : sjI} {a sp dp : Nat} {f : Nat → Int} : sj_ur I a (va_cpy f (I a) sp dp 0) = I := by
  funext q j
  by_cases h : q = a
  · subst h
    rw [sj_ur_self]
    simp only [va_cpy]
    rw [if_neg (by omega)]
  · rw [sj_ur_ne h]
theorem cpy_step {I : sjI} {a sp dp i : Nat} {f g : Nat → Int} : sj_up (sj_ur I a (va_cpy f g sp dp i)) a (dp + i) (f (sp + i)) = sj_ur I a (va_cpy f g sp dp (i + 1)) := by
  funext q j
  by_cases h : q = a
  · subst h
    by_cases h2 : j = dp + i
    · subst h2
      rw [sj_up_self, sj_ur_self]
      simp only [va_cpy]
      rw [if_pos (by omega)]
      congr 1; omega
    · rw [sj_up_ne (fun e => h2 e.2), sj_ur_self, sj_ur_self]
      simp only [va_cpy]
      by_cases h3 : dp ≤ j ∧ j < dp + i
      · rw [if_pos h3, if_pos (by omega)]
      · rw [if_neg h3, if_neg (by omega)]
  · rw [sj_up_ne (fun e => h e.1), sj_ur_ne h, sj_ur_ne h]
theorem cpy_in {f g : Nat → Int} {sp dp n j : Nat} (h : j < n) : va_cpy f g sp dp n (dp + j) = f (sp + j) := by
  simp only [va_cpy]
  rw [if_pos (by omega)]
  congr 1; omega
theorem cpy_out {f g : Nat → Int} {sp dp n j : Nat} (h : j < dp ∨ dp + n ≤ j) : va_cpy f g sp dp n j = g j := by
  simp only [va_cpy]
  rw [if_neg (by omega)]
