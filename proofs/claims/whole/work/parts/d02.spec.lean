/-! what each call answers, and what it leaves -/
def sp_write (c : Int) (Q : aQ) : Int × aQ := if ¬ (32 ≤ c ∧ c ≤ 126) then (-1, Q) else if Q.1.length = 80 then (-3, Q) else ((Q.1.length : Int) + 1, (Q.1 ++ [c], Q.2))
def sp_wipe (Q : aQ) : Int × aQ := ((Q.1.length : Int), ([], Q.2))
def sp_fault (Q : aQ) : Int × aQ := (jFl Q.1 1 false 0, Q)
/-- a change of the present -/
def sp_to (Q : aQ) (S : aSt) : aQ := (Q.1, S, jHs Q.2.2.1 Q.2.1, Q.2.2.2)
def sp_define (a : Int) (Q : aQ) : Int × aQ := if ¬ (0 ≤ a ∧ a ≤ 7) then (-1, Q) else if jFl Q.1 1 false 0 ≠ -9 then (-2, Q) else (((jCd Q.1 false).length : Int), sp_to Q (Q.2.1.1, jSe Q.2.1.2 a.toNat (some (jCd Q.1 false))))
def sp_undefine (a : Int) (Q : aQ) : Int × aQ := if ¬ (0 ≤ a ∧ a ≤ 7) then (-1, Q) else match Q.2.1.2 a.toNat with
  | none => (-2, Q)
  | some T => ((T.length : Int), sp_to Q (Q.2.1.1, jSe Q.2.1.2 a.toNat none))
def sp_setModulus (m : Int) (Q : aQ) : Int × aQ := if ¬ (2 ≤ m ∧ m ≤ 10) then (-1, Q) else (Q.2.1.1, sp_to Q (m, Q.2.1.2))
def sp_insert (a b : Int) (Q : aQ) : Int × aQ := if ¬ ((0 ≤ a ∧ a ≤ 7) ∧ (0 ≤ b ∧ b ≤ 7)) then (-1, Q) else match Q.2.1.2 a.toNat, Q.2.1.2 b.toNat with
  | some T, some U => if 120 < (jIns (65 + b) U T).length then (-3, Q) else (((jIns (65 + b) U T).length : Int), sp_to Q (Q.2.1.1, jSe Q.2.1.2 a.toNat (some (jIns (65 + b) U T))))
  | _, _ => (-2, Q)
def sp_simplify (a : Int) (Q : aQ) : Int × aQ := if ¬ (0 ≤ a ∧ a ≤ 7) then (-1, Q) else match Q.2.1.2 a.toNat with
  | none => (-2, Q)
  | some T => match jSi 1000000 T with
    | none => (-3, Q)
    | some z => ((z.1 : Int), sp_to Q (Q.2.1.1, jSe Q.2.1.2 a.toNat (some z.2)))
def sp_undo (Q : aQ) : Int × aQ := match Q.2.2.1.getLast? with
  | none => (-2, Q)
  | some S => (((Q.2.2.1.length - 1 : Nat) : Int), (Q.1, S, Q.2.2.1.dropLast, Q.2.2.2))
noncomputable def sp_told (q : Int) (Q : aQ) : Int × aQ := (if q = 6 then jEnd (jVal Q.2.1.1 Q.2.1.2) 8 else jTlc Q.1 Q.2.1 Q.2.2.1 q, Q)
def sp_listing (a k : Int) (Q : aQ) : Int × aQ := (if (0 ≤ a ∧ a ≤ 7) ∧ 0 ≤ k then (if k.toNat < (jEnc ((Q.2.1.2 a.toNat).getD [])).length then (jEnc ((Q.2.1.2 a.toNat).getD [])).getD k.toNat 0 else -9) else -1, Q)
def sp_uses (a : Int) (Q : aQ) : Int × aQ := (if 0 ≤ a ∧ a ≤ 7 then (match Q.2.1.2 a.toNat with | none => -9 | some T => (jUs (jEnc T) 8 : Nat)) else -1, Q)
def sp_cycle (a : Int) (Q : aQ) : Int × aQ := (if ¬ (0 ≤ a ∧ a ≤ 7) then -1 else if ¬ jPe Q.2.1.2 8 = true then -2 else if jCy (jSt Q.2.1.2) a.toNat = -1000000 then -9 else jCy (jSt Q.2.1.2) a.toNat + 1000, Q)
noncomputable def sp_value (a i : Int) (Q : aQ) : Int × aQ := (if (0 ≤ a ∧ a ≤ 7) ∧ (0 ≤ i ∧ i ≤ 399) then jVal Q.2.1.1 Q.2.1.2 (400 * a.toNat + i.toNat) else -1, Q)
noncomputable def sp_stream (a u : Int) (Q : aQ) : Int × aQ := (if ¬ ((0 ≤ a ∧ a ≤ 7) ∧ (0 ≤ u ∧ u ≤ 5)) then -1 else if u = 0 then (match Q.2.1.2 a.toNat with | none => -9 | some T => (T.length : Int)) else jStr (jVal Q.2.1.1 Q.2.1.2) a.toNat u, Q)
noncomputable def sp_parting (a b : Int) (Q : aQ) : Int × aQ := (if ¬ ((0 ≤ a ∧ a ≤ 7) ∧ (0 ≤ b ∧ b ≤ 7)) then -1 else jPr (jVal Q.2.1.1 Q.2.1.2) (400 * a.toNat) (400 * b.toNat) 400 0, Q)
noncomputable def sp_alike (a : Int) (Q : aQ) : Int × aQ := (if ¬ (0 ≤ a ∧ a ≤ 7) then -1 else (jAl (jVal Q.2.1.1 Q.2.1.2) a.toNat 8 : Nat), Q)
/-- the stage at which a cell's value follows -/
noncomputable def jRnk (M : Int) (E : Nat → Option (List Int)) (k : Nat) : Int := by
  exact @dite Int (∃ z n, jStg M E n k = some z) (Classical.propDecidable _) (fun h => (Classical.choose h).2) (fun _ => 0)
noncomputable def sp_needs (a i u : Int) (Q : aQ) : Int × aQ := (if ¬ ((0 ≤ a ∧ a ≤ 7) ∧ (0 ≤ i ∧ i ≤ 399) ∧ (0 ≤ u ∧ u ≤ 3)) then -1 else jNe Q.2.1.2 (jVal Q.2.1.1 Q.2.1.2) (jRnk Q.2.1.1 Q.2.1.2) (400 * a.toNat + i.toNat) u, Q)
def sp_keep (i : Int) (Q : aQ) : Int × aQ := if ¬ (0 ≤ i ∧ i ≤ 1) then (-1, Q) else (jCe Q.2.1.2 8, (Q.1, Q.2.1, Q.2.2.1, fun k => if k = i.toNat then some Q.2.1 else Q.2.2.2 k))
def sp_back (i : Int) (Q : aQ) : Int × aQ := if ¬ (0 ≤ i ∧ i ≤ 1) then (-1, Q) else match Q.2.2.2 i.toNat with
  | none => (-2, Q)
  | some S => (jCe S.2 8, sp_to Q S)
noncomputable def sp_changed (a i : Int) (Q : aQ) : Int × aQ := (if ¬ ((0 ≤ a ∧ a ≤ 7) ∧ (0 ≤ i ∧ i ≤ 1)) then -1 else match Q.2.2.2 i.toNat with
  | none => -2
  | some Si => jDf (jVal Q.2.1.1 Q.2.1.2) (jVal Si.1 Si.2) (400 * a.toNat) 400 0, Q)
/-! congruence of what is told of values -/
theorem jVal_stg {M : Int} {E : Nat → Option (List Int)} {n k : Nat} {z : Int × Int} (h : jStg M E n k = some z) : jRnk M E k = z.2 := by
  unfold jRnk
  have h2 : ∃ z n, jStg M E n k = some z := ⟨z, n, h⟩
  rw [dif_pos h2]
  obtain ⟨n', h3⟩ := Classical.choose_spec h2
  have e1 := jStg_le h (Nat.le_max_left n n')
  have e2 := jStg_le h3 (Nat.le_max_right n n')
  rw [e1] at e2
  exact congrArg Prod.snd (Option.some.inj e2).symm
theorem jRh_congr {v v' : Nat → Int} {s : Nat} (h : ∀ k, k < 400 → v (s + k) = v' (s + k)) : ∀ d i, i + d = 400 → jRh v s d i = jRh v' s d i
  | 0, i, _ => rfl
  | d + 1, i, hd => by
    unfold jRh
    rw [h i (by omega), jRh_congr h d (i + 1) (by omega)]
theorem jEnd_congr {v v' : Nat → Int} (h : ∀ k, k < 3200 → v k = v' k) : ∀ n, n ≤ 8 → jEnd v n = jEnd v' n
  | 0, _ => rfl
  | n + 1, hn => by
    unfold jEnd
    rw [jEnd_congr h n (by omega), jRh_congr (s := 400 * n) (fun k hk => h _ (by omega)) 400 0 (by omega)]
theorem jPr_congr {v v' : Nat → Int} {s t : Nat} (h : ∀ k, k < 400 → v (s + k) = v' (s + k) ∧ v (t + k) = v' (t + k)) : ∀ d i, i + d = 400 → jPr v s t d i = jPr v' s t d i
  | 0, i, _ => rfl
  | d + 1, i, hd => by
    unfold jPr
    rw [(h i (by omega)).1, (h i (by omega)).2, jPr_congr h d (i + 1) (by omega)]
