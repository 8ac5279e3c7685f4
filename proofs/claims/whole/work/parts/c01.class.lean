/-! the class: codes -/
section WF
variable {l : Launch} {Γ : sjC} {cc : ByteArray} {own nm : String} {nL : Nat} {ret : Option FieldType} {R : Room} {G : sjG} {post : sjP} {σ : sjS} {I : sjI} {k n pc : Nat} {L : List (Option Value)} {st : List Value}
/-- what stands anywhere stands below the next address -/
theorem sj_wfV (kk : (∀ a x, σ.2 a = some x → a < σ.1) → sj_V l Γ (cc, own, nL, ret, nm, R) G post σ I k n pc L st) : sj_V l Γ (cc, own, nL, ret, nm, R) G post σ I k n pc L st := by
  obtain ⟨p, e, s, m, args, below, meth, c, Q⟩ := Γ
  intro hC hK hr H locs ls hR hlo hL
  exact kk (fun a x h => hR.lt h) hC hK hr H locs ls hR hlo hL
/-- more room counted as used than is used -/
theorem sj_more {k' n' : Nat} (h1 : k ≤ k') (h2 : n ≤ n') (kk : sj_V l Γ (cc, own, nL, ret, nm, R) G post σ I k' n' pc L st) : sj_V l Γ (cc, own, nL, ret, nm, R) G post σ I k n pc L st := by
  obtain ⟨p, e, s, m, args, below, meth, c, Q⟩ := Γ
  intro hC hK hr H locs ls hR hlo hL T hT X
  exact kk hC hK hr H locs ls hR hlo hL T hT (stand_widen X h1 h2)
end WF
/-! where a part ends -/
def jEe (T : List Int) (p : Nat) : Nat := p + (jTk 1 (T.drop p)).length
theorem jOk_drop : ∀ (p : Nat) (T : List Int) (m : Nat), jOk m T → p ≤ T.length → ∃ m', jOk m' (T.drop p)
  | 0, T, m, h, _ => ⟨m, h⟩
  | p + 1, [], m, h, hl => absurd hl (by simp)
  | p + 1, c :: L, 0, h, _ => h.elim
  | p + 1, c :: L, m + 1, h, hl => by
    simp only [List.length_cons] at hl
    exact jOk_drop p L _ h.2 (by omega)
theorem jDr_drop : ∀ (L : List Int) (n : Nat), L.drop (jTk n L).length = jDr n L
  | [], 0 => rfl
  | [], _ + 1 => rfl
  | _ :: _, 0 => rfl
  | c :: L, n + 1 => jDr_drop L (n + jAr c)
theorem dropEx {T : List Int} {k : Nat} (h : k < T.length) : ∃ c L, T.drop k = c :: L ∧ T.getD k 0 = c ∧ T.drop (k + 1) = L ∧ c ∈ T :=
  ⟨T[k], T.drop (k + 1), List.drop_eq_getElem_cons h, by rw [List.getD_eq_getElem?_getD, List.getElem?_eq_getElem h]; rfl, rfl, List.getElem_mem h⟩
theorem jTk_le (L : List Int) (n : Nat) : (jTk n L).length ≤ L.length := by
  have h := congrArg List.length (jTkDr L n)
  rw [List.length_append] at h
  omega
theorem jEe_facts {T L : List Int} {c : Int} {k m : Nat} (hok : jOk m T) (hd : T.drop k = c :: L) : (jAr c = 0 → jEe T k = k + 1) ∧ (jAr c = 1 → k + 1 < T.length ∧ jEe T k = jEe T (k + 1)) ∧ (jAr c = 2 → k + 1 < T.length ∧ jEe T (k + 1) < T.length ∧ k + 1 < jEe T (k + 1) ∧ jEe T k = jEe T (jEe T (k + 1))) ∧ k < jEe T k ∧ jEe T k ≤ T.length := by
  have hkl : k < T.length := by
    by_cases h : k < T.length
    · exact h
    · rw [List.drop_eq_nil_of_le (by omega)] at hd; cases hd
  obtain ⟨m', hm⟩ := jOk_drop k T m hok (by omega)
  rw [hd] at hm
  have hL : T.drop (k + 1) = L := by rw [← List.drop_drop, hd]; rfl
  have hLl : L.length = T.length - (k + 1) := by rw [← hL, List.length_drop]
  have h0 : jEe T k = k + (1 + (jTk (jAr c) L).length) := by
    unfold jEe
    rw [hd]
    show k + (c :: jTk (0 + jAr c) L).length = _
    rw [Nat.zero_add, List.length_cons, Nat.add_comm 1]
  have h1 : jEe T (k + 1) = k + 1 + (jTk 1 L).length := by unfold jEe; rw [hL]
  have hle := jTk_le L (jAr c)
  cases m' with
  | zero => exact hm.elim
  | succ m' =>
    have hm2 : jOk (m' + jAr c) L := hm.2
    refine ⟨fun h => by rw [h0, h, jTk_0]; rfl, fun h => ?_, fun h => ?_, by omega, by omega⟩
    · rw [h] at hm2 h0
      have := jOk_len L _ hm2
      exact ⟨by omega, by omega⟩
    · rw [h] at hm2 h0
      obtain ⟨s1, s2⟩ := jOk_split L 1 (m' + 1) (by rw [Nat.add_comm 1, Nat.add_assoc]; exact hm2)
      have l1 := jOk_len _ _ s1
      have l2 := jOk_len _ _ s2
      have hdd : T.drop (jEe T (k + 1)) = jDr 1 L := by rw [h1, ← List.drop_drop, hL, jDr_drop]
      have hlen := congrArg List.length (jTkDr L 1)
      rw [List.length_append] at hlen
      refine ⟨by omega, by omega, by omega, ?_⟩
      rw [show jEe T (jEe T (k + 1)) = jEe T (k + 1) + (jTk 1 (jDr 1 L)).length by unfold jEe; unfold jEe at hdd; rw [hdd], h0, jTk_add L 1 1, List.length_append]
      omega
/-- the places of the streams' names -/
def jMs : List Int → Nat → List Nat
  | [], _ => []
  | c :: L, p => if 65 ≤ c ∧ c ≤ 72 then p :: jMs L (p + 1) else jMs L (p + 1)
theorem jMs_app : ∀ (A B : List Int) (p : Nat), jMs (A ++ B) p = jMs A p ++ jMs B (p + A.length)
  | [], B, p => rfl
  | c :: A, B, p => by
    show (if 65 ≤ c ∧ c ≤ 72 then p :: jMs (A ++ B) (p + 1) else jMs (A ++ B) (p + 1)) = (if 65 ≤ c ∧ c ≤ 72 then p :: jMs A (p + 1) else jMs A (p + 1)) ++ jMs B (p + (A.length + 1))
    rw [jMs_app A B (p + 1), show p + 1 + A.length = p + (A.length + 1) by omega]
    split <;> rfl
theorem jMs_len : ∀ (A : List Int) (p : Nat), (jMs A p).length ≤ A.length
  | [], p => Nat.le_refl _
  | c :: A, p => by
    have := jMs_len A (p + 1)
    simp only [jMs, List.length_cons]
    split
    · simp only [List.length_cons]; omega
    · omega
theorem jMs_lt : ∀ (A : List Int) (p x : Nat), x ∈ jMs A p → p ≤ x ∧ x < p + A.length ∧ 65 ≤ A.getD (x - p) 0 ∧ A.getD (x - p) 0 ≤ 72
  | [], p, x, h => by cases h
  | c :: A, p, x, h => by
    simp only [jMs] at h
    have go : x ∈ jMs A (p + 1) → p ≤ x ∧ x < p + (c :: A).length ∧ 65 ≤ (c :: A).getD (x - p) 0 ∧ (c :: A).getD (x - p) 0 ≤ 72 := fun h => by
      obtain ⟨h1, h2, h3⟩ := jMs_lt A (p + 1) x h
      simp only [List.length_cons]
      refine ⟨by omega, by omega, ?_⟩
      rw [show x - p = (x - (p + 1)) + 1 by omega]
      exact h3
    split at h
    · rename_i hc
      rcases List.mem_cons.mp h with rfl | h
      · simp only [List.length_cons, Nat.sub_self]
        exact ⟨Nat.le_refl _, by omega, hc⟩
      · exact go h
    · exact go h
theorem jMs_take {T : List Int} {k : Nat} {c : Int} {L : List Int} (h : k < T.length) (hc : T.getD k 0 = c) : jMs (T.take (k + 1)) 0 = jMs (T.take k) 0 ++ (if 65 ≤ c ∧ c ≤ 72 then [k] else []) := by
  have e : T.take (k + 1) = T.take k ++ [c] := by
    rw [List.take_succ, ← hc, List.getD_eq_getElem?_getD, List.getElem?_eq_getElem h]; rfl
  rw [e, jMs_app, Nat.zero_add, List.length_take, Nat.min_eq_left (by omega)]
  congr 1
theorem jMs_pre {T : List Int} {k : Nat} : ∃ R, jMs T 0 = jMs (T.take k) 0 ++ R := by
  have e := jMs_app (T.take k) (T.drop k) 0
  rw [List.take_append_drop] at e
  exact ⟨_, e⟩
theorem getD_app {A R : List Nat} {j : Nat} (h : j < A.length) : (A ++ R).getD j 0 = A.getD j 0 := by
  rw [List.getD_eq_getElem?_getD, List.getD_eq_getElem?_getD, List.getElem?_append_left h]
section CODE
variable {l : Launch} {G : sjG} {σ : sjS} {I : sjI}
theorem cx0_isStreamName {c : Int} (hc : -2147483648 ≤ c ∧ c < 2147483648) : sj_Con l yX0_isStreamName mX0_isStreamName G σ I [.int (zI c)] (fun r σ' I' => r = some (.int (zI (if 65 ≤ c ∧ c ≤ 72 then 1 else 0))) ∧ σ = σ' ∧ I = I') := by
  refine sj_con_of (L0 := [some (.int (zI c))]) (by decide) rfl rfl rfl (Nat.le_of_ble_eq_true rfl) rfl (fun Γ => ?_)
  refine sj_ild0 dX0_isStreamName_0 ?_
  refine sj_bipush dX0_isStreamName_1 (by decide) ?_
  refine sj_icmp_lt 16 dX0_isStreamName_3 (by decide) (by omega) (by omega) (fun c_3 => ?_) (fun c_3 => ?_)
  · refine sj_iconst dX0_isStreamName_16 ?_
    exact sj_iret dX0_isStreamName_17 rfl (by decide) (Nat.le_of_ble_eq_true rfl) (Nat.le_of_ble_eq_true rfl) ⟨(by first | rw [if_pos (by omega)] | rw [if_neg (by omega)]), rfl, rfl⟩
  · refine sj_ild0 dX0_isStreamName_6 ?_
    refine sj_bipush dX0_isStreamName_7 (by decide) ?_
    refine sj_icmp_ge 16 dX0_isStreamName_9 (by decide) (by omega) (by omega) (fun c_9 => ?_) (fun c_9 => ?_)
    · refine sj_iconst dX0_isStreamName_16 ?_
      exact sj_iret dX0_isStreamName_17 rfl (by decide) (Nat.le_of_ble_eq_true rfl) (Nat.le_of_ble_eq_true rfl) ⟨(by first | rw [if_pos (by omega)] | rw [if_neg (by omega)]), rfl, rfl⟩
    · refine sj_iconst dX0_isStreamName_12 ?_
      refine sj_goto 17 dX0_isStreamName_13 (by decide) ?_
      exact sj_iret dX0_isStreamName_17 rfl (by decide) (Nat.le_of_ble_eq_true rfl) (Nat.le_of_ble_eq_true rfl) ⟨(by first | rw [if_pos (by omega)] | rw [if_neg (by omega)]), rfl, rfl⟩
theorem cx0_isDigit {c : Int} (hc : -2147483648 ≤ c ∧ c < 2147483648) : sj_Con l yX0_isDigit mX0_isDigit G σ I [.int (zI c)] (fun r σ' I' => r = some (.int (zI (if 48 ≤ c ∧ c ≤ 57 then 1 else 0))) ∧ σ = σ' ∧ I = I') := by
  refine sj_con_of (L0 := [some (.int (zI c))]) (by decide) rfl rfl rfl (Nat.le_of_ble_eq_true rfl) rfl (fun Γ => ?_)
  refine sj_ild0 dX0_isDigit_0 ?_
  refine sj_bipush dX0_isDigit_1 (by decide) ?_
  refine sj_icmp_lt 16 dX0_isDigit_3 (by decide) (by omega) (by omega) (fun c_3 => ?_) (fun c_3 => ?_)
  · refine sj_iconst dX0_isDigit_16 ?_
    exact sj_iret dX0_isDigit_17 rfl (by decide) (Nat.le_of_ble_eq_true rfl) (Nat.le_of_ble_eq_true rfl) ⟨(by first | rw [if_pos (by omega)] | rw [if_neg (by omega)]), rfl, rfl⟩
  · refine sj_ild0 dX0_isDigit_6 ?_
    refine sj_bipush dX0_isDigit_7 (by decide) ?_
    refine sj_icmp_gt 16 dX0_isDigit_9 (by decide) (by omega) (by omega) (fun c_9 => ?_) (fun c_9 => ?_)
    · refine sj_iconst dX0_isDigit_16 ?_
      exact sj_iret dX0_isDigit_17 rfl (by decide) (Nat.le_of_ble_eq_true rfl) (Nat.le_of_ble_eq_true rfl) ⟨(by first | rw [if_pos (by omega)] | rw [if_neg (by omega)]), rfl, rfl⟩
    · refine sj_iconst dX0_isDigit_12 ?_
      refine sj_goto 17 dX0_isDigit_13 (by decide) ?_
      exact sj_iret dX0_isDigit_17 rfl (by decide) (Nat.le_of_ble_eq_true rfl) (Nat.le_of_ble_eq_true rfl) ⟨(by first | rw [if_pos (by omega)] | rw [if_neg (by omega)]), rfl, rfl⟩
theorem cx0_isFront {c : Int} (hc : -2147483648 ≤ c ∧ c < 2147483648) : sj_Con l yX0_isFront mX0_isFront G σ I [.int (zI c)] (fun r σ' I' => r = some (.int (zI (if 128 ≤ c then 1 else 0))) ∧ σ = σ' ∧ I = I') := by
  refine sj_con_of (L0 := [some (.int (zI c))]) (by decide) rfl rfl rfl (Nat.le_of_ble_eq_true rfl) rfl (fun Γ => ?_)
  refine sj_ild0 dX0_isFront_0 ?_
  refine sj_sipush dX0_isFront_1 (by decide) ?_
  refine sj_icmp_lt 11 dX0_isFront_4 (by decide) (by omega) (by omega) (fun c_4 => ?_) (fun c_4 => ?_)
  · refine sj_iconst dX0_isFront_11 ?_
    exact sj_iret dX0_isFront_12 rfl (by decide) (Nat.le_of_ble_eq_true rfl) (Nat.le_of_ble_eq_true rfl) ⟨(by first | rw [if_pos (by omega)] | rw [if_neg (by omega)]), rfl, rfl⟩
  · refine sj_iconst dX0_isFront_7 ?_
    refine sj_goto 12 dX0_isFront_8 (by decide) ?_
    exact sj_iret dX0_isFront_12 rfl (by decide) (Nat.le_of_ble_eq_true rfl) (Nat.le_of_ble_eq_true rfl) ⟨(by first | rw [if_pos (by omega)] | rw [if_neg (by omega)]), rfl, rfl⟩
theorem cx0_isLeaf {c : Int} (hc : -2147483648 ≤ c ∧ c < 2147483648) : sj_Con l yX0_isLeaf mX0_isLeaf G σ I [.int (zI c)] (fun r σ' I' => r = some (.int (zI (if (48 ≤ c ∧ c ≤ 57) ∨ (65 ≤ c ∧ c ≤ 72) then 1 else 0))) ∧ σ = σ' ∧ I = I') := by
  refine sj_con_of (L0 := [some (.int (zI c))]) (by decide) rfl rfl rfl (Nat.le_of_ble_eq_true rfl) rfl (fun Γ => ?_)
  have b1 := jbs (48 ≤ c ∧ c ≤ 57)
  have b2 := jbs (65 ≤ c ∧ c ≤ 72)
  refine sj_ild0 dX0_isLeaf_0 ?_
  refine sj_callS (cx0_isStreamName hc) kc_X0_11 rfl rfl (Nat.le_of_ble_eq_true rfl) dX0_isLeaf_1 (fun r_1 σ_1 I_1 hp_1 => ?_)
  obtain ⟨rfl, rfl, rfl⟩ := hp_1
  refine sj_if_ne 14 dX0_isLeaf_4 (by decide) (by omega) (fun c_4 => ?_) (fun c_4 => ?_)
  · refine sj_iconst dX0_isLeaf_14 ?_
    refine sj_goto 19 dX0_isLeaf_15 (by decide) ?_
    exact sj_iret dX0_isLeaf_19 rfl (by decide) (Nat.le_of_ble_eq_true rfl) (Nat.le_of_ble_eq_true rfl) ⟨(by first | rw [if_pos (by omega)] | rw [if_neg (by omega)]), rfl, rfl⟩
  · refine sj_ild0 dX0_isLeaf_7 ?_
    refine sj_callS (cx0_isDigit hc) kc_X0_15 rfl rfl (Nat.le_of_ble_eq_true rfl) dX0_isLeaf_8 (fun r_8 σ_8 I_8 hp_8 => ?_)
    obtain ⟨rfl, rfl, rfl⟩ := hp_8
    refine sj_if_eq 18 dX0_isLeaf_11 (by decide) (by omega) (fun c_11 => ?_) (fun c_11 => ?_)
    · refine sj_iconst dX0_isLeaf_18 ?_
      exact sj_iret dX0_isLeaf_19 rfl (by decide) (Nat.le_of_ble_eq_true rfl) (Nat.le_of_ble_eq_true rfl) ⟨(by first | rw [if_pos (by omega)] | rw [if_neg (by omega)]), rfl, rfl⟩
    · refine sj_iconst dX0_isLeaf_14 ?_
      refine sj_goto 19 dX0_isLeaf_15 (by decide) ?_
      exact sj_iret dX0_isLeaf_19 rfl (by decide) (Nat.le_of_ble_eq_true rfl) (Nat.le_of_ble_eq_true rfl) ⟨(by first | rw [if_pos (by omega)] | rw [if_neg (by omega)]), rfl, rfl⟩
theorem cx0_isPair {c : Int} (hc : -2147483648 ≤ c ∧ c < 2147483648) : sj_Con l yX0_isPair mX0_isPair G σ I [.int (zI c)] (fun r σ' I' => r = some (.int (zI (if c = 43 ∨ c = 42 ∨ c = 122 then 1 else 0))) ∧ σ = σ' ∧ I = I') := by
  refine sj_con_of (L0 := [some (.int (zI c))]) (by decide) rfl rfl rfl (Nat.le_of_ble_eq_true rfl) rfl (fun Γ => ?_)
  refine sj_ild0 dX0_isPair_0 ?_
  refine sj_bipush dX0_isPair_1 (by decide) ?_
  refine sj_icmp_eq 18 dX0_isPair_3 (by decide) (by omega) (by omega) (fun c_3 => ?_) (fun c_3 => ?_)
  · refine sj_iconst dX0_isPair_18 ?_
    refine sj_goto 23 dX0_isPair_19 (by decide) ?_
    exact sj_iret dX0_isPair_23 rfl (by decide) (Nat.le_of_ble_eq_true rfl) (Nat.le_of_ble_eq_true rfl) ⟨(by first | rw [if_pos (by omega)] | rw [if_neg (by omega)]), rfl, rfl⟩
  · refine sj_ild0 dX0_isPair_6 ?_
    refine sj_bipush dX0_isPair_7 (by decide) ?_
    refine sj_icmp_eq 18 dX0_isPair_9 (by decide) (by omega) (by omega) (fun c_9 => ?_) (fun c_9 => ?_)
    · refine sj_iconst dX0_isPair_18 ?_
      refine sj_goto 23 dX0_isPair_19 (by decide) ?_
      exact sj_iret dX0_isPair_23 rfl (by decide) (Nat.le_of_ble_eq_true rfl) (Nat.le_of_ble_eq_true rfl) ⟨(by first | rw [if_pos (by omega)] | rw [if_neg (by omega)]), rfl, rfl⟩
    · refine sj_ild0 dX0_isPair_12 ?_
      refine sj_bipush dX0_isPair_13 (by decide) ?_
      refine sj_icmp_ne 22 dX0_isPair_15 (by decide) (by omega) (by omega) (fun c_15 => ?_) (fun c_15 => ?_)
      · refine sj_iconst dX0_isPair_22 ?_
        exact sj_iret dX0_isPair_23 rfl (by decide) (Nat.le_of_ble_eq_true rfl) (Nat.le_of_ble_eq_true rfl) ⟨(by first | rw [if_pos (by omega)] | rw [if_neg (by omega)]), rfl, rfl⟩
      · refine sj_iconst dX0_isPair_18 ?_
        refine sj_goto 23 dX0_isPair_19 (by decide) ?_
        exact sj_iret dX0_isPair_23 rfl (by decide) (Nat.le_of_ble_eq_true rfl) (Nat.le_of_ble_eq_true rfl) ⟨(by first | rw [if_pos (by omega)] | rw [if_neg (by omega)]), rfl, rfl⟩
theorem cx0_isPlain {c : Int} (hc : -2147483648 ≤ c ∧ c < 2147483648) : sj_Con l yX0_isPlain mX0_isPlain G σ I [.int (zI c)] (fun r σ' I' => r = some (.int (zI (if c ≠ 122 ∧ c ≠ 101 ∧ c ≠ 111 then 1 else 0))) ∧ σ = σ' ∧ I = I') := by
  refine sj_con_of (L0 := [some (.int (zI c))]) (by decide) rfl rfl rfl (Nat.le_of_ble_eq_true rfl) rfl (fun Γ => ?_)
  refine sj_ild0 dX0_isPlain_0 ?_
  refine sj_bipush dX0_isPlain_1 (by decide) ?_
  refine sj_icmp_eq 22 dX0_isPlain_3 (by decide) (by omega) (by omega) (fun c_3 => ?_) (fun c_3 => ?_)
  · refine sj_iconst dX0_isPlain_22 ?_
    exact sj_iret dX0_isPlain_23 rfl (by decide) (Nat.le_of_ble_eq_true rfl) (Nat.le_of_ble_eq_true rfl) ⟨(by first | rw [if_pos (by omega)] | rw [if_neg (by omega)]), rfl, rfl⟩
  · refine sj_ild0 dX0_isPlain_6 ?_
    refine sj_bipush dX0_isPlain_7 (by decide) ?_
    refine sj_icmp_eq 22 dX0_isPlain_9 (by decide) (by omega) (by omega) (fun c_9 => ?_) (fun c_9 => ?_)
    · refine sj_iconst dX0_isPlain_22 ?_
      exact sj_iret dX0_isPlain_23 rfl (by decide) (Nat.le_of_ble_eq_true rfl) (Nat.le_of_ble_eq_true rfl) ⟨(by first | rw [if_pos (by omega)] | rw [if_neg (by omega)]), rfl, rfl⟩
    · refine sj_ild0 dX0_isPlain_12 ?_
      refine sj_bipush dX0_isPlain_13 (by decide) ?_
      refine sj_icmp_eq 22 dX0_isPlain_15 (by decide) (by omega) (by omega) (fun c_15 => ?_) (fun c_15 => ?_)
      · refine sj_iconst dX0_isPlain_22 ?_
        exact sj_iret dX0_isPlain_23 rfl (by decide) (Nat.le_of_ble_eq_true rfl) (Nat.le_of_ble_eq_true rfl) ⟨(by first | rw [if_pos (by omega)] | rw [if_neg (by omega)]), rfl, rfl⟩
      · refine sj_iconst dX0_isPlain_18 ?_
        refine sj_goto 23 dX0_isPlain_19 (by decide) ?_
        exact sj_iret dX0_isPlain_23 rfl (by decide) (Nat.le_of_ble_eq_true rfl) (Nat.le_of_ble_eq_true rfl) ⟨(by first | rw [if_pos (by omega)] | rw [if_neg (by omega)]), rfl, rfl⟩
/-- how many terms follow a byte; -1: it begins none -/
theorem cx0_operands {c : Int} (hc : -2147483648 ≤ c ∧ c < 2147483648) : sj_Con l yX0_operands mX0_operands G σ I [.int (zI c)] (fun r σ' I' => r = some (.int (zI (if jPt c = -9 then -1 else jPt c))) ∧ σ = σ' ∧ I = I') := by
  refine sj_con_of (L0 := [some (.int (zI c))]) (by decide) rfl rfl rfl (Nat.le_of_ble_eq_true rfl) rfl (fun Γ => ?_)
  have b1 := jbs ((48 ≤ c ∧ c ≤ 57) ∨ (65 ≤ c ∧ c ≤ 72))
  have b2 := jbs (c = 43 ∨ c = 42 ∨ c = 122)
  have hj := jPt_cases c
  have hn : ∀ x : Int, (jPt c = -9 → x = -1) → (jPt c ≠ -9 → x = jPt c) → some (Value.int (zI x)) = some (.int (zI (if jPt c = -9 then -1 else jPt c))) := fun x h1 h2 => by
    by_cases e : jPt c = -9
    · rw [if_pos e, h1 e]
    · rw [if_neg e, h2 e]
  refine sj_ild0 dX0_operands_0 ?_
  refine sj_callS (cx0_isLeaf hc) kc_X0_18 rfl rfl (Nat.le_of_ble_eq_true rfl) dX0_operands_1 (fun r_1 σ_1 I_1 hp_1 => ?_)
  obtain ⟨rfl, rfl, rfl⟩ := hp_1
  refine sj_if_eq 9 dX0_operands_4 (by decide) (by omega) (fun c_4 => ?_) (fun c_4 => ?_)
  · refine sj_ild0 dX0_operands_9 ?_
    refine sj_callS (cx0_isPair hc) kc_X0_21 rfl rfl (Nat.le_of_ble_eq_true rfl) dX0_operands_10 (fun r_10 σ_10 I_10 hp_10 => ?_)
    obtain ⟨rfl, rfl, rfl⟩ := hp_10
    refine sj_if_eq 18 dX0_operands_13 (by decide) (by omega) (fun c_13 => ?_) (fun c_13 => ?_)
    · refine sj_ild0 dX0_operands_18 ?_
      refine sj_bipush dX0_operands_19 (by decide) ?_
      refine sj_icmp_eq 42 dX0_operands_21 (by decide) (by omega) (by omega) (fun c_21 => ?_) (fun c_21 => ?_)
      · refine sj_iconst dX0_operands_42 ?_
        refine sj_goto 47 dX0_operands_43 (by decide) ?_
        exact sj_iret dX0_operands_47 rfl rfl (Nat.le_of_ble_eq_true rfl) (Nat.le_of_ble_eq_true rfl) ⟨hn _ (by omega) (by omega), rfl, rfl⟩
      · refine sj_ild0 dX0_operands_24 ?_
        refine sj_bipush dX0_operands_25 (by decide) ?_
        refine sj_icmp_eq 42 dX0_operands_27 (by decide) (by omega) (by omega) (fun c_27 => ?_) (fun c_27 => ?_)
        · refine sj_iconst dX0_operands_42 ?_
          refine sj_goto 47 dX0_operands_43 (by decide) ?_
          exact sj_iret dX0_operands_47 rfl rfl (Nat.le_of_ble_eq_true rfl) (Nat.le_of_ble_eq_true rfl) ⟨hn _ (by omega) (by omega), rfl, rfl⟩
        · refine sj_ild0 dX0_operands_30 ?_
          refine sj_bipush dX0_operands_31 (by decide) ?_
          refine sj_icmp_eq 42 dX0_operands_33 (by decide) (by omega) (by omega) (fun c_33 => ?_) (fun c_33 => ?_)
          · refine sj_iconst dX0_operands_42 ?_
            refine sj_goto 47 dX0_operands_43 (by decide) ?_
            exact sj_iret dX0_operands_47 rfl rfl (Nat.le_of_ble_eq_true rfl) (Nat.le_of_ble_eq_true rfl) ⟨hn _ (by omega) (by omega), rfl, rfl⟩
          · refine sj_ild0 dX0_operands_36 ?_
            refine sj_bipush dX0_operands_37 (by decide) ?_
            refine sj_icmp_ne 46 dX0_operands_39 (by decide) (by omega) (by omega) (fun c_39 => ?_) (fun c_39 => ?_)
            · refine sj_iconst dX0_operands_46 ?_
              exact sj_iret dX0_operands_47 rfl rfl (Nat.le_of_ble_eq_true rfl) (Nat.le_of_ble_eq_true rfl) ⟨hn _ (by omega) (by omega), rfl, rfl⟩
            · refine sj_iconst dX0_operands_42 ?_
              refine sj_goto 47 dX0_operands_43 (by decide) ?_
              exact sj_iret dX0_operands_47 rfl rfl (Nat.le_of_ble_eq_true rfl) (Nat.le_of_ble_eq_true rfl) ⟨hn _ (by omega) (by omega), rfl, rfl⟩
    · refine sj_iconst dX0_operands_16 ?_
      exact sj_iret dX0_operands_17 rfl rfl (Nat.le_of_ble_eq_true rfl) (Nat.le_of_ble_eq_true rfl) ⟨hn _ (by omega) (by omega), rfl, rfl⟩
  · refine sj_iconst dX0_operands_7 ?_
    exact sj_iret dX0_operands_8 rfl rfl (Nat.le_of_ble_eq_true rfl) (Nat.le_of_ble_eq_true rfl) ⟨hn _ (by omega) (by omega), rfl, rfl⟩
theorem cx0_findEnds {a e n0 n1 : Nat} {T : List Int} (ha : σ.2 a = some (10, n0, fun _ => none)) (he : σ.2 e = some (10, n1, fun _ => none)) (hae : a ≠ e) (hT : lst (I a) 0 T.length = T) (hok : jOk 1 T) (hn0 : T.length ≤ n0 ∧ n0 ≤ 200) (hn1 : T.length ≤ n1 ∧ n1 ≤ 200) : sj_Con l yX0_findEnds mX0_findEnds G σ I [.ref a, .int (zI T.length), .ref e] (fun r σ' I' => r = none ∧ σ = σ' ∧ (∀ q, q ≠ e → I' q = I q) ∧ ∀ p, p < T.length → I' e p = (jEe T p : Nat)) := by
  refine sj_con_of (L0 := [some (.ref a), some (.int (zI T.length)), some (.ref e), none]) (by decide) rfl rfl rfl (Nat.le_of_ble_eq_true rfl) rfl (fun Γ => ?_)
  have lp : ∀ (k : Nat) (J : sjI), k ≤ T.length → (∀ q, q ≠ e → J q = I q) → (∀ p, k ≤ p → p < T.length → J e p = (jEe T p : Nat)) → sj_V l Γ mX0_findEnds G (fun r σ' I' => r = none ∧ σ = σ' ∧ (∀ q, q ≠ e → I' q = I q) ∧ ∀ p, p < T.length → I' e p = (jEe T p : Nat)) σ J 0 0 4 [some (.ref a), some (.int (zI T.length)), some (.ref e), some (.int (zI ((k : Int) - 1)))] [] := by
    intro k
    induction k with
    | zero =>
      intro J hk hJ hE
      refine sj_ild3 dX0_findEnds_4 ?_
      refine sj_if_lt 62 dX0_findEnds_5 (by decide) (by omega) (fun c_5 => ?_) (fun c_5 => ?_)
      rotate_left
      · (exfalso; omega)
      exact sj_vret dX0_findEnds_62 rfl (Nat.le_of_ble_eq_true rfl) (Nat.le_of_ble_eq_true rfl) ⟨rfl, rfl, hJ, fun p hp => hE p (by omega) hp⟩
    | succ k ih =>
      intro J hk hJ hE
      rw [show (((k + 1 : Nat) : Int) - 1) = (k : Int) by omega]
      obtain ⟨c, L, hd, hc, hd2, hcm⟩ := dropEx (T := T) (k := k) (by omega)
      have hvc := jOk_vc T 1 hok c hcm
      unfold jVc at hvc
      have har := jAr_cases c
      obtain ⟨f0, f1, f2, f3, f4⟩ := jEe_facts hok hd
      have hTk : I a k = c := by have := lst_getD hT (j := k) (by omega); rw [Nat.zero_add] at this; rw [this, hc]
      have b1 := jbs ((48 ≤ c ∧ c ≤ 57) ∨ (65 ≤ c ∧ c ≤ 72))
      have b2 := jbs (c = 43 ∨ c = 42 ∨ c = 122)
      have fin : ∀ v : Int, v = (jEe T k : Nat) → sj_V l Γ mX0_findEnds G (fun r σ' I' => r = none ∧ σ = σ' ∧ (∀ q, q ≠ e → I' q = I q) ∧ ∀ p, p < T.length → I' e p = (jEe T p : Nat)) σ (sj_up J e k v) 0 0 56 [some (.ref a), some (.int (zI T.length)), some (.ref e), some (.int (zI k))] [] := by
        intro v hv
        refine sj_inc3 (by decide) rfl dX0_findEnds_56 ?_
        refine sj_goto 4 dX0_findEnds_59 (by decide) ?_
        exact ih _ (by omega) (fun q hq => by rw [sj_up_row hq]; exact hJ q hq) (fun p h1 h2 => by
          by_cases e1 : p = k
          · rw [e1, sj_up_self, hv]
          · rw [sj_up_ne (by omega)]; exact hE p (by omega) h2)
      refine sj_ild3 dX0_findEnds_4 ?_
      refine sj_if_lt 62 dX0_findEnds_5 (by decide) (by omega) (fun c_5 => ?_) (fun c_5 => ?_)
      · (exfalso; omega)
      refine sj_ald0 dX0_findEnds_8 ?_
      refine sj_ild3 dX0_findEnds_9 ?_
      refine sj_ialdJ (k) (by assumption) (by omega) (by omega) (by omega) dX0_findEnds_10 ?_
      rw [hJ a hae, hTk]
      refine sj_callS (cx0_isLeaf (by omega)) kc_X0_18 rfl rfl (Nat.le_of_ble_eq_true rfl) dX0_findEnds_11 (fun r_11 σ_11 I_11 hp_11 => ?_)
      obtain ⟨rfl, rfl, rfl⟩ := hp_11
      refine sj_if_eq 26 dX0_findEnds_14 (by decide) (by omega) (fun c_14 => ?_) (fun c_14 => ?_)
      · refine sj_ald0 dX0_findEnds_26 ?_
        refine sj_ild3 dX0_findEnds_27 ?_
        refine sj_ialdJ (k) (by assumption) (by omega) (by omega) (by omega) dX0_findEnds_28 ?_
        rw [hJ a hae, hTk]
        refine sj_callS (cx0_isPair (by omega)) kc_X0_21 rfl rfl (Nat.le_of_ble_eq_true rfl) dX0_findEnds_29 (fun r_29 σ_29 I_29 hp_29 => ?_)
        obtain ⟨rfl, rfl, rfl⟩ := hp_29
        refine sj_if_eq 48 dX0_findEnds_32 (by decide) (by omega) (fun c_32 => ?_) (fun c_32 => ?_)
        · refine sj_ald2 dX0_findEnds_48 ?_
          refine sj_ild3 dX0_findEnds_49 ?_
          refine sj_ald2 dX0_findEnds_50 ?_
          refine sj_ild3 dX0_findEnds_51 ?_
          refine sj_iconst dX0_findEnds_52 ?_
          refine sj_iadd dX0_findEnds_53 ?_
          refine sj_ialdJ (k + 1) he (by have := f1 (by omega); omega) (by omega) (by omega) dX0_findEnds_54 ?_
          rw [hE (k + 1) (by omega) (by have := f1 (by omega); omega)]
          refine sj_iastJ (k) (by assumption) (by omega) (by omega) (by omega) dX0_findEnds_55 ?_
          first
           | exact fin _ (by rw [f0 (by omega)]; omega)
           | exact fin _ (by rw [(f2 (by omega)).2.2.2])
           | exact fin _ (by rw [(f1 (by omega)).2])
        · refine sj_ald2 dX0_findEnds_35 ?_
          refine sj_ild3 dX0_findEnds_36 ?_
          refine sj_ald2 dX0_findEnds_37 ?_
          refine sj_ald2 dX0_findEnds_38 ?_
          refine sj_ild3 dX0_findEnds_39 ?_
          refine sj_iconst dX0_findEnds_40 ?_
          refine sj_iadd dX0_findEnds_41 ?_
          refine sj_ialdJ (k + 1) he (by have := f2 (by omega); omega) (by omega) (by omega) dX0_findEnds_42 ?_
          rw [hE (k + 1) (by omega) (by have := f2 (by omega); omega)]
          refine sj_ialdJ (jEe T (k + 1)) he (by have := f2 (by omega); omega) (by omega) (by omega) dX0_findEnds_43 ?_
          rw [hE (jEe T (k + 1)) (by have := f2 (by omega); omega) (by have := f2 (by omega); omega)]
          refine sj_iastJ (k) (by assumption) (by omega) (by omega) (by omega) dX0_findEnds_44 ?_
          refine sj_goto 56 dX0_findEnds_45 (by decide) ?_
          first
           | exact fin _ (by rw [f0 (by omega)]; omega)
           | exact fin _ (by rw [(f2 (by omega)).2.2.2])
           | exact fin _ (by rw [(f1 (by omega)).2])
      · refine sj_ald2 dX0_findEnds_17 ?_
        refine sj_ild3 dX0_findEnds_18 ?_
        refine sj_ild3 dX0_findEnds_19 ?_
        refine sj_iconst dX0_findEnds_20 ?_
        refine sj_iadd dX0_findEnds_21 ?_
        refine sj_iastJ (k) (by assumption) (by omega) (by omega) (by omega) dX0_findEnds_22 ?_
        refine sj_goto 56 dX0_findEnds_23 (by decide) ?_
        first
         | exact fin _ (by rw [f0 (by omega)]; omega)
         | exact fin _ (by rw [(f2 (by omega)).2.2.2])
         | exact fin _ (by rw [(f1 (by omega)).2])
  refine sj_ild1 dX0_findEnds_0 ?_
  refine sj_iconst dX0_findEnds_1 ?_
  refine sj_isub dX0_findEnds_2 ?_
  refine sj_ist3 (by decide) rfl dX0_findEnds_3 ?_
  exact lp T.length I (Nat.le_refl _) (fun _ _ => rfl) (fun p h1 h2 => absurd h1 (by omega))
theorem cx0_findMentions {a n0 : Nat} {T : List Int} (ha : σ.2 a = some (10, n0, fun _ => none)) (hT : lst (I a) 0 T.length = T) (hvc : ∀ c ∈ T, jVc c) (hn0 : T.length ≤ n0 ∧ n0 ≤ 200) (hn : T.length ≤ 120) : sj_Con l yX0_findMentions mX0_findMentions G σ I [.ref a, .int (zI T.length)] (fun r σ' I' => r = some (.ref σ.1) ∧ σ' = sj_nw σ (10, (jMs T 0).length, fun _ => none) ∧ (∀ q, q ≠ σ.1 → I' q = I q) ∧ ∀ j, j < (jMs T 0).length → I' σ.1 j = ((jMs T 0).getD j 0 : Nat)) := by
  refine sj_con_of (L0 := [some (.ref a), some (.int (zI T.length)), none, none, none, none]) (by decide) rfl rfl rfl (Nat.le_of_ble_eq_true rfl) rfl (fun Γ => ?_)
  refine sj_wfV (fun hwf => ?_)
  have hal := hwf a _ ha
  have hml := jMs_len T 0
  have lp2 : ∀ (d k : Nat) (J : sjI), k + d = T.length → (∀ q, q ≠ σ.1 → J q = I q) → (∀ j, j < (jMs (T.take k) 0).length → J σ.1 j = ((jMs T 0).getD j 0 : Nat)) → sj_V l Γ mX0_findMentions G (fun r σ' I' => r = some (.ref σ.1) ∧ σ' = sj_nw σ (10, (jMs T 0).length, fun _ => none) ∧ (∀ q, q ≠ σ.1 → I' q = I q) ∧ ∀ j, j < (jMs T 0).length → I' σ.1 j = ((jMs T 0).getD j 0 : Nat)) (sj_nw σ (10, (jMs T 0).length, fun _ => none)) J 1 120 37 [some (.ref a), some (.int (zI T.length)), some (.int (zI (jMs T 0).length)), some (.ref σ.1), some (.int (zI (jMs (T.take k) 0).length)), some (.int (zI k))] [] := by
    intro d
    induction d with
    | zero =>
      intro k J hk hJ hE
      have hk1 : k = T.length := by omega
      subst hk1
      rw [List.take_length] at hE ⊢
      refine sj_ild5 dX0_findMentions_37 ?_
      refine sj_ild1 dX0_findMentions_39 ?_
      refine sj_icmp_ge 74 dX0_findMentions_40 (by decide) (by omega) (by omega) (fun c_40 => ?_) (fun c_40 => ?_)
      rotate_left
      · (exfalso; omega)
      refine sj_ald3 dX0_findMentions_74 ?_
      exact sj_aret dX0_findMentions_75 rfl (Or.inr ⟨_, rfl⟩) (Or.inr ⟨_, rfl⟩) (Nat.le_of_ble_eq_true rfl) (Nat.le_of_ble_eq_true rfl) ⟨rfl, rfl, hJ, hE⟩
    | succ d ih =>
      intro k J hk hJ hE
      obtain ⟨c, L, hd, hc, hd2, hcm⟩ := dropEx (T := T) (k := k) (by omega)
      have hv := hvc c hcm
      unfold jVc at hv
      have hTk : I a k = c := by have := lst_getD hT (j := k) (by omega); rw [Nat.zero_add] at this; rw [this, hc]
      have b1 := jbs (65 ≤ c ∧ c ≤ 72)
      obtain ⟨R, hR⟩ := jMs_pre (T := T) (k := k)
      obtain ⟨R2, hR2⟩ := jMs_pre (T := T) (k := k + 1)
      have ht := jMs_take (L := L) (by omega) hc
      have hl1 := congrArg List.length hR
      have hl2 := congrArg List.length hR2
      rw [List.length_append] at hl1 hl2
      have no : ¬ (65 ≤ c ∧ c ≤ 72) → jMs (T.take (k + 1)) 0 = jMs (T.take k) 0 := fun h => by rw [ht, if_neg h, List.append_nil]
      have yes : (65 ≤ c ∧ c ≤ 72) → jMs (T.take (k + 1)) 0 = jMs (T.take k) 0 ++ [k] := fun h => by rw [ht, if_pos h]
      have hnw : (sj_nw σ (10, (jMs T 0).length, fun _ => none)).2 a = some (10, n0, fun _ => none) := by rw [sj_nw_ne (by omega)]; exact ha
      have hnm : (sj_nw σ (10, (jMs T 0).length, fun _ => none)).2 σ.1 = some (10, (jMs T 0).length, fun _ => none) := sj_nw_self _ _
      refine sj_ild5 dX0_findMentions_37 ?_
      refine sj_ild1 dX0_findMentions_39 ?_
      refine sj_icmp_ge 74 dX0_findMentions_40 (by decide) (by omega) (by omega) (fun c_40 => ?_) (fun c_40 => ?_)
      · (exfalso; omega)
      refine sj_ild4 dX0_findMentions_43 ?_
      refine sj_ild2 dX0_findMentions_45 ?_
      refine sj_icmp_ge 74 dX0_findMentions_46 (by decide) (by omega) (by omega) (fun c_46 => ?_) (fun c_46 => ?_)
      · exact sj_ald3 dX0_findMentions_74 (sj_aret dX0_findMentions_75 rfl (Or.inr ⟨_, rfl⟩) (Or.inr ⟨_, rfl⟩) (Nat.le_of_ble_eq_true rfl) (Nat.le_of_ble_eq_true rfl) ⟨rfl, rfl, hJ, fun j hj => hE j (by omega)⟩)
      refine sj_ald0 dX0_findMentions_49 ?_
      refine sj_ild5 dX0_findMentions_50 ?_
      refine sj_ialdJ (k) (by assumption) (by omega) (by omega) (by omega) dX0_findMentions_52 ?_
      rw [hJ a (by omega), hTk]
      refine sj_callS (cx0_isStreamName (by omega)) kc_X0_11 rfl rfl (Nat.le_of_ble_eq_true rfl) dX0_findMentions_53 (fun r_53 σ_53 I_53 hp_53 => ?_)
      obtain ⟨rfl, rfl, rfl⟩ := hp_53
      refine sj_if_eq 68 dX0_findMentions_56 (by decide) (by omega) (fun c_56 => ?_) (fun c_56 => ?_)
      · refine sj_inc5 (by decide) rfl dX0_findMentions_68 ?_
        refine sj_goto 37 dX0_findMentions_71 (by decide) ?_
        first
         | (have h := ih (k + 1) J (by omega) hJ (by rw [no (by omega)]; exact hE)
            rw [no (by omega)] at h
            exact h)
         | (have h := ih (k + 1) (sj_up J σ.1 (jMs (T.take k) 0).length (k : Int)) (by omega) (fun q hq => by rw [sj_up_row hq]; exact hJ q hq) (fun j hj => by
              rw [yes (by omega), List.length_append] at hj
              by_cases e1 : j = (jMs (T.take k) 0).length
              · rw [e1, sj_up_self, hR2, yes (by omega), getD_app (by rw [List.length_append]; exact Nat.lt_succ_self _), List.getD_eq_getElem?_getD, List.getElem?_append_right (Nat.le_refl _), Nat.sub_self]; rfl
              · rw [sj_up_ne (by omega)]; exact hE j (by simp only [List.length_singleton] at hj; omega))
            rw [yes (by omega), List.length_append] at h
            exact h)
      · refine sj_ald3 dX0_findMentions_59 ?_
        refine sj_ild4 dX0_findMentions_60 ?_
        refine sj_ild5 dX0_findMentions_62 ?_
        refine sj_iastJ ((jMs (T.take k) 0).length) (by assumption) (by omega) (by omega) (by omega) dX0_findMentions_64 ?_
        refine sj_inc4 (by decide) rfl dX0_findMentions_65 ?_
        refine sj_inc5 (by decide) rfl dX0_findMentions_68 ?_
        refine sj_goto 37 dX0_findMentions_71 (by decide) ?_
        first
         | (have h := ih (k + 1) J (by omega) hJ (by rw [no (by omega)]; exact hE)
            rw [no (by omega)] at h
            exact h)
         | (have h := ih (k + 1) (sj_up J σ.1 (jMs (T.take k) 0).length (k : Int)) (by omega) (fun q hq => by rw [sj_up_row hq]; exact hJ q hq) (fun j hj => by
              rw [yes (by omega), List.length_append] at hj
              by_cases e1 : j = (jMs (T.take k) 0).length
              · rw [e1, sj_up_self, hR2, yes (by omega), getD_app (by rw [List.length_append]; exact Nat.lt_succ_self _), List.getD_eq_getElem?_getD, List.getElem?_append_right (Nat.le_refl _), Nat.sub_self]; rfl
              · rw [sj_up_ne (by omega)]; exact hE j (by simp only [List.length_singleton] at hj; omega))
            rw [yes (by omega), List.length_append] at h
            exact h)
  have lp1 : ∀ (d k : Nat), k + d = T.length → sj_V l Γ mX0_findMentions G (fun r σ' I' => r = some (.ref σ.1) ∧ σ' = sj_nw σ (10, (jMs T 0).length, fun _ => none) ∧ (∀ q, q ≠ σ.1 → I' q = I q) ∧ ∀ j, j < (jMs T 0).length → I' σ.1 j = ((jMs T 0).getD j 0 : Nat)) σ I 0 0 4 [some (.ref a), some (.int (zI T.length)), some (.int (zI (jMs (T.take k) 0).length)), some (.int (zI k)), none, none] [] := by
    intro d
    induction d with
    | zero =>
      intro k hk
      have hk1 : k = T.length := by omega
      subst hk1
      rw [List.take_length]
      refine sj_ild3 dX0_findMentions_4 ?_
      refine sj_ild1 dX0_findMentions_5 ?_
      refine sj_icmp_ge 27 dX0_findMentions_6 (by decide) (by omega) (by omega) (fun c_6 => ?_) (fun c_6 => ?_)
      rotate_left
      · (exfalso; omega)
      refine sj_ild2 dX0_findMentions_27 ?_
      refine sj_newI wd_102 dX0_findMentions_28 (by omega) (Nat.le_of_ble_eq_true rfl) (by show 0 + (jMs T 0).length ≤ 120; omega) ?_
      refine sj_more (k' := 1) (n' := 120) (Nat.le_of_ble_eq_true rfl) (by show 0 + (jMs T 0).length ≤ 120; omega) ?_
      refine sj_ast3 (by decide) rfl dX0_findMentions_30 ?_
      refine sj_iconst dX0_findMentions_31 ?_
      refine sj_ist4 (by decide) rfl dX0_findMentions_32 ?_
      refine sj_iconst dX0_findMentions_34 ?_
      refine sj_ist5 (by decide) rfl dX0_findMentions_35 ?_
      exact lp2 T.length 0 _ (by omega) (fun q hq => sj_ur_ne hq) (fun j hj => absurd hj (by simp [jMs]))
    | succ d ih =>
      intro k hk
      obtain ⟨c, L, hd, hc, hd2, hcm⟩ := dropEx (T := T) (k := k) (by omega)
      have hv := hvc c hcm
      unfold jVc at hv
      have hTk : I a k = c := by have := lst_getD hT (j := k) (by omega); rw [Nat.zero_add] at this; rw [this, hc]
      have b1 := jbs (65 ≤ c ∧ c ≤ 72)
      have ht := jMs_take (L := L) (by omega) hc
      have no : ¬ (65 ≤ c ∧ c ≤ 72) → jMs (T.take (k + 1)) 0 = jMs (T.take k) 0 := fun h => by rw [ht, if_neg h, List.append_nil]
      have yes : (65 ≤ c ∧ c ≤ 72) → jMs (T.take (k + 1)) 0 = jMs (T.take k) 0 ++ [k] := fun h => by rw [ht, if_pos h]
      refine sj_ild3 dX0_findMentions_4 ?_
      refine sj_ild1 dX0_findMentions_5 ?_
      refine sj_icmp_ge 27 dX0_findMentions_6 (by decide) (by omega) (by omega) (fun c_6 => ?_) (fun c_6 => ?_)
      · (exfalso; omega)
      refine sj_ald0 dX0_findMentions_9 ?_
      refine sj_ild3 dX0_findMentions_10 ?_
      refine sj_ialdJ (k) (by assumption) (by omega) (by omega) (by omega) dX0_findMentions_11 ?_
      rw [hTk]
      refine sj_callS (cx0_isStreamName (by omega)) kc_X0_11 rfl rfl (Nat.le_of_ble_eq_true rfl) dX0_findMentions_12 (fun r_12 σ_12 I_12 hp_12 => ?_)
      obtain ⟨rfl, rfl, rfl⟩ := hp_12
      refine sj_if_eq 21 dX0_findMentions_15 (by decide) (by omega) (fun c_15 => ?_) (fun c_15 => ?_)
      · refine sj_inc3 (by decide) rfl dX0_findMentions_21 ?_
        refine sj_goto 4 dX0_findMentions_24 (by decide) ?_
        first
         | (have h := ih (k + 1) (by omega)
            rw [no (by omega)] at h
            exact h)
         | (have h := ih (k + 1) (by omega)
            rw [yes (by omega), List.length_append] at h
            exact h)
      · refine sj_inc2 (by decide) rfl dX0_findMentions_18 ?_
        refine sj_inc3 (by decide) rfl dX0_findMentions_21 ?_
        refine sj_goto 4 dX0_findMentions_24 (by decide) ?_
        first
         | (have h := ih (k + 1) (by omega)
            rw [no (by omega)] at h
            exact h)
         | (have h := ih (k + 1) (by omega)
            rw [yes (by omega), List.length_append] at h
            exact h)
  refine sj_iconst dX0_findMentions_0 ?_
  refine sj_ist2 (by decide) rfl dX0_findMentions_1 ?_
  refine sj_iconst dX0_findMentions_2 ?_
  refine sj_ist3 (by decide) rfl dX0_findMentions_3 ?_
  exact lp1 T.length 0 (by omega)
end CODE
