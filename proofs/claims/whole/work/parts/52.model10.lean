/-- what a rule makes of a tail of L -/
def jRt : List Int → Option (List Int)
  | [] => none
  | u :: N => if 128 ≤ u then some N else if u = 43 ∨ u = 42 then some (u :: 116 :: (jTk 1 N ++ 116 :: jDr 1 N)) else if u = 122 then some (122 :: (jDr 1 N ++ 116 :: jTk 1 N)) else if u = 101 ∨ u = 111 then some (u :: 116 :: 116 :: N) else if 48 ≤ u ∧ u ≤ 57 then some [u] else none
/-- of evens or odds of L -/
def jRe (c : Int) : List Int → Option (List Int)
  | [] => none
  | u :: N => if 48 ≤ u ∧ u ≤ 57 then some [u] else if u = 122 then some (if c = 101 then jTk 1 N else jDr 1 N) else none
/-- of a zip -/
def jRz (L : List Int) : Option (List Int) := if (jTk 1 L).headD 0 = 101 ∧ (jDr 1 L).headD 0 = 111 ∧ (jTk 1 L).tail = (jDr 1 L).tail then some (jTk 1 L).tail else none
/-- what a rule makes of a term at its root -/
def jRoot : List Int → Option (List Int)
  | [] => none
  | c :: L => if c = 116 then jRt L else if c = 101 ∨ c = 111 then jRe c L else if c = 122 then jRz L else none
theorem jRoot_cons (c : Int) (L : List Int) : jRoot (c :: L) = if c = 116 then jRt L else if c = 101 ∨ c = 111 then jRe c L else if c = 122 then jRz L else none := rfl
theorem jRt_cons (u : Int) (N : List Int) : jRt (u :: N) = if 128 ≤ u then some N else if u = 43 ∨ u = 42 then some (u :: 116 :: (jTk 1 N ++ 116 :: jDr 1 N)) else if u = 122 then some (122 :: (jDr 1 N ++ 116 :: jTk 1 N)) else if u = 101 ∨ u = 111 then some (u :: 116 :: 116 :: N) else if 48 ≤ u ∧ u ≤ 57 then some [u] else none := rfl
theorem jRe_cons (c u : Int) (N : List Int) : jRe c (u :: N) = if 48 ≤ u ∧ u ≤ 57 then some [u] else if u = 122 then some (if c = 101 then jTk 1 N else jDr 1 N) else none := rfl
theorem jEnc_inj : ∀ (A B : List Int), (∀ c ∈ A, jVc c) → (∀ c ∈ B, jVc c) → jEnc A = jEnc B → A = B
  | [], [], _, _, _ => rfl
  | [], b :: B, _, _, h => by
    obtain ⟨M, hM⟩ := jE_head b
    rw [jEnc_cons, hM] at h
    cases h
  | a :: A, [], _, _, h => by
    obtain ⟨M, hM⟩ := jE_head a
    rw [jEnc_cons, hM] at h
    cases h
  | a :: A, b :: B, ha, hb, h => by
    have va := ha a List.mem_cons_self
    have vb := hb b List.mem_cons_self
    have ih := jEnc_inj A B (fun c hc => ha c (List.mem_cons_of_mem _ hc)) (fun c hc => hb c (List.mem_cons_of_mem _ hc))
    unfold jVc at va vb
    rw [jEnc_cons, jEnc_cons] at h
    by_cases h1 : 128 ≤ a
    · by_cases h2 : 128 ≤ b
      · rw [jE_front h1, jE_front h2] at h
        simp only [List.cons_append, List.nil_append, List.cons.injEq, true_and] at h
        rw [ih h.2, show a = b by omega]
      · rw [jE_front h1, jE_else h2] at h
        simp only [List.cons_append, List.nil_append, List.cons.injEq] at h
        omega
    · by_cases h2 : 128 ≤ b
      · rw [jE_else h1, jE_front h2] at h
        simp only [List.cons_append, List.nil_append, List.cons.injEq] at h
        omega
      · rw [jE_else h1, jE_else h2] at h
        simp only [List.cons_append, List.nil_append, List.cons.injEq] at h
        rw [ih h.2, h.1]
/-- J is I but for what was laid -/
def mMd (o : Nat) (I J : sjI) (D : List Int) : Prop := (∀ a, a ≠ o → a ≠ o + 6 → J a = I a) ∧ (∀ j, j ≠ 12 → J o j = I o j) ∧ J o 12 = D.length ∧ lst (J (o + 6)) 0 D.length = D
theorem mMd.step {o : Nat} {I J : sjI} {D : List Int} (h : mMd o I J D) (c : Int) : mMd o I (sj_up (sj_up J (o + 6) D.length c) o 12 ((D.length + 1 : Nat) : Int)) (D ++ [c]) := by
  obtain ⟨h1, h2, h3, h4⟩ := h
  refine ⟨fun a e1 e2 => by rw [sj_up_row e1, sj_up_row e2]; exact h1 a e1 e2, fun j e => by rw [sj_up_ne (by omega), sj_up_ne (by omega)]; exact h2 j e, by rw [sj_up_self, List.length_append]; rfl, ?_⟩
  have e := lst_up_succ (I := J) (a := o + 6) (s := 0) (n := D.length) (v := c)
  rw [Nat.zero_add] at e
  rw [List.length_append, lst_up (Or.inl (by omega)), List.length_singleton, e, h4]
section MODEL10
variable {l : Launch} {G : sjG} {σ : sjS} {I J : sjI}
theorem cm_lay' {o : Nat} {c : Int} {D : List Int} (hS : mSh σ o) (hD : mMd o I J D) (hl : D.length < 500) : sj_Con l yX10_lay mX10_lay G σ J [.ref o, .int (zI c)] (fun r σ' J' => r = none ∧ σ = σ' ∧ mMd o I J' (D ++ [c])) := by
  have h := cm_lay (l := l) (G := G) (I := J) (c := c) hS hD.2.2.1 hl
  exact h.weak (fun r σ' I' hq => ⟨hq.1, hq.2.1, by rw [hq.2.2]; exact hD.step c⟩)
theorem cm_layPart {o s n : Nat} {D : List Int} (hS : mSh σ o) (hD : mMd o I J D) (hs : s + n ≤ 500) (hl : D.length + n ≤ 500) : sj_Con l yX10_layPart mX10_layPart G σ J [.ref o, .int (zI s), .int (zI (s + n : Nat))] (fun r σ' J' => r = none ∧ σ = σ' ∧ mMd o I J' (D ++ lst (I (o + 7)) s n)) := by
  obtain ⟨h_o, h_w, h_past, h_images, h_text, h_read, h_made, h_old, h_values, h_ranks, h_operator, h_indexAt, h_second, h_first, h_needed, h_shifts, h_around, h_best, h_isNeeded, h_toSee, h_held, h_there⟩ := id hS
  refine sj_con_of (L0 := [some (.ref o), some (.int (zI s)), some (.int (zI (s + n : Nat))), none]) (by decide) rfl rfl rfl (Nat.le_of_ble_eq_true rfl) rfl (fun Γ => ?_)
  have lp : ∀ (d k : Nat) (J2 : sjI), k + d = n → mMd o I J2 (D ++ lst (I (o + 7)) s k) → sj_V l Γ mX10_layPart G (fun r σ' J' => r = none ∧ σ = σ' ∧ mMd o I J' (D ++ lst (I (o + 7)) s n)) σ J2 0 0 2 [some (.ref o), some (.int (zI s)), some (.int (zI (s + n : Nat))), some (.int (zI (s + k : Nat)))] [] := by
    intro d
    induction d with
    | zero =>
      intro k J2 hk h
      have hkn : k = n := by omega
      subst hkn
      refine sj_ild3 dX10_layPart_2 ?_
      refine sj_ild2 dX10_layPart_3 ?_
      refine sj_icmp_ge 23 dX10_layPart_4 (by decide) (by omega) (by omega) (fun c_4 => ?_) (fun c_4 => ?_)
      rotate_left
      · exact absurd (by omega) c_4
      exact sj_vret dX10_layPart_23 rfl (Nat.le_of_ble_eq_true rfl) (Nat.le_of_ble_eq_true rfl) ⟨rfl, rfl, h⟩
    | succ d ih =>
      intro k J2 hk h
      have h7 : J2 (o + 7) = I (o + 7) := h.1 (o + 7) (by omega) (by omega)
      refine sj_ild3 dX10_layPart_2 ?_
      refine sj_ild2 dX10_layPart_3 ?_
      refine sj_icmp_ge 23 dX10_layPart_4 (by decide) (by omega) (by omega) (fun c_4 => ?_) (fun c_4 => ?_)
      · exact absurd c_4 (by omega)
      refine sj_ald0 dX10_layPart_7 ?_
      refine sj_ald0 dX10_layPart_8 ?_
      refine sj_getR fl_X10_28 (by assumption) rfl (mr_10 _) dX10_layPart_9 ?_
      refine sj_ild3 dX10_layPart_12 ?_
      refine sj_ialdJ (s + k) (by assumption) (by omega) (by omega) (by omega) dX10_layPart_13 ?_
      rw [h7]
      refine sj_callV (cm_lay' hS h (by rw [List.length_append, lst_len]; omega)) kc_X10_132 (by assumption) rfl rfl rfl rfl (Nat.le_of_ble_eq_true rfl) dX10_layPart_14 (fun r_14 σ_14 I_14 hp_14 => ?_)
      obtain ⟨rfl, rfl, h2⟩ := hp_14
      refine sj_inc3 (by decide) rfl dX10_layPart_17 ?_
      refine sj_goto 2 dX10_layPart_20 (by decide) ?_
      refine ih (k + 1) _ (by omega) ?_
      rw [List.append_assoc, ← lst_succ] at h2
      exact h2
  refine sj_ild1 dX10_layPart_0 ?_
  refine sj_ist3 (by decide) rfl dX10_layPart_1 ?_
  exact lp n 0 J (by omega) (by rw [lst_zero, List.append_nil]; exact hD)
theorem cm_isSamePart {o p q n : Nat} (hS : mSh σ o) (hp : p + n ≤ 500) (hq : q + n ≤ 500) (hr : ∀ j, j < 500 → 0 ≤ I (o + 7) j ∧ I (o + 7) j < 128 ∨ ¬ (p ≤ j ∧ j < p + n) ∧ ¬ (q ≤ j ∧ j < q + n)) : sj_Con l yX10_isSamePart mX10_isSamePart G σ I [.ref o, .int (zI p), .int (zI q), .int (zI n)] (fun r σ' I' => r = some (.int (zI (if lst (I (o + 7)) p n = lst (I (o + 7)) q n then 1 else 0))) ∧ σ = σ' ∧ I = I') := by
  obtain ⟨h_o, h_w, h_past, h_images, h_text, h_read, h_made, h_old, h_values, h_ranks, h_operator, h_indexAt, h_second, h_first, h_needed, h_shifts, h_around, h_best, h_isNeeded, h_toSee, h_held, h_there⟩ := id hS
  refine sj_con_of (L0 := [some (.ref o), some (.int (zI p)), some (.int (zI q)), some (.int (zI n)), none]) (by decide) rfl rfl rfl (Nat.le_of_ble_eq_true rfl) rfl (fun Γ => ?_)
  have lp : ∀ (d k : Nat), k + d = n → lst (I (o + 7)) p k = lst (I (o + 7)) q k → sj_V l Γ mX10_isSamePart G (fun r σ' I' => r = some (.int (zI (if lst (I (o + 7)) p n = lst (I (o + 7)) q n then 1 else 0))) ∧ σ = σ' ∧ I = I') σ I 0 0 3 [some (.ref o), some (.int (zI p)), some (.int (zI q)), some (.int (zI n)), some (.int (zI k))] [] := by
    intro d
    induction d with
    | zero =>
      intro k hk h
      have hkn : k = n := by omega
      subst hkn
      refine sj_ild4 dX10_isSamePart_3 ?_
      refine sj_ild3 dX10_isSamePart_5 ?_
      refine sj_icmp_ge 38 dX10_isSamePart_6 (by decide) (by omega) (by omega) (fun c_6 => ?_) (fun c_6 => ?_)
      rotate_left
      · exact absurd (by omega) c_6
      refine sj_iconst dX10_isSamePart_38 ?_
      exact sj_iret dX10_isSamePart_39 rfl (by decide) (Nat.le_of_ble_eq_true rfl) (Nat.le_of_ble_eq_true rfl) ⟨by rw [if_pos h], rfl, rfl⟩
    | succ d ih =>
      intro k hk h
      have r1 := hr (p + k) (by omega)
      have r2 := hr (q + k) (by omega)
      refine sj_ild4 dX10_isSamePart_3 ?_
      refine sj_ild3 dX10_isSamePart_5 ?_
      refine sj_icmp_ge 38 dX10_isSamePart_6 (by decide) (by omega) (by omega) (fun c_6 => ?_) (fun c_6 => ?_)
      · exact absurd c_6 (by omega)
      refine sj_ald0 dX10_isSamePart_9 ?_
      refine sj_getR fl_X10_28 (by assumption) rfl (mr_10 _) dX10_isSamePart_10 ?_
      refine sj_ild1 dX10_isSamePart_13 ?_
      refine sj_ild4 dX10_isSamePart_14 ?_
      refine sj_iadd dX10_isSamePart_16 ?_
      refine sj_ialdJ (p + k) (by assumption) (by omega) (by omega) (by omega) dX10_isSamePart_17 ?_
      refine sj_ald0 dX10_isSamePart_18 ?_
      refine sj_getR fl_X10_28 (by assumption) rfl (mr_10 _) dX10_isSamePart_19 ?_
      refine sj_ild2 dX10_isSamePart_22 ?_
      refine sj_ild4 dX10_isSamePart_23 ?_
      refine sj_iadd dX10_isSamePart_25 ?_
      refine sj_ialdJ (q + k) (by assumption) (by omega) (by omega) (by omega) dX10_isSamePart_26 ?_
      refine sj_icmp_eq 32 dX10_isSamePart_27 (by decide) (by omega) (by omega) (fun c_27 => ?_) (fun c_27 => ?_)
      · refine sj_inc4 (by decide) rfl dX10_isSamePart_32 ?_
        refine sj_goto 3 dX10_isSamePart_35 (by decide) ?_
        exact ih (k + 1) (by omega) (by rw [lst_succ, lst_succ, h, c_27])
      · refine sj_iconst dX10_isSamePart_30 ?_
        exact sj_iret dX10_isSamePart_31 rfl (by decide) (Nat.le_of_ble_eq_true rfl) (Nat.le_of_ble_eq_true rfl) ⟨by rw [if_neg (fun z => c_27 (by have z1 := lst_at z (j := k) (by omega); rw [lst_get (by omega)] at z1; exact (Option.some.inj z1).symm))], rfl, rfl⟩
  refine sj_iconst dX10_isSamePart_0 ?_
  refine sj_ist4 (by decide) rfl dX10_isSamePart_1 ?_
  exact lp n 0 (by omega) rfl
end MODEL10
