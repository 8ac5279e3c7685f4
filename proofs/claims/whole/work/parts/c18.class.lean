/-! what is told of found values -/
def vAt (f : Nat → Int) (k : Nat) : Int := if f k < 16 then -9 else f k % 16
def vRg (f : Nat → Int) : Prop := ∀ k, k < 3200 → (0 ≤ f k ∧ f k < 60000) ∧ (vAt f k = -9 ∨ (0 ≤ vAt f k ∧ vAt f k < 10))
theorem cO.vr {M : Int} (hM : 2 ≤ M ∧ M ≤ 10) {E : Nat → Option (List Int)} {f : Nat → Int} (h : cO M E f) : vRg f := fun k hk => by
  refine ⟨h.p.rng hM hk, ?_⟩
  unfold vAt
  rcases h k hk with a | a | a
  · rw [if_pos (by omega)]; exact Or.inl rfl
  · rw [if_pos (by omega)]; exact Or.inl rfl
  · have := a.rng hM hk
    rw [if_neg (by omega)]
    exact Or.inr (by omega)
theorem cO.val {M : Int} (hM : 2 ≤ M ∧ M ≤ 10) {E : Nat → Option (List Int)} {f : Nat → Int} (h : cO M E f) {k : Nat} (hk : k < 3200) (h0 : f k ≠ 0) : vAt f k = jVal M E k := by
  unfold vAt
  rcases h k hk with a | a | a
  · exact absurd a h0
  · rw [if_pos (by omega), jVal_none]
    rintro ⟨z, n, hz⟩
    exact a.2 ⟨n, z, hz⟩
  · obtain ⟨r1, _, _, _, n, hn⟩ := a.rng hM hk
    rw [if_neg (by omega), jVal_some hn]
theorem jPd_two (v : Nat → Int) (s : Nat) : ∀ d p, (jPd v s true d p = -9 ∧ jPd v s false d p = -9) ∨ ∃ p', p ≤ p' ∧ p' < p + d ∧ jPd v s true d p = (p' : Nat) ∧ jPd v s false d p = (jAh v s p' (200 - p') : Nat)
  | 0, p => Or.inl ⟨rfl, rfl⟩
  | d + 1, p => by
    unfold jPd
    by_cases h : jAq v s p = -9
    · rw [if_neg (by omega), if_neg (by omega)]
      rcases jPd_two v s d (p + 1) with a | ⟨p', a1, a2, a3, a4⟩
      · exact Or.inl a
      · exact Or.inr ⟨p', by omega, by omega, a3, a4⟩
    · rw [if_pos h, if_pos h, if_pos rfl, if_neg (by decide)]
      refine Or.inr ⟨p, by omega, by omega, rfl, ?_⟩
      unfold jAq at h ⊢
      split
      · rfl
      · rename_i q; rw [if_neg q] at h; exact absurd rfl h
section VALUES4
variable {l : Launch} {G : sjG} {σ : sjS} {I : sjI}
theorem cx7_at' {v e w a i : Nat} (hS : vSh σ v e w) (hr : vRg (I (vCl v w))) (ha : a < 8) (hi : i < 400) : sj_Con l yX7_at mX7_at G σ I [.ref v, .int (zI a), .int (zI i)] (fun r σ' I' => r = some (.int (zI (vAt (I (vCl v w)) (400 * a + i)))) ∧ σ = σ' ∧ I = I') := cx7_at hS ha hi (hr _ (by omega)).1
theorem cx7_reach {v e w a : Nat} (hS : vSh σ v e w) (hr : vRg (I (vCl v w))) (ha : a < 8) : sj_Con l yX7_reach mX7_reach G σ I [.ref v, .int (zI a)] (fun r σ' I' => r = some (.int (zI (jRh (vAt (I (vCl v w))) (400 * a) 400 0 : Nat))) ∧ σ = σ' ∧ I = I') := by
  obtain ⟨s0, s1⟩ := id hS
  refine sj_con_of (L0 := [some (.ref v), some (.int (zI a)), none]) (by decide) rfl rfl rfl (Nat.le_of_ble_eq_true rfl) rfl (fun Γ => ?_)
  have lp : ∀ (d i : Nat), i + d = 400 → jRh (vAt (I (vCl v w))) (400 * a) d i = jRh (vAt (I (vCl v w))) (400 * a) 400 0 → sj_V l Γ mX7_reach G (fun r σ' I' => r = some (.int (zI (jRh (vAt (I (vCl v w))) (400 * a) 400 0 : Nat))) ∧ σ = σ' ∧ I = I') σ I 0 0 2 [some (.ref v), some (.int (zI a)), some (.int (zI i))] [] := by
    intro d
    induction d with
    | zero =>
      intro i hi hj
      have hj2 : i = jRh (vAt (I (vCl v w))) (400 * a) 400 0 := hj
      refine sj_ild2 dX7_reach_2 ?_
      refine sj_sipush dX7_reach_3 (by decide) ?_
      refine sj_icmp_ge 28 dX7_reach_6 (by decide) (by omega) (by omega) (fun c_6 => ?_) (fun c_6 => ?_)
      rotate_left
      · (exfalso; omega)
      refine sj_sipush dX7_reach_28 (by decide) ?_
      exact sj_iret dX7_reach_31 rfl rfl (Nat.le_of_ble_eq_true rfl) (Nat.le_of_ble_eq_true rfl) ⟨by rw [← hj2, show i = 400 by omega]; rfl, rfl, rfl⟩
    | succ d ih =>
      intro i hi hj
      have hvi := (hr (400 * a + i) (by omega)).2
      have hj2 : (if vAt (I (vCl v w)) (400 * a + i) = -9 then i else jRh (vAt (I (vCl v w))) (400 * a) d (i + 1)) = jRh (vAt (I (vCl v w))) (400 * a) 400 0 := hj
      refine sj_ild2 dX7_reach_2 ?_
      refine sj_sipush dX7_reach_3 (by decide) ?_
      refine sj_icmp_ge 28 dX7_reach_6 (by decide) (by omega) (by omega) (fun c_6 => ?_) (fun c_6 => ?_)
      · (exfalso; omega)
      refine sj_ald0 dX7_reach_9 ?_
      refine sj_ild1 dX7_reach_10 ?_
      refine sj_ild2 dX7_reach_11 ?_
      refine sj_callV (cx7_at' hS hr ha (by omega)) kc_X7_101 (by assumption) rfl rfl rfl rfl (Nat.le_of_ble_eq_true rfl) dX7_reach_12 (fun r_12 σ_12 I_12 hp_12 => ?_)
      obtain ⟨rfl, rfl, rfl⟩ := hp_12
      refine sj_bipush dX7_reach_15 (by decide) ?_
      refine sj_icmp_ne 22 dX7_reach_17 (by decide) (by omega) (by omega) (fun c_17 => ?_) (fun c_17 => ?_)
      · refine sj_inc2 (by decide) rfl dX7_reach_22 ?_
        refine sj_goto 2 dX7_reach_25 (by decide) ?_
        exact ih (i + 1) (by omega) (by rw [← hj2, if_neg (by omega)])
      · refine sj_ild2 dX7_reach_20 ?_
        exact sj_iret dX7_reach_21 rfl rfl (Nat.le_of_ble_eq_true rfl) (Nat.le_of_ble_eq_true rfl) ⟨by rw [← hj2, if_pos (by omega)], rfl, rfl⟩
  refine sj_iconst dX7_reach_0 ?_
  refine sj_ist2 (by decide) rfl dX7_reach_1 ?_
  exact lp 400 0 (by omega) rfl
theorem cx7_countDifferent {v e w a : Nat} (hS : vSh σ v e w) (hr : vRg (I (vCl v w))) (ha : a < 8) : sj_Con l yX7_countDifferent mX7_countDifferent G σ I [.ref v, .int (zI a)] (fun r σ' I' => r = some (.int (zI (jPc (jDs (vAt (I (vCl v w))) (400 * a) (jRh (vAt (I (vCl v w))) (400 * a) 400 0)) : Nat))) ∧ σ = σ' ∧ I = I') := by
  obtain ⟨s0, s1⟩ := id hS
  have hle := jRh_le (vAt (I (vCl v w))) (400 * a) 400 0
  have hkn := jRh_known (vAt (I (vCl v w))) (400 * a) 400 0
  obtain ⟨n, hn⟩ : ∃ n, jRh (vAt (I (vCl v w))) (400 * a) 400 0 = n := ⟨_, rfl⟩
  rw [hn] at hle hkn
  have hv : ∀ j, j < n → 0 ≤ vAt (I (vCl v w)) (400 * a + j) ∧ vAt (I (vCl v w)) (400 * a + j) < 10 := fun j hj => by
    have h1 := hkn j (by omega) hj
    have h2 := (hr (400 * a + j) (by omega)).2
    omega
  refine sj_con_of (L0 := [some (.ref v), some (.int (zI a)), none, none, none]) (by decide) rfl rfl rfl (Nat.le_of_ble_eq_true rfl) rfl (fun Γ => ?_)
  have lp : ∀ (d i : Nat), i + d = n → sj_V l Γ mX7_countDifferent G (fun r σ' I' => r = some (.int (zI (jPc (jDs (vAt (I (vCl v w))) (400 * a) (jRh (vAt (I (vCl v w))) (400 * a) 400 0)) : Nat))) ∧ σ = σ' ∧ I = I') σ I 0 0 11 [some (.ref v), some (.int (zI a)), some (.int (zI n)), some (.int (zI (jDs (vAt (I (vCl v w))) (400 * a) i : Nat))), some (.int (zI i))] [] := by
    intro d
    induction d with
    | zero =>
      intro i hi
      have hi1 : i = n := by omega
      subst hi1
      refine sj_ild4 dX7_countDifferent_11 ?_
      refine sj_ild2 dX7_countDifferent_13 ?_
      refine sj_icmp_ge 35 dX7_countDifferent_14 (by decide) (by omega) (by omega) (fun c_14 => ?_) (fun c_14 => ?_)
      rotate_left
      · (exfalso; omega)
      refine sj_ild3 dX7_countDifferent_35 ?_
      refine sj_callS (cJ_bitCount (jDs_lt i hv)) kc_X7_107 rfl rfl (Nat.le_of_ble_eq_true rfl) dX7_countDifferent_36 (fun r_36 σ_36 I_36 hp_36 => ?_)
      obtain ⟨rfl, rfl, rfl⟩ := hp_36
      exact sj_iret dX7_countDifferent_39 rfl rfl (Nat.le_of_ble_eq_true rfl) (Nat.le_of_ble_eq_true rfl) ⟨by rw [hn], rfl, rfl⟩
    | succ d ih =>
      intro i hi
      have h1 := hv i (by omega)
      have hlt := jDs_lt (v := vAt (I (vCl v w))) (s := 400 * a) i (fun j hj => hv j (by omega))
      obtain ⟨q, hq⟩ := jNat (a := vAt (I (vCl v w)) (400 * a + i)) (by omega)
      have hst : jDs (vAt (I (vCl v w))) (400 * a) (i + 1) = jDs (vAt (I (vCl v w))) (400 * a) i ||| 2 ^ q := by
        show jDs (vAt (I (vCl v w))) (400 * a) i ||| 2 ^ (vAt (I (vCl v w)) (400 * a + i)).toNat = _
        rw [hq]; rfl
      refine sj_ild4 dX7_countDifferent_11 ?_
      refine sj_ild2 dX7_countDifferent_13 ?_
      refine sj_icmp_ge 35 dX7_countDifferent_14 (by decide) (by omega) (by omega) (fun c_14 => ?_) (fun c_14 => ?_)
      · (exfalso; omega)
      refine sj_ild3 dX7_countDifferent_17 ?_
      refine sj_iconst dX7_countDifferent_18 ?_
      refine sj_ald0 dX7_countDifferent_19 ?_
      refine sj_ild1 dX7_countDifferent_20 ?_
      refine sj_ild4 dX7_countDifferent_21 ?_
      refine sj_callV (cx7_at' hS hr ha (by omega)) kc_X7_101 (by assumption) rfl rfl rfl rfl (Nat.le_of_ble_eq_true rfl) dX7_countDifferent_23 (fun r_23 σ_23 I_23 hp_23 => ?_)
      obtain ⟨rfl, rfl, rfl⟩ := hp_23
      rw [hq]
      refine sj_ishl dX7_countDifferent_26 (zI_shl1 q (by omega)) ?_
      refine sj_ior dX7_countDifferent_27 (zI_or1 _ (by omega) q (by omega)) ?_
      refine sj_ist3 (by decide) rfl dX7_countDifferent_28 ?_
      refine sj_inc4 (by decide) rfl dX7_countDifferent_29 ?_
      refine sj_goto 11 dX7_countDifferent_32 (by decide) ?_
      have h := ih (i + 1) (by omega)
      rw [hst] at h
      exact h
  refine sj_ald0 dX7_countDifferent_0 ?_
  refine sj_ild1 dX7_countDifferent_1 ?_
  refine sj_callV (cx7_reach hS hr ha) kc_X7_104 (by assumption) rfl rfl rfl rfl (Nat.le_of_ble_eq_true rfl) dX7_countDifferent_2 (fun r_2 σ_2 I_2 hp_2 => ?_)
  obtain ⟨rfl, rfl, rfl⟩ := hp_2
  refine sj_top (u := .int (zI (n : Nat))) (by rw [hn]) ?_
  refine sj_ist2 (by decide) rfl dX7_countDifferent_5 ?_
  refine sj_iconst dX7_countDifferent_6 ?_
  refine sj_ist3 (by decide) rfl dX7_countDifferent_7 ?_
  refine sj_iconst dX7_countDifferent_8 ?_
  refine sj_ist4 (by decide) rfl dX7_countDifferent_9 ?_
  exact lp n 0 (by omega)
theorem cx7_sum {v e w a : Nat} (hS : vSh σ v e w) (hr : vRg (I (vCl v w))) (ha : a < 8) : sj_Con l yX7_sum mX7_sum G σ I [.ref v, .int (zI a)] (fun r σ' I' => r = some (.int (zI (jSm (vAt (I (vCl v w))) (400 * a) (jRh (vAt (I (vCl v w))) (400 * a) 400 0)))) ∧ σ = σ' ∧ I = I') := by
  obtain ⟨s0, s1⟩ := id hS
  have hle := jRh_le (vAt (I (vCl v w))) (400 * a) 400 0
  obtain ⟨n, hn⟩ : ∃ n, jRh (vAt (I (vCl v w))) (400 * a) 400 0 = n := ⟨_, rfl⟩
  rw [hn] at hle
  refine sj_con_of (L0 := [some (.ref v), some (.int (zI a)), none, none, none]) (by decide) rfl rfl rfl (Nat.le_of_ble_eq_true rfl) rfl (fun Γ => ?_)
  have lp : ∀ (d i : Nat), i + d = n → sj_V l Γ mX7_sum G (fun r σ' I' => r = some (.int (zI (jSm (vAt (I (vCl v w))) (400 * a) (jRh (vAt (I (vCl v w))) (400 * a) 400 0)))) ∧ σ = σ' ∧ I = I') σ I 0 0 11 [some (.ref v), some (.int (zI a)), some (.int (zI n)), some (.int (zI (jSm (vAt (I (vCl v w))) (400 * a) i))), some (.int (zI i))] [] := by
    intro d
    induction d with
    | zero =>
      intro i hi
      have hi1 : i = n := by omega
      subst hi1
      refine sj_ild4 dX7_sum_11 ?_
      refine sj_ild2 dX7_sum_13 ?_
      refine sj_icmp_ge 33 dX7_sum_14 (by decide) (by omega) (by omega) (fun c_14 => ?_) (fun c_14 => ?_)
      rotate_left
      · (exfalso; omega)
      refine sj_ild3 dX7_sum_33 ?_
      exact sj_iret dX7_sum_34 rfl rfl (Nat.le_of_ble_eq_true rfl) (Nat.le_of_ble_eq_true rfl) ⟨by rw [hn], rfl, rfl⟩
    | succ d ih =>
      intro i hi
      refine sj_ild4 dX7_sum_11 ?_
      refine sj_ild2 dX7_sum_13 ?_
      refine sj_icmp_ge 33 dX7_sum_14 (by decide) (by omega) (by omega) (fun c_14 => ?_) (fun c_14 => ?_)
      · (exfalso; omega)
      refine sj_ild3 dX7_sum_17 ?_
      refine sj_ald0 dX7_sum_18 ?_
      refine sj_ild1 dX7_sum_19 ?_
      refine sj_ild4 dX7_sum_20 ?_
      refine sj_callV (cx7_at' hS hr ha (by omega)) kc_X7_101 (by assumption) rfl rfl rfl rfl (Nat.le_of_ble_eq_true rfl) dX7_sum_22 (fun r_22 σ_22 I_22 hp_22 => ?_)
      obtain ⟨rfl, rfl, rfl⟩ := hp_22
      refine sj_iadd dX7_sum_25 ?_
      refine sj_ist3 (by decide) rfl dX7_sum_26 ?_
      refine sj_inc4 (by decide) rfl dX7_sum_27 ?_
      refine sj_goto 11 dX7_sum_30 (by decide) ?_
      exact ih (i + 1) (by omega)
  refine sj_ald0 dX7_sum_0 ?_
  refine sj_ild1 dX7_sum_1 ?_
  refine sj_callV (cx7_reach hS hr ha) kc_X7_104 (by assumption) rfl rfl rfl rfl (Nat.le_of_ble_eq_true rfl) dX7_sum_2 (fun r_2 σ_2 I_2 hp_2 => ?_)
  obtain ⟨rfl, rfl, rfl⟩ := hp_2
  refine sj_top (u := .int (zI (n : Nat))) (by rw [hn]) ?_
  refine sj_ist2 (by decide) rfl dX7_sum_5 ?_
  refine sj_iconst dX7_sum_6 ?_
  refine sj_ist3 (by decide) rfl dX7_sum_7 ?_
  refine sj_iconst dX7_sum_8 ?_
  refine sj_ist4 (by decide) rfl dX7_sum_9 ?_
  exact lp n 0 (by omega)
theorem cx7_lengthBefore {v e w a p : Nat} (hS : vSh σ v e w) (hr : vRg (I (vCl v w))) (ha : a < 8) (hp : 1 ≤ p ∧ p ≤ 100) : sj_Con l yX7_lengthBefore mX7_lengthBefore G σ I [.ref v, .int (zI a), .int (zI p)] (fun r σ' I' => r = some (.int (zI (jAh (vAt (I (vCl v w))) (400 * a) p (200 - p) : Nat))) ∧ σ = σ' ∧ I = I') := by
  obtain ⟨s0, s1⟩ := id hS
  refine sj_con_of (L0 := [some (.ref v), some (.int (zI a)), some (.int (zI p)), none]) (by decide) rfl rfl rfl (Nat.le_of_ble_eq_true rfl) rfl (fun Γ => ?_)
  have lp : ∀ (q : Nat) (x : Int), q ≤ 200 - p → x = (q : Int) - 1 → jAh (vAt (I (vCl v w))) (400 * a) p q = jAh (vAt (I (vCl v w))) (400 * a) p (200 - p) → sj_V l Γ mX7_lengthBefore G (fun r σ' I' => r = some (.int (zI (jAh (vAt (I (vCl v w))) (400 * a) p (200 - p) : Nat))) ∧ σ = σ' ∧ I = I') σ I 0 0 8 [some (.ref v), some (.int (zI a)), some (.int (zI p)), some (.int (zI x))] [] := by
    intro q
    induction q with
    | zero =>
      intro x hq hx hj
      have hj2 : 0 = jAh (vAt (I (vCl v w))) (400 * a) p (200 - p) := hj
      refine sj_ild3 dX7_lengthBefore_8 ?_
      refine sj_if_lt 39 dX7_lengthBefore_9 (by decide) (by omega) (fun c_9 => ?_) (fun c_9 => ?_)
      rotate_left
      · (exfalso; omega)
      refine sj_iconst dX7_lengthBefore_39 ?_
      exact sj_iret dX7_lengthBefore_40 rfl rfl (Nat.le_of_ble_eq_true rfl) (Nat.le_of_ble_eq_true rfl) ⟨by rw [← hj2]; rfl, rfl, rfl⟩
    | succ q ih =>
      intro x hq hx hj
      have hx2 : x = (q : Nat) := by omega
      subst hx2
      have h1 := (hr (400 * a + q) (by omega)).2
      have h2 := (hr (400 * a + (q + p)) (by omega)).2
      have hj2 : (if vAt (I (vCl v w)) (400 * a + q) = vAt (I (vCl v w)) (400 * a + (q + p)) then jAh (vAt (I (vCl v w))) (400 * a) p q else q + 1) = jAh (vAt (I (vCl v w))) (400 * a) p (200 - p) := hj
      refine sj_ild3 dX7_lengthBefore_8 ?_
      refine sj_if_lt 39 dX7_lengthBefore_9 (by decide) (by omega) (fun c_9 => ?_) (fun c_9 => ?_)
      · (exfalso; omega)
      refine sj_ald0 dX7_lengthBefore_12 ?_
      refine sj_ild1 dX7_lengthBefore_13 ?_
      refine sj_ild3 dX7_lengthBefore_14 ?_
      refine sj_callV (cx7_at' hS hr ha (by omega)) kc_X7_101 (by assumption) rfl rfl rfl rfl (Nat.le_of_ble_eq_true rfl) dX7_lengthBefore_15 (fun r_15 σ_15 I_15 hp_15 => ?_)
      obtain ⟨rfl, rfl, rfl⟩ := hp_15
      refine sj_ald0 dX7_lengthBefore_18 ?_
      refine sj_ild1 dX7_lengthBefore_19 ?_
      refine sj_ild3 dX7_lengthBefore_20 ?_
      refine sj_ild2 dX7_lengthBefore_21 ?_
      refine sj_iadd dX7_lengthBefore_22 ?_
      refine sj_callV (cx7_at' (i := q + p) hS hr ha (by omega)) kc_X7_101 (by assumption) rfl rfl rfl rfl (Nat.le_of_ble_eq_true rfl) dX7_lengthBefore_23 (fun r_23 σ_23 I_23 hp_23 => ?_)
      obtain ⟨rfl, rfl, rfl⟩ := hp_23
      refine sj_icmp_eq 33 dX7_lengthBefore_26 (by decide) (by omega) (by omega) (fun c_26 => ?_) (fun c_26 => ?_)
      · refine sj_inc3 (by decide) rfl dX7_lengthBefore_33 ?_
        refine sj_goto 8 dX7_lengthBefore_36 (by decide) ?_
        exact ih _ (by omega) (by omega) (by rw [← hj2, if_pos (by omega)])
      · refine sj_ild3 dX7_lengthBefore_29 ?_
        refine sj_iconst dX7_lengthBefore_30 ?_
        refine sj_iadd dX7_lengthBefore_31 ?_
        exact sj_iret dX7_lengthBefore_32 rfl rfl (Nat.le_of_ble_eq_true rfl) (Nat.le_of_ble_eq_true rfl) ⟨by rw [← hj2, if_neg (by omega)]; rfl, rfl, rfl⟩
  refine sj_sipush dX7_lengthBefore_0 (by decide) ?_
  refine sj_ild2 dX7_lengthBefore_3 ?_
  refine sj_isub dX7_lengthBefore_4 ?_
  refine sj_iconst dX7_lengthBefore_5 ?_
  refine sj_isub dX7_lengthBefore_6 ?_
  refine sj_ist3 (by decide) rfl dX7_lengthBefore_7 ?_
  exact lp (200 - p) _ (by omega) (by omega) rfl
theorem cx7_period {v e w a : Nat} (hS : vSh σ v e w) (hr : vRg (I (vCl v w))) (ha : a < 8) : sj_Con l yX7_period mX7_period G σ I [.ref v, .int (zI a)] (fun r σ' I' => r = some (.int (zI (if jRh (vAt (I (vCl v w))) (400 * a) 400 0 < 200 then -9 else jPd (vAt (I (vCl v w))) (400 * a) true 100 1))) ∧ σ = σ' ∧ I = I') := by
  obtain ⟨s0, s1⟩ := id hS
  have hle := jRh_le (vAt (I (vCl v w))) (400 * a) 400 0
  refine sj_con_of (L0 := [some (.ref v), some (.int (zI a)), none]) (by decide) rfl rfl rfl (Nat.le_of_ble_eq_true rfl) rfl (fun Γ => ?_)
  have lp : ∀ (d p : Nat), 1 ≤ p → p + d = 101 → ¬ jRh (vAt (I (vCl v w))) (400 * a) 400 0 < 200 → jPd (vAt (I (vCl v w))) (400 * a) true d p = jPd (vAt (I (vCl v w))) (400 * a) true 100 1 → sj_V l Γ mX7_period G (fun r σ' I' => r = some (.int (zI (if jRh (vAt (I (vCl v w))) (400 * a) 400 0 < 200 then -9 else jPd (vAt (I (vCl v w))) (400 * a) true 100 1))) ∧ σ = σ' ∧ I = I') σ I 0 0 16 [some (.ref v), some (.int (zI a)), some (.int (zI p))] [] := by
    intro d
    induction d with
    | zero =>
      intro p h1 hp hn hj
      have hj2 : (-9 : Int) = jPd (vAt (I (vCl v w))) (400 * a) true 100 1 := hj
      refine sj_iconst dX7_period_16 ?_
      refine sj_ild2 dX7_period_17 ?_
      refine sj_imul dX7_period_18 ?_
      refine sj_sipush dX7_period_19 (by decide) ?_
      refine sj_icmp_gt 49 dX7_period_22 (by decide) (by omega) (by omega) (fun c_22 => ?_) (fun c_22 => ?_)
      rotate_left
      · (exfalso; omega)
      refine sj_bipush dX7_period_49 (by decide) ?_
      exact sj_iret dX7_period_51 rfl rfl (Nat.le_of_ble_eq_true rfl) (Nat.le_of_ble_eq_true rfl) ⟨by rw [if_neg hn, ← hj2], rfl, rfl⟩
    | succ d ih =>
      intro p h1 hp hn hj
      have hal := jAh_le (vAt (I (vCl v w))) (400 * a) p (200 - p)
      have hj2 : (if jAq (vAt (I (vCl v w))) (400 * a) p ≠ -9 then (if true = true then (p : Int) else jAq (vAt (I (vCl v w))) (400 * a) p) else jPd (vAt (I (vCl v w))) (400 * a) true d (p + 1)) = jPd (vAt (I (vCl v w))) (400 * a) true 100 1 := hj
      have hq : (jAh (vAt (I (vCl v w))) (400 * a) p (200 - p) + 2 * p ≤ 200 → jAq (vAt (I (vCl v w))) (400 * a) p ≠ -9) ∧ (¬ jAh (vAt (I (vCl v w))) (400 * a) p (200 - p) + 2 * p ≤ 200 → jAq (vAt (I (vCl v w))) (400 * a) p = -9) := by
        unfold jAq
        exact ⟨fun q => by rw [if_pos q]; omega, fun q => by rw [if_neg q]⟩
      refine sj_iconst dX7_period_16 ?_
      refine sj_ild2 dX7_period_17 ?_
      refine sj_imul dX7_period_18 ?_
      refine sj_sipush dX7_period_19 (by decide) ?_
      refine sj_icmp_gt 49 dX7_period_22 (by decide) (by omega) (by omega) (fun c_22 => ?_) (fun c_22 => ?_)
      · (exfalso; omega)
      refine sj_ald0 dX7_period_25 ?_
      refine sj_ild1 dX7_period_26 ?_
      refine sj_ild2 dX7_period_27 ?_
      refine sj_callV (cx7_lengthBefore hS hr ha (by omega)) kc_X7_112 (by assumption) rfl rfl rfl rfl (Nat.le_of_ble_eq_true rfl) dX7_period_28 (fun r_28 σ_28 I_28 hp_28 => ?_)
      obtain ⟨rfl, rfl, rfl⟩ := hp_28
      refine sj_iconst dX7_period_31 ?_
      refine sj_ild2 dX7_period_32 ?_
      refine sj_imul dX7_period_33 ?_
      refine sj_iadd dX7_period_34 ?_
      refine sj_sipush dX7_period_35 (by decide) ?_
      refine sj_icmp_gt 43 dX7_period_38 (by decide) (by omega) (by omega) (fun c_38 => ?_) (fun c_38 => ?_)
      · refine sj_inc2 (by decide) rfl dX7_period_43 ?_
        refine sj_goto 16 dX7_period_46 (by decide) ?_
        exact ih (p + 1) (by omega) (by omega) hn (by rw [← hj2, if_neg (fun z => z (hq.2 (by omega)))])
      · refine sj_ild2 dX7_period_41 ?_
        exact sj_iret dX7_period_42 rfl rfl (Nat.le_of_ble_eq_true rfl) (Nat.le_of_ble_eq_true rfl) ⟨by rw [if_neg hn, ← hj2, if_pos (hq.1 (by omega)), if_pos rfl], rfl, rfl⟩
  refine sj_ald0 dX7_period_0 ?_
  refine sj_ild1 dX7_period_1 ?_
  refine sj_callV (cx7_reach hS hr ha) kc_X7_104 (by assumption) rfl rfl rfl rfl (Nat.le_of_ble_eq_true rfl) dX7_period_2 (fun r_2 σ_2 I_2 hp_2 => ?_)
  obtain ⟨rfl, rfl, rfl⟩ := hp_2
  refine sj_sipush dX7_period_5 (by decide) ?_
  refine sj_icmp_ge 14 dX7_period_8 (by decide) (by omega) (by omega) (fun c_8 => ?_) (fun c_8 => ?_)
  · refine sj_iconst dX7_period_14 ?_
    refine sj_ist2 (by decide) rfl dX7_period_15 ?_
    exact lp 100 1 (by omega) (by omega) (by omega) rfl
  · refine sj_bipush dX7_period_11 (by decide) ?_
    exact sj_iret dX7_period_13 rfl rfl (Nat.le_of_ble_eq_true rfl) (Nat.le_of_ble_eq_true rfl) ⟨by rw [if_pos (by omega)], rfl, rfl⟩
theorem cx7_lengthBeforePeriod {v e w a : Nat} (hS : vSh σ v e w) (hr : vRg (I (vCl v w))) (ha : a < 8) : sj_Con l yX7_lengthBeforePeriod mX7_lengthBeforePeriod G σ I [.ref v, .int (zI a)] (fun r σ' I' => r = some (.int (zI (if jRh (vAt (I (vCl v w))) (400 * a) 400 0 < 200 then -9 else jPd (vAt (I (vCl v w))) (400 * a) false 100 1))) ∧ σ = σ' ∧ I = I') := by
  obtain ⟨s0, s1⟩ := id hS
  have h2 := jPd_two (vAt (I (vCl v w))) (400 * a) 100 1
  refine sj_con_of (L0 := [some (.ref v), some (.int (zI a)), none]) (by decide) rfl rfl rfl (Nat.le_of_ble_eq_true rfl) rfl (fun Γ => ?_)
  by_cases hn : jRh (vAt (I (vCl v w))) (400 * a) 400 0 < 200
  · have hval : (if jRh (vAt (I (vCl v w))) (400 * a) 400 0 < 200 then (-9 : Int) else jPd (vAt (I (vCl v w))) (400 * a) true 100 1) = -9 := if_pos hn
    refine sj_ald0 dX7_lengthBeforePeriod_0 ?_
    refine sj_ild1 dX7_lengthBeforePeriod_1 ?_
    refine sj_callV (cx7_period hS hr ha) kc_X7_115 (by assumption) rfl rfl rfl rfl (Nat.le_of_ble_eq_true rfl) dX7_lengthBeforePeriod_2 (fun r_2 σ_2 I_2 hp_2 => ?_)
    obtain ⟨rfl, rfl, rfl⟩ := hp_2
    rw [hval]
    refine sj_ist2 (by decide) rfl dX7_lengthBeforePeriod_5 ?_
    refine sj_ild2 dX7_lengthBeforePeriod_6 ?_
    refine sj_bipush dX7_lengthBeforePeriod_7 (by decide) ?_
    refine sj_icmp_ne 17 dX7_lengthBeforePeriod_9 (by decide) (by omega) (by omega) (fun c_9 => ?_) (fun c_9 => ?_)
    · (exfalso; omega)
    refine sj_bipush dX7_lengthBeforePeriod_12 (by decide) ?_
    refine sj_goto 23 dX7_lengthBeforePeriod_14 (by decide) ?_
    exact sj_iret dX7_lengthBeforePeriod_23 rfl rfl (Nat.le_of_ble_eq_true rfl) (Nat.le_of_ble_eq_true rfl) ⟨by rw [if_pos hn], rfl, rfl⟩
  · rcases h2 with ⟨e1, e2⟩ | ⟨p, e1, e2, e3, e4⟩
    · have hval : (if jRh (vAt (I (vCl v w))) (400 * a) 400 0 < 200 then (-9 : Int) else jPd (vAt (I (vCl v w))) (400 * a) true 100 1) = -9 := by rw [if_neg hn, e1]
      refine sj_ald0 dX7_lengthBeforePeriod_0 ?_
      refine sj_ild1 dX7_lengthBeforePeriod_1 ?_
      refine sj_callV (cx7_period hS hr ha) kc_X7_115 (by assumption) rfl rfl rfl rfl (Nat.le_of_ble_eq_true rfl) dX7_lengthBeforePeriod_2 (fun r_2 σ_2 I_2 hp_2 => ?_)
      obtain ⟨rfl, rfl, rfl⟩ := hp_2
      rw [hval]
      refine sj_ist2 (by decide) rfl dX7_lengthBeforePeriod_5 ?_
      refine sj_ild2 dX7_lengthBeforePeriod_6 ?_
      refine sj_bipush dX7_lengthBeforePeriod_7 (by decide) ?_
      refine sj_icmp_ne 17 dX7_lengthBeforePeriod_9 (by decide) (by omega) (by omega) (fun c_9 => ?_) (fun c_9 => ?_)
      · (exfalso; omega)
      refine sj_bipush dX7_lengthBeforePeriod_12 (by decide) ?_
      refine sj_goto 23 dX7_lengthBeforePeriod_14 (by decide) ?_
      exact sj_iret dX7_lengthBeforePeriod_23 rfl rfl (Nat.le_of_ble_eq_true rfl) (Nat.le_of_ble_eq_true rfl) ⟨by rw [if_neg hn, e2], rfl, rfl⟩
    · have hval : (if jRh (vAt (I (vCl v w))) (400 * a) 400 0 < 200 then (-9 : Int) else jPd (vAt (I (vCl v w))) (400 * a) true 100 1) = (p : Nat) := by rw [if_neg hn, e3]
      refine sj_ald0 dX7_lengthBeforePeriod_0 ?_
      refine sj_ild1 dX7_lengthBeforePeriod_1 ?_
      refine sj_callV (cx7_period hS hr ha) kc_X7_115 (by assumption) rfl rfl rfl rfl (Nat.le_of_ble_eq_true rfl) dX7_lengthBeforePeriod_2 (fun r_2 σ_2 I_2 hp_2 => ?_)
      obtain ⟨rfl, rfl, rfl⟩ := hp_2
      rw [hval]
      refine sj_ist2 (by decide) rfl dX7_lengthBeforePeriod_5 ?_
      refine sj_ild2 dX7_lengthBeforePeriod_6 ?_
      refine sj_bipush dX7_lengthBeforePeriod_7 (by decide) ?_
      refine sj_icmp_ne 17 dX7_lengthBeforePeriod_9 (by decide) (by omega) (by omega) (fun c_9 => ?_) (fun c_9 => ?_)
      rotate_left
      · (exfalso; omega)
      refine sj_ald0 dX7_lengthBeforePeriod_17 ?_
      refine sj_ild1 dX7_lengthBeforePeriod_18 ?_
      refine sj_ild2 dX7_lengthBeforePeriod_19 ?_
      refine sj_callV (cx7_lengthBefore hS hr ha (by omega)) kc_X7_112 (by assumption) rfl rfl rfl rfl (Nat.le_of_ble_eq_true rfl) dX7_lengthBeforePeriod_20 (fun r_20 σ_20 I_20 hp_20 => ?_)
      obtain ⟨rfl, rfl, rfl⟩ := hp_20
      exact sj_iret dX7_lengthBeforePeriod_23 rfl rfl (Nat.le_of_ble_eq_true rfl) (Nat.le_of_ble_eq_true rfl) ⟨by rw [if_neg hn, e4], rfl, rfl⟩
theorem cx7_firstParting {v e w a b : Nat} (hS : vSh σ v e w) (hr : vRg (I (vCl v w))) (ha : a < 8) (hb : b < 8) : sj_Con l yX7_firstParting mX7_firstParting G σ I [.ref v, .int (zI a), .int (zI b)] (fun r σ' I' => r = some (.int (zI (jPr (vAt (I (vCl v w))) (400 * a) (400 * b) 400 0))) ∧ σ = σ' ∧ I = I') := by
  obtain ⟨s0, s1⟩ := id hS
  refine sj_con_of (L0 := [some (.ref v), some (.int (zI a)), some (.int (zI b)), none, none, none]) (by decide) rfl rfl rfl (Nat.le_of_ble_eq_true rfl) rfl (fun Γ => ?_)
  have lp : ∀ (d i : Nat), i + d = 400 → jPr (vAt (I (vCl v w))) (400 * a) (400 * b) d i = jPr (vAt (I (vCl v w))) (400 * a) (400 * b) 400 0 → sj_V l Γ mX7_firstParting G (fun r σ' I' => r = some (.int (zI (jPr (vAt (I (vCl v w))) (400 * a) (400 * b) 400 0))) ∧ σ = σ' ∧ I = I') σ I 0 0 2 [some (.ref v), some (.int (zI a)), some (.int (zI b)), some (.int (zI i)), none, none] [] := by
    intro d
    induction d with
    | zero =>
      intro i hi hj
      have hj2 : (-9 : Int) = jPr (vAt (I (vCl v w))) (400 * a) (400 * b) 400 0 := hj
      refine sj_ild3 dX7_firstParting_2 ?_
      refine sj_sipush dX7_firstParting_3 (by decide) ?_
      refine sj_icmp_ge 54 dX7_firstParting_6 (by decide) (by omega) (by omega) (fun c_6 => ?_) (fun c_6 => ?_)
      rotate_left
      · (exfalso; omega)
      refine sj_bipush dX7_firstParting_54 (by decide) ?_
      exact sj_iret dX7_firstParting_56 rfl rfl (Nat.le_of_ble_eq_true rfl) (Nat.le_of_ble_eq_true rfl) ⟨by rw [← hj2], rfl, rfl⟩
    | succ d ih =>
      intro i hi hj
      have h1 := (hr (400 * a + i) (by omega)).2
      have h2 := (hr (400 * b + i) (by omega)).2
      have hj2 : (if vAt (I (vCl v w)) (400 * a + i) ≠ -9 ∧ vAt (I (vCl v w)) (400 * b + i) ≠ -9 ∧ vAt (I (vCl v w)) (400 * a + i) ≠ vAt (I (vCl v w)) (400 * b + i) then (i : Int) else jPr (vAt (I (vCl v w))) (400 * a) (400 * b) d (i + 1)) = jPr (vAt (I (vCl v w))) (400 * a) (400 * b) 400 0 := hj
      refine sj_ild3 dX7_firstParting_2 ?_
      refine sj_sipush dX7_firstParting_3 (by decide) ?_
      refine sj_icmp_ge 54 dX7_firstParting_6 (by decide) (by omega) (by omega) (fun c_6 => ?_) (fun c_6 => ?_)
      · (exfalso; omega)
      refine sj_ald0 dX7_firstParting_9 ?_
      refine sj_ild1 dX7_firstParting_10 ?_
      refine sj_ild3 dX7_firstParting_11 ?_
      refine sj_callV (cx7_at' hS hr ha (by omega)) kc_X7_101 (by assumption) rfl rfl rfl rfl (Nat.le_of_ble_eq_true rfl) dX7_firstParting_12 (fun r_12 σ_12 I_12 hp_12 => ?_)
      obtain ⟨rfl, rfl, rfl⟩ := hp_12
      refine sj_ist4 (by decide) rfl dX7_firstParting_15 ?_
      refine sj_ald0 dX7_firstParting_17 ?_
      refine sj_ild2 dX7_firstParting_18 ?_
      refine sj_ild3 dX7_firstParting_19 ?_
      refine sj_callV (cx7_at' hS hr hb (by omega)) kc_X7_101 (by assumption) rfl rfl rfl rfl (Nat.le_of_ble_eq_true rfl) dX7_firstParting_20 (fun r_20 σ_20 I_20 hp_20 => ?_)
      obtain ⟨rfl, rfl, rfl⟩ := hp_20
      refine sj_ist5 (by decide) rfl dX7_firstParting_23 ?_
      refine sj_ild4 dX7_firstParting_25 ?_
      refine sj_bipush dX7_firstParting_27 (by decide) ?_
      refine sj_icmp_eq 48 dX7_firstParting_29 (by decide) (by omega) (by omega) (fun c_29 => ?_) (fun c_29 => ?_)
      · refine sj_inc3 (by decide) rfl dX7_firstParting_48 ?_
        refine sj_goto 2 dX7_firstParting_51 (by decide) ?_
        exact sj_fg5 (sj_fg4 (ih (i + 1) (by omega) (by rw [← hj2, if_neg (by omega)])))
      · refine sj_ild5 dX7_firstParting_32 ?_
        refine sj_bipush dX7_firstParting_34 (by decide) ?_
        refine sj_icmp_eq 48 dX7_firstParting_36 (by decide) (by omega) (by omega) (fun c_36 => ?_) (fun c_36 => ?_)
        · refine sj_inc3 (by decide) rfl dX7_firstParting_48 ?_
          refine sj_goto 2 dX7_firstParting_51 (by decide) ?_
          exact sj_fg5 (sj_fg4 (ih (i + 1) (by omega) (by rw [← hj2, if_neg (by omega)])))
        · refine sj_ild4 dX7_firstParting_39 ?_
          refine sj_ild5 dX7_firstParting_41 ?_
          refine sj_icmp_eq 48 dX7_firstParting_43 (by decide) (by omega) (by omega) (fun c_43 => ?_) (fun c_43 => ?_)
          · refine sj_inc3 (by decide) rfl dX7_firstParting_48 ?_
            refine sj_goto 2 dX7_firstParting_51 (by decide) ?_
            exact sj_fg5 (sj_fg4 (ih (i + 1) (by omega) (by rw [← hj2, if_neg (by omega)])))
          · refine sj_ild3 dX7_firstParting_46 ?_
            exact sj_iret dX7_firstParting_47 rfl rfl (Nat.le_of_ble_eq_true rfl) (Nat.le_of_ble_eq_true rfl) ⟨by rw [← hj2, if_pos ⟨by omega, by omega, by omega⟩], rfl, rfl⟩
  refine sj_iconst dX7_firstParting_0 ?_
  refine sj_ist3 (by decide) rfl dX7_firstParting_1 ?_
  exact lp 400 0 (by omega) rfl
theorem cx7_alikeSet {v e w a : Nat} (hS : vSh σ v e w) (hr : vRg (I (vCl v w))) (ha : a < 8) : sj_Con l yX7_alikeSet mX7_alikeSet G σ I [.ref v, .int (zI a)] (fun r σ' I' => r = some (.int (zI (jAl (vAt (I (vCl v w))) a 8 : Nat))) ∧ σ = σ' ∧ I = I') := by
  obtain ⟨s0, s1⟩ := id hS
  refine sj_con_of (L0 := [some (.ref v), some (.int (zI a)), none, none, none]) (by decide) rfl rfl rfl (Nat.le_of_ble_eq_true rfl) rfl (fun Γ => ?_)
  have hle := jRh_le (vAt (I (vCl v w))) (400 * a) 400 0
  have lp : ∀ (d b : Nat), b + d = 8 → sj_V l Γ mX7_alikeSet G (fun r σ' I' => r = some (.int (zI (jAl (vAt (I (vCl v w))) a 8 : Nat))) ∧ σ = σ' ∧ I = I') σ I 0 0 11 [some (.ref v), some (.int (zI a)), some (.int (zI (jRh (vAt (I (vCl v w))) (400 * a) 400 0 : Nat))), some (.int (zI (jAl (vAt (I (vCl v w))) a b : Nat))), some (.int (zI b))] [] := by
    intro d
    induction d with
    | zero =>
      intro b hb
      have hb1 : b = 8 := by omega
      subst hb1
      refine sj_ild4 dX7_alikeSet_11 ?_
      refine sj_bipush dX7_alikeSet_13 (by decide) ?_
      refine sj_icmp_ge 59 dX7_alikeSet_15 (by decide) (by omega) (by omega) (fun c_15 => ?_) (fun c_15 => ?_)
      rotate_left
      · (exfalso; omega)
      refine sj_ild3 dX7_alikeSet_59 ?_
      exact sj_iret dX7_alikeSet_60 rfl rfl (Nat.le_of_ble_eq_true rfl) (Nat.le_of_ble_eq_true rfl) ⟨rfl, rfl, rfl⟩
    | succ d ih =>
      intro b hb
      have hlb := jRh_le (vAt (I (vCl v w))) (400 * b) 400 0
      have hpr := jPr_rng (vAt (I (vCl v w))) (400 * a) (400 * b) 400 0
      have hlt := jAl_lt (vAt (I (vCl v w))) a b (by omega)
      have hst : jAl (vAt (I (vCl v w))) a (b + 1) = jAl (vAt (I (vCl v w))) a b ||| (if b ≠ a ∧ jRh (vAt (I (vCl v w))) (400 * b) 400 0 = jRh (vAt (I (vCl v w))) (400 * a) 400 0 ∧ jPr (vAt (I (vCl v w))) (400 * a) (400 * b) 400 0 = -9 then 2 ^ b else 0) := rfl
      have no : ¬ (b ≠ a ∧ jRh (vAt (I (vCl v w))) (400 * b) 400 0 = jRh (vAt (I (vCl v w))) (400 * a) 400 0 ∧ jPr (vAt (I (vCl v w))) (400 * a) (400 * b) 400 0 = -9) → jAl (vAt (I (vCl v w))) a (b + 1) = jAl (vAt (I (vCl v w))) a b := fun z => by rw [hst, if_neg z, Nat.or_zero]
      have yes : (b ≠ a ∧ jRh (vAt (I (vCl v w))) (400 * b) 400 0 = jRh (vAt (I (vCl v w))) (400 * a) 400 0 ∧ jPr (vAt (I (vCl v w))) (400 * a) (400 * b) 400 0 = -9) → jAl (vAt (I (vCl v w))) a (b + 1) = jAl (vAt (I (vCl v w))) a b ||| 2 ^ b := fun z => by rw [hst, if_pos z]
      have hih := ih (b + 1) (by omega)
      refine sj_ild4 dX7_alikeSet_11 ?_
      refine sj_bipush dX7_alikeSet_13 (by decide) ?_
      refine sj_icmp_ge 59 dX7_alikeSet_15 (by decide) (by omega) (by omega) (fun c_15 => ?_) (fun c_15 => ?_)
      · (exfalso; omega)
      refine sj_ild4 dX7_alikeSet_18 ?_
      refine sj_ild1 dX7_alikeSet_20 ?_
      refine sj_icmp_eq 53 dX7_alikeSet_21 (by decide) (by omega) (by omega) (fun c_21 => ?_) (fun c_21 => ?_)
      · refine sj_inc4 (by decide) rfl dX7_alikeSet_53 ?_
        refine sj_goto 11 dX7_alikeSet_56 (by decide) ?_
        first
         | (rw [no (by omega)] at hih; exact hih)
         | (rw [yes (by omega)] at hih; exact hih)
      · refine sj_ald0 dX7_alikeSet_24 ?_
        refine sj_ild4 dX7_alikeSet_25 ?_
        refine sj_callV (cx7_reach hS hr (by omega)) kc_X7_104 (by assumption) rfl rfl rfl rfl (Nat.le_of_ble_eq_true rfl) dX7_alikeSet_27 (fun r_27 σ_27 I_27 hp_27 => ?_)
        obtain ⟨rfl, rfl, rfl⟩ := hp_27
        refine sj_ild2 dX7_alikeSet_30 ?_
        refine sj_icmp_ne 53 dX7_alikeSet_31 (by decide) (by omega) (by omega) (fun c_31 => ?_) (fun c_31 => ?_)
        · refine sj_inc4 (by decide) rfl dX7_alikeSet_53 ?_
          refine sj_goto 11 dX7_alikeSet_56 (by decide) ?_
          first
           | (rw [no (by omega)] at hih; exact hih)
           | (rw [yes (by omega)] at hih; exact hih)
        · refine sj_ald0 dX7_alikeSet_34 ?_
          refine sj_ild1 dX7_alikeSet_35 ?_
          refine sj_ild4 dX7_alikeSet_36 ?_
          refine sj_callV (cx7_firstParting hS hr ha (by omega)) kc_X7_118 (by assumption) rfl rfl rfl rfl (Nat.le_of_ble_eq_true rfl) dX7_alikeSet_38 (fun r_38 σ_38 I_38 hp_38 => ?_)
          obtain ⟨rfl, rfl, rfl⟩ := hp_38
          refine sj_bipush dX7_alikeSet_41 (by decide) ?_
          refine sj_icmp_ne 53 dX7_alikeSet_43 (by decide) (by omega) (by omega) (fun c_43 => ?_) (fun c_43 => ?_)
          · refine sj_inc4 (by decide) rfl dX7_alikeSet_53 ?_
            refine sj_goto 11 dX7_alikeSet_56 (by decide) ?_
            first
             | (rw [no (by omega)] at hih; exact hih)
             | (rw [yes (by omega)] at hih; exact hih)
          · refine sj_ild3 dX7_alikeSet_46 ?_
            refine sj_iconst dX7_alikeSet_47 ?_
            refine sj_ild4 dX7_alikeSet_48 ?_
            refine sj_ishl dX7_alikeSet_50 (zI_shl1 b (by omega)) ?_
            refine sj_ior dX7_alikeSet_51 (zI_or1 _ (by omega) b (by omega)) ?_
            refine sj_ist3 (by decide) rfl dX7_alikeSet_52 ?_
            refine sj_inc4 (by decide) rfl dX7_alikeSet_53 ?_
            refine sj_goto 11 dX7_alikeSet_56 (by decide) ?_
            first
             | (rw [no (by omega)] at hih; exact hih)
             | (rw [yes (by omega)] at hih; exact hih)
  refine sj_ald0 dX7_alikeSet_0 ?_
  refine sj_ild1 dX7_alikeSet_1 ?_
  refine sj_callV (cx7_reach hS hr ha) kc_X7_104 (by assumption) rfl rfl rfl rfl (Nat.le_of_ble_eq_true rfl) dX7_alikeSet_2 (fun r_2 σ_2 I_2 hp_2 => ?_)
  obtain ⟨rfl, rfl, rfl⟩ := hp_2
  refine sj_ist2 (by decide) rfl dX7_alikeSet_5 ?_
  refine sj_iconst dX7_alikeSet_6 ?_
  refine sj_ist3 (by decide) rfl dX7_alikeSet_7 ?_
  refine sj_iconst dX7_alikeSet_8 ?_
  refine sj_ist4 (by decide) rfl dX7_alikeSet_9 ?_
  exact lp 8 0 (by omega)
theorem cx7_firstDifference {v e w v2 e2 w2 a : Nat} (hS : vSh σ v e w) (hS2 : vSh σ v2 e2 w2) (hr : vRg (I (vCl v w))) (hr2 : vRg (I (vCl v2 w2))) (ha : a < 8) : sj_Con l yX7_firstDifference mX7_firstDifference G σ I [.ref v, .ref v2, .int (zI a)] (fun r σ' I' => r = some (.int (zI (jDf (vAt (I (vCl v w))) (vAt (I (vCl v2 w2))) (400 * a) 400 0))) ∧ σ = σ' ∧ I = I') := by
  obtain ⟨s0, s1⟩ := id hS
  obtain ⟨s2, s3⟩ := id hS2
  refine sj_con_of (L0 := [some (.ref v), some (.ref v2), some (.int (zI a)), none]) (by decide) rfl rfl rfl (Nat.le_of_ble_eq_true rfl) rfl (fun Γ => ?_)
  have lp : ∀ (d i : Nat), i + d = 400 → jDf (vAt (I (vCl v w))) (vAt (I (vCl v2 w2))) (400 * a) d i = jDf (vAt (I (vCl v w))) (vAt (I (vCl v2 w2))) (400 * a) 400 0 → sj_V l Γ mX7_firstDifference G (fun r σ' I' => r = some (.int (zI (jDf (vAt (I (vCl v w))) (vAt (I (vCl v2 w2))) (400 * a) 400 0))) ∧ σ = σ' ∧ I = I') σ I 0 0 2 [some (.ref v), some (.ref v2), some (.int (zI a)), some (.int (zI i))] [] := by
    intro d
    induction d with
    | zero =>
      intro i hi hj
      have hj2 : (-9 : Int) = jDf (vAt (I (vCl v w))) (vAt (I (vCl v2 w2))) (400 * a) 400 0 := hj
      refine sj_ild3 dX7_firstDifference_2 ?_
      refine sj_sipush dX7_firstDifference_3 (by decide) ?_
      refine sj_icmp_ge 32 dX7_firstDifference_6 (by decide) (by omega) (by omega) (fun c_6 => ?_) (fun c_6 => ?_)
      rotate_left
      · (exfalso; omega)
      refine sj_bipush dX7_firstDifference_32 (by decide) ?_
      exact sj_iret dX7_firstDifference_34 rfl rfl (Nat.le_of_ble_eq_true rfl) (Nat.le_of_ble_eq_true rfl) ⟨by rw [← hj2], rfl, rfl⟩
    | succ d ih =>
      intro i hi hj
      have h1 := (hr (400 * a + i) (by omega)).2
      have h2 := (hr2 (400 * a + i) (by omega)).2
      have hj2 : (if vAt (I (vCl v w)) (400 * a + i) = vAt (I (vCl v2 w2)) (400 * a + i) then jDf (vAt (I (vCl v w))) (vAt (I (vCl v2 w2))) (400 * a) d (i + 1) else (i : Int)) = jDf (vAt (I (vCl v w))) (vAt (I (vCl v2 w2))) (400 * a) 400 0 := hj
      refine sj_ild3 dX7_firstDifference_2 ?_
      refine sj_sipush dX7_firstDifference_3 (by decide) ?_
      refine sj_icmp_ge 32 dX7_firstDifference_6 (by decide) (by omega) (by omega) (fun c_6 => ?_) (fun c_6 => ?_)
      · (exfalso; omega)
      refine sj_ald0 dX7_firstDifference_9 ?_
      refine sj_ild2 dX7_firstDifference_10 ?_
      refine sj_ild3 dX7_firstDifference_11 ?_
      refine sj_callV (cx7_at' hS hr ha (by omega)) kc_X7_101 (by assumption) rfl rfl rfl rfl (Nat.le_of_ble_eq_true rfl) dX7_firstDifference_12 (fun r_12 σ_12 I_12 hp_12 => ?_)
      obtain ⟨rfl, rfl, rfl⟩ := hp_12
      refine sj_ald1 dX7_firstDifference_15 ?_
      refine sj_ild2 dX7_firstDifference_16 ?_
      refine sj_ild3 dX7_firstDifference_17 ?_
      refine sj_callV (cx7_at' hS2 hr2 ha (by omega)) kc_X7_101 (by assumption) rfl rfl rfl rfl (Nat.le_of_ble_eq_true rfl) dX7_firstDifference_18 (fun r_18 σ_18 I_18 hp_18 => ?_)
      obtain ⟨rfl, rfl, rfl⟩ := hp_18
      refine sj_icmp_eq 26 dX7_firstDifference_21 (by decide) (by omega) (by omega) (fun c_21 => ?_) (fun c_21 => ?_)
      · refine sj_inc3 (by decide) rfl dX7_firstDifference_26 ?_
        refine sj_goto 2 dX7_firstDifference_29 (by decide) ?_
        exact ih (i + 1) (by omega) (by rw [← hj2, if_pos (by omega)])
      · refine sj_ild3 dX7_firstDifference_24 ?_
        exact sj_iret dX7_firstDifference_25 rfl rfl (Nat.le_of_ble_eq_true rfl) (Nat.le_of_ble_eq_true rfl) ⟨by rw [← hj2, if_neg (by omega)], rfl, rfl⟩
  refine sj_iconst dX7_firstDifference_0 ?_
  refine sj_ist3 (by decide) rfl dX7_firstDifference_1 ?_
  exact lp 400 0 (by omega) rfl
end VALUES4
