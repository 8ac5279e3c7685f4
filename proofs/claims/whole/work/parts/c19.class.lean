/-! finding -/
def vN (M : Int) (E : Nat → Option (List Int)) (v w : Nat) (I J : sjI) : Prop := (∀ q, q ≠ w + 1 → q ≠ w + 2 → q ≠ w + 3 → q ≠ vCl v w → q ≠ v → J q = I q) ∧ cO M E (J (vCl v w)) ∧ (∀ q, q < 3200 → I (vCl v w) q ≠ 0 → J (vCl v w) q = I (vCl v w) q) ∧ (J v 3 = 1 ∨ (J v 3 = I v 3 ∧ J (vCl v w) = I (vCl v w)))
def vCx (σ : sjS) (I : sjI) (v e w : Nat) (M : Int) (τ : Nat → Option Nat) (E : Nat → Option (List Int)) : Prop := vSh σ v e w ∧ wSh σ w ∧ eqn σ I e M τ ∧ te σ I τ E ∧ (2 ≤ M ∧ M ≤ 10) ∧ cO M E (I (vCl v w))
theorem vN.rf {M : Int} {E : Nat → Option (List Int)} {v w : Nat} {I : sjI} (h : cO M E (I (vCl v w))) : vN M E v w I I := ⟨fun _ _ _ _ _ _ => rfl, h, fun _ _ _ => rfl, Or.inr ⟨rfl, rfl⟩⟩
theorem vN.tr {M : Int} {E : Nat → Option (List Int)} {v w : Nat} {I J K : sjI} (h : vN M E v w I J) (k : vN M E v w J K) : vN M E v w I K := by
  obtain ⟨h1, h2, h3, h4⟩ := h
  obtain ⟨k1, k2, k3, k4⟩ := k
  refine ⟨fun q a b c d e => by rw [k1 q a b c d e]; exact h1 q a b c d e, k2, fun q hq h0 => ?_, ?_⟩
  · have e := h3 q hq h0
    rw [k3 q hq (by rw [e]; exact h0), e]
  · rcases k4 with k4 | ⟨k4, k5⟩
    · exact Or.inl k4
    · rcases h4 with h4 | ⟨h4, h5⟩
      · exact Or.inl (by rw [k4]; exact h4)
      · exact Or.inr ⟨by rw [k4]; exact h4, by rw [k5]; exact h5⟩
theorem vCx.next {σ : sjS} {I J : sjI} {v e w : Nat} {M : Int} {τ : Nat → Option Nat} {E : Nat → Option (List Int)} (h : vCx σ I v e w M τ E) (hn : vN M E v w I J) : vCx σ J v e w M τ E := by
  obtain ⟨hS, hW, he, ht, hM, hC⟩ := h
  obtain ⟨s0, s1⟩ := id hS
  obtain ⟨w0, w1, w2, w3, w4⟩ := id hW
  have n1 := ne_kind he.1 w1 (by decide)
  have n2 := ne_kind he.1 w2 (by decide)
  have n3 := ne_kind he.1 w3 (by decide)
  have n4 := ne_kind he.1 s1 (by decide)
  have n5 := ne_kind he.1 s0 (by decide)
  refine ⟨hS, hW, ⟨he.1, he.2.1, by rw [hn.1 e n1 n2 n3 n4 n5]; exact he.2.2⟩, ht.keep (fun t T htm => htm.keep (fun q q1 q2 => ?_)), hM, hn.2.1⟩
  have o1 := htm.offW hW
  have o2 := htm.offV hS hW
  exact ⟨rfl, hn.1 q (by omega) (by omega) (by omega) (by omega) (by omega)⟩
theorem jAd_app : ∀ (l Q : List Nat) (x : Nat), jAd Q (l ++ [x]) = if x ∈ jAd Q l then jAd Q l else jAd Q l ++ [x]
  | [], Q, x => rfl
  | q :: l, Q, x => jAd_app l _ x
theorem jQi.ad {M : Int} {E : Nat → Option (List Int)} {k s : Nat} : ∀ (l Q : List Nat), jQi M E k s Q → (∀ x ∈ l, x < 3200 ∧ jKs M E s x) → jQi M E k s (jAd Q l)
  | [], Q, h, _ => h
  | x :: l, Q, h, hl => by
    refine jQi.ad l _ ?_ (fun y hy => hl y (List.mem_cons_of_mem _ hy))
    by_cases e : x ∈ Q
    · rw [if_pos e]; exact h
    · rw [if_neg e]; exact h.add (hl x List.mem_cons_self).1 (hl x List.mem_cons_self).2 e
theorem jCl_lt : ∀ (R : List (Int × Int)) (nd : List Nat), jCl R = some nd → (∀ p ∈ R, (65 ≤ p.1 ∧ p.1 ≤ 72) ∧ -1 ≤ p.2) → ∀ q ∈ nd, q < 3200
  | [], nd, h, _, q, hq => by cases h; cases hq
  | p :: R, nd, h, hp, q, hq => by
    have h0 := hp p List.mem_cons_self
    have hR := fun x hx => hp x (List.mem_cons_of_mem _ hx)
    simp only [jCl] at h
    by_cases e : p.2 = -1
    · rw [if_pos e] at h; exact jCl_lt R nd h hR q hq
    · rw [if_neg e] at h
      by_cases e2 : p.2 < 400
      · rw [if_pos e2] at h
        cases e3 : jCl R with
        | none => rw [e3] at h; cases h
        | some l =>
          rw [e3] at h
          cases h
          rcases List.mem_cons.mp hq with rfl | hq
          · omega
          · exact jCl_lt R l e3 hR q hq
      · rw [if_neg e2] at h; cases h
section VALUES5
variable {l : Launch} {G : sjG} {σ : sjS} {I : sjI}
theorem cx7_solve' {v e w k : Nat} {M : Int} {τ : Nat → Option Nat} {E : Nat → Option (List Int)} (h : vCx σ I v e w M τ E) (hk : k < 3200) (hk0 : I (vCl v w) k = 0) : sj_Con l yX7_solve mX7_solve G σ I [.ref v, .int (zI k)] (fun r σ' I' => r = none ∧ σ = σ' ∧ vN M E v w I I' ∧ I' (vCl v w) k ≠ 0) := by
  obtain ⟨hS, hW, he, ht, hM, hC⟩ := h
  refine (cx7_solve hS hW he ht hM hk hC hk0).weak (fun r σ' I' h => ?_)
  obtain ⟨h1, h2, h3, h4, h5, h6, h7⟩ := h
  exact ⟨h1, h2, ⟨h3, h5, h6, Or.inl h4⟩, h7⟩
theorem cx7_find {v e w a i : Nat} {M : Int} {τ : Nat → Option Nat} {E : Nat → Option (List Int)} (h : vCx σ I v e w M τ E) (ha : a < 8) (hi : i < 400) : sj_Con l yX7_find mX7_find G σ I [.ref v, .int (zI a), .int (zI i)] (fun r σ' I' => r = none ∧ σ = σ' ∧ vN M E v w I I' ∧ I' (vCl v w) (400 * a + i) ≠ 0) := by
  obtain ⟨s0, s1⟩ := h.1
  have hr := h.2.2.2.2.2.p.rng h.2.2.2.2.1 (k := 400 * a + i) (by omega)
  have hpl : ((a : Int) * 400 + i) = ((400 * a + i : Nat) : Int) := by omega
  refine sj_con_of (L0 := [some (.ref v), some (.int (zI a)), some (.int (zI i)), none]) (by decide) rfl rfl rfl (Nat.le_of_ble_eq_true rfl) rfl (fun Γ => ?_)
  refine sj_ild1 dX7_find_0 ?_
  refine sj_sipush dX7_find_1 (by decide) ?_
  refine sj_imul dX7_find_4 ?_
  refine sj_ild2 dX7_find_5 ?_
  refine sj_iadd dX7_find_6 ?_
  rw [hpl]
  refine sj_ist3 (by decide) rfl dX7_find_7 ?_
  refine sj_ald0 dX7_find_8 ?_
  refine sj_getR fl_X7_9 (by assumption) rfl (vR_2 _ _ _) dX7_find_9 ?_
  refine sj_ild3 dX7_find_12 ?_
  refine sj_ialdJ (400 * a + i) (by assumption) (by omega) (by omega) (by omega) dX7_find_13 ?_
  refine sj_if_ne 22 dX7_find_14 (by decide) (by omega) (fun c_14 => ?_) (fun c_14 => ?_)
  · exact sj_vret dX7_find_22 rfl (Nat.le_of_ble_eq_true rfl) (Nat.le_of_ble_eq_true rfl) (by first
      | exact ⟨rfl, rfl, x1, x2⟩
      | exact ⟨rfl, rfl, vN.rf h.2.2.2.2.2, by omega⟩)
  · refine sj_ald0 dX7_find_17 ?_
    refine sj_ild3 dX7_find_18 ?_
    refine sj_callV (cx7_solve' h (by omega) (by omega)) kc_X7_33 (by assumption) rfl rfl rfl rfl (Nat.le_of_ble_eq_true rfl) dX7_find_19 (fun r_19 σ_19 I_19 hp_19 => ?_)
    obtain ⟨rfl, rfl, x1, x2⟩ := hp_19
    exact sj_vret dX7_find_22 rfl (Nat.le_of_ble_eq_true rfl) (Nat.le_of_ble_eq_true rfl) (by first
      | exact ⟨rfl, rfl, x1, x2⟩
      | exact ⟨rfl, rfl, vN.rf h.2.2.2.2.2, by omega⟩)
theorem cx7_findAll {v e w a : Nat} {M : Int} {τ : Nat → Option Nat} {E : Nat → Option (List Int)} (h : vCx σ I v e w M τ E) (ha : a < 8) : sj_Con l yX7_findAll mX7_findAll G σ I [.ref v, .int (zI a)] (fun r σ' I' => r = none ∧ σ = σ' ∧ vN M E v w I I' ∧ ∀ i, i < 400 → I' (vCl v w) (400 * a + i) ≠ 0) := by
  obtain ⟨s0, s1⟩ := h.1
  refine sj_con_of (L0 := [some (.ref v), some (.int (zI a)), none]) (by decide) rfl rfl rfl (Nat.le_of_ble_eq_true rfl) rfl (fun Γ => ?_)
  have lp : ∀ (d i : Nat) (x : Int) (J : sjI), i + d = 400 → x = ((400 * a + i : Nat) : Int) → vN M E v w I J → (∀ j, j < i → J (vCl v w) (400 * a + j) ≠ 0) → sj_V l Γ mX7_findAll G (fun r σ' I' => r = none ∧ σ = σ' ∧ vN M E v w I I' ∧ ∀ i, i < 400 → I' (vCl v w) (400 * a + i) ≠ 0) σ J 0 0 6 [some (.ref v), some (.int (zI a)), some (.int (zI x))] [] := by
    intro d
    induction d with
    | zero =>
      intro i x J hi hx hJ hf
      subst hx
      refine sj_ild2 dX7_findAll_6 ?_
      refine sj_ild1 dX7_findAll_7 ?_
      refine sj_iconst dX7_findAll_8 ?_
      refine sj_iadd dX7_findAll_9 ?_
      refine sj_sipush dX7_findAll_10 (by decide) ?_
      refine sj_imul dX7_findAll_13 ?_
      refine sj_icmp_ge 37 dX7_findAll_14 (by decide) (by omega) (by omega) (fun c_14 => ?_) (fun c_14 => ?_)
      rotate_left
      · (exfalso; omega)
      exact sj_vret dX7_findAll_37 rfl (Nat.le_of_ble_eq_true rfl) (Nat.le_of_ble_eq_true rfl) ⟨rfl, rfl, hJ, fun j hj => hf j (by omega)⟩
    | succ d ih =>
      intro i x J hi hx hJ hf
      subst hx
      have hc := h.next hJ
      have hr := hc.2.2.2.2.2.p.rng hc.2.2.2.2.1 (k := 400 * a + i) (by omega)
      refine sj_ild2 dX7_findAll_6 ?_
      refine sj_ild1 dX7_findAll_7 ?_
      refine sj_iconst dX7_findAll_8 ?_
      refine sj_iadd dX7_findAll_9 ?_
      refine sj_sipush dX7_findAll_10 (by decide) ?_
      refine sj_imul dX7_findAll_13 ?_
      refine sj_icmp_ge 37 dX7_findAll_14 (by decide) (by omega) (by omega) (fun c_14 => ?_) (fun c_14 => ?_)
      · (exfalso; omega)
      refine sj_ald0 dX7_findAll_17 ?_
      refine sj_getR fl_X7_9 (by assumption) rfl (vR_2 _ _ _) dX7_findAll_18 ?_
      refine sj_ild2 dX7_findAll_21 ?_
      refine sj_ialdJ (400 * a + i) (by assumption) (by omega) (by omega) (by omega) dX7_findAll_22 ?_
      refine sj_if_ne 31 dX7_findAll_23 (by decide) (by omega) (fun c_23 => ?_) (fun c_23 => ?_)
      · refine sj_inc2 (by decide) rfl dX7_findAll_31 ?_
        refine sj_goto 6 dX7_findAll_34 (by decide) ?_
        first
         | exact ih (i + 1) _ _ (by omega) (by omega) (hJ.tr x1) (fun j hj => by
            by_cases e : j = i
            · rw [e]; exact x2
            · rw [x1.2.2.1 _ (by omega) (hf j (by omega))]; exact hf j (by omega))
         | exact ih (i + 1) _ _ (by omega) (by omega) hJ (fun j hj => by
            by_cases e : j = i
            · rw [e]; assumption
            · exact hf j (by omega))
      · refine sj_ald0 dX7_findAll_26 ?_
        refine sj_ild2 dX7_findAll_27 ?_
        refine sj_callV (cx7_solve' hc (by omega) (by omega)) kc_X7_33 (by assumption) rfl rfl rfl rfl (Nat.le_of_ble_eq_true rfl) dX7_findAll_28 (fun r_28 σ_28 I_28 hp_28 => ?_)
        obtain ⟨rfl, rfl, x1, x2⟩ := hp_28
        refine sj_inc2 (by decide) rfl dX7_findAll_31 ?_
        refine sj_goto 6 dX7_findAll_34 (by decide) ?_
        first
         | exact ih (i + 1) _ _ (by omega) (by omega) (hJ.tr x1) (fun j hj => by
            by_cases e : j = i
            · rw [e]; exact x2
            · rw [x1.2.2.1 _ (by omega) (hf j (by omega))]; exact hf j (by omega))
         | exact ih (i + 1) _ _ (by omega) (by omega) hJ (fun j hj => by
            by_cases e : j = i
            · rw [e]; assumption
            · exact hf j (by omega))
  refine sj_ild1 dX7_findAll_0 ?_
  refine sj_sipush dX7_findAll_1 (by decide) ?_
  refine sj_imul dX7_findAll_4 ?_
  refine sj_ist2 (by decide) rfl dX7_findAll_5 ?_
  exact lp 400 0 _ I (by omega) (by omega) (vN.rf h.2.2.2.2.2) (fun j hj => absurd hj (by omega))
theorem cx7_findUpToReach {v e w a : Nat} {M : Int} {τ : Nat → Option Nat} {E : Nat → Option (List Int)} (h : vCx σ I v e w M τ E) (ha : a < 8) : sj_Con l yX7_findUpToReach mX7_findUpToReach G σ I [.ref v, .int (zI a)] (fun r σ' I' => r = none ∧ σ = σ' ∧ vN M E v w I I' ∧ ∃ n, n ≤ 400 ∧ (∀ i, i < n → 16 ≤ I' (vCl v w) (400 * a + i)) ∧ (n < 400 → I' (vCl v w) (400 * a + n) ≠ 0 ∧ I' (vCl v w) (400 * a + n) < 16)) := by
  obtain ⟨s0, s1⟩ := h.1
  refine sj_con_of (L0 := [some (.ref v), some (.int (zI a)), none, none]) (by decide) rfl rfl rfl (Nat.le_of_ble_eq_true rfl) rfl (fun Γ => ?_)
  have lp : ∀ (d i : Nat) (x : Int) (J : sjI), i + d = 400 → x = ((400 * a + i : Nat) : Int) → vN M E v w I J → (∀ j, j < i → 16 ≤ J (vCl v w) (400 * a + j)) → sj_V l Γ mX7_findUpToReach G (fun r σ' I' => r = none ∧ σ = σ' ∧ vN M E v w I I' ∧ ∃ n, n ≤ 400 ∧ (∀ i, i < n → 16 ≤ I' (vCl v w) (400 * a + i)) ∧ (n < 400 → I' (vCl v w) (400 * a + n) ≠ 0 ∧ I' (vCl v w) (400 * a + n) < 16)) σ J 0 0 8 [some (.ref v), some (.int (zI a)), some (.int (zI 1)), some (.int (zI x))] [] := by
    intro d
    induction d with
    | zero =>
      intro i x J hi hx hJ hf
      subst hx
      refine sj_ild3 dX7_findUpToReach_8 ?_
      refine sj_ild1 dX7_findUpToReach_9 ?_
      refine sj_iconst dX7_findUpToReach_10 ?_
      refine sj_iadd dX7_findUpToReach_11 ?_
      refine sj_sipush dX7_findUpToReach_12 (by decide) ?_
      refine sj_imul dX7_findUpToReach_15 ?_
      refine sj_icmp_ge 60 dX7_findUpToReach_16 (by decide) (by omega) (by omega) (fun c_16 => ?_) (fun c_16 => ?_)
      rotate_left
      · (exfalso; omega)
      exact sj_vret dX7_findUpToReach_60 rfl (Nat.le_of_ble_eq_true rfl) (Nat.le_of_ble_eq_true rfl) ⟨rfl, rfl, hJ, 400, Nat.le_refl _, fun j hj => hf j (by omega), fun z => absurd z (by omega)⟩
    | succ d ih =>
      intro i x J hi hx hJ hf
      subst hx
      have hc := h.next hJ
      have hr := hc.2.2.2.2.2.p.rng hc.2.2.2.2.1 (k := 400 * a + i) (by omega)
      have go : ∀ K : sjI, vN M E v w I K → (∀ j, j < i → 16 ≤ K (vCl v w) (400 * a + j)) → K (vCl v w) (400 * a + i) ≠ 0 → sj_V l Γ mX7_findUpToReach G (fun r σ' I' => r = none ∧ σ = σ' ∧ vN M E v w I I' ∧ ∃ n, n ≤ 400 ∧ (∀ i, i < n → 16 ≤ I' (vCl v w) (400 * a + i)) ∧ (n < 400 → I' (vCl v w) (400 * a + n) ≠ 0 ∧ I' (vCl v w) (400 * a + n) < 16)) σ K 0 0 37 [some (.ref v), some (.int (zI a)), some (.int (zI 1)), some (.int (zI ((400 * a + i : Nat) : Int)))] [] := by
        intro K hK hKf hK0
        have hcK := h.next hK
        have hrK := hcK.2.2.2.2.2.p.rng hcK.2.2.2.2.1 (k := 400 * a + i) (by omega)
        by_cases q : K (vCl v w) (400 * a + i) < 16
        · have hend : ∀ x : Int, (-2147483648 ≤ x ∧ x < 2147483648) → sj_V l Γ mX7_findUpToReach G (fun r σ' I' => r = none ∧ σ = σ' ∧ vN M E v w I I' ∧ ∃ n, n ≤ 400 ∧ (∀ i, i < n → 16 ≤ I' (vCl v w) (400 * a + i)) ∧ (n < 400 → I' (vCl v w) (400 * a + n) ≠ 0 ∧ I' (vCl v w) (400 * a + n) < 16)) σ K 0 0 8 [some (.ref v), some (.int (zI a)), some (.int (zI 0)), some (.int (zI x))] [] := by
            intro x hx
            refine sj_ild3 dX7_findUpToReach_8 ?_
            refine sj_ild1 dX7_findUpToReach_9 ?_
            refine sj_iconst dX7_findUpToReach_10 ?_
            refine sj_iadd dX7_findUpToReach_11 ?_
            refine sj_sipush dX7_findUpToReach_12 (by decide) ?_
            refine sj_imul dX7_findUpToReach_15 ?_
            refine sj_icmp_ge 60 dX7_findUpToReach_16 (by decide) (by omega) (by omega) (fun c_16 => ?_) (fun c_16 => ?_)
            · exact sj_vret dX7_findUpToReach_60 rfl (Nat.le_of_ble_eq_true rfl) (Nat.le_of_ble_eq_true rfl) ⟨rfl, rfl, hK, i, by omega, hKf, fun _ => ⟨hK0, q⟩⟩
            · refine sj_ild2 dX7_findUpToReach_19 ?_
              refine sj_if_eq 60 dX7_findUpToReach_20 (by decide) (by omega) (fun c_20 => ?_) (fun c_20 => ?_)
              rotate_left
              · (exfalso; omega)
              exact sj_vret dX7_findUpToReach_60 rfl (Nat.le_of_ble_eq_true rfl) (Nat.le_of_ble_eq_true rfl) ⟨rfl, rfl, hK, i, by omega, hKf, fun _ => ⟨hK0, q⟩⟩
          refine sj_ald0 dX7_findUpToReach_37 ?_
          refine sj_getR fl_X7_9 (by assumption) rfl (vR_2 _ _ _) dX7_findUpToReach_38 ?_
          refine sj_ild3 dX7_findUpToReach_41 ?_
          refine sj_ialdJ (400 * a + i) (by assumption) (by omega) (by omega) (by omega) dX7_findUpToReach_42 ?_
          refine sj_bipush dX7_findUpToReach_43 (by decide) ?_
          refine sj_icmp_lt 52 dX7_findUpToReach_45 (by decide) (by omega) (by omega) (fun c_45 => ?_) (fun c_45 => ?_)
          rotate_left
          · (exfalso; omega)
          refine sj_iconst dX7_findUpToReach_52 ?_
          refine sj_ist2 (by decide) rfl dX7_findUpToReach_53 ?_
          refine sj_inc3 (by decide) rfl dX7_findUpToReach_54 ?_
          refine sj_goto 8 dX7_findUpToReach_57 (by decide) ?_
          exact hend _ (by omega)
        · refine sj_ald0 dX7_findUpToReach_37 ?_
          refine sj_getR fl_X7_9 (by assumption) rfl (vR_2 _ _ _) dX7_findUpToReach_38 ?_
          refine sj_ild3 dX7_findUpToReach_41 ?_
          refine sj_ialdJ (400 * a + i) (by assumption) (by omega) (by omega) (by omega) dX7_findUpToReach_42 ?_
          refine sj_bipush dX7_findUpToReach_43 (by decide) ?_
          refine sj_icmp_lt 52 dX7_findUpToReach_45 (by decide) (by omega) (by omega) (fun c_45 => ?_) (fun c_45 => ?_)
          · (exfalso; omega)
          refine sj_iconst dX7_findUpToReach_48 ?_
          refine sj_goto 53 dX7_findUpToReach_49 (by decide) ?_
          refine sj_ist2 (by decide) rfl dX7_findUpToReach_53 ?_
          refine sj_inc3 (by decide) rfl dX7_findUpToReach_54 ?_
          refine sj_goto 8 dX7_findUpToReach_57 (by decide) ?_
          exact ih (i + 1) _ K (by omega) (by omega) hK (fun j hj => by
            by_cases z : j = i
            · rw [z]; omega
            · exact hKf j (by omega))
      refine sj_ild3 dX7_findUpToReach_8 ?_
      refine sj_ild1 dX7_findUpToReach_9 ?_
      refine sj_iconst dX7_findUpToReach_10 ?_
      refine sj_iadd dX7_findUpToReach_11 ?_
      refine sj_sipush dX7_findUpToReach_12 (by decide) ?_
      refine sj_imul dX7_findUpToReach_15 ?_
      refine sj_icmp_ge 60 dX7_findUpToReach_16 (by decide) (by omega) (by omega) (fun c_16 => ?_) (fun c_16 => ?_)
      · (exfalso; omega)
      refine sj_ild2 dX7_findUpToReach_19 ?_
      refine sj_if_eq 60 dX7_findUpToReach_20 (by decide) (by omega) (fun c_20 => ?_) (fun c_20 => ?_)
      · (exfalso; omega)
      refine sj_ald0 dX7_findUpToReach_23 ?_
      refine sj_getR fl_X7_9 (by assumption) rfl (vR_2 _ _ _) dX7_findUpToReach_24 ?_
      refine sj_ild3 dX7_findUpToReach_27 ?_
      refine sj_ialdJ (400 * a + i) (by assumption) (by omega) (by omega) (by omega) dX7_findUpToReach_28 ?_
      refine sj_if_ne 37 dX7_findUpToReach_29 (by decide) (by omega) (fun c_29 => ?_) (fun c_29 => ?_)
      · first
         | exact go _ (hJ.tr x1) (fun j hj => by rw [x1.2.2.1 _ (by omega) (by have := hf j hj; omega)]; exact hf j hj) x2
         | exact go _ hJ hf (by omega)
      · refine sj_ald0 dX7_findUpToReach_32 ?_
        refine sj_ild3 dX7_findUpToReach_33 ?_
        refine sj_callV (cx7_solve' hc (by omega) (by omega)) kc_X7_33 (by assumption) rfl rfl rfl rfl (Nat.le_of_ble_eq_true rfl) dX7_findUpToReach_34 (fun r_34 σ_34 I_34 hp_34 => ?_)
        obtain ⟨rfl, rfl, x1, x2⟩ := hp_34
        first
         | exact go _ (hJ.tr x1) (fun j hj => by rw [x1.2.2.1 _ (by omega) (by have := hf j hj; omega)]; exact hf j hj) x2
         | exact go _ hJ hf (by omega)
  refine sj_iconst dX7_findUpToReach_0 ?_
  refine sj_ist2 (by decide) rfl dX7_findUpToReach_1 ?_
  refine sj_ild1 dX7_findUpToReach_2 ?_
  refine sj_sipush dX7_findUpToReach_3 (by decide) ?_
  refine sj_imul dX7_findUpToReach_6 ?_
  refine sj_ist3 (by decide) rfl dX7_findUpToReach_7 ?_
  exact lp 400 0 _ I (by omega) (by omega) (vN.rf h.2.2.2.2.2) (fun j hj => absurd hj (by omega))
/-- a queue in the workspace -/
def wQ (I : sjI) (w : Nat) (Q : List Nat) : Prop := (∀ j, j < Q.length → I (w + 3) j = (Q.getD j 0 : Nat)) ∧ sIn I w (fun x => x ∈ Q) ∧ Q.Nodup ∧ ∀ q ∈ Q, q < 3200
theorem cx7_collectAtOnce {v e w k : Nat} {M : Int} {τ : Nat → Option Nat} {E : Nat → Option (List Int)} {Q : List Nat} (hS : vSh σ v e w) (hW : wSh σ w) (he : eqn σ I e M τ) (ht : te σ I τ E) (hk : k < 3200) (hkn : jKn M E k) (hQ : wQ I w Q) : sj_Con l yX7_collectAtOnce mX7_collectAtOnce G σ I [.ref v, .int (zI k), .int (zI Q.length)] (fun r σ' I' => r = some (.int (zI (jAd Q (jNl E k)).length)) ∧ σ = σ' ∧ (∀ q, q ≠ w + 1 → q ≠ w + 3 → q ≠ w + 4 → I' q = I q) ∧ wQ I' w (jAd Q (jNl E k))) := by
  obtain ⟨s0, s1⟩ := id hS
  obtain ⟨w0, w1, w2, w3, w4⟩ := id hW
  obtain ⟨e0, e1, e2⟩ := id he
  have hk4 : k / 400 < 8 := by omega
  have hdiv : ((k : Int) / 400) = ((k / 400 : Nat) : Int) := by omega
  have hrem : ((k : Int) % 400) = ((k % 400 : Nat) : Int) := by omega
  have hlenQ := jNd_le 3200 Q hQ.2.2.1 hQ.2.2.2
  rcases ht.2 (k / 400) hk4 with ⟨hv, hE⟩ | ⟨t, T, hv, hE, htm⟩
  · exfalso
    obtain ⟨n, z, hz⟩ := hkn
    cases n with
    | zero => cases hz
    | succ n => obtain ⟨T, _, _, q1, _⟩ := jStg_some hz; rw [hE] at q1; cases q1
  · have hoW := htm.offW hW
    have hok := htm.2.2.2.2.2.1
    have hn := htm.2.2.2.2.2.2
    have t0 := htm.1.1
    have t3 := htm.1.2.2.2
    have hml := jMs_len T 0
    obtain ⟨nd, hnd⟩ : ∃ nd, jN T (k % 400) = some nd := by
      obtain ⟨n, z, hz⟩ := hkn
      cases n with
      | zero => cases hz
      | succ n => obtain ⟨nd, h1, _⟩ := jKn_nd hE ⟨z, hz⟩; exact ⟨nd, h1⟩
    have hnl : jNl E k = nd := by unfold jNl; rw [hE]; show (jN T (k % 400)).getD [] = nd; rw [hnd]; rfl
    rw [hnl]
    obtain ⟨Gx, hGx⟩ : ∃ Gx, jGx chI T [((k % 400 : Nat) : Int)] = Gx := ⟨_, rfl⟩
    have hgl : Gx.length = T.length := by rw [← hGx]; exact jGx_len chI_len T _ hok
    have hge : ∀ x ∈ Gx, -1 ≤ x := by rw [← hGx]; exact jGx_ge T _ (fun s hs => by rw [List.mem_singleton.mp hs]; omega)
    have gmem : ∀ p, p < T.length → Gx.getD p 0 ∈ Gx := fun p hp => by
      rw [List.getD_eq_getElem?_getD, List.getElem?_eq_getElem (by rw [hgl]; exact hp)]
      exact List.getElem_mem _
    have hcz : jN T (k % 400) = jCz T Gx := by rw [← hGx]; exact jN_cz hok
    refine sj_con_of (L0 := [some (.ref v), some (.int (zI k)), some (.int (zI Q.length)), none, none, none, none, none, none, none]) (by decide) rfl rfl rfl (Nat.le_of_ble_eq_true rfl) rfl (fun Γ => ?_)
    have main : ∀ J : sjI, (∀ q, q ≠ w + 1 → J q = I q) → (∀ s ∈ Gx, s ≤ 1000000000) → (∀ p, p < T.length → J (w + 1) p = Gx.getD p 0) → sj_V l Γ mX7_collectAtOnce G (fun r σ' I' => r = some (.int (zI (jAd Q nd).length)) ∧ σ = σ' ∧ (∀ q, q ≠ w + 1 → q ≠ w + 3 → q ≠ w + 4 → I' q = I q) ∧ wQ I' w (jAd Q nd)) σ J 0 0 36 [some (.ref v), some (.int (zI k)), some (.int (zI Q.length)), some (.ref t), none, none, none, none, none, none] [] := by
      intro J hJ hle hix
      have hcl : jCl (jZl T Gx) = some nd := by rw [← jCz_cl T Gx hgl.symm hle, ← hcz]; exact hnd
      have lp : ∀ (d j : Nat) (n2 : List Nat) (K : sjI), j + d = (jMs T 0).length → jCl ((jZl T Gx).take j) = some n2 → (∀ q, q ≠ w + 3 → q ≠ w + 4 → K q = J q) → wQ K w (jAd Q n2) → sj_V l Γ mX7_collectAtOnce G (fun r σ' I' => r = some (.int (zI (jAd Q nd).length)) ∧ σ = σ' ∧ (∀ q, q ≠ w + 1 → q ≠ w + 3 → q ≠ w + 4 → I' q = I q) ∧ wQ I' w (jAd Q nd)) σ K 0 0 53 [some (.ref v), some (.int (zI k)), some (.int (zI Q.length)), some (.ref t), some (.int (zI (jAd Q n2).length)), some (.ref (t + 3)), some (.int (zI (jMs T 0).length)), some (.int (zI j)), none, none] [] := by
        intro d
        induction d with
        | zero =>
          intro j n2 K hj hn2 hK hKQ
          rw [List.take_of_length_le (by rw [jZl_len hgl]; omega), hcl] at hn2
          cases hn2
          refine sj_ild7 dX7_collectAtOnce_53 ?_
          refine sj_ild6 dX7_collectAtOnce_55 ?_
          refine sj_icmp_ge 137 dX7_collectAtOnce_57 (by decide) (by omega) (by omega) (fun c_57 => ?_) (fun c_57 => ?_)
          rotate_left
          · (exfalso; omega)
          refine sj_ild4 dX7_collectAtOnce_137 ?_
          exact sj_iret dX7_collectAtOnce_139 rfl rfl (Nat.le_of_ble_eq_true rfl) (Nat.le_of_ble_eq_true rfl) ⟨rfl, rfl, fun q q1 q2 q3 => by rw [hK q q2 q3]; exact hJ q q1, hKQ⟩
        | succ d ih =>
          intro j n2 K hj hn2 hK hKQ
          have htK : tm σ K t T := htm.keep (fun q q1 q2 => ⟨rfl, by rw [hK q (by omega) (by omega)]; exact hJ q (by omega)⟩)
          obtain ⟨p, hp1, hp2, hp3, hp4⟩ := htK.mn (j := j) (by omega)
          have hzj := jZl_at hgl (j := j) (by omega)
          rw [hp1] at hzj
          obtain ⟨s, hs⟩ : ∃ s, Gx.getD p 0 = s := ⟨_, rfl⟩
          rw [hs] at hzj
          have hmem := List.mem_of_getElem? hzj
          have hsm := gmem p hp3
          rw [hs] at hsm
          have hs1 := hge s hsm
          have hs2 := hle s hsm
          have hKs : K (w + 1) p = s := by rw [hK (w + 1) (by omega) (by omega), hix p hp3]; exact hs
          have hlenK := jNd_le 3200 (jAd Q n2) hKQ.2.2.1 hKQ.2.2.2
          by_cases q1 : s = -1
          · have hstep : jCl ((jZl T Gx).take (j + 1)) = some n2 := by
              rw [take_some hzj, jCl_app, hn2]
              show ((if s = -1 then some [] else _).map (fun b => n2 ++ b)) = _
              rw [if_pos q1]; show some (n2 ++ []) = _; rw [List.append_nil]
            refine sj_ild7 dX7_collectAtOnce_53 ?_
            refine sj_ild6 dX7_collectAtOnce_55 ?_
            refine sj_icmp_ge 137 dX7_collectAtOnce_57 (by decide) (by omega) (by omega) (fun c_57 => ?_) (fun c_57 => ?_)
            · (exfalso; omega)
            refine sj_ald5 dX7_collectAtOnce_60 ?_
            refine sj_ild7 dX7_collectAtOnce_62 ?_
            refine sj_ialdJ (j) (by assumption) (by omega) (by omega) (by omega) dX7_collectAtOnce_64 ?_
            rw [hp2]
            refine sj_ist8 (by decide) rfl dX7_collectAtOnce_65 ?_
            refine sj_ald0 dX7_collectAtOnce_67 ?_
            refine sj_getR fl_X7_19 (by assumption) rfl (vR_1 _ _ _) dX7_collectAtOnce_68 ?_
            refine sj_ild8 dX7_collectAtOnce_71 ?_
            refine sj_callV (cx8_isNeeded hW (by omega) hKs (by omega)) kc_X7_64 (by assumption) rfl rfl rfl rfl (Nat.le_of_ble_eq_true rfl) dX7_collectAtOnce_73 (fun r_73 σ_73 I_73 hp_73 => ?_)
            obtain ⟨rfl, rfl, rfl⟩ := hp_73
            rw [if_pos q1]
            refine sj_if_ne 82 dX7_collectAtOnce_76 (by decide) (by omega) (fun c_76 => ?_) (fun c_76 => ?_)
            · (exfalso; omega)
            refine sj_goto 131 dX7_collectAtOnce_79 (by decide) ?_
            refine sj_inc7 (by decide) rfl dX7_collectAtOnce_131 ?_
            refine sj_goto 53 dX7_collectAtOnce_134 (by decide) ?_
            exact sj_fg8 (ih (j + 1) n2 K (by omega) hstep hK hKQ)
          · have q2 : s < 400 := (jCl_mem _ nd hcl _ hmem q1).1
            obtain ⟨kk, hkk⟩ : ∃ kk, 400 * (T.getD p 0 - 65).toNat + s.toNat = kk := ⟨_, rfl⟩
            have hk3 : kk < 3200 := by omega
            have hstep : jCl ((jZl T Gx).take (j + 1)) = some (n2 ++ [kk]) := by
              rw [take_some hzj, jCl_app, hn2]
              show ((if s = -1 then some [] else if s < 400 then (some []).map (fun l => (400 * (T.getD p 0 - 65).toNat + s.toNat) :: l) else none).map (fun b => n2 ++ b)) = _
              rw [if_neg q1, if_pos q2, hkk]; rfl
            have happ := jAd_app n2 Q kk
            by_cases z : kk ∈ jAd Q n2
            · rw [if_pos z] at happ
              have fin : ∀ (K2 : sjI), K2 = K → sj_V l Γ mX7_collectAtOnce G (fun r σ' I' => r = some (.int (zI (jAd Q nd).length)) ∧ σ = σ' ∧ (∀ q, q ≠ w + 1 → q ≠ w + 3 → q ≠ w + 4 → I' q = I q) ∧ wQ I' w (jAd Q nd)) σ K2 0 0 53 [some (.ref v), some (.int (zI k)), some (.int (zI Q.length)), some (.ref t), some (.int (zI (jAd Q n2).length)), some (.ref (t + 3)), some (.int (zI (jMs T 0).length)), some (.int (zI ((j : Int) + 1))), none, none] [] := by
                intro K2 hK2
                subst hK2
                have hih := ih (j + 1) (n2 ++ [kk]) K2 (by omega) hstep hK (by rw [happ]; exact hKQ)
                rw [happ] at hih
                exact hih
              refine sj_ild7 dX7_collectAtOnce_53 ?_
              refine sj_ild6 dX7_collectAtOnce_55 ?_
              refine sj_icmp_ge 137 dX7_collectAtOnce_57 (by decide) (by omega) (by omega) (fun c_57 => ?_) (fun c_57 => ?_)
              · (exfalso; omega)
              refine sj_ald5 dX7_collectAtOnce_60 ?_
              refine sj_ild7 dX7_collectAtOnce_62 ?_
              refine sj_ialdJ (j) (by assumption) (by omega) (by omega) (by omega) dX7_collectAtOnce_64 ?_
              rw [hp2]
              refine sj_ist8 (by decide) rfl dX7_collectAtOnce_65 ?_
              refine sj_ald0 dX7_collectAtOnce_67 ?_
              refine sj_getR fl_X7_19 (by assumption) rfl (vR_1 _ _ _) dX7_collectAtOnce_68 ?_
              refine sj_ild8 dX7_collectAtOnce_71 ?_
              refine sj_callV (cx8_isNeeded hW (by omega) hKs (by omega)) kc_X7_64 (by assumption) rfl rfl rfl rfl (Nat.le_of_ble_eq_true rfl) dX7_collectAtOnce_73 (fun r_73 σ_73 I_73 hp_73 => ?_)
              obtain ⟨rfl, rfl, rfl⟩ := hp_73
              rw [if_neg q1]
              refine sj_if_ne 82 dX7_collectAtOnce_76 (by decide) (by omega) (fun c_76 => ?_) (fun c_76 => ?_)
              rotate_left
              · (exfalso; omega)
              refine sj_ald0 dX7_collectAtOnce_82 ?_
              refine sj_ald3 dX7_collectAtOnce_83 ?_
              refine sj_ild8 dX7_collectAtOnce_84 ?_
              refine sj_callV (cx7_neededCell hS hW htK hp3 hp4 hKs (by omega)) kc_X7_68 (by assumption) rfl rfl rfl rfl (Nat.le_of_ble_eq_true rfl) dX7_collectAtOnce_86 (fun r_86 σ_86 I_86 hp_86 => ?_)
              obtain ⟨rfl, rfl, rfl⟩ := hp_86
              rw [if_pos q2, hkk]
              refine sj_ist9 (by decide) rfl dX7_collectAtOnce_89 ?_
              refine sj_ild9 dX7_collectAtOnce_91 ?_
              refine sj_if_lt 131 dX7_collectAtOnce_93 (by decide) (by omega) (fun c_93 => ?_) (fun c_93 => ?_)
              · (exfalso; omega)
              refine sj_ild4 dX7_collectAtOnce_96 ?_
              refine sj_sipush dX7_collectAtOnce_98 (by decide) ?_
              refine sj_icmp_ge 131 dX7_collectAtOnce_101 (by decide) (by omega) (by omega) (fun c_101 => ?_) (fun c_101 => ?_)
              · refine sj_inc7 (by decide) rfl dX7_collectAtOnce_131 ?_
                refine sj_goto 53 dX7_collectAtOnce_134 (by decide) ?_
                exact sj_fg9 (sj_fg8 (fin _ rfl))
              · refine sj_ald0 dX7_collectAtOnce_104 ?_
                refine sj_getR fl_X7_19 (by assumption) rfl (vR_1 _ _ _) dX7_collectAtOnce_105 ?_
                refine sj_ild9 dX7_collectAtOnce_108 ?_
                refine sj_callV (cx8_see hW hKQ.2.1 hk3) kc_X7_95 (by assumption) rfl rfl rfl rfl (Nat.le_of_ble_eq_true rfl) dX7_collectAtOnce_110 (fun r_110 σ_110 I_110 hp_110 => ?_)
                obtain ⟨rfl, x1⟩ := hp_110
                rcases x1 with ⟨_, rfl, x2⟩ | ⟨x2, _⟩
                · refine sj_if_eq 131 dX7_collectAtOnce_113 (by decide) (by omega) (fun _ => ?_) (fun c_113 => absurd rfl c_113)
                  refine sj_inc7 (by decide) rfl dX7_collectAtOnce_131 ?_
                  refine sj_goto 53 dX7_collectAtOnce_134 (by decide) ?_
                  exact sj_fg9 (sj_fg8 (fin _ x2.symm))
                · exact absurd z x2
            · rw [if_neg z] at happ
              have hnd2 : (jAd Q n2 ++ [kk]).Nodup := by
                have h1 := jAd_nodup (n2 ++ [kk]) Q hQ.2.2.1
                rw [happ] at h1
                exact h1
              have hall : ∀ x ∈ jAd Q n2 ++ [kk], x < 3200 := fun x hx => by
                rcases List.mem_append.mp hx with hx | hx
                · exact hKQ.2.2.2 x hx
                · rw [List.mem_singleton.mp hx]; exact hk3
              have hl2 := jNd_le 3200 _ hnd2 hall
              rw [List.length_append, List.length_singleton] at hl2
              refine sj_ild7 dX7_collectAtOnce_53 ?_
              refine sj_ild6 dX7_collectAtOnce_55 ?_
              refine sj_icmp_ge 137 dX7_collectAtOnce_57 (by decide) (by omega) (by omega) (fun c_57 => ?_) (fun c_57 => ?_)
              · (exfalso; omega)
              refine sj_ald5 dX7_collectAtOnce_60 ?_
              refine sj_ild7 dX7_collectAtOnce_62 ?_
              refine sj_ialdJ (j) (by assumption) (by omega) (by omega) (by omega) dX7_collectAtOnce_64 ?_
              rw [hp2]
              refine sj_ist8 (by decide) rfl dX7_collectAtOnce_65 ?_
              refine sj_ald0 dX7_collectAtOnce_67 ?_
              refine sj_getR fl_X7_19 (by assumption) rfl (vR_1 _ _ _) dX7_collectAtOnce_68 ?_
              refine sj_ild8 dX7_collectAtOnce_71 ?_
              refine sj_callV (cx8_isNeeded hW (by omega) hKs (by omega)) kc_X7_64 (by assumption) rfl rfl rfl rfl (Nat.le_of_ble_eq_true rfl) dX7_collectAtOnce_73 (fun r_73 σ_73 I_73 hp_73 => ?_)
              obtain ⟨rfl, rfl, rfl⟩ := hp_73
              rw [if_neg q1]
              refine sj_if_ne 82 dX7_collectAtOnce_76 (by decide) (by omega) (fun c_76 => ?_) (fun c_76 => ?_)
              rotate_left
              · (exfalso; omega)
              refine sj_ald0 dX7_collectAtOnce_82 ?_
              refine sj_ald3 dX7_collectAtOnce_83 ?_
              refine sj_ild8 dX7_collectAtOnce_84 ?_
              refine sj_callV (cx7_neededCell hS hW htK hp3 hp4 hKs (by omega)) kc_X7_68 (by assumption) rfl rfl rfl rfl (Nat.le_of_ble_eq_true rfl) dX7_collectAtOnce_86 (fun r_86 σ_86 I_86 hp_86 => ?_)
              obtain ⟨rfl, rfl, rfl⟩ := hp_86
              rw [if_pos q2, hkk]
              refine sj_ist9 (by decide) rfl dX7_collectAtOnce_89 ?_
              refine sj_ild9 dX7_collectAtOnce_91 ?_
              refine sj_if_lt 131 dX7_collectAtOnce_93 (by decide) (by omega) (fun c_93 => ?_) (fun c_93 => ?_)
              · (exfalso; omega)
              refine sj_ild4 dX7_collectAtOnce_96 ?_
              refine sj_sipush dX7_collectAtOnce_98 (by decide) ?_
              refine sj_icmp_ge 131 dX7_collectAtOnce_101 (by decide) (by omega) (by omega) (fun c_101 => ?_) (fun c_101 => ?_)
              · (exfalso; omega)
              refine sj_ald0 dX7_collectAtOnce_104 ?_
              refine sj_getR fl_X7_19 (by assumption) rfl (vR_1 _ _ _) dX7_collectAtOnce_105 ?_
              refine sj_ild9 dX7_collectAtOnce_108 ?_
              refine sj_callV (cx8_see hW hKQ.2.1 hk3) kc_X7_95 (by assumption) rfl rfl rfl rfl (Nat.le_of_ble_eq_true rfl) dX7_collectAtOnce_110 (fun r_110 σ_110 I_110 hp_110 => ?_)
              obtain ⟨rfl, x1⟩ := hp_110
              rcases x1 with ⟨x2, _⟩ | ⟨_, rfl, x3, x4⟩
              · exact absurd x2 z
              · refine sj_if_eq 131 dX7_collectAtOnce_113 (by decide) (by omega) (fun c_113 => absurd c_113 (by decide)) (fun _ => ?_)
                refine sj_ald0 dX7_collectAtOnce_116 ?_
                refine sj_getR fl_X7_19 (by assumption) rfl (vR_1 _ _ _) dX7_collectAtOnce_117 ?_
                refine sj_getRN fl_X7_41 (by assumption) rfl (wR_2 _) dX7_collectAtOnce_120 ?_
                refine sj_ild4 dX7_collectAtOnce_123 ?_
                refine sj_ild9 dX7_collectAtOnce_125 ?_
                refine sj_iastJ (jAd Q n2).length (by assumption) (by omega) (by omega) (by omega) dX7_collectAtOnce_127 ?_
                refine sj_inc4 (by decide) rfl dX7_collectAtOnce_128 ?_
                refine sj_inc7 (by decide) rfl dX7_collectAtOnce_131 ?_
                refine sj_goto 53 dX7_collectAtOnce_134 (by decide) ?_
                have hih := ih (j + 1) (n2 ++ [kk]) (sj_up I_110 (w + 3) (jAd Q n2).length (kk : Nat)) (by omega) hstep (fun q a1 a2 => by rw [sj_up_row a1, x3 q a2]; exact hK q a1 a2) (by
                  rw [happ]
                  refine ⟨fun i hi => ?_, ?_, hnd2, hall⟩
                  · rw [List.length_append, List.length_singleton] at hi
                    by_cases e : i = (jAd Q n2).length
                    · rw [e, sj_up_self, List.getD_eq_getElem?_getD, List.getElem?_append_right (Nat.le_refl _), Nat.sub_self]; rfl
                    · rw [sj_up_ne (by omega), x3 (w + 3) (by omega), getD_app (by omega)]
                      exact hKQ.1 i (by omega)
                  · obtain ⟨m, m1, m2⟩ := x4
                    refine ⟨m, fun i hi => by rw [sj_up_row (by omega)]; exact m1 i hi, fun x hx => ?_⟩
                    rw [m2 x hx]
                    show (x ∈ jAd Q n2 ∨ x = kk) ↔ x ∈ jAd Q n2 ++ [kk]
                    rw [List.mem_append, List.mem_singleton])
                rw [happ, List.length_append, List.length_singleton] at hih
                exact sj_fg9 (sj_fg8 hih)
      have hQJ : wQ J w Q := ⟨fun j hj => by rw [hJ (w + 3) (by omega)]; exact hQ.1 j hj, by
        obtain ⟨m, m1, m2⟩ := hQ.2.1
        exact ⟨m, fun i hi => by rw [hJ (w + 4) (by omega)]; exact m1 i hi, m2⟩, hQ.2.2⟩
      refine sj_ild2 dX7_collectAtOnce_36 ?_
      refine sj_ist4 (by decide) rfl dX7_collectAtOnce_37 ?_
      refine sj_ald3 dX7_collectAtOnce_39 ?_
      refine sj_getR fl_X7_59 (by assumption) rfl (tR_3 _) dX7_collectAtOnce_40 ?_
      refine sj_ast5 (by decide) rfl dX7_collectAtOnce_43 ?_
      refine sj_ald5 dX7_collectAtOnce_45 ?_
      refine sj_alen (by assumption) (by decide) dX7_collectAtOnce_47 ?_
      refine sj_ist6 (by decide) rfl dX7_collectAtOnce_48 ?_
      refine sj_iconst dX7_collectAtOnce_50 ?_
      refine sj_ist7 (by decide) rfl dX7_collectAtOnce_51 ?_
      exact lp (jMs T 0).length 0 [] J (by omega) rfl (fun _ _ _ => rfl) hQJ
    refine sj_ald0 dX7_collectAtOnce_0 ?_
    refine sj_getR fl_X7_15 (by assumption) rfl (vR_0 _ _ _) dX7_collectAtOnce_1 ?_
    refine sj_getR fl_X7_49 (by assumption) rfl (eR_1 _) dX7_collectAtOnce_4 ?_
    refine sj_ild1 dX7_collectAtOnce_7 ?_
    refine sj_sipush dX7_collectAtOnce_8 (by decide) ?_
    refine sj_idiv dX7_collectAtOnce_11 (by omega) (by omega) ?_
    rw [hdiv]
    refine sj_aald rfl (by assumption) (by omega) (by decide) hv dX7_collectAtOnce_12 ?_
    refine sj_ast3 (by decide) rfl dX7_collectAtOnce_13 ?_
    refine sj_ald3 dX7_collectAtOnce_14 ?_
    refine sj_ifnull dX7_collectAtOnce_15 ?_
    refine sj_ald0 dX7_collectAtOnce_18 ?_
    refine sj_getR fl_X7_19 (by assumption) rfl (vR_1 _ _ _) dX7_collectAtOnce_19 ?_
    refine sj_ald3 dX7_collectAtOnce_22 ?_
    refine sj_ild1 dX7_collectAtOnce_23 ?_
    refine sj_sipush dX7_collectAtOnce_24 (by decide) ?_
    refine sj_irem dX7_collectAtOnce_27 (by omega) (by omega) ?_
    rw [hrem]
    refine sj_callV (cx8_spread hW htm (by omega)) kc_X7_55 (by assumption) rfl rfl rfl rfl (Nat.le_of_ble_eq_true rfl) dX7_collectAtOnce_28 (fun r_28 σ_28 I_28 hp_28 => ?_)
    obtain ⟨rfl, x1, x2⟩ := hp_28
    rw [hGx] at x2
    rcases x2 with ⟨rfl, x3⟩ | ⟨rfl, x3, x4⟩
    · exfalso
      rw [hcz, jCz_big T Gx hgl.symm x3] at hnd
      cases hnd
    · exact sj_if_ne 36 dX7_collectAtOnce_31 (by decide) (by omega) (fun c_31 => main _ x1 x3 x4) (fun c_31 => absurd (by decide : ¬ (1 : Int) = 0) c_31)
end VALUES5
