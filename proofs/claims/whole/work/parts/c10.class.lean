theorem max_ite (a b : Int) : max a b = if a < b then b else a := by
  by_cases h : a < b
  · rw [if_pos h]; omega
  · rw [if_neg h]; omega
/-- the steps with another number for none -/
theorem jSo_two {E : Nat → Option (List Int)} (h : jEl E) : jSo (jFs E 8 (fun _ => -1000000)) (-1000000) = jSt E := by
  funext b c
  unfold jSt jSo
  have h2 := jFs_two h (z := -1000000) (y := -1000) (by omega) (by omega) (j := 8 * b + c) (f := fun _ => -1000000) (g := fun _ => -1000) ⟨rfl, rfl⟩ 8
  rcases h2 with ⟨e1, e2⟩ | ⟨e1, e2⟩
  · rw [if_pos e1, if_pos e2]
  · rw [if_neg (by omega), if_neg (by omega), e1]
theorem jB3_one {st : Nat → Nat → Option Int} {a : Nat} : jB3 st a 1 (jB0 a, -1000000) = (jB0 a, -1000000) := by
  have h1 : ∀ b, b < 8 → jB1 st a 0 b (jB0 a, -1000000) = (jB0 a, -1000000) := fun b hb => by
    have hp : 0 < 2 ^ a := Nat.two_pow_pos a
    unfold jB1
    rw [if_pos]
    show jB0 a (8 * 0 + b) = -1000000
    unfold jB0
    rw [if_neg (by omega)]
  have h2 : ∀ n, n ≤ 8 → jB2 st a 0 n (jB0 a, -1000000) = (jB0 a, -1000000) := by
    intro n
    induction n with
    | zero => intro _; rfl
    | succ n ih =>
      intro hn
      show jB1 st a 0 n (jB2 st a 0 n (jB0 a, -1000000)) = _
      rw [ih (by omega), h1 n (by omega)]
  exact h2 8 (Nat.le_refl _)
section CYCLES2
variable {l : Launch} {G : sjG} {σ : sjS} {I : sjI}
theorem cx1_goOn {y set b : Nat} {sum : Int} {F B : Nat → Int} (hS : ySh σ y) (hset : set < 256) (hb : b < 8) (hs : -(120 * (set : Int)) ≤ sum ∧ sum ≤ 120 * (set : Int)) (hF : ∀ j, j < 64 → I (y + 2) j = F j) (hFr : ∀ j, j < 64 → F j = -1000000 ∨ (-120 ≤ F j ∧ F j ≤ 120)) (hB : ∀ j, j < 2048 → I (y + 3) j = B j) (hBd : jBd B) : sj_Con l yX1_goOn mX1_goOn G σ I [.ref y, .int (zI set), .int (zI b), .int (zI sum)] (fun v σ' I' => v = none ∧ σ = σ' ∧ (∀ q, q ≠ y + 3 → I' q = I q) ∧ ∀ j, j < 2048 → I' (y + 3) j = jOxs (jSo F (-1000000)) set b sum 8 B j) := by
  obtain ⟨s0, s1, s2, s3⟩ := id hS
  refine sj_con_of (L0 := [some (.ref y), some (.int (zI set)), some (.int (zI b)), some (.int (zI sum)), none, none, none]) (by decide) rfl rfl rfl (Nat.le_of_ble_eq_true rfl) rfl (fun Γ => ?_)
  have hsr : jSr (jSo F (-1000000)) := by
    intro b c s hb hc e
    unfold jSo at e
    split at e
    · cases e
    · cases e; have := hFr (8 * b + c) (by omega); omega
  have lp : ∀ (d c : Nat) (J : sjI), c + d = 8 → (∀ q, q ≠ y + 3 → J q = I q) → (∀ j, j < 2048 → J (y + 3) j = jOxs (jSo F (-1000000)) set b sum c B j) → sj_V l Γ mX1_goOn G (fun v σ' I' => v = none ∧ σ = σ' ∧ (∀ q, q ≠ y + 3 → I' q = I q) ∧ ∀ j, j < 2048 → I' (y + 3) j = jOxs (jSo F (-1000000)) set b sum 8 B j) σ J 0 0 3 [some (.ref y), some (.int (zI set)), some (.int (zI b)), some (.int (zI sum)), some (.int (zI c)), none, none] [] := by
    intro d
    induction d with
    | zero =>
      intro c J hc hJ hJB
      have hc1 : c = 8 := by omega
      subst hc1
      refine sj_ild4 dX1_goOn_3 ?_
      refine sj_bipush dX1_goOn_5 (by decide) ?_
      refine sj_icmp_ge 85 dX1_goOn_7 (by decide) (by omega) (by omega) (fun c_7 => ?_) (fun c_7 => ?_)
      rotate_left
      · (exfalso; omega)
      exact sj_vret dX1_goOn_85 rfl (Nat.le_of_ble_eq_true rfl) (Nat.le_of_ble_eq_true rfl) ⟨rfl, rfl, hJ, hJB⟩
    | succ d ih =>
      intro c J hc hJ hJB
      have hfr := hFr (8 * b + c) (by omega)
      have hbd := jOxs_bd hsr hBd hset hb hs c (by omega)
      have hpw : 2 ^ c < 256 := Nat.pow_lt_pow_right (a := 2) (n := 8) (by decide) (by omega)
      have hq : set / 2 ^ c ≤ set := Nat.div_le_self _ _
      have hm2 : set / 2 ^ c % 2 < 2 := Nat.mod_lt _ (by decide)
      have hor := or_lt8 set hset c (by omega)
      have hbk := hbd (set ||| 2 ^ c) c hor (by omega)
      have hstep : jOxs (jSo F (-1000000)) set b sum (c + 1) B = jOx (jSo F (-1000000)) set b sum c (jOxs (jSo F (-1000000)) set b sum c B) := rfl
      have no : F (8 * b + c) = -1000000 ∨ ¬ set / 2 ^ c % 2 = 0 → jOxs (jSo F (-1000000)) set b sum (c + 1) B = jOxs (jSo F (-1000000)) set b sum c B := by
        intro h
        rw [hstep]
        unfold jOx jSo
        by_cases e : F (8 * b + c) = -1000000
        · rw [if_pos e]
        · rw [if_neg e]
          simp only
          rw [if_neg (by omega)]
      have yes : F (8 * b + c) ≠ -1000000 → set / 2 ^ c % 2 = 0 → jOxs (jSo F (-1000000)) set b sum (c + 1) B = jSu (jOxs (jSo F (-1000000)) set b sum c B) (8 * (set ||| 2 ^ c) + c) (sum + F (8 * b + c)) := by
        intro h h2
        rw [hstep]
        unfold jOx jSo
        rw [if_neg h]
        simp only
        rw [if_pos h2]
      have hJk := hJB (8 * (set ||| 2 ^ c) + c) (by omega)
      refine sj_ild4 dX1_goOn_3 ?_
      refine sj_bipush dX1_goOn_5 (by decide) ?_
      refine sj_icmp_ge 85 dX1_goOn_7 (by decide) (by omega) (by omega) (fun c_7 => ?_) (fun c_7 => ?_)
      · (exfalso; omega)
      refine sj_ald0 dX1_goOn_10 ?_
      refine sj_getR fl_X1_15 (by assumption) rfl (yR_1 _) dX1_goOn_11 ?_
      refine sj_ild2 dX1_goOn_14 ?_
      refine sj_bipush dX1_goOn_15 (by decide) ?_
      refine sj_imul dX1_goOn_17 ?_
      refine sj_ild4 dX1_goOn_18 ?_
      refine sj_iadd dX1_goOn_20 ?_
      refine sj_ialdJ (8 * b + c) (by assumption) (by omega) (by omega) (by omega) dX1_goOn_21 ?_
      rw [hJ (y + 2) (by omega), hF _ (by omega)]
      refine sj_ist5 (by decide) rfl dX1_goOn_22 ?_
      refine sj_ild5 dX1_goOn_24 ?_
      refine sj_ldc kd_X1_25 dX1_goOn_26 ?_
      refine sj_icmp_eq 79 dX1_goOn_28 (by decide) (by omega) (by omega) (fun c_28 => ?_) (fun c_28 => ?_)
      · refine sj_inc4 (by decide) rfl dX1_goOn_79 ?_
        refine sj_goto 3 dX1_goOn_82 (by decide) ?_
        refine sj_fg6 (sj_fg5 ?_)
        first
         | exact ih (c + 1) _ (by omega) hJ (by rw [no (by omega)]; exact hJB)
         | exact ih (c + 1) _ (by omega) (fun q hq => by rw [sj_up_row hq]; exact hJ q hq) (fun j hj => by
            rw [yes (by omega) (by omega)]
            by_cases e : j = 8 * (set ||| 2 ^ c) + c
            · subst e
              rw [sj_up_self]
              by_cases e2 : jOxs (jSo F (-1000000)) set b sum c B (8 * (set ||| 2 ^ c) + c) < sum + F (8 * b + c)
              · rw [if_pos e2, jSu_lt e2]
              · rw [if_neg e2, jSu_ge e2]
            · rw [sj_up_ne (by omega), jSu_ne e]; exact hJB j hj)
      · refine sj_ild1 dX1_goOn_31 ?_
        refine sj_ild4 dX1_goOn_32 ?_
        refine sj_ishr dX1_goOn_34 (zI_shr1 set (by omega) c (by omega)) ?_
        refine sj_iconst dX1_goOn_35 ?_
        refine sj_iand dX1_goOn_36 (zI_and1 (set / 2 ^ c) (by omega)) ?_
        refine sj_iconst dX1_goOn_37 ?_
        refine sj_icmp_ne 44 dX1_goOn_38 (by decide) (by omega) (by omega) (fun c_38 => ?_) (fun c_38 => ?_)
        · refine sj_ild1 dX1_goOn_44 ?_
          refine sj_iconst dX1_goOn_45 ?_
          refine sj_ild4 dX1_goOn_46 ?_
          refine sj_ishl dX1_goOn_48 (zI_shl1 c (by omega)) ?_
          refine sj_ior dX1_goOn_49 (zI_or1 set (by omega) c (by omega)) ?_
          refine sj_bipush dX1_goOn_50 (by decide) ?_
          refine sj_imul dX1_goOn_52 ?_
          refine sj_ild4 dX1_goOn_53 ?_
          refine sj_iadd dX1_goOn_55 ?_
          refine sj_ist6 (by decide) rfl dX1_goOn_56 ?_
          refine sj_ald0 dX1_goOn_58 ?_
          refine sj_getR fl_X1_18 (by assumption) rfl (yR_2 _) dX1_goOn_59 ?_
          refine sj_ild6 dX1_goOn_62 ?_
          refine sj_ald0 dX1_goOn_64 ?_
          refine sj_getR fl_X1_18 (by assumption) rfl (yR_2 _) dX1_goOn_65 ?_
          refine sj_ild6 dX1_goOn_68 ?_
          refine sj_ialdJ (8 * (set ||| 2 ^ c) + c) (by assumption) (by omega) (by omega) (by omega) dX1_goOn_70 ?_
          rw [hJk]
          refine sj_ild3 dX1_goOn_71 ?_
          refine sj_ild5 dX1_goOn_72 ?_
          refine sj_iadd dX1_goOn_74 ?_
          refine sj_max km_X1_32 wo_max.1 wo_max.2.1 wo_max.2.2 (by decide) (Nat.le_of_ble_eq_true rfl) (Nat.le_of_ble_eq_true rfl) (Nat.le_of_ble_eq_true rfl) (by omega) (by omega) dX1_goOn_75 ?_
          rw [max_ite]
          refine sj_iastJ (8 * (set ||| 2 ^ c) + c) (by assumption) (by omega) (by omega) (by omega) dX1_goOn_78 ?_
          refine sj_inc4 (by decide) rfl dX1_goOn_79 ?_
          refine sj_goto 3 dX1_goOn_82 (by decide) ?_
          refine sj_fg6 (sj_fg5 ?_)
          first
           | exact ih (c + 1) _ (by omega) hJ (by rw [no (by omega)]; exact hJB)
           | exact ih (c + 1) _ (by omega) (fun q hq => by rw [sj_up_row hq]; exact hJ q hq) (fun j hj => by
              rw [yes (by omega) (by omega)]
              by_cases e : j = 8 * (set ||| 2 ^ c) + c
              · subst e
                rw [sj_up_self]
                by_cases e2 : jOxs (jSo F (-1000000)) set b sum c B (8 * (set ||| 2 ^ c) + c) < sum + F (8 * b + c)
                · rw [if_pos e2, jSu_lt e2]
                · rw [if_neg e2, jSu_ge e2]
              · rw [sj_up_ne (by omega), jSu_ne e]; exact hJB j hj)
        · refine sj_goto 79 dX1_goOn_41 (by decide) ?_
          refine sj_inc4 (by decide) rfl dX1_goOn_79 ?_
          refine sj_goto 3 dX1_goOn_82 (by decide) ?_
          refine sj_fg6 (sj_fg5 ?_)
          first
           | exact ih (c + 1) _ (by omega) hJ (by rw [no (by omega)]; exact hJB)
           | exact ih (c + 1) _ (by omega) (fun q hq => by rw [sj_up_row hq]; exact hJ q hq) (fun j hj => by
              rw [yes (by omega) (by omega)]
              by_cases e : j = 8 * (set ||| 2 ^ c) + c
              · subst e
                rw [sj_up_self]
                by_cases e2 : jOxs (jSo F (-1000000)) set b sum c B (8 * (set ||| 2 ^ c) + c) < sum + F (8 * b + c)
                · rw [if_pos e2, jSu_lt e2]
                · rw [if_neg e2, jSu_ge e2]
              · rw [sj_up_ne (by omega), jSu_ne e]; exact hJB j hj)
  refine sj_iconst dX1_goOn_0 ?_
  refine sj_ist4 (by decide) rfl dX1_goOn_1 ?_
  exact lp 8 0 I (by omega) (fun _ _ => rfl) hB
theorem cx1_findSteps {y e : Nat} {M : Int} {τ : Nat → Option Nat} {E : Nat → Option (List Int)} (hS : ySh σ y) (he : eqn σ I e M τ) (ht : te σ I τ E) (hP : ∀ b T, E b = some T → ∀ c ∈ T, c ≠ 122 ∧ c ≠ 101 ∧ c ≠ 111) : sj_Con l yX1_findSteps mX1_findSteps G σ I [.ref y, .ref e] (fun v σ' I' => v = none ∧ σ = σ' ∧ (∀ q, q ≠ y + 1 → q ≠ y + 2 → I' q = I q) ∧ ∀ j, j < 64 → I' (y + 2) j = jFs E 8 (fun _ => -1000000) j) := by
  obtain ⟨s0, s1, s2, s3⟩ := id hS
  obtain ⟨e0, e1, e2⟩ := he
  have hel : jEl E := fun a T hT => by
    by_cases ha : a < 8
    · rcases ht.2 a ha with ⟨_, q⟩ | ⟨t, U, _, q, q3⟩
      · rw [q] at hT; cases hT
      · rw [q] at hT; cases hT; exact q3.2.2.2.2.2.2
    · rw [ht.1 a (by omega)] at hT; cases hT
  refine sj_con_of (L0 := [some (.ref y), some (.ref e), none, none, none, none, none, none, none]) (by decide) rfl rfl rfl (Nat.le_of_ble_eq_true rfl) rfl (fun Γ => ?_)
  have lp : ∀ (d b : Nat) (J : sjI), b + d = 8 → (∀ q, q ≠ y + 1 → q ≠ y + 2 → J q = I q) → (∀ j, j < 64 → J (y + 2) j = jFs E b (fun _ => -1000000) j) → sj_V l Γ mX1_findSteps G (fun v σ' I' => v = none ∧ σ = σ' ∧ (∀ q, q ≠ y + 1 → q ≠ y + 2 → I' q = I q) ∧ ∀ j, j < 64 → I' (y + 2) j = jFs E 8 (fun _ => -1000000) j) σ J 0 0 11 [some (.ref y), some (.ref e), some (.int (zI b)), none, none, none, none, none, none] [] := by
    intro d
    induction d with
    | zero =>
      intro b J hb hJ hJF
      have hb1 : b = 8 := by omega
      subst hb1
      refine sj_ild2 dX1_findSteps_11 ?_
      refine sj_bipush dX1_findSteps_12 (by decide) ?_
      refine sj_icmp_ge 113 dX1_findSteps_14 (by decide) (by omega) (by omega) (fun c_14 => ?_) (fun c_14 => ?_)
      rotate_left
      · (exfalso; omega)
      exact sj_vret dX1_findSteps_113 rfl (Nat.le_of_ble_eq_true rfl) (Nat.le_of_ble_eq_true rfl) ⟨rfl, rfl, hJ, hJF⟩
    | succ d ih =>
      intro b J hb hJ hJF
      rcases ht.2 b (by omega) with ⟨hv, hE⟩ | ⟨t, T, hv, hE, htm⟩
      · refine sj_ild2 dX1_findSteps_11 ?_
        refine sj_bipush dX1_findSteps_12 (by decide) ?_
        refine sj_icmp_ge 113 dX1_findSteps_14 (by decide) (by omega) (by omega) (fun c_14 => ?_) (fun c_14 => ?_)
        · (exfalso; omega)
        refine sj_ald1 dX1_findSteps_17 ?_
        refine sj_getR fl_X1_42 (by assumption) rfl (eR_1 _) dX1_findSteps_18 ?_
        refine sj_ild2 dX1_findSteps_21 ?_
        refine sj_aaldN rfl (by assumption) (by omega) (by decide) hv dX1_findSteps_22 ?_
        refine sj_astN3 (by decide) rfl dX1_findSteps_23 ?_
        refine sj_aldN3 dX1_findSteps_24 ?_
        refine sj_ifnonnullN dX1_findSteps_25 ?_
        refine sj_goto 107 dX1_findSteps_28 (by decide) ?_
        refine sj_inc2 (by decide) rfl dX1_findSteps_107 ?_
        refine sj_goto 11 dX1_findSteps_110 (by decide) ?_
        exact sj_fg3 (ih (b + 1) J (by omega) hJ (fun j hj => by
          rw [hJF j hj]
          show _ = jFd b (jMn ((E b).getD []) [0]) (jFs E b (fun _ => -1000000)) j
          rw [hE]; rfl))
      · have hoff := htm.offY hS
        have hn := htm.2.2.2.2.2.2
        have hok := htm.2.2.2.2.2.1
        have hml := jMs_len T 0
        have hgl : (jGx chS T [0]).length = T.length := jGx_len chS_len T [0] hok
        have hmz : jMn T [0] = jZl T (jGx chS T [0]) := jMn_zl T [0] hok (hP b T hE)
        have hmr : ∀ p ∈ jMn T [0], (65 ≤ p.1 ∧ p.1 ≤ 72) ∧ -120 ≤ p.2 ∧ p.2 ≤ 120 := by
          have := jEl_mn hel b
          rw [hE] at this
          exact this
        have t0 := htm.1.1
        have t3 := htm.1.2.2.2
        have lp2 : ∀ (d2 j : Nat) (K : sjI), j + d2 = (jMs T 0).length → (∀ q, q ≠ y + 1 → q ≠ y + 2 → K q = I q) → (∀ p, p < T.length → K (y + 1) p = (jGx chS T [0]).getD p 0) → (∀ i, i < 64 → K (y + 2) i = jFd b ((jMn T [0]).take j) (jFs E b (fun _ => -1000000)) i) → sj_V l Γ mX1_findSteps G (fun v σ' I' => v = none ∧ σ = σ' ∧ (∀ q, q ≠ y + 1 → q ≠ y + 2 → I' q = I q) ∧ ∀ j, j < 64 → I' (y + 2) j = jFs E 8 (fun _ => -1000000) j) σ K 0 0 50 [some (.ref y), some (.ref e), some (.int (zI b)), some (.ref t), some (.ref (t + 3)), some (.int (zI (jMs T 0).length)), some (.int (zI j)), none, none] [] := by
          intro d2
          induction d2 with
          | zero =>
            intro j K hj hK hK1 hKF
            refine sj_ild6 dX1_findSteps_50 ?_
            refine sj_ild5 dX1_findSteps_52 ?_
            refine sj_icmp_ge 107 dX1_findSteps_54 (by decide) (by omega) (by omega) (fun c_54 => ?_) (fun c_54 => ?_)
            rotate_left
            · (exfalso; omega)
            refine sj_inc2 (by decide) rfl dX1_findSteps_107 ?_
            refine sj_goto 11 dX1_findSteps_110 (by decide) ?_
            refine sj_fg6 (sj_fg5 (sj_fg4 (sj_fg3 ?_)))
            exact ih (b + 1) K (by omega) hK (fun i hi => by
              rw [hKF i hi, List.take_of_length_le (by rw [hmz, jZl_len hgl]; omega)]
              show _ = jFd b (jMn ((E b).getD []) [0]) (jFs E b (fun _ => -1000000)) i
              rw [hE]; rfl)
          | succ d2 ih2 =>
            intro j K hj hK hK1 hKF
            have htmK : tm σ K t T := htm.keep (fun q q1 q2 => ⟨rfl, hK q (by omega) (by omega)⟩)
            obtain ⟨p, hp1, hp2, hp3, hp4⟩ := htmK.mn (j := j) (by omega)
            have hzj := jZl_at hgl (j := j) (by omega)
            rw [hp1, ← hmz] at hzj
            obtain ⟨x, hx⟩ : ∃ x, (jGx chS T [0]).getD p 0 = x := ⟨_, rfl⟩
            rw [hx] at hzj
            have hmem := hmr _ (List.mem_of_getElem? hzj)
            obtain ⟨w, hw⟩ := jNat (a := T.getD p 0 - 65) (by omega)
            have hfr : jRel (-1000000) (jFd b ((jMn T [0]).take j) (jFs E b (fun _ => -1000000))) (8 * b + w) := jFd_rel (by omega) _ _ (fun q hq => (hmr q (List.mem_of_mem_take hq)).2) (jFs_rel hel (by omega) (Or.inl rfl) b)
            unfold jRel at hfr
            have hstp : jFd b ((jMn T [0]).take (j + 1)) (jFs E b (fun _ => -1000000)) = jSu (jFd b ((jMn T [0]).take j) (jFs E b (fun _ => -1000000))) (8 * b + w) x := by
              rw [take_some hzj, jFd_app]
              show jSu _ (8 * b + (T.getD p 0 - 65).toNat) x = _
              rw [hw]; rfl
            have hK2 := hKF (8 * b + w) (by omega)
            have hx2 := hK1 p hp3
            refine sj_ild6 dX1_findSteps_50 ?_
            refine sj_ild5 dX1_findSteps_52 ?_
            refine sj_icmp_ge 107 dX1_findSteps_54 (by decide) (by omega) (by omega) (fun c_54 => ?_) (fun c_54 => ?_)
            · (exfalso; omega)
            refine sj_ald4 dX1_findSteps_57 ?_
            refine sj_ild6 dX1_findSteps_59 ?_
            refine sj_ialdJ (j) (by assumption) (by omega) (by omega) (by omega) dX1_findSteps_61 ?_
            rw [hp2]
            refine sj_ist7 (by decide) rfl dX1_findSteps_62 ?_
            refine sj_ild2 dX1_findSteps_64 ?_
            refine sj_bipush dX1_findSteps_65 (by decide) ?_
            refine sj_imul dX1_findSteps_67 ?_
            refine sj_ald3 dX1_findSteps_68 ?_
            refine sj_ild7 dX1_findSteps_69 ?_
            refine sj_callV (cx5_streamAt htmK hp3) kc_X1_57 (by assumption) rfl rfl rfl rfl (Nat.le_of_ble_eq_true rfl) dX1_findSteps_71 (fun r_71 σ_71 I_71 hp_71 => ?_)
            obtain ⟨rfl, rfl, rfl⟩ := hp_71
            rw [hw]
            refine sj_iadd dX1_findSteps_74 ?_
            refine sj_ist8 (by decide) rfl dX1_findSteps_75 ?_
            refine sj_ald0 dX1_findSteps_77 ?_
            refine sj_getR fl_X1_15 (by assumption) rfl (yR_1 _) dX1_findSteps_78 ?_
            refine sj_ild8 dX1_findSteps_81 ?_
            refine sj_ald0 dX1_findSteps_83 ?_
            refine sj_getR fl_X1_15 (by assumption) rfl (yR_1 _) dX1_findSteps_84 ?_
            refine sj_ild8 dX1_findSteps_87 ?_
            refine sj_ialdJ (8 * b + w) (by assumption) (by omega) (by omega) (by omega) dX1_findSteps_89 ?_
            rw [hK2]
            refine sj_ald0 dX1_findSteps_90 ?_
            refine sj_getR fl_X1_9 (by assumption) rfl (yR_0 _) dX1_findSteps_91 ?_
            refine sj_ild7 dX1_findSteps_94 ?_
            refine sj_ialdJ (p) (by assumption) (by omega) (by omega) (by omega) dX1_findSteps_96 ?_
            rw [hx2, hx]
            refine sj_max km_X1_32 wo_max.1 wo_max.2.1 wo_max.2.2 (by decide) (Nat.le_of_ble_eq_true rfl) (Nat.le_of_ble_eq_true rfl) (Nat.le_of_ble_eq_true rfl) (by omega) (by omega) dX1_findSteps_97 ?_
            rw [max_ite]
            refine sj_iastJ (8 * b + w) (by assumption) (by omega) (by omega) (by omega) dX1_findSteps_100 ?_
            refine sj_inc6 (by decide) rfl dX1_findSteps_101 ?_
            refine sj_goto 50 dX1_findSteps_104 (by decide) ?_
            refine sj_fg8 (sj_fg7 ?_)
            exact ih2 (j + 1) _ (by omega) (fun q q1 q2 => by rw [sj_up_row q2]; exact hK q q1 q2) (fun q hq => by rw [sj_up_ne (by omega)]; exact hK1 q hq) (fun i hi => by
              rw [hstp]
              by_cases e : i = 8 * b + w
              · subst e
                rw [sj_up_self]
                by_cases e2 : jFd b ((jMn T [0]).take j) (jFs E b (fun _ => -1000000)) (8 * b + w) < x
                · rw [if_pos e2, jSu_lt e2]
                · rw [if_neg e2, jSu_ge e2]
              · rw [sj_up_ne (by omega), jSu_ne e]; exact hKF i hi)
        have htmJ : tm σ J t T := htm.keep (fun q q1 q2 => ⟨rfl, hJ q (by omega) (by omega)⟩)
        refine sj_ild2 dX1_findSteps_11 ?_
        refine sj_bipush dX1_findSteps_12 (by decide) ?_
        refine sj_icmp_ge 113 dX1_findSteps_14 (by decide) (by omega) (by omega) (fun c_14 => ?_) (fun c_14 => ?_)
        · (exfalso; omega)
        refine sj_ald1 dX1_findSteps_17 ?_
        refine sj_getR fl_X1_42 (by assumption) rfl (eR_1 _) dX1_findSteps_18 ?_
        refine sj_ild2 dX1_findSteps_21 ?_
        refine sj_aald rfl (by assumption) (by omega) (by decide) hv dX1_findSteps_22 ?_
        refine sj_ast3 (by decide) rfl dX1_findSteps_23 ?_
        refine sj_ald3 dX1_findSteps_24 ?_
        refine sj_ifnonnull 31 dX1_findSteps_25 (by decide) ?_
        refine sj_ald0 dX1_findSteps_31 ?_
        refine sj_ald3 dX1_findSteps_32 ?_
        refine sj_callV (cx1_findShifts hS htmJ) kc_X1_48 (by assumption) rfl rfl rfl rfl (Nat.le_of_ble_eq_true rfl) dX1_findSteps_33 (fun r_33 σ_33 I_33 hp_33 => ?_)
        obtain ⟨rfl, rfl, x1, x2⟩ := hp_33
        refine sj_ald3 dX1_findSteps_36 ?_
        refine sj_getR fl_X1_52 (by assumption) rfl (tR_3 _) dX1_findSteps_37 ?_
        refine sj_ast4 (by decide) rfl dX1_findSteps_40 ?_
        refine sj_ald4 dX1_findSteps_42 ?_
        refine sj_alen (by assumption) (by decide) dX1_findSteps_44 ?_
        refine sj_ist5 (by decide) rfl dX1_findSteps_45 ?_
        refine sj_iconst dX1_findSteps_47 ?_
        refine sj_ist6 (by decide) rfl dX1_findSteps_48 ?_
        exact lp2 (jMs T 0).length 0 _ (by omega) (fun q q1 q2 => by rw [x1 q q1]; exact hJ q q1 q2) x2 (fun i hi => by rw [x1 (y + 2) (by omega)]; exact hJF i hi)
  refine sj_ald0 dX1_findSteps_0 ?_
  refine sj_getR fl_X1_15 (by assumption) rfl (yR_1 _) dX1_findSteps_1 ?_
  refine sj_ldc kd_X1_25 dX1_findSteps_4 ?_
  refine sj_callS (cJ_fill s2 (by decide)) kc_X1_26 rfl rfl (Nat.le_of_ble_eq_true rfl) dX1_findSteps_6 (fun r_6 σ_6 I_6 hp_6 => ?_)
  obtain ⟨rfl, rfl, x1, x2⟩ := hp_6
  refine sj_iconst dX1_findSteps_9 ?_
  refine sj_ist2 (by decide) rfl dX1_findSteps_10 ?_
  exact lp 8 0 _ (by omega) (fun q _ q2 => x1 q q2) x2
theorem cx1_greatestThrough {y e a : Nat} {M : Int} {τ : Nat → Option Nat} {E : Nat → Option (List Int)} (hS : ySh σ y) (he : eqn σ I e M τ) (ht : te σ I τ E) (hP : ∀ b T, E b = some T → ∀ c ∈ T, c ≠ 122 ∧ c ≠ 101 ∧ c ≠ 111) (ha : a < 8) : sj_Con l yX1_greatestThrough mX1_greatestThrough G σ I [.ref y, .ref e, .int (zI a)] (fun v σ' I' => v = some (.int (zI (if jCy (jSt E) a = -1000000 then -9 else jCy (jSt E) a + 1000))) ∧ σ = σ' ∧ ∀ q, q ≠ y + 1 → q ≠ y + 2 → q ≠ y + 3 → I' q = I q) := by
  obtain ⟨s0, s1, s2, s3⟩ := id hS
  have hel : jEl E := fun a T hT => by
    by_cases ha : a < 8
    · rcases ht.2 a ha with ⟨_, q⟩ | ⟨t, U, _, q, q3⟩
      · rw [q] at hT; cases hT
      · rw [q] at hT; cases hT; exact q3.2.2.2.2.2.2
    · rw [ht.1 a (by omega)] at hT; cases hT
  have hsr := jSt_r hel
  have hFr : ∀ j, jFs E 8 (fun _ => -1000000) j = -1000000 ∨ (-120 ≤ jFs E 8 (fun _ => -1000000) j ∧ jFs E 8 (fun _ => -1000000) j ≤ 120) := fun j => jFs_rel hel (z := -1000000) (by omega) (j := j) (f := fun _ => -1000000) (Or.inl rfl) 8
  have h0 := jB0_bd ha
  refine sj_con_of (L0 := [some (.ref y), some (.ref e), some (.int (zI a)), none, none, none, none, none]) (by decide) rfl rfl rfl (Nat.le_of_ble_eq_true rfl) rfl (fun Γ => ?_)
  have lp4 : ∀ (d set : Nat) (J : sjI), set + d = 256 → (∀ q, q ≠ y + 1 → q ≠ y + 2 → q ≠ y + 3 → J q = I q) → (∀ j, j < 64 → J (y + 2) j = jFs E 8 (fun _ => -1000000) j) → (∀ j, j < 2048 → J (y + 3) j = (jB3 (jSt E) a set (jB0 a, -1000000)).1 j) → sj_V l Γ mX1_greatestThrough G (fun v σ' I' => v = some (.int (zI (if jCy (jSt E) a = -1000000 then -9 else jCy (jSt E) a + 1000))) ∧ σ = σ' ∧ ∀ q, q ≠ y + 1 → q ≠ y + 2 → q ≠ y + 3 → I' q = I q) σ J 0 0 34 [some (.ref y), some (.ref e), some (.int (zI a)), some (.int (zI (jCn (jSt E) a set))), some (.int (zI set)), none, none, none] [] := by
    intro d
    induction d with
    | zero =>
      intro set J hset hJ hJF hJB
      have hs1 : set = 256 := by omega
      have hcr := jCn_rng hsr ha (n := set) (by omega)
      have hcy : jCy (jSt E) a = jCn (jSt E) a set := by rw [hs1]; rfl
      rw [hcy]
      generalize jCn (jSt E) a set = x at *
      refine sj_ild4 dX1_greatestThrough_34 ?_
      refine sj_sipush dX1_greatestThrough_36 (by decide) ?_
      refine sj_icmp_ge 130 dX1_greatestThrough_39 (by decide) (by omega) (by omega) (fun c_39 => ?_) (fun c_39 => ?_)
      rotate_left
      · (exfalso; omega)
      refine sj_ild3 dX1_greatestThrough_130 ?_
      refine sj_ldc kd_X1_25 dX1_greatestThrough_131 ?_
      refine sj_icmp_ne 141 dX1_greatestThrough_133 (by decide) (by omega) (by omega) (fun c_133 => ?_) (fun c_133 => ?_)
      · refine sj_ild3 dX1_greatestThrough_141 ?_
        refine sj_sipush dX1_greatestThrough_142 (by decide) ?_
        refine sj_iadd dX1_greatestThrough_145 ?_
        exact sj_iret dX1_greatestThrough_146 rfl rfl (Nat.le_of_ble_eq_true rfl) (Nat.le_of_ble_eq_true rfl) ⟨by first | rw [if_pos (by omega)] | rw [if_neg (by omega)], rfl, hJ⟩
      · refine sj_bipush dX1_greatestThrough_136 (by decide) ?_
        refine sj_goto 146 dX1_greatestThrough_138 (by decide) ?_
        exact sj_iret dX1_greatestThrough_146 rfl rfl (Nat.le_of_ble_eq_true rfl) (Nat.le_of_ble_eq_true rfl) ⟨by first | rw [if_pos (by omega)] | rw [if_neg (by omega)], rfl, hJ⟩
    | succ d ih =>
      intro set J hset hJ hJF hJB
      have hbd3 := jB3_bd hsr h0 ha set (by omega)
      have hst3 : jB3 (jSt E) a (set + 1) (jB0 a, -1000000) = jB2 (jSt E) a set 8 (jB3 (jSt E) a set (jB0 a, -1000000)) := rfl
      have lp5 : ∀ (u b : Nat) (K : sjI), b + u = 8 → (∀ q, q ≠ y + 1 → q ≠ y + 2 → q ≠ y + 3 → K q = I q) → (∀ j, j < 64 → K (y + 2) j = jFs E 8 (fun _ => -1000000) j) → (∀ j, j < 2048 → K (y + 3) j = (jB2 (jSt E) a set b (jB3 (jSt E) a set (jB0 a, -1000000))).1 j) → sj_V l Γ mX1_greatestThrough G (fun v σ' I' => v = some (.int (zI (if jCy (jSt E) a = -1000000 then -9 else jCy (jSt E) a + 1000))) ∧ σ = σ' ∧ ∀ q, q ≠ y + 1 → q ≠ y + 2 → q ≠ y + 3 → I' q = I q) σ K 0 0 45 [some (.ref y), some (.ref e), some (.int (zI a)), some (.int (zI (jB2 (jSt E) a set b (jB3 (jSt E) a set (jB0 a, -1000000))).2)), some (.int (zI set)), some (.int (zI b)), none, none] [] := by
        intro u
        induction u with
        | zero =>
          intro b K hb hK hKF hKB
          have hb1 : b = 8 := by omega
          subst hb1
          refine sj_ild5 dX1_greatestThrough_45 ?_
          refine sj_bipush dX1_greatestThrough_47 (by decide) ?_
          refine sj_icmp_ge 124 dX1_greatestThrough_49 (by decide) (by omega) (by omega) (fun c_49 => ?_) (fun c_49 => ?_)
          rotate_left
          · (exfalso; omega)
          refine sj_inc4 (by decide) rfl dX1_greatestThrough_124 ?_
          refine sj_goto 34 dX1_greatestThrough_127 (by decide) ?_
          have h := ih (set + 1) K (by omega) hK hKF (fun j hj => by rw [hst3]; exact hKB j hj)
          rw [show jCn (jSt E) a (set + 1) = (jB2 (jSt E) a set 8 (jB3 (jSt E) a set (jB0 a, -1000000))).2 by unfold jCn; rw [hst3]] at h
          exact sj_fg5 h
        | succ u ih2 =>
          intro b K hb hK hKF hKB
          have hbd2 := jB2_bd (set := set) hsr hbd3 ha (by omega) b (by omega)
          have hstep : jB2 (jSt E) a set (b + 1) (jB3 (jSt E) a set (jB0 a, -1000000)) = jB1 (jSt E) a set b (jB2 (jSt E) a set b (jB3 (jSt E) a set (jB0 a, -1000000))) := rfl
          generalize jB2 (jSt E) a set b (jB3 (jSt E) a set (jB0 a, -1000000)) = P at *
          have hsum := hbd2.1 set b (by omega) (by omega)
          have hmost := hbd2.2
          have hKs := hKB (8 * set + b) (by omega)
          have hfr := hFr (8 * b + a)
          have skip : P.1 (8 * set + b) = -1000000 → jB2 (jSt E) a set (b + 1) (jB3 (jSt E) a set (jB0 a, -1000000)) = P := fun h => by rw [hstep, jB1, if_pos h]
          have go : ∀ z : Int, P.1 (8 * set + b) ≠ -1000000 → z = (if jFs E 8 (fun _ => -1000000) (8 * b + a) = -1000000 then P.2 else if P.2 < P.1 (8 * set + b) + jFs E 8 (fun _ => -1000000) (8 * b + a) then P.1 (8 * set + b) + jFs E 8 (fun _ => -1000000) (8 * b + a) else P.2) → ∀ v7 : Option Value, sj_V l Γ mX1_greatestThrough G (fun v σ' I' => v = some (.int (zI (if jCy (jSt E) a = -1000000 then -9 else jCy (jSt E) a + 1000))) ∧ σ = σ' ∧ ∀ q, q ≠ y + 1 → q ≠ y + 2 → q ≠ y + 3 → I' q = I q) σ K 0 0 108 [some (.ref y), some (.ref e), some (.int (zI a)), some (.int (zI z)), some (.int (zI set)), some (.int (zI b)), some (.int (zI (P.1 (8 * set + b)))), v7] [] := by
            intro z hne hz v7
            have hnew : jB2 (jSt E) a set (b + 1) (jB3 (jSt E) a set (jB0 a, -1000000)) = (jOxs (jSt E) set b (P.1 (8 * set + b)) 8 P.1, z) := by
              rw [hstep, jB1, if_neg hne, hz]
              congr 1
              rw [← jSo_two hel]
              unfold jSo
              by_cases e1 : jFs E 8 (fun _ => -1000000) (8 * b + a) = -1000000
              · rw [if_pos e1, if_pos e1]
              · rw [if_neg e1, if_neg e1]
            refine sj_ald0 dX1_greatestThrough_108 ?_
            refine sj_ild4 dX1_greatestThrough_109 ?_
            refine sj_ild5 dX1_greatestThrough_111 ?_
            refine sj_ild6 dX1_greatestThrough_113 ?_
            refine sj_callV (cx1_goOn (set := set) (b := b) (F := jFs E 8 (fun _ => -1000000)) (B := P.1) hS (by omega) (by omega) (by omega) hKF (fun j _ => hFr j) hKB hbd2.1) kc_X1_38 (by assumption) rfl rfl rfl rfl (Nat.le_of_ble_eq_true rfl) dX1_greatestThrough_115 (fun r_115 σ_115 I_115 hp_115 => ?_)
            obtain ⟨rfl, rfl, x1, x2⟩ := hp_115
            rw [jSo_two hel] at x2
            refine sj_inc5 (by decide) rfl dX1_greatestThrough_118 ?_
            refine sj_goto 45 dX1_greatestThrough_121 (by decide) ?_
            refine sj_fg7 (sj_fg6 ?_)
            have h := ih2 (b + 1) I_115 (by omega) (fun q q1 q2 q3 => by rw [x1 q q3]; exact hK q q1 q2 q3) (fun j hj => by rw [x1 (y + 2) (by omega)]; exact hKF j hj) (fun j hj => by rw [hnew]; exact x2 j hj)
            rw [hnew] at h
            exact h
          refine sj_ild5 dX1_greatestThrough_45 ?_
          refine sj_bipush dX1_greatestThrough_47 (by decide) ?_
          refine sj_icmp_ge 124 dX1_greatestThrough_49 (by decide) (by omega) (by omega) (fun c_49 => ?_) (fun c_49 => ?_)
          · (exfalso; omega)
          refine sj_ald0 dX1_greatestThrough_52 ?_
          refine sj_getR fl_X1_18 (by assumption) rfl (yR_2 _) dX1_greatestThrough_53 ?_
          refine sj_ild4 dX1_greatestThrough_56 ?_
          refine sj_bipush dX1_greatestThrough_58 (by decide) ?_
          refine sj_imul dX1_greatestThrough_60 ?_
          refine sj_ild5 dX1_greatestThrough_61 ?_
          refine sj_iadd dX1_greatestThrough_63 ?_
          refine sj_ialdJ (8 * set + b) (by assumption) (by omega) (by omega) (by omega) dX1_greatestThrough_64 ?_
          rw [hKs]
          refine sj_ist6 (by decide) rfl dX1_greatestThrough_65 ?_
          refine sj_ald0 dX1_greatestThrough_67 ?_
          refine sj_getR fl_X1_15 (by assumption) rfl (yR_1 _) dX1_greatestThrough_68 ?_
          refine sj_ild5 dX1_greatestThrough_71 ?_
          refine sj_bipush dX1_greatestThrough_73 (by decide) ?_
          refine sj_imul dX1_greatestThrough_75 ?_
          refine sj_ild2 dX1_greatestThrough_76 ?_
          refine sj_iadd dX1_greatestThrough_77 ?_
          refine sj_ialdJ (8 * b + a) (by assumption) (by omega) (by omega) (by omega) dX1_greatestThrough_78 ?_
          rw [hKF _ (by omega)]
          refine sj_ist7 (by decide) rfl dX1_greatestThrough_79 ?_
          refine sj_ild6 dX1_greatestThrough_81 ?_
          refine sj_ldc kd_X1_25 dX1_greatestThrough_83 ?_
          refine sj_icmp_ne 91 dX1_greatestThrough_85 (by decide) (by omega) (by omega) (fun c_85 => ?_) (fun c_85 => ?_)
          · refine sj_ild7 dX1_greatestThrough_91 ?_
            refine sj_ldc kd_X1_25 dX1_greatestThrough_93 ?_
            refine sj_icmp_eq 108 dX1_greatestThrough_95 (by decide) (by omega) (by omega) (fun c_95 => ?_) (fun c_95 => ?_)
            · exact go _ (by omega) (by first | exact (if_pos (show jFs E 8 (fun _ => -1000000) (8 * b + a) = -1000000 by omega)).symm | exact (if_neg (show ¬ jFs E 8 (fun _ => -1000000) (8 * b + a) = -1000000 by omega)).symm) _
            · refine sj_ild3 dX1_greatestThrough_98 ?_
              refine sj_ild6 dX1_greatestThrough_99 ?_
              refine sj_ild7 dX1_greatestThrough_101 ?_
              refine sj_iadd dX1_greatestThrough_103 ?_
              refine sj_max km_X1_32 wo_max.1 wo_max.2.1 wo_max.2.2 (by decide) (Nat.le_of_ble_eq_true rfl) (Nat.le_of_ble_eq_true rfl) (Nat.le_of_ble_eq_true rfl) (by omega) (by omega) dX1_greatestThrough_104 ?_
              rw [max_ite]
              refine sj_ist3 (by decide) rfl dX1_greatestThrough_107 ?_
              exact go _ (by omega) (by first | exact (if_pos (show jFs E 8 (fun _ => -1000000) (8 * b + a) = -1000000 by omega)).symm | exact (if_neg (show ¬ jFs E 8 (fun _ => -1000000) (8 * b + a) = -1000000 by omega)).symm) _
          · refine sj_goto 118 dX1_greatestThrough_88 (by decide) ?_
            refine sj_inc5 (by decide) rfl dX1_greatestThrough_118 ?_
            refine sj_goto 45 dX1_greatestThrough_121 (by decide) ?_
            refine sj_fg7 (sj_fg6 ?_)
            have h := ih2 (b + 1) K (by omega) hK hKF (fun j hj => by rw [skip (by omega)]; exact hKB j hj)
            rw [skip (by omega)] at h
            exact h
      refine sj_ild4 dX1_greatestThrough_34 ?_
      refine sj_sipush dX1_greatestThrough_36 (by decide) ?_
      refine sj_icmp_ge 130 dX1_greatestThrough_39 (by decide) (by omega) (by omega) (fun c_39 => ?_) (fun c_39 => ?_)
      · (exfalso; omega)
      refine sj_iconst dX1_greatestThrough_42 ?_
      refine sj_ist5 (by decide) rfl dX1_greatestThrough_43 ?_
      exact lp5 8 0 J (by omega) hJ hJF hJB
  have hpw : 2 ^ a ≤ 2 ^ 7 := Nat.pow_le_pow_right (by decide) (by omega)
  have hpw0 : 0 < 2 ^ a := Nat.two_pow_pos a
  refine sj_ald0 dX1_greatestThrough_0 ?_
  refine sj_ald1 dX1_greatestThrough_1 ?_
  refine sj_callV (cx1_findSteps hS he ht hP) kc_X1_21 (by assumption) rfl rfl rfl rfl (Nat.le_of_ble_eq_true rfl) dX1_greatestThrough_2 (fun r_2 σ_2 I_2 hp_2 => ?_)
  obtain ⟨rfl, rfl, x1, x2⟩ := hp_2
  refine sj_ald0 dX1_greatestThrough_5 ?_
  refine sj_getR fl_X1_18 (by assumption) rfl (yR_2 _) dX1_greatestThrough_6 ?_
  refine sj_ldc kd_X1_25 dX1_greatestThrough_9 ?_
  refine sj_callS (cJ_fill s3 (by decide)) kc_X1_26 rfl rfl (Nat.le_of_ble_eq_true rfl) dX1_greatestThrough_11 (fun r_11 σ_11 I_11 hp_11 => ?_)
  obtain ⟨rfl, rfl, x3, x4⟩ := hp_11
  refine sj_ald0 dX1_greatestThrough_14 ?_
  refine sj_getR fl_X1_18 (by assumption) rfl (yR_2 _) dX1_greatestThrough_15 ?_
  refine sj_iconst dX1_greatestThrough_18 ?_
  refine sj_ild2 dX1_greatestThrough_19 ?_
  refine sj_ishl dX1_greatestThrough_20 (zI_shl1 a (by omega)) ?_
  refine sj_bipush dX1_greatestThrough_21 (by decide) ?_
  refine sj_imul dX1_greatestThrough_23 ?_
  refine sj_ild2 dX1_greatestThrough_24 ?_
  refine sj_iadd dX1_greatestThrough_25 ?_
  refine sj_iconst dX1_greatestThrough_26 ?_
  refine sj_iastJ (8 * 2 ^ a + a) (by assumption) (by omega) (by omega) (by omega) dX1_greatestThrough_27 ?_
  refine sj_ldc kd_X1_25 dX1_greatestThrough_28 ?_
  refine sj_ist3 (by decide) rfl dX1_greatestThrough_30 ?_
  refine sj_iconst dX1_greatestThrough_31 ?_
  refine sj_ist4 (by decide) rfl dX1_greatestThrough_32 ?_
  have h := lp4 255 1 (sj_up I_11 (y + 3) (8 * 2 ^ a + a) 0) (by omega) (fun q q1 q2 q3 => by rw [sj_up_row q3, x3 q q3]; exact x1 q q1 q2) (fun j hj => by rw [sj_up_ne (by omega), x3 (y + 2) (by omega)]; exact x2 j hj) (fun j hj => by
    rw [jB3_one]
    show _ = jB0 a j
    unfold jB0
    by_cases q : j = 8 * 2 ^ a + a
    · rw [if_pos q, q, sj_up_self]
    · rw [if_neg q, sj_up_ne (by omega)]; exact x4 j hj)
  rw [show jCn (jSt E) a 1 = -1000000 by unfold jCn; rw [jB3_one]] at h
  exact h
end CYCLES2
