theorem mEq.el {f : Nat → Int} {E : Nat → Option (List Int)} (hE : mEq f E) : jEl E := by
  intro a T h
  by_cases ha : a < 8
  · rcases hE.2 a ha with ⟨e1, _⟩ | ⟨U, e1, _, _, _, e5⟩
    · rw [e1] at h; cases h
    · rw [e1] at h; cases h; exact e5
  · rw [hE.1 a (by omega)] at h; cases h
theorem mEq.by8 {f : Nat → Int} {E : Nat → Option (List Int)} (hE : mEq f E) {a : Nat} (ha : a < 8) : mB f a = jEnc ((E a).getD []) ∧ ((E a).getD [] ≠ [] → jOk 1 ((E a).getD [])) := by
  rcases hE.2 a ha with ⟨e1, e2⟩ | ⟨U, e1, _, e3, e4, e5⟩
  · rw [e1]
    exact ⟨by unfold mB; rw [e2]; rfl, fun h => absurd rfl h⟩
  · rw [e1]
    exact ⟨e3, fun _ => e4⟩
theorem jCn_rng {st : Nat → Nat → Option Int} (hst : jSr st) {a : Nat} (ha : a < 8) {n : Nat} (hn : n ≤ 256) : jCn st a n = -1000000 ∨ (-31000 ≤ jCn st a n ∧ jCn st a n ≤ 31000) := (jB3_bd hst (jB0_bd ha) ha n hn).2
theorem jCy_rng {st : Nat → Nat → Option Int} (hst : jSr st) {a : Nat} (ha : a < 8) : jCy st a = -1000000 ∨ (-31000 ≤ jCy st a ∧ jCy st a ≤ 31000) := jCn_rng hst ha (Nat.le_refl _)
theorem jb1 {P : Prop} [Decidable P] (h : ¬ (if P then (1 : Int) else 0) = 0) : P := by
  by_cases e : P
  · exact e
  · rw [if_neg e] at h; exact absurd rfl h
theorem jb0 {P : Prop} [Decidable P] (h : (if P then (1 : Int) else 0) = 0) : ¬ P := by
  intro e
  rw [if_pos e] at h
  cases h
section MODEL33
variable {l : Launch} {G : sjG} {σ : sjS} {I : sjI}
theorem cm_greatestCycle {o a : Nat} {E : Nat → Option (List Int)} (hS : mSh σ o) (ha : a < 8) (hW : mW (I (o + 1))) (hE : mEq (I (o + 1)) E) (hP : ∀ b T, E b = some T → ∀ c ∈ T, c ≠ 122 ∧ c ≠ 101 ∧ c ≠ 111) : sj_Con l yX10_greatestCycle mX10_greatestCycle G σ I [.ref o, .int (zI a)] (fun r σ' I' => r = some (.int (zI (jCy (jSt E) a))) ∧ σ = σ' ∧ ∀ q, q ≠ o + 15 → q ≠ o + 16 → q ≠ o + 17 → I' q = I q) := by
  obtain ⟨h_o, h_w, h_past, h_images, h_text, h_read, h_made, h_old, h_values, h_ranks, h_operator, h_indexAt, h_second, h_first, h_needed, h_shifts, h_around, h_best, h_isNeeded, h_toSee, h_held, h_there⟩ := id hS
  refine sj_con_of (L0 := [some (.ref o), some (.int (zI a)), none, none, none, none, none]) (by decide) rfl rfl rfl (Nat.le_of_ble_eq_true rfl) rfl (fun Γ => ?_)
  have hel := hE.el
  have hsr := jSt_r hel
  have hFr : ∀ j, jFs E 8 (fun _ => -1000) j = -1000 ∨ (-120 ≤ jFs E 8 (fun _ => -1000) j ∧ jFs E 8 (fun _ => -1000) j ≤ 120) := fun j => jFs_rel hel (z := -1000) (by omega) (j := j) (f := fun _ => -1000) (Or.inl rfl) 8
  have h0 := jB0_bd ha
  have lp4 : ∀ (d set : Nat) (J : sjI), set + d = 256 → (∀ q, q ≠ o + 15 → q ≠ o + 16 → q ≠ o + 17 → J q = I q) → (∀ j, j < 64 → J (o + 15) j = jFs E 8 (fun _ => -1000) j) → (∀ j, j < 2048 → J (o + 17) j = (jB3 (jSt E) a set (jB0 a, -1000000)).1 j) → sj_V l Γ mX10_greatestCycle G (fun r σ' I' => r = some (.int (zI (jCy (jSt E) a))) ∧ σ = σ' ∧ ∀ q, q ≠ o + 15 → q ≠ o + 16 → q ≠ o + 17 → I' q = I q) σ J 0 0 84 [some (.ref o), some (.int (zI a)), some (.int (zI (jCn (jSt E) a set))), some (.int (zI set)), none, none, none] [] := by
    intro d
    induction d with
    | zero =>
      intro set J hset hJ hJF hJB
      have hs1 : set = 256 := by omega
      subst hs1
      refine sj_ild3 dX10_greatestCycle_84 ?_
      refine sj_sipush dX10_greatestCycle_85 (by decide) ?_
      refine sj_icmp_ge 184 dX10_greatestCycle_88 (by decide) (by omega) (by omega) (fun c_88 => ?_) (fun c_88 => ?_)
      rotate_left
      · exact absurd (by omega) c_88
      refine sj_ild2 dX10_greatestCycle_184 ?_
      exact sj_iret dX10_greatestCycle_185 rfl rfl (Nat.le_of_ble_eq_true rfl) (Nat.le_of_ble_eq_true rfl) ⟨rfl, rfl, hJ⟩
    | succ d ih =>
      intro set J hset hJ hJF hJB
      have hbd3 := jB3_bd hsr h0 ha set (by omega)
      have hst3 : jB3 (jSt E) a (set + 1) (jB0 a, -1000000) = jB2 (jSt E) a set 8 (jB3 (jSt E) a set (jB0 a, -1000000)) := rfl
      have lp5 : ∀ (e b : Nat) (K : sjI), b + e = 8 → (∀ q, q ≠ o + 15 → q ≠ o + 16 → q ≠ o + 17 → K q = I q) → (∀ j, j < 64 → K (o + 15) j = jFs E 8 (fun _ => -1000) j) → (∀ j, j < 2048 → K (o + 17) j = (jB2 (jSt E) a set b (jB3 (jSt E) a set (jB0 a, -1000000))).1 j) → sj_V l Γ mX10_greatestCycle G (fun r σ' I' => r = some (.int (zI (jCy (jSt E) a))) ∧ σ = σ' ∧ ∀ q, q ≠ o + 15 → q ≠ o + 16 → q ≠ o + 17 → I' q = I q) σ K 0 0 94 [some (.ref o), some (.int (zI a)), some (.int (zI (jB2 (jSt E) a set b (jB3 (jSt E) a set (jB0 a, -1000000))).2)), some (.int (zI set)), some (.int (zI b)), none, none] [] := by
        intro e
        induction e with
        | zero =>
          intro b K hb hK hKF hKB
          have hb1 : b = 8 := by omega
          subst hb1
          refine sj_ild4 dX10_greatestCycle_94 ?_
          refine sj_bipush dX10_greatestCycle_96 (by decide) ?_
          refine sj_icmp_ge 178 dX10_greatestCycle_98 (by decide) (by omega) (by omega) (fun c_98 => ?_) (fun c_98 => ?_)
          rotate_left
          · exact absurd (by omega) c_98
          refine sj_inc3 (by decide) rfl dX10_greatestCycle_178 ?_
          refine sj_goto 84 dX10_greatestCycle_181 (by decide) ?_
          have h := ih (set + 1) K (by omega) hK hKF (fun j hj => by rw [hst3]; exact hKB j hj)
          rw [show jCn (jSt E) a (set + 1) = (jB2 (jSt E) a set 8 (jB3 (jSt E) a set (jB0 a, -1000000))).2 by unfold jCn; rw [hst3]] at h
          exact sj_fg4 h
        | succ e ih2 =>
          intro b K hb hK hKF hKB
          have hbd2 := jB2_bd (set := set) hsr hbd3 ha (by omega) b (by omega)
          have hstep : jB2 (jSt E) a set (b + 1) (jB3 (jSt E) a set (jB0 a, -1000000)) = jB1 (jSt E) a set b (jB2 (jSt E) a set b (jB3 (jSt E) a set (jB0 a, -1000000))) := rfl
          generalize jB2 (jSt E) a set b (jB3 (jSt E) a set (jB0 a, -1000000)) = P at *
          have hsum := hbd2.1 set b (by omega) (by omega)
          have hmost := hbd2.2
          have hKs := hKB (8 * set + b) (by omega)
          have hfr := hFr (8 * b + a)
          have skip : P.1 (8 * set + b) = -1000000 → jB2 (jSt E) a set (b + 1) (jB3 (jSt E) a set (jB0 a, -1000000)) = P := fun h => by rw [hstep, jB1, if_pos h]
          have go : ∀ y : Int, P.1 (8 * set + b) ≠ -1000000 → y = (if jFs E 8 (fun _ => -1000) (8 * b + a) = -1000 then P.2 else if P.2 < P.1 (8 * set + b) + jFs E 8 (fun _ => -1000) (8 * b + a) then P.1 (8 * set + b) + jFs E 8 (fun _ => -1000) (8 * b + a) else P.2) → ∀ v6 : Option Value, sj_V l Γ mX10_greatestCycle G (fun r σ' I' => r = some (.int (zI (jCy (jSt E) a))) ∧ σ = σ' ∧ ∀ q, q ≠ o + 15 → q ≠ o + 16 → q ≠ o + 17 → I' q = I q) σ K 0 0 163 [some (.ref o), some (.int (zI a)), some (.int (zI y)), some (.int (zI set)), some (.int (zI b)), some (.int (zI (P.1 (8 * set + b)))), v6] [] := by
            intro y hne hy v6
            have hnew : jB2 (jSt E) a set (b + 1) (jB3 (jSt E) a set (jB0 a, -1000000)) = (jOxs (jSt E) set b (P.1 (8 * set + b)) 8 P.1, y) := by
              rw [hstep, jB1, if_neg hne, hy]
              congr 1
              unfold jSt jSo
              by_cases e1 : jFs E 8 (fun _ => -1000) (8 * b + a) = -1000
              · rw [if_pos e1, if_pos e1]
              · rw [if_neg e1, if_neg e1]
            refine sj_ald0 dX10_greatestCycle_163 ?_
            refine sj_ild3 dX10_greatestCycle_164 ?_
            refine sj_ild4 dX10_greatestCycle_165 ?_
            refine sj_ild5 dX10_greatestCycle_167 ?_
            refine sj_callV (cm_extend (set := set) (b := b) (F := jFs E 8 (fun _ => -1000)) (B := P.1) hS (by omega) (by omega) (by omega) hKF (fun j _ => hFr j) hKB hbd2.1) kc_X10_215 (by assumption) rfl rfl rfl rfl (Nat.le_of_ble_eq_true rfl) dX10_greatestCycle_169 (fun r_169 σ_169 I_169 hp_169 => ?_)
            obtain ⟨rfl, rfl, x1, x2⟩ := hp_169
            refine sj_inc4 (by decide) rfl dX10_greatestCycle_172 ?_
            refine sj_goto 94 dX10_greatestCycle_175 (by decide) ?_
            refine sj_fg6 (sj_fg5 ?_)
            have h := ih2 (b + 1) I_169 (by omega) (fun q e1 e2 e3 => by rw [x1 q e3]; exact hK q e1 e2 e3) (fun j hj => by rw [x1 (o + 15) (by omega)]; exact hKF j hj) (fun j hj => by rw [hnew]; exact x2 j hj)
            rw [hnew] at h
            exact h
          refine sj_ild4 dX10_greatestCycle_94 ?_
          refine sj_bipush dX10_greatestCycle_96 (by decide) ?_
          refine sj_icmp_ge 178 dX10_greatestCycle_98 (by decide) (by omega) (by omega) (fun c_98 => ?_) (fun c_98 => ?_)
          · exact absurd c_98 (by omega)
          refine sj_ald0 dX10_greatestCycle_101 ?_
          refine sj_getR fl_X10_58 (by assumption) rfl (mr_26 _) dX10_greatestCycle_102 ?_
          refine sj_bipush dX10_greatestCycle_105 (by decide) ?_
          refine sj_ild3 dX10_greatestCycle_107 ?_
          refine sj_imul dX10_greatestCycle_108 ?_
          refine sj_ild4 dX10_greatestCycle_109 ?_
          refine sj_iadd dX10_greatestCycle_111 ?_
          refine sj_ialdJ (8 * set + b) (by assumption) (by omega) (by omega) (by omega) dX10_greatestCycle_112 ?_
          rw [hKs]
          refine sj_ist5 (by decide) rfl dX10_greatestCycle_113 ?_
          refine sj_ild5 dX10_greatestCycle_115 ?_
          refine sj_ldc kd_X10_214 dX10_greatestCycle_117 ?_
          refine sj_icmp_le 172 dX10_greatestCycle_119 (by decide) (by omega) (by omega) (fun c_119 => ?_) (fun c_119 => ?_)
          · refine sj_inc4 (by decide) rfl dX10_greatestCycle_172 ?_
            refine sj_goto 94 dX10_greatestCycle_175 (by decide) ?_
            refine sj_fg5 ?_
            have h := ih2 (b + 1) K (by omega) hK hKF (fun j hj => by rw [skip (by omega)]; exact hKB j hj)
            rw [skip (by omega)] at h
            exact h
          · refine sj_ald0 dX10_greatestCycle_122 ?_
            refine sj_getR fl_X10_52 (by assumption) rfl (mr_24 _) dX10_greatestCycle_123 ?_
            refine sj_bipush dX10_greatestCycle_126 (by decide) ?_
            refine sj_ild4 dX10_greatestCycle_128 ?_
            refine sj_imul dX10_greatestCycle_130 ?_
            refine sj_ild1 dX10_greatestCycle_131 ?_
            refine sj_iadd dX10_greatestCycle_132 ?_
            refine sj_ialdJ (8 * b + a) (by assumption) (by omega) (by omega) (by omega) dX10_greatestCycle_133 ?_
            rw [hKF _ (by omega)]
            refine sj_ist6 (by decide) rfl dX10_greatestCycle_134 ?_
            refine sj_ild6 dX10_greatestCycle_136 ?_
            refine sj_sipush dX10_greatestCycle_138 (by decide) ?_
            refine sj_icmp_le 161 dX10_greatestCycle_141 (by decide) (by omega) (by omega) (fun c_141 => ?_) (fun c_141 => ?_)
            · refine sj_ild2 dX10_greatestCycle_161 ?_
              refine sj_ist2 (by decide) rfl dX10_greatestCycle_162 ?_
              exact go _ (by omega) (by first | rw [if_pos (by omega)] | rw [if_neg (by omega), if_pos (by omega)] | rw [if_neg (by omega), if_neg (by omega)]) _
            · refine sj_ild5 dX10_greatestCycle_144 ?_
              refine sj_ild6 dX10_greatestCycle_146 ?_
              refine sj_iadd dX10_greatestCycle_148 ?_
              refine sj_ild2 dX10_greatestCycle_149 ?_
              refine sj_icmp_le 161 dX10_greatestCycle_150 (by decide) (by omega) (by omega) (fun c_150 => ?_) (fun c_150 => ?_)
              · refine sj_ild2 dX10_greatestCycle_161 ?_
                refine sj_ist2 (by decide) rfl dX10_greatestCycle_162 ?_
                exact go _ (by omega) (by first | rw [if_pos (by omega)] | rw [if_neg (by omega), if_pos (by omega)] | rw [if_neg (by omega), if_neg (by omega)]) _
              · refine sj_ild5 dX10_greatestCycle_153 ?_
                refine sj_ild6 dX10_greatestCycle_155 ?_
                refine sj_iadd dX10_greatestCycle_157 ?_
                refine sj_goto 162 dX10_greatestCycle_158 (by decide) ?_
                refine sj_ist2 (by decide) rfl dX10_greatestCycle_162 ?_
                exact go _ (by omega) (by first | rw [if_pos (by omega)] | rw [if_neg (by omega), if_pos (by omega)] | rw [if_neg (by omega), if_neg (by omega)]) _
      refine sj_ild3 dX10_greatestCycle_84 ?_
      refine sj_sipush dX10_greatestCycle_85 (by decide) ?_
      refine sj_icmp_ge 184 dX10_greatestCycle_88 (by decide) (by omega) (by omega) (fun c_88 => ?_) (fun c_88 => ?_)
      · exact absurd c_88 (by omega)
      refine sj_iconst dX10_greatestCycle_91 ?_
      refine sj_ist4 (by decide) rfl dX10_greatestCycle_92 ?_
      exact lp5 8 0 J (by omega) hJ hJF hJB
  have lp3 : ∀ (d k : Nat) (J : sjI), k + d = 2048 → (∀ q, q ≠ o + 15 → q ≠ o + 16 → q ≠ o + 17 → J q = I q) → (∀ j, j < 64 → J (o + 15) j = jFs E 8 (fun _ => -1000) j) → (∀ j, j < k → J (o + 17) j = -1000000) → sj_V l Γ mX10_greatestCycle G (fun r σ' I' => r = some (.int (zI (jCy (jSt E) a))) ∧ σ = σ' ∧ ∀ q, q ≠ o + 15 → q ≠ o + 16 → q ≠ o + 17 → I' q = I q) σ J 0 0 44 [some (.ref o), some (.int (zI a)), some (.int (zI k)), none, none, none, none] [] := by
    intro d
    induction d with
    | zero =>
      intro k J hk hJ hJF hJB
      have hk1 : k = 2048 := by omega
      subst hk1
      have hpw : 2 ^ a ≤ 2 ^ 7 := Nat.pow_le_pow_right (by decide) (by omega)
      have hpw0 : 0 < 2 ^ a := Nat.two_pow_pos a
      refine sj_ild2 dX10_greatestCycle_44 ?_
      refine sj_sipush dX10_greatestCycle_45 (by decide) ?_
      refine sj_icmp_ge 65 dX10_greatestCycle_48 (by decide) (by omega) (by omega) (fun c_48 => ?_) (fun c_48 => ?_)
      rotate_left
      · exact absurd (by omega) c_48
      refine sj_ald0 dX10_greatestCycle_65 ?_
      refine sj_getR fl_X10_58 (by assumption) rfl (mr_26 _) dX10_greatestCycle_66 ?_
      refine sj_bipush dX10_greatestCycle_69 (by decide) ?_
      refine sj_iconst dX10_greatestCycle_71 ?_
      refine sj_ild1 dX10_greatestCycle_72 ?_
      refine sj_ishl dX10_greatestCycle_73 (zI_shl1 a (by omega)) ?_
      refine sj_imul dX10_greatestCycle_74 ?_
      refine sj_ild1 dX10_greatestCycle_75 ?_
      refine sj_iadd dX10_greatestCycle_76 ?_
      refine sj_iconst dX10_greatestCycle_77 ?_
      refine sj_iastJ (8 * 2 ^ a + a) (by assumption) (by omega) (by omega) (by omega) dX10_greatestCycle_78 ?_
      refine sj_ldc kd_X10_214 dX10_greatestCycle_79 ?_
      refine sj_ist2 (by decide) rfl dX10_greatestCycle_81 ?_
      refine sj_iconst dX10_greatestCycle_82 ?_
      refine sj_ist3 (by decide) rfl dX10_greatestCycle_83 ?_
      exact lp4 256 0 _ (by omega) (fun q e1 e2 e3 => by rw [sj_up_row e3]; exact hJ q e1 e2 e3) (fun j hj => by rw [sj_up_ne (by omega)]; exact hJF j hj) (fun j hj => by
        show _ = jB0 a j
        unfold jB0
        by_cases e : j = 8 * 2 ^ a + a
        · rw [if_pos e, e, sj_up_self]
        · rw [if_neg e, sj_up_ne (by omega)]; exact hJB j hj)
    | succ d ih =>
      intro k J hk hJ hJF hJB
      refine sj_ild2 dX10_greatestCycle_44 ?_
      refine sj_sipush dX10_greatestCycle_45 (by decide) ?_
      refine sj_icmp_ge 65 dX10_greatestCycle_48 (by decide) (by omega) (by omega) (fun c_48 => ?_) (fun c_48 => ?_)
      · exact absurd c_48 (by omega)
      refine sj_ald0 dX10_greatestCycle_51 ?_
      refine sj_getR fl_X10_58 (by assumption) rfl (mr_26 _) dX10_greatestCycle_52 ?_
      refine sj_ild2 dX10_greatestCycle_55 ?_
      refine sj_ldc kd_X10_214 dX10_greatestCycle_56 ?_
      refine sj_iastJ (k) (by assumption) (by omega) (by omega) (by omega) dX10_greatestCycle_58 ?_
      refine sj_inc2 (by decide) rfl dX10_greatestCycle_59 ?_
      refine sj_goto 44 dX10_greatestCycle_62 (by decide) ?_
      exact ih (k + 1) _ (by omega) (fun q e1 e2 e3 => by rw [sj_up_row e3]; exact hJ q e1 e2 e3) (fun j hj => by rw [sj_up_ne (by omega)]; exact hJF j hj) (fun j hj => by
        by_cases e : j = k
        · rw [e, sj_up_self]
        · rw [sj_up_ne (by omega)]; exact hJB j (by omega))
  have lp2 : ∀ (d b : Nat) (J : sjI), b + d = 8 → (∀ q, q ≠ o + 15 → q ≠ o + 16 → J q = I q) → (∀ j, j < 64 → J (o + 15) j = jFs E b (fun _ => -1000) j) → sj_V l Γ mX10_greatestCycle G (fun r σ' I' => r = some (.int (zI (jCy (jSt E) a))) ∧ σ = σ' ∧ ∀ q, q ≠ o + 15 → q ≠ o + 16 → q ≠ o + 17 → I' q = I q) σ J 0 0 25 [some (.ref o), some (.int (zI a)), some (.int (zI b)), none, none, none, none] [] := by
    intro d
    induction d with
    | zero =>
      intro b J hb hJ hJF
      have hb1 : b = 8 := by omega
      subst hb1
      refine sj_ild2 dX10_greatestCycle_25 ?_
      refine sj_bipush dX10_greatestCycle_26 (by decide) ?_
      refine sj_icmp_ge 42 dX10_greatestCycle_28 (by decide) (by omega) (by omega) (fun c_28 => ?_) (fun c_28 => ?_)
      rotate_left
      · exact absurd (by omega) c_28
      refine sj_iconst dX10_greatestCycle_42 ?_
      refine sj_ist2 (by decide) rfl dX10_greatestCycle_43 ?_
      exact lp3 2048 0 J (by omega) (fun q e1 e2 _ => hJ q e1 e2) hJF (fun j hj => absurd hj (by omega))
    | succ d ih =>
      intro b J hb hJ hJF
      have hr := fun j (_ : j < 64) => jFs_rel hel (z := -1000) (by omega) (j := j) (f := fun _ => -1000) (Or.inl rfl) b
      have hmb := hE.by8 (a := b) (by omega)
      refine sj_ild2 dX10_greatestCycle_25 ?_
      refine sj_bipush dX10_greatestCycle_26 (by decide) ?_
      refine sj_icmp_ge 42 dX10_greatestCycle_28 (by decide) (by omega) (by omega) (fun c_28 => ?_) (fun c_28 => ?_)
      · exact absurd c_28 (by omega)
      refine sj_ald0 dX10_greatestCycle_31 ?_
      refine sj_ild2 dX10_greatestCycle_32 ?_
      refine sj_callV (cm_layShifts (T := (E b).getD []) (f := jFs E b (fun _ => -1000)) hS (by omega) (by rw [hJ (o + 1) (by omega) (by omega)]; exact hW) (by
        rw [hJ (o + 1) (by omega) (by omega)]
        refine ⟨hmb.1, hmb.2, ?_⟩
        cases e : E b with
        | none => simp
        | some T => exact ⟨hel b T e, hP b T e⟩) hJF (fun j hj => by have := hr j hj; unfold jRel at this; omega)) kc_X10_211 (by assumption) rfl rfl rfl rfl (Nat.le_of_ble_eq_true rfl) dX10_greatestCycle_33 (fun r_33 σ_33 I_33 hp_33 => ?_)
      obtain ⟨rfl, rfl, x1, x2⟩ := hp_33
      refine sj_inc2 (by decide) rfl dX10_greatestCycle_36 ?_
      refine sj_goto 25 dX10_greatestCycle_39 (by decide) ?_
      exact ih (b + 1) I_33 (by omega) (fun q e1 e2 => by rw [x1 q e1 e2]; exact hJ q e1 e2) x2
  have lp1 : ∀ (d k : Nat) (J : sjI), k + d = 64 → (∀ q, q ≠ o + 15 → q ≠ o + 16 → J q = I q) → (∀ j, j < k → J (o + 15) j = -1000) → sj_V l Γ mX10_greatestCycle G (fun r σ' I' => r = some (.int (zI (jCy (jSt E) a))) ∧ σ = σ' ∧ ∀ q, q ≠ o + 15 → q ≠ o + 16 → q ≠ o + 17 → I' q = I q) σ J 0 0 2 [some (.ref o), some (.int (zI a)), some (.int (zI k)), none, none, none, none] [] := by
    intro d
    induction d with
    | zero =>
      intro k J hk hJ hJF
      have hk1 : k = 64 := by omega
      subst hk1
      refine sj_ild2 dX10_greatestCycle_2 ?_
      refine sj_bipush dX10_greatestCycle_3 (by decide) ?_
      refine sj_icmp_ge 23 dX10_greatestCycle_5 (by decide) (by omega) (by omega) (fun c_5 => ?_) (fun c_5 => ?_)
      rotate_left
      · exact absurd (by omega) c_5
      refine sj_iconst dX10_greatestCycle_23 ?_
      refine sj_ist2 (by decide) rfl dX10_greatestCycle_24 ?_
      exact lp2 8 0 J (by omega) hJ hJF
    | succ d ih =>
      intro k J hk hJ hJF
      refine sj_ild2 dX10_greatestCycle_2 ?_
      refine sj_bipush dX10_greatestCycle_3 (by decide) ?_
      refine sj_icmp_ge 23 dX10_greatestCycle_5 (by decide) (by omega) (by omega) (fun c_5 => ?_) (fun c_5 => ?_)
      · exact absurd c_5 (by omega)
      refine sj_ald0 dX10_greatestCycle_8 ?_
      refine sj_getR fl_X10_52 (by assumption) rfl (mr_24 _) dX10_greatestCycle_9 ?_
      refine sj_ild2 dX10_greatestCycle_12 ?_
      refine sj_sipush dX10_greatestCycle_13 (by decide) ?_
      refine sj_iastJ (k) (by assumption) (by omega) (by omega) (by omega) dX10_greatestCycle_16 ?_
      refine sj_inc2 (by decide) rfl dX10_greatestCycle_17 ?_
      refine sj_goto 2 dX10_greatestCycle_20 (by decide) ?_
      exact ih (k + 1) _ (by omega) (fun q e1 e2 => by rw [sj_up_row e1]; exact hJ q e1 e2) (fun j hj => by
        by_cases e : j = k
        · rw [e, sj_up_self]
        · rw [sj_up_ne (by omega)]; exact hJF j (by omega))
  refine sj_iconst dX10_greatestCycle_0 ?_
  refine sj_ist2 (by decide) rfl dX10_greatestCycle_1 ?_
  exact lp1 64 0 I (by omega) (fun _ _ _ => rfl) (fun j hj => absurd hj (by omega))
theorem jPb_enc {T : List Int} (h : jPb (jEnc T) = true) : ∀ c ∈ T, c ≠ 122 ∧ c ≠ 101 ∧ c ≠ 111 := by
  intro c hc
  by_cases h1 : 128 ≤ c
  · omega
  · have h2 : c ∈ jEnc T := List.mem_flatMap.mpr ⟨c, hc, by rw [jE_else h1]; exact List.mem_singleton.mpr rfl⟩
    exact of_decide_eq_true (List.all_eq_true.mp h c h2)
theorem jPa_all {f : Nat → Int} : ∀ n, jPa f n = true → ∀ a, a < n → jPb (mB f a) = true
  | 0, _, a, ha => absurd ha (by omega)
  | n + 1, h, a, ha => by
    have h2 : (jPa f n && jPb (mB f n)) = true := h
    rw [Bool.and_eq_true] at h2
    by_cases e : a = n
    · rw [e]; exact h2.2
    · exact jPa_all n h2.1 a (by omega)
theorem cm_cycle {o : Nat} {a : Int} {E : Nat → Option (List Int)} (hS : mSh σ o) (ha : -2147483648 ≤ a ∧ a < 2147483648) (hW : mW (I (o + 1))) (hE : mEq (I (o + 1)) E) : sj_Con l yX10_cycle mX10_cycle G σ I [.ref o, .int (zI a)] (fun r σ' I' => σ = σ' ∧ ((¬ (0 ≤ a ∧ a ≤ 7) ∧ r = some (.int (zI (-1))) ∧ I = I') ∨ ((0 ≤ a ∧ a ≤ 7) ∧ ¬ jPa (I (o + 1)) 8 = true ∧ r = some (.int (zI (-2))) ∧ I = I') ∨ ((0 ≤ a ∧ a ≤ 7) ∧ jPa (I (o + 1)) 8 = true ∧ r = some (.int (zI (if jCy (jSt E) a.toNat = -1000000 then -9 else jCy (jSt E) a.toNat + 1000))) ∧ ∀ q, q ≠ o + 15 → q ≠ o + 16 → q ≠ o + 17 → I' q = I q))) := by
  obtain ⟨h_o, h_w, h_past, h_images, h_text, h_read, h_made, h_old, h_values, h_ranks, h_operator, h_indexAt, h_second, h_first, h_needed, h_shifts, h_around, h_best, h_isNeeded, h_toSee, h_held, h_there⟩ := id hS
  refine sj_con_of (L0 := [some (.ref o), some (.int (zI a)), none]) (by decide) rfl rfl rfl (Nat.le_of_ble_eq_true rfl) rfl (fun Γ => ?_)
  have b1 := jbs (0 ≤ a ∧ a ≤ 7)
  have b2 := jbs (jPa (I (o + 1)) 8 = true)
  refine sj_ild1 dX10_cycle_0 ?_
  refine sj_callS (cm_isStream ha) kc_X10_109 rfl rfl (Nat.le_of_ble_eq_true rfl) dX10_cycle_1 (fun r_1 σ_1 I_1 hp_1 => ?_)
  obtain ⟨rfl, rfl, rfl⟩ := hp_1
  refine sj_if_ne 9 dX10_cycle_4 (by decide) (by omega) (fun c_4 => ?_) (fun c_4 => ?_)
  · refine sj_ald0 dX10_cycle_9 ?_
    refine sj_callV (cm_isPlain hS hW) kc_X10_205 (by assumption) rfl rfl rfl rfl (Nat.le_of_ble_eq_true rfl) dX10_cycle_10 (fun r_10 σ_10 I_10 hp_10 => ?_)
    obtain ⟨rfl, rfl, rfl⟩ := hp_10
    refine sj_if_ne 19 dX10_cycle_13 (by decide) (by omega) (fun c_13 => ?_) (fun c_13 => ?_)
    · obtain ⟨aa, rfl⟩ := jNat (a := a) (by omega)
      have hpl : jPa (I (o + 1)) 8 = true := jb1 (by omega)
      have hcy2 := jCy_rng (jSt_r hE.el) (a := aa) (by omega)
      refine sj_ald0 dX10_cycle_19 ?_
      refine sj_ild1 dX10_cycle_20 ?_
      refine sj_callV (cm_greatestCycle (a := aa) (E := E) hS (by omega) hW hE (fun b T hb => jPb_enc (by
        have hb8 : b < 8 := by
          by_cases h : b < 8
          · exact h
          · rw [hE.1 b (by omega)] at hb; cases hb
        have := jPa_all 8 hpl b hb8
        rw [(hE.by8 hb8).1, hb] at this
        exact this))) kc_X10_219 (by assumption) rfl rfl rfl rfl (Nat.le_of_ble_eq_true rfl) dX10_cycle_21 (fun r_21 σ_21 I_21 hp_21 => ?_)
      obtain ⟨rfl, rfl, x1⟩ := hp_21
      obtain ⟨x, hx⟩ : ∃ x, jCy (jSt E) aa = x := ⟨_, rfl⟩
      rw [hx] at hcy2 ⊢
      refine sj_ist2 (by decide) rfl dX10_cycle_24 ?_
      refine sj_ild2 dX10_cycle_25 ?_
      refine sj_ldc kd_X10_214 dX10_cycle_26 ?_
      refine sj_icmp_ne 36 dX10_cycle_28 (by decide) (by omega) (by omega) (fun c_28 => ?_) (fun c_28 => ?_)
      · refine sj_ild2 dX10_cycle_36 ?_
        refine sj_sipush dX10_cycle_37 (by decide) ?_
        refine sj_iadd dX10_cycle_40 ?_
        exact sj_iret dX10_cycle_41 rfl rfl (Nat.le_of_ble_eq_true rfl) (Nat.le_of_ble_eq_true rfl) ⟨rfl, Or.inr (Or.inr ⟨by omega, hpl, by rw [Int.toNat_natCast, hx]; first | rw [if_pos (by omega)] | rw [if_neg (by omega)], x1⟩)⟩
      · refine sj_bipush dX10_cycle_31 (by decide) ?_
        refine sj_goto 41 dX10_cycle_33 (by decide) ?_
        exact sj_iret dX10_cycle_41 rfl rfl (Nat.le_of_ble_eq_true rfl) (Nat.le_of_ble_eq_true rfl) ⟨rfl, Or.inr (Or.inr ⟨by omega, hpl, by rw [Int.toNat_natCast, hx]; first | rw [if_pos (by omega)] | rw [if_neg (by omega)], x1⟩)⟩
    · refine sj_bipush dX10_cycle_16 (by decide) ?_
      exact sj_iret dX10_cycle_18 rfl rfl (Nat.le_of_ble_eq_true rfl) (Nat.le_of_ble_eq_true rfl) ⟨rfl, Or.inr (Or.inl ⟨by omega, jb0 (by omega), rfl, rfl⟩)⟩
  · refine sj_iconst dX10_cycle_7 ?_
    exact sj_iret dX10_cycle_8 rfl rfl (Nat.le_of_ble_eq_true rfl) (Nat.le_of_ble_eq_true rfl) ⟨rfl, Or.inl ⟨by omega, rfl, rfl⟩⟩
end MODEL33
