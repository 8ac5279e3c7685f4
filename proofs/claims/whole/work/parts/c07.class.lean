/-! where rules apply -/
theorem jVc_rng {c : Int} (h : jVc c) : 0 ≤ c ∧ c < 200 := by unfold jVc at h; omega
theorem jRt_is {u : Int} {N : List Int} (h : jVc u) : (jRt (u :: N)).isSome = true ↔ ¬ (u = 116 ∨ (65 ≤ u ∧ u ≤ 72)) := by
  unfold jVc at h
  rw [jRt_cons]
  by_cases h1 : 128 ≤ u
  · rw [if_pos h1]; simp; omega
  · rw [if_neg h1]
    by_cases h2 : u = 43 ∨ u = 42
    · rw [if_pos h2]; simp; omega
    · rw [if_neg h2]
      by_cases h3 : u = 122
      · rw [if_pos h3]; simp; omega
      · rw [if_neg h3]
        by_cases h4 : u = 101 ∨ u = 111
        · rw [if_pos h4]; simp; omega
        · rw [if_neg h4]
          by_cases h5 : 48 ≤ u ∧ u ≤ 57
          · rw [if_pos h5]; simp; omega
          · rw [if_neg h5]; simp; omega
theorem jRe_is {c u : Int} {N : List Int} : (jRe c (u :: N)).isSome = true ↔ (u = 122 ∨ (48 ≤ u ∧ u ≤ 57)) := by
  rw [jRe_cons]
  by_cases h1 : 48 ≤ u ∧ u ≤ 57
  · rw [if_pos h1]; simp; omega
  · rw [if_neg h1]
    by_cases h2 : u = 122
    · rw [if_pos h2]; simp; omega
    · rw [if_neg h2]; simp; omega
/-- two terms in a row, apart -/
theorem jOk_apart {N : List Int} (h : jOk 2 N) : ∃ B S, N = B ++ S ∧ jOk 1 B ∧ jOk 1 S ∧ jTk 1 N = B ∧ jDr 1 N = S :=
  ⟨jTk 1 N, jDr 1 N, (jOk_two h).2.2.symm, (jOk_two h).1, (jOk_two h).2.1, rfl, rfl⟩
theorem lst_same {f : Nat → Int} {s t n : Nat} : lst f s n = lst f t n ↔ ∀ j, j < n → f (s + j) = f (t + j) := by
  constructor
  · intro h j hj
    have h1 := lst_get (f := f) (s := s) hj
    have h2 := lst_get (f := f) (s := t) hj
    rw [h, h2] at h1
    exact (Option.some.inj h1).symm
  · intro h
    exact lst_congr h
section REWRITE2
variable {l : Launch} {G : sjG} {σ : sjS} {I : sjI}
theorem cx4_areWrittenAlike {r : Nat} {L A B C A' B' C' : List Int} {p q : Int} (hS : rSh σ r) (h : rwl I r L) (he : rwe I r L) (hv : ∀ c ∈ L, jVc c) (hL : L = A ++ (B ++ C)) (hL' : L = A' ++ (B' ++ C')) (hb : jOk 1 B) (hb' : jOk 1 B') (hp : p = A.length) (hq : q = A'.length) : sj_Con l yX4_areWrittenAlike mX4_areWrittenAlike G σ I [.ref r, .int (zI p), .int (zI q)] (fun v σ' I' => v = some (.int (zI (if B = B' then 1 else 0))) ∧ σ = σ' ∧ I = I') := by
  obtain ⟨s0, s1, s2, s3⟩ := id hS
  obtain ⟨h1, h2, h3⟩ := id h
  have hend := he.fin hL hb
  have hend' := he.fin hL' hb'
  have hl : L.length = A.length + (B.length + C.length) := by rw [hL, List.length_append, List.length_append]
  have hl' : L.length = A'.length + (B'.length + C'.length) := by rw [hL', List.length_append, List.length_append]
  have hbl := jOk_len B 1 hb
  have hbl' := jOk_len B' 1 hb'
  have e1 := (lst_both (lst_both (f := I (r + 1)) (k := 0) (A := A) (B := B ++ C) (by rw [← hL]; exact h3)).2).1
  have e2 := (lst_both (lst_both (f := I (r + 1)) (k := 0) (A := A') (B := B' ++ C') (by rw [← hL']; exact h3)).2).1
  rw [Nat.zero_add] at e1 e2
  have hrg : ∀ j, j < L.length → 0 ≤ I (r + 1) j ∧ I (r + 1) j < 200 := fun j hj => by
    have := lst_getD h3 (j := j) hj
    rw [Nat.zero_add] at this
    obtain ⟨c, _, _, hc, _, hcm⟩ := dropEx hj
    rw [this, hc]
    exact jVc_rng (hv c hcm)
  subst hp hq
  refine sj_con_of (L0 := [some (.ref r), some (.int (zI (A.length : Int))), some (.int (zI (A'.length : Int))), none, none]) (by decide) rfl rfl rfl (Nat.le_of_ble_eq_true rfl) rfl (fun Γ => ?_)
  by_cases hne : B.length = B'.length
  · have heq : (B = B') ↔ ∀ j, j < B.length → I (r + 1) (A.length + j) = I (r + 1) (A'.length + j) := by
      rw [← lst_same, e1]
      constructor
      · intro q; rw [hne, e2]; exact q
      · intro q; rw [q, hne]; exact e2
    have lp : ∀ (d k : Nat), k + d = B.length → (∀ j, j < k → I (r + 1) (A.length + j) = I (r + 1) (A'.length + j)) → sj_V l Γ mX4_areWrittenAlike G (fun v σ' I' => v = some (.int (zI (if B = B' then 1 else 0))) ∧ σ = σ' ∧ I = I') σ I 0 0 26 [some (.ref r), some (.int (zI (A.length : Int))), some (.int (zI (A'.length : Int))), some (.int (zI (B.length : Int))), some (.int (zI k))] [] := by
      intro d
      induction d with
      | zero =>
        intro k hk hs
        refine sj_ild4 dX4_areWrittenAlike_26 ?_
        refine sj_ild3 dX4_areWrittenAlike_28 ?_
        refine sj_icmp_ge 61 dX4_areWrittenAlike_29 (by decide) (by omega) (by omega) (fun c_29 => ?_) (fun c_29 => ?_)
        rotate_left
        · (exfalso; omega)
        refine sj_iconst dX4_areWrittenAlike_61 ?_
        exact sj_iret dX4_areWrittenAlike_62 rfl (by decide) (Nat.le_of_ble_eq_true rfl) (Nat.le_of_ble_eq_true rfl) ⟨by rw [if_pos (heq.mpr (fun j hj => hs j (by omega)))], rfl, rfl⟩
      | succ d ih =>
        intro k hk hs
        have r1 := hrg (A.length + k) (by omega)
        have r2 := hrg (A'.length + k) (by omega)
        refine sj_ild4 dX4_areWrittenAlike_26 ?_
        refine sj_ild3 dX4_areWrittenAlike_28 ?_
        refine sj_icmp_ge 61 dX4_areWrittenAlike_29 (by decide) (by omega) (by omega) (fun c_29 => ?_) (fun c_29 => ?_)
        · (exfalso; omega)
        refine sj_ald0 dX4_areWrittenAlike_32 ?_
        refine sj_getR fl_X4_9 (by assumption) rfl (rR_0 _) dX4_areWrittenAlike_33 ?_
        refine sj_ild1 dX4_areWrittenAlike_36 ?_
        refine sj_ild4 dX4_areWrittenAlike_37 ?_
        refine sj_iadd dX4_areWrittenAlike_39 ?_
        refine sj_ialdJ (A.length + k) (by assumption) (by omega) (by omega) (by omega) dX4_areWrittenAlike_40 ?_
        refine sj_ald0 dX4_areWrittenAlike_41 ?_
        refine sj_getR fl_X4_9 (by assumption) rfl (rR_0 _) dX4_areWrittenAlike_42 ?_
        refine sj_ild2 dX4_areWrittenAlike_45 ?_
        refine sj_ild4 dX4_areWrittenAlike_46 ?_
        refine sj_iadd dX4_areWrittenAlike_48 ?_
        refine sj_ialdJ (A'.length + k) (by assumption) (by omega) (by omega) (by omega) dX4_areWrittenAlike_49 ?_
        refine sj_icmp_eq 55 dX4_areWrittenAlike_50 (by decide) (by omega) (by omega) (fun c_50 => ?_) (fun c_50 => ?_)
        · refine sj_inc4 (by decide) rfl dX4_areWrittenAlike_55 ?_
          refine sj_goto 26 dX4_areWrittenAlike_58 (by decide) ?_
          exact ih (k + 1) (by omega) (fun j hj => by
            by_cases e : j = k
            · rw [e]; assumption
            · exact hs j (by omega))
        · refine sj_iconst dX4_areWrittenAlike_53 ?_
          exact sj_iret dX4_areWrittenAlike_54 rfl (by decide) (Nat.le_of_ble_eq_true rfl) (Nat.le_of_ble_eq_true rfl) ⟨by rw [if_neg (fun q => absurd (heq.mp q k (by omega)) (by omega))], rfl, rfl⟩
    refine sj_ald0 dX4_areWrittenAlike_0 ?_
    refine sj_getR fl_X4_15 (by assumption) rfl (rR_1 _) dX4_areWrittenAlike_1 ?_
    refine sj_ild1 dX4_areWrittenAlike_4 ?_
    refine sj_ialdJ (A.length) (by assumption) (by omega) (by omega) (by omega) dX4_areWrittenAlike_5 ?_
    rw [hend]
    refine sj_ild1 dX4_areWrittenAlike_6 ?_
    refine sj_isub dX4_areWrittenAlike_7 ?_
    rw [show ((A.length : Int) + B.length - A.length) = B.length by omega]
    refine sj_ist3 (by decide) rfl dX4_areWrittenAlike_8 ?_
    refine sj_ald0 dX4_areWrittenAlike_9 ?_
    refine sj_getR fl_X4_15 (by assumption) rfl (rR_1 _) dX4_areWrittenAlike_10 ?_
    refine sj_ild2 dX4_areWrittenAlike_13 ?_
    refine sj_ialdJ (A'.length) (by assumption) (by omega) (by omega) (by omega) dX4_areWrittenAlike_14 ?_
    rw [hend']
    refine sj_ild2 dX4_areWrittenAlike_15 ?_
    refine sj_isub dX4_areWrittenAlike_16 ?_
    refine sj_ild3 dX4_areWrittenAlike_17 ?_
    refine sj_icmp_eq 23 dX4_areWrittenAlike_18 (by decide) (by omega) (by omega) (fun c_18 => ?_) (fun c_18 => ?_)
    rotate_left
    · (exfalso; omega)
    refine sj_iconst dX4_areWrittenAlike_23 ?_
    refine sj_ist4 (by decide) rfl dX4_areWrittenAlike_24 ?_
    exact lp B.length 0 (by omega) (fun j hj => absurd hj (by omega))
  · refine sj_ald0 dX4_areWrittenAlike_0 ?_
    refine sj_getR fl_X4_15 (by assumption) rfl (rR_1 _) dX4_areWrittenAlike_1 ?_
    refine sj_ild1 dX4_areWrittenAlike_4 ?_
    refine sj_ialdJ (A.length) (by assumption) (by omega) (by omega) (by omega) dX4_areWrittenAlike_5 ?_
    rw [hend]
    refine sj_ild1 dX4_areWrittenAlike_6 ?_
    refine sj_isub dX4_areWrittenAlike_7 ?_
    refine sj_ist3 (by decide) rfl dX4_areWrittenAlike_8 ?_
    refine sj_ald0 dX4_areWrittenAlike_9 ?_
    refine sj_getR fl_X4_15 (by assumption) rfl (rR_1 _) dX4_areWrittenAlike_10 ?_
    refine sj_ild2 dX4_areWrittenAlike_13 ?_
    refine sj_ialdJ (A'.length) (by assumption) (by omega) (by omega) (by omega) dX4_areWrittenAlike_14 ?_
    rw [hend']
    refine sj_ild2 dX4_areWrittenAlike_15 ?_
    refine sj_isub dX4_areWrittenAlike_16 ?_
    refine sj_ild3 dX4_areWrittenAlike_17 ?_
    refine sj_icmp_eq 23 dX4_areWrittenAlike_18 (by decide) (by omega) (by omega) (fun c_18 => ?_) (fun c_18 => ?_)
    · (exfalso; omega)
    refine sj_iconst dX4_areWrittenAlike_21 ?_
    exact sj_iret dX4_areWrittenAlike_22 rfl (by decide) (Nat.le_of_ble_eq_true rfl) (Nat.le_of_ble_eq_true rfl) ⟨by rw [if_neg (fun q => hne (by rw [q]))], rfl, rfl⟩
theorem cx4_isSplitTwin {r : Nat} {L A N C : List Int} {p : Int} (hS : rSh σ r) (h : rwl I r L) (he : rwe I r L) (hv : ∀ c ∈ L, jVc c) (hL : L = A ++ (122 :: (N ++ C))) (hN : jOk 2 N) (hp : p = A.length) : sj_Con l yX4_isSplitTwin mX4_isSplitTwin G σ I [.ref r, .int (zI p)] (fun v σ' I' => v = some (.int (zI (if (jRz N).isSome = true then 1 else 0))) ∧ σ = σ' ∧ I = I') := by
  obtain ⟨s0, s1, s2, s3⟩ := id hS
  obtain ⟨h1, h2, h3⟩ := id h
  obtain ⟨B, S, rfl, hb, hs, k1, k2⟩ := jOk_apart hN
  obtain ⟨b, B', rfl, hvb, hb2⟩ := jOk_ne hb
  obtain ⟨c, S', rfl, hvs, hs2⟩ := jOk_ne hs
  have rb := jVc_rng hvb
  have rc := jVc_rng hvs
  have hend := he.fin (A := A ++ [122]) (M := b :: B') (C := (c :: S') ++ C) (by rw [hL]; simp) hb
  have hcb := h.cd (A := A ++ [122]) (c := b) (C := B' ++ ((c :: S') ++ C)) (by rw [hL]; simp)
  have hcc := h.cd (A := A ++ (122 :: b :: B')) (c := c) (C := S' ++ C) (by rw [hL]; simp)
  have hal1 : (A ++ [122]).length = A.length + 1 := by simp
  have hal2 : (A ++ (122 :: b :: B')).length = A.length + 2 + B'.length := by simp only [List.length_append, List.length_cons]; omega
  rw [hal1] at hend hcb
  rw [hal2] at hcc
  have hll : L.length = A.length + (1 + ((B'.length + 1) + ((S'.length + 1) + C.length))) := by rw [hL]; simp only [List.length_append, List.length_cons]; omega
  have hend2 : I (r + 2) (A.length + 1) = ((A.length + 2 + B'.length : Nat) : Int) := by rw [hend, List.length_cons]; omega
  have hz : (jRz ((b :: B') ++ (c :: S'))).isSome = true ↔ (b = 101 ∧ c = 111 ∧ B' = S') := by
    unfold jRz
    rw [k1, k2]
    show (if b = 101 ∧ c = 111 ∧ B' = S' then some B' else none).isSome = true ↔ _
    by_cases q : b = 101 ∧ c = 111 ∧ B' = S'
    · rw [if_pos q]; simp [q]
    · rw [if_neg q]; simp [q]
  subst hp
  refine sj_con_of (L0 := [some (.ref r), some (.int (zI (A.length : Int))), none]) (by decide) rfl rfl rfl (Nat.le_of_ble_eq_true rfl) rfl (fun Γ => ?_)
  refine sj_ald0 dX4_isSplitTwin_0 ?_
  refine sj_getR fl_X4_15 (by assumption) rfl (rR_1 _) dX4_isSplitTwin_1 ?_
  refine sj_ild1 dX4_isSplitTwin_4 ?_
  refine sj_iconst dX4_isSplitTwin_5 ?_
  refine sj_iadd dX4_isSplitTwin_6 ?_
  refine sj_ialdJ (A.length + 1) (by assumption) (by omega) (by omega) (by omega) dX4_isSplitTwin_7 ?_
  rw [hend2]
  refine sj_ist2 (by decide) rfl dX4_isSplitTwin_8 ?_
  refine sj_ald0 dX4_isSplitTwin_9 ?_
  refine sj_getR fl_X4_9 (by assumption) rfl (rR_0 _) dX4_isSplitTwin_10 ?_
  refine sj_ild1 dX4_isSplitTwin_13 ?_
  refine sj_iconst dX4_isSplitTwin_14 ?_
  refine sj_iadd dX4_isSplitTwin_15 ?_
  refine sj_ialdJ (A.length + 1) (by assumption) (by omega) (by omega) (by omega) dX4_isSplitTwin_16 ?_
  rw [hcb]
  refine sj_bipush dX4_isSplitTwin_17 (by decide) ?_
  refine sj_icmp_ne 50 dX4_isSplitTwin_19 (by decide) (by omega) (by omega) (fun c_19 => ?_) (fun c_19 => ?_)
  · refine sj_iconst dX4_isSplitTwin_50 ?_
    exact sj_iret dX4_isSplitTwin_51 rfl (by decide) (Nat.le_of_ble_eq_true rfl) (Nat.le_of_ble_eq_true rfl) ⟨by first | rw [if_pos (hz.mpr ⟨by omega, by omega, jb1 (P := B' = S') (by omega)⟩)] | rw [if_neg (fun q => absurd (hz.mp q).1 (by omega))] | rw [if_neg (fun q => absurd (hz.mp q).2.1 (by omega))] | rw [if_neg (fun q => jb0 (P := B' = S') (by omega) (hz.mp q).2.2)], rfl, rfl⟩
  · refine sj_ald0 dX4_isSplitTwin_22 ?_
    refine sj_getR fl_X4_9 (by assumption) rfl (rR_0 _) dX4_isSplitTwin_23 ?_
    refine sj_ild2 dX4_isSplitTwin_26 ?_
    refine sj_ialdJ (A.length + 2 + B'.length) (by assumption) (by omega) (by omega) (by omega) dX4_isSplitTwin_27 ?_
    rw [hcc]
    refine sj_bipush dX4_isSplitTwin_28 (by decide) ?_
    refine sj_icmp_ne 50 dX4_isSplitTwin_30 (by decide) (by omega) (by omega) (fun c_30 => ?_) (fun c_30 => ?_)
    · refine sj_iconst dX4_isSplitTwin_50 ?_
      exact sj_iret dX4_isSplitTwin_51 rfl (by decide) (Nat.le_of_ble_eq_true rfl) (Nat.le_of_ble_eq_true rfl) ⟨by first | rw [if_pos (hz.mpr ⟨by omega, by omega, jb1 (P := B' = S') (by omega)⟩)] | rw [if_neg (fun q => absurd (hz.mp q).1 (by omega))] | rw [if_neg (fun q => absurd (hz.mp q).2.1 (by omega))] | rw [if_neg (fun q => jb0 (P := B' = S') (by omega) (hz.mp q).2.2)], rfl, rfl⟩
    · refine sj_ald0 dX4_isSplitTwin_33 ?_
      refine sj_ild1 dX4_isSplitTwin_34 ?_
      refine sj_iconst dX4_isSplitTwin_35 ?_
      refine sj_iadd dX4_isSplitTwin_36 ?_
      refine sj_ild2 dX4_isSplitTwin_37 ?_
      refine sj_iconst dX4_isSplitTwin_38 ?_
      refine sj_iadd dX4_isSplitTwin_39 ?_
      have ob := jAr_cases b
      have oc := jAr_cases c
      rw [show jAr b = 1 by omega] at hb2
      rw [show jAr c = 1 by omega] at hs2
      have bq := jbs (B' = S')
      refine sj_callV (cx4_areWrittenAlike (A := A ++ [122, b]) (B := B') (C := (c :: S') ++ C) (A' := A ++ (122 :: b :: (B' ++ [c]))) (B' := S') (C' := C) hS h he hv (by rw [hL]; simp) (by rw [hL]; simp) hb2 hs2 (by simp) (by simp only [List.length_append, List.length_cons, List.length_nil]; omega)) kc_X4_71 (by assumption) rfl rfl rfl rfl (Nat.le_of_ble_eq_true rfl) dX4_isSplitTwin_40 (fun r_40 σ_40 I_40 hp_40 => ?_)
      obtain ⟨rfl, rfl, rfl⟩ := hp_40
      refine sj_if_eq 50 dX4_isSplitTwin_43 (by decide) (by omega) (fun c_43 => ?_) (fun c_43 => ?_)
      · refine sj_iconst dX4_isSplitTwin_50 ?_
        exact sj_iret dX4_isSplitTwin_51 rfl (by decide) (Nat.le_of_ble_eq_true rfl) (Nat.le_of_ble_eq_true rfl) ⟨by first | rw [if_pos (hz.mpr ⟨by omega, by omega, jb1 (P := B' = S') (by omega)⟩)] | rw [if_neg (fun q => absurd (hz.mp q).1 (by omega))] | rw [if_neg (fun q => absurd (hz.mp q).2.1 (by omega))] | rw [if_neg (fun q => jb0 (P := B' = S') (by omega) (hz.mp q).2.2)], rfl, rfl⟩
      · refine sj_iconst dX4_isSplitTwin_46 ?_
        refine sj_goto 51 dX4_isSplitTwin_47 (by decide) ?_
        exact sj_iret dX4_isSplitTwin_51 rfl (by decide) (Nat.le_of_ble_eq_true rfl) (Nat.le_of_ble_eq_true rfl) ⟨by first | rw [if_pos (hz.mpr ⟨by omega, by omega, jb1 (P := B' = S') (by omega)⟩)] | rw [if_neg (fun q => absurd (hz.mp q).1 (by omega))] | rw [if_neg (fun q => absurd (hz.mp q).2.1 (by omega))] | rw [if_neg (fun q => jb0 (P := B' = S') (by omega) (hz.mp q).2.2)], rfl, rfl⟩
theorem cx4_matches {r : Nat} {L A M C : List Int} {p : Int} (hS : rSh σ r) (h : rwl I r L) (he : rwe I r L) (hv : ∀ c ∈ L, jVc c) (hL : L = A ++ (M ++ C)) (hM : jOk 1 M) (hp : p = A.length) : sj_Con l yX4_matches mX4_matches G σ I [.ref r, .int (zI p)] (fun v σ' I' => v = some (.int (zI (if (jRoot M).isSome = true then 1 else 0))) ∧ σ = σ' ∧ I = I') := by
  obtain ⟨s0, s1, s2, s3⟩ := id hS
  obtain ⟨h1, h2, h3⟩ := id h
  obtain ⟨c, N, rfl, hvc, hN⟩ := jOk_ne hM
  rw [Nat.zero_add] at hN
  have rc := jVc_rng hvc
  have har := jAr_cases c
  have hcc := h.cd (A := A) (c := c) (C := N ++ C) (by rw [hL]; simp)
  have hll : L.length = A.length + (1 + (N.length + C.length)) := by rw [hL]; simp only [List.length_append, List.length_cons]; omega
  subst hp
  refine sj_con_of (L0 := [some (.ref r), some (.int (zI (A.length : Int))), none]) (by decide) rfl rfl rfl (Nat.le_of_ble_eq_true rfl) rfl (fun Γ => ?_)
  by_cases a0 : jAr c = 0
  · have hr : jRoot (c :: N) = none := by rw [jRoot_cons, if_neg (by omega), if_neg (by omega), if_neg (by omega)]
    rw [hr]
    refine sj_ald0 dX4_matches_0 ?_
    refine sj_getR fl_X4_9 (by assumption) rfl (rR_0 _) dX4_matches_1 ?_
    refine sj_ild1 dX4_matches_4 ?_
    refine sj_ialdJ (A.length) (by assumption) (by omega) (by omega) (by omega) dX4_matches_5 ?_
    rw [hcc]
    refine sj_ist2 (by decide) rfl dX4_matches_6 ?_
    refine sj_ild2 dX4_matches_7 ?_
    refine sj_bipush dX4_matches_8 (by decide) ?_
    refine sj_icmp_ne 46 dX4_matches_10 (by decide) (by omega) (by omega) (fun c_10 => ?_) (fun c_10 => ?_)
    rotate_left
    · (exfalso; omega)
    refine sj_ild2 dX4_matches_46 ?_
    refine sj_bipush dX4_matches_47 (by decide) ?_
    refine sj_icmp_eq 58 dX4_matches_49 (by decide) (by omega) (by omega) (fun c_49 => ?_) (fun c_49 => ?_)
    · (exfalso; omega)
    refine sj_ild2 dX4_matches_52 ?_
    refine sj_bipush dX4_matches_53 (by decide) ?_
    refine sj_icmp_ne 91 dX4_matches_55 (by decide) (by omega) (by omega) (fun c_55 => ?_) (fun c_55 => ?_)
    rotate_left
    · (exfalso; omega)
    refine sj_ild2 dX4_matches_91 ?_
    refine sj_bipush dX4_matches_92 (by decide) ?_
    refine sj_icmp_ne 109 dX4_matches_94 (by decide) (by omega) (by omega) (fun c_94 => ?_) (fun c_94 => ?_)
    rotate_left
    · (exfalso; omega)
    refine sj_iconst dX4_matches_109 ?_
    exact sj_iret dX4_matches_110 rfl (by decide) (Nat.le_of_ble_eq_true rfl) (Nat.le_of_ble_eq_true rfl) ⟨rfl, rfl, rfl⟩
  · by_cases a1 : jAr c = 1
    · rw [a1] at hN
      obtain ⟨u, N', rfl, hvu, hN'⟩ := jOk_ne hN
      have ru := jVc_rng hvu
      have hcu := h.cd (A := A ++ [c]) (c := u) (C := N' ++ C) (by rw [hL]; simp)
      rw [show (A ++ [c]).length = A.length + 1 by simp] at hcu
      simp only [List.length_cons] at hll
      have b1 := jbs (65 ≤ u ∧ u ≤ 72)
      have b2 := jbs (48 ≤ u ∧ u ≤ 57)
      by_cases c1 : c = 116
      · have hr : jRoot (c :: u :: N') = jRt (u :: N') := by rw [jRoot_cons, if_pos c1]
        rw [hr]
        have hz := jRt_is (N := N') hvu
        refine sj_ald0 dX4_matches_0 ?_
        refine sj_getR fl_X4_9 (by assumption) rfl (rR_0 _) dX4_matches_1 ?_
        refine sj_ild1 dX4_matches_4 ?_
        refine sj_ialdJ (A.length) (by assumption) (by omega) (by omega) (by omega) dX4_matches_5 ?_
        rw [hcc]
        refine sj_ist2 (by decide) rfl dX4_matches_6 ?_
        refine sj_ild2 dX4_matches_7 ?_
        refine sj_bipush dX4_matches_8 (by decide) ?_
        refine sj_icmp_ne 46 dX4_matches_10 (by decide) (by omega) (by omega) (fun c_10 => ?_) (fun c_10 => ?_)
        · (exfalso; omega)
        refine sj_ald0 dX4_matches_13 ?_
        refine sj_getR fl_X4_9 (by assumption) rfl (rR_0 _) dX4_matches_14 ?_
        refine sj_ild1 dX4_matches_17 ?_
        refine sj_iconst dX4_matches_18 ?_
        refine sj_iadd dX4_matches_19 ?_
        refine sj_ialdJ (A.length + 1) (by assumption) (by omega) (by omega) (by omega) dX4_matches_20 ?_
        rw [hcu]
        refine sj_bipush dX4_matches_21 (by decide) ?_
        refine sj_icmp_eq 44 dX4_matches_23 (by decide) (by omega) (by omega) (fun c_23 => ?_) (fun c_23 => ?_)
        · refine sj_iconst dX4_matches_44 ?_
          exact sj_iret dX4_matches_45 rfl (by decide) (Nat.le_of_ble_eq_true rfl) (Nat.le_of_ble_eq_true rfl) ⟨by first | rw [if_pos (hz.mpr (by omega))] | rw [if_neg (fun q => absurd (hz.mp q) (by omega))], rfl, rfl⟩
        · refine sj_ald0 dX4_matches_26 ?_
          refine sj_getR fl_X4_9 (by assumption) rfl (rR_0 _) dX4_matches_27 ?_
          refine sj_ild1 dX4_matches_30 ?_
          refine sj_iconst dX4_matches_31 ?_
          refine sj_iadd dX4_matches_32 ?_
          refine sj_ialdJ (A.length + 1) (by assumption) (by omega) (by omega) (by omega) dX4_matches_33 ?_
          rw [hcu]
          refine sj_callS (cx0_isStreamName (by omega)) kc_X4_62 rfl rfl (Nat.le_of_ble_eq_true rfl) dX4_matches_34 (fun r_34 σ_34 I_34 hp_34 => ?_)
          obtain ⟨rfl, rfl, rfl⟩ := hp_34
          refine sj_if_ne 44 dX4_matches_37 (by decide) (by omega) (fun c_37 => ?_) (fun c_37 => ?_)
          · refine sj_iconst dX4_matches_44 ?_
            exact sj_iret dX4_matches_45 rfl (by decide) (Nat.le_of_ble_eq_true rfl) (Nat.le_of_ble_eq_true rfl) ⟨by first | rw [if_pos (hz.mpr (by omega))] | rw [if_neg (fun q => absurd (hz.mp q) (by omega))], rfl, rfl⟩
          · refine sj_iconst dX4_matches_40 ?_
            refine sj_goto 45 dX4_matches_41 (by decide) ?_
            exact sj_iret dX4_matches_45 rfl (by decide) (Nat.le_of_ble_eq_true rfl) (Nat.le_of_ble_eq_true rfl) ⟨by first | rw [if_pos (hz.mpr (by omega))] | rw [if_neg (fun q => absurd (hz.mp q) (by omega))], rfl, rfl⟩
      · by_cases c2 : c = 101 ∨ c = 111
        · have hr : jRoot (c :: u :: N') = jRe c (u :: N') := by rw [jRoot_cons, if_neg c1, if_pos c2]
          rw [hr]
          have hz := jRe_is (c := c) (u := u) (N := N')
          refine sj_ald0 dX4_matches_0 ?_
          refine sj_getR fl_X4_9 (by assumption) rfl (rR_0 _) dX4_matches_1 ?_
          refine sj_ild1 dX4_matches_4 ?_
          refine sj_ialdJ (A.length) (by assumption) (by omega) (by omega) (by omega) dX4_matches_5 ?_
          rw [hcc]
          refine sj_ist2 (by decide) rfl dX4_matches_6 ?_
          refine sj_ild2 dX4_matches_7 ?_
          refine sj_bipush dX4_matches_8 (by decide) ?_
          refine sj_icmp_ne 46 dX4_matches_10 (by decide) (by omega) (by omega) (fun c_10 => ?_) (fun c_10 => ?_)
          rotate_left
          · (exfalso; omega)
          refine sj_ild2 dX4_matches_46 ?_
          refine sj_bipush dX4_matches_47 (by decide) ?_
          refine sj_icmp_eq 58 dX4_matches_49 (by decide) (by omega) (by omega) (fun c_49 => ?_) (fun c_49 => ?_)
          · refine sj_ald0 dX4_matches_58 ?_
            refine sj_getR fl_X4_9 (by assumption) rfl (rR_0 _) dX4_matches_59 ?_
            refine sj_ild1 dX4_matches_62 ?_
            refine sj_iconst dX4_matches_63 ?_
            refine sj_iadd dX4_matches_64 ?_
            refine sj_ialdJ (A.length + 1) (by assumption) (by omega) (by omega) (by omega) dX4_matches_65 ?_
            rw [hcu]
            refine sj_bipush dX4_matches_66 (by decide) ?_
            refine sj_icmp_eq 85 dX4_matches_68 (by decide) (by omega) (by omega) (fun c_68 => ?_) (fun c_68 => ?_)
            · refine sj_iconst dX4_matches_85 ?_
              refine sj_goto 90 dX4_matches_86 (by decide) ?_
              exact sj_iret dX4_matches_90 rfl (by decide) (Nat.le_of_ble_eq_true rfl) (Nat.le_of_ble_eq_true rfl) ⟨by first | rw [if_pos (hz.mpr (by omega))] | rw [if_neg (fun q => absurd (hz.mp q) (by omega))], rfl, rfl⟩
            · refine sj_ald0 dX4_matches_71 ?_
              refine sj_getR fl_X4_9 (by assumption) rfl (rR_0 _) dX4_matches_72 ?_
              refine sj_ild1 dX4_matches_75 ?_
              refine sj_iconst dX4_matches_76 ?_
              refine sj_iadd dX4_matches_77 ?_
              refine sj_ialdJ (A.length + 1) (by assumption) (by omega) (by omega) (by omega) dX4_matches_78 ?_
              rw [hcu]
              refine sj_callS (cx0_isDigit (by omega)) kc_X4_65 rfl rfl (Nat.le_of_ble_eq_true rfl) dX4_matches_79 (fun r_79 σ_79 I_79 hp_79 => ?_)
              obtain ⟨rfl, rfl, rfl⟩ := hp_79
              refine sj_if_eq 89 dX4_matches_82 (by decide) (by omega) (fun c_82 => ?_) (fun c_82 => ?_)
              · refine sj_iconst dX4_matches_89 ?_
                exact sj_iret dX4_matches_90 rfl (by decide) (Nat.le_of_ble_eq_true rfl) (Nat.le_of_ble_eq_true rfl) ⟨by first | rw [if_pos (hz.mpr (by omega))] | rw [if_neg (fun q => absurd (hz.mp q) (by omega))], rfl, rfl⟩
              · refine sj_iconst dX4_matches_85 ?_
                refine sj_goto 90 dX4_matches_86 (by decide) ?_
                exact sj_iret dX4_matches_90 rfl (by decide) (Nat.le_of_ble_eq_true rfl) (Nat.le_of_ble_eq_true rfl) ⟨by first | rw [if_pos (hz.mpr (by omega))] | rw [if_neg (fun q => absurd (hz.mp q) (by omega))], rfl, rfl⟩
          · refine sj_ild2 dX4_matches_52 ?_
            refine sj_bipush dX4_matches_53 (by decide) ?_
            refine sj_icmp_ne 91 dX4_matches_55 (by decide) (by omega) (by omega) (fun c_55 => ?_) (fun c_55 => ?_)
            · (exfalso; omega)
            refine sj_ald0 dX4_matches_58 ?_
            refine sj_getR fl_X4_9 (by assumption) rfl (rR_0 _) dX4_matches_59 ?_
            refine sj_ild1 dX4_matches_62 ?_
            refine sj_iconst dX4_matches_63 ?_
            refine sj_iadd dX4_matches_64 ?_
            refine sj_ialdJ (A.length + 1) (by assumption) (by omega) (by omega) (by omega) dX4_matches_65 ?_
            rw [hcu]
            refine sj_bipush dX4_matches_66 (by decide) ?_
            refine sj_icmp_eq 85 dX4_matches_68 (by decide) (by omega) (by omega) (fun c_68 => ?_) (fun c_68 => ?_)
            · refine sj_iconst dX4_matches_85 ?_
              refine sj_goto 90 dX4_matches_86 (by decide) ?_
              exact sj_iret dX4_matches_90 rfl (by decide) (Nat.le_of_ble_eq_true rfl) (Nat.le_of_ble_eq_true rfl) ⟨by first | rw [if_pos (hz.mpr (by omega))] | rw [if_neg (fun q => absurd (hz.mp q) (by omega))], rfl, rfl⟩
            · refine sj_ald0 dX4_matches_71 ?_
              refine sj_getR fl_X4_9 (by assumption) rfl (rR_0 _) dX4_matches_72 ?_
              refine sj_ild1 dX4_matches_75 ?_
              refine sj_iconst dX4_matches_76 ?_
              refine sj_iadd dX4_matches_77 ?_
              refine sj_ialdJ (A.length + 1) (by assumption) (by omega) (by omega) (by omega) dX4_matches_78 ?_
              rw [hcu]
              refine sj_callS (cx0_isDigit (by omega)) kc_X4_65 rfl rfl (Nat.le_of_ble_eq_true rfl) dX4_matches_79 (fun r_79 σ_79 I_79 hp_79 => ?_)
              obtain ⟨rfl, rfl, rfl⟩ := hp_79
              refine sj_if_eq 89 dX4_matches_82 (by decide) (by omega) (fun c_82 => ?_) (fun c_82 => ?_)
              · refine sj_iconst dX4_matches_89 ?_
                exact sj_iret dX4_matches_90 rfl (by decide) (Nat.le_of_ble_eq_true rfl) (Nat.le_of_ble_eq_true rfl) ⟨by first | rw [if_pos (hz.mpr (by omega))] | rw [if_neg (fun q => absurd (hz.mp q) (by omega))], rfl, rfl⟩
              · refine sj_iconst dX4_matches_85 ?_
                refine sj_goto 90 dX4_matches_86 (by decide) ?_
                exact sj_iret dX4_matches_90 rfl (by decide) (Nat.le_of_ble_eq_true rfl) (Nat.le_of_ble_eq_true rfl) ⟨by first | rw [if_pos (hz.mpr (by omega))] | rw [if_neg (fun q => absurd (hz.mp q) (by omega))], rfl, rfl⟩
        · have hr : jRoot (c :: u :: N') = none := by rw [jRoot_cons, if_neg c1, if_neg c2, if_neg (by omega)]
          rw [hr]
          refine sj_ald0 dX4_matches_0 ?_
          refine sj_getR fl_X4_9 (by assumption) rfl (rR_0 _) dX4_matches_1 ?_
          refine sj_ild1 dX4_matches_4 ?_
          refine sj_ialdJ (A.length) (by assumption) (by omega) (by omega) (by omega) dX4_matches_5 ?_
          rw [hcc]
          refine sj_ist2 (by decide) rfl dX4_matches_6 ?_
          refine sj_ild2 dX4_matches_7 ?_
          refine sj_bipush dX4_matches_8 (by decide) ?_
          refine sj_icmp_ne 46 dX4_matches_10 (by decide) (by omega) (by omega) (fun c_10 => ?_) (fun c_10 => ?_)
          rotate_left
          · (exfalso; omega)
          refine sj_ild2 dX4_matches_46 ?_
          refine sj_bipush dX4_matches_47 (by decide) ?_
          refine sj_icmp_eq 58 dX4_matches_49 (by decide) (by omega) (by omega) (fun c_49 => ?_) (fun c_49 => ?_)
          · (exfalso; omega)
          refine sj_ild2 dX4_matches_52 ?_
          refine sj_bipush dX4_matches_53 (by decide) ?_
          refine sj_icmp_ne 91 dX4_matches_55 (by decide) (by omega) (by omega) (fun c_55 => ?_) (fun c_55 => ?_)
          rotate_left
          · (exfalso; omega)
          refine sj_ild2 dX4_matches_91 ?_
          refine sj_bipush dX4_matches_92 (by decide) ?_
          refine sj_icmp_ne 109 dX4_matches_94 (by decide) (by omega) (by omega) (fun c_94 => ?_) (fun c_94 => ?_)
          rotate_left
          · (exfalso; omega)
          refine sj_iconst dX4_matches_109 ?_
          exact sj_iret dX4_matches_110 rfl (by decide) (Nat.le_of_ble_eq_true rfl) (Nat.le_of_ble_eq_true rfl) ⟨rfl, rfl, rfl⟩
    · rw [show jAr c = 2 by omega] at hN
      by_cases c1 : c = 122
      · have hr : jRoot (c :: N) = jRz N := by rw [jRoot_cons, if_neg (by omega), if_neg (by omega), if_pos c1]
        rw [hr]
        subst c1
        have bz := jbs ((jRz N).isSome = true)
        refine sj_ald0 dX4_matches_0 ?_
        refine sj_getR fl_X4_9 (by assumption) rfl (rR_0 _) dX4_matches_1 ?_
        refine sj_ild1 dX4_matches_4 ?_
        refine sj_ialdJ (A.length) (by assumption) (by omega) (by omega) (by omega) dX4_matches_5 ?_
        rw [hcc]
        refine sj_ist2 (by decide) rfl dX4_matches_6 ?_
        refine sj_ild2 dX4_matches_7 ?_
        refine sj_bipush dX4_matches_8 (by decide) ?_
        refine sj_icmp_ne 46 dX4_matches_10 (by decide) (by omega) (by omega) (fun c_10 => ?_) (fun c_10 => ?_)
        rotate_left
        · (exfalso; omega)
        refine sj_ild2 dX4_matches_46 ?_
        refine sj_bipush dX4_matches_47 (by decide) ?_
        refine sj_icmp_eq 58 dX4_matches_49 (by decide) (by omega) (by omega) (fun c_49 => ?_) (fun c_49 => ?_)
        · (exfalso; omega)
        refine sj_ild2 dX4_matches_52 ?_
        refine sj_bipush dX4_matches_53 (by decide) ?_
        refine sj_icmp_ne 91 dX4_matches_55 (by decide) (by omega) (by omega) (fun c_55 => ?_) (fun c_55 => ?_)
        rotate_left
        · (exfalso; omega)
        refine sj_ild2 dX4_matches_91 ?_
        refine sj_bipush dX4_matches_92 (by decide) ?_
        refine sj_icmp_ne 109 dX4_matches_94 (by decide) (by omega) (by omega) (fun c_94 => ?_) (fun c_94 => ?_)
        · (exfalso; omega)
        refine sj_ald0 dX4_matches_97 ?_
        refine sj_ild1 dX4_matches_98 ?_
        refine sj_callV (cx4_isSplitTwin (A := A) (N := N) (C := C) hS h he hv (by rw [hL]; simp) hN rfl) kc_X4_68 (by assumption) rfl rfl rfl rfl (Nat.le_of_ble_eq_true rfl) dX4_matches_99 (fun r_99 σ_99 I_99 hp_99 => ?_)
        obtain ⟨rfl, rfl, rfl⟩ := hp_99
        refine sj_if_eq 109 dX4_matches_102 (by decide) (by omega) (fun c_102 => ?_) (fun c_102 => ?_)
        · refine sj_iconst dX4_matches_109 ?_
          exact sj_iret dX4_matches_110 rfl (by decide) (Nat.le_of_ble_eq_true rfl) (Nat.le_of_ble_eq_true rfl) ⟨by first | rw [if_pos (jb1 (P := (jRz N).isSome = true) (by omega))] | rw [if_neg (jb0 (P := (jRz N).isSome = true) (by omega))], rfl, rfl⟩
        · refine sj_iconst dX4_matches_105 ?_
          refine sj_goto 110 dX4_matches_106 (by decide) ?_
          exact sj_iret dX4_matches_110 rfl (by decide) (Nat.le_of_ble_eq_true rfl) (Nat.le_of_ble_eq_true rfl) ⟨by first | rw [if_pos (jb1 (P := (jRz N).isSome = true) (by omega))] | rw [if_neg (jb0 (P := (jRz N).isSome = true) (by omega))], rfl, rfl⟩
      · have hr : jRoot (c :: N) = none := by rw [jRoot_cons, if_neg (by omega), if_neg (by omega), if_neg c1]
        rw [hr]
        refine sj_ald0 dX4_matches_0 ?_
        refine sj_getR fl_X4_9 (by assumption) rfl (rR_0 _) dX4_matches_1 ?_
        refine sj_ild1 dX4_matches_4 ?_
        refine sj_ialdJ (A.length) (by assumption) (by omega) (by omega) (by omega) dX4_matches_5 ?_
        rw [hcc]
        refine sj_ist2 (by decide) rfl dX4_matches_6 ?_
        refine sj_ild2 dX4_matches_7 ?_
        refine sj_bipush dX4_matches_8 (by decide) ?_
        refine sj_icmp_ne 46 dX4_matches_10 (by decide) (by omega) (by omega) (fun c_10 => ?_) (fun c_10 => ?_)
        rotate_left
        · (exfalso; omega)
        refine sj_ild2 dX4_matches_46 ?_
        refine sj_bipush dX4_matches_47 (by decide) ?_
        refine sj_icmp_eq 58 dX4_matches_49 (by decide) (by omega) (by omega) (fun c_49 => ?_) (fun c_49 => ?_)
        · (exfalso; omega)
        refine sj_ild2 dX4_matches_52 ?_
        refine sj_bipush dX4_matches_53 (by decide) ?_
        refine sj_icmp_ne 91 dX4_matches_55 (by decide) (by omega) (by omega) (fun c_55 => ?_) (fun c_55 => ?_)
        rotate_left
        · (exfalso; omega)
        refine sj_ild2 dX4_matches_91 ?_
        refine sj_bipush dX4_matches_92 (by decide) ?_
        refine sj_icmp_ne 109 dX4_matches_94 (by decide) (by omega) (by omega) (fun c_94 => ?_) (fun c_94 => ?_)
        rotate_left
        · (exfalso; omega)
        refine sj_iconst dX4_matches_109 ?_
        exact sj_iret dX4_matches_110 rfl (by decide) (Nat.le_of_ble_eq_true rfl) (Nat.le_of_ble_eq_true rfl) ⟨rfl, rfl, rfl⟩
end REWRITE2
