section MODEL28
variable {l : Launch} {G : sjG} {σ : sjS} {I : sjI}
theorem jEv_nd {M : Int} {v : Nat → Int} {L : List Int} {i : Nat} {nd : List Nat} {x : Int} (h : jEv M v L i = some (nd, x)) : jN L i = some nd := by
  unfold jEv at h
  cases e : jN L i with
  | none => rw [e] at h; exact absurd h (by simp)
  | some l =>
    rw [e] at h
    simp only at h
    split at h
    · have h1 : (l, jV M v L i) = (nd, x) := Option.some.inj h
      rw [show l = nd from congrArg Prod.fst h1]
    · exact absurd h (by simp)
theorem cm_gather {o k : Nat} {M : Int} {E : Nat → Option (List Int)} (hS : mSh σ o) (hW : mW (I (o + 1))) (hE : mEq (I (o + 1)) E) (hM : I (o + 1) 0 = M) (hM2 : 2 ≤ M ∧ M ≤ 10) (hL : mLd o M E I) (hk : k < 3200) (h9 : I (o + 8) k ≠ -9) : sj_Con l yX10_gather mX10_gather G σ I [.ref o, .int (zI k)] (fun r σ' I' => ∃ Q, Q = jQu E 3200 [k] 0 ∧ 1 ≤ Q.length ∧ Q.length ≤ 3200 ∧ (∀ q ∈ Q, q < 3200) ∧ r = some (.int (zI ((Q.length - 1 : Nat)))) ∧ σ = σ' ∧ mGa o I I' ∧ ∀ j, j < Q.length → I' (o + 19) j = (Q.getD j 0 : Nat)) := by
  obtain ⟨h_o, h_w, h_past, h_images, h_text, h_read, h_made, h_old, h_values, h_ranks, h_operator, h_indexAt, h_second, h_first, h_needed, h_shifts, h_around, h_best, h_isNeeded, h_toSee, h_held, h_there⟩ := id hS
  refine sj_con_of (L0 := [some (.ref o), some (.int (zI k)), none, none, none, none]) (by decide) rfl rfl rfl (Nat.le_of_ble_eq_true rfl) rfl (fun Γ => ?_)
  obtain ⟨s, hs1, hs2⟩ : ∃ s, jKs M E (s + 1) k ∧ ¬ jKs M E s k := by
    obtain ⟨n, hn⟩ := hL.2.2.1 k hk h9
    exact jKs_least n ⟨_, hn⟩
  have hne : ∀ q, jKs M E s q → q ≠ k := fun q hq e => hs2 (e ▸ hq)
  have out : ∀ (d n : Nat) (Q : List Nat) (J : sjI), d + n = 3200 → mGa o I J → mQr o k J Q → jQi M E k s Q → jQu E d Q n = jQu E 3200 [k] 0 → sj_V l Γ mX10_gather G (fun r σ' I' => ∃ Q, Q = jQu E 3200 [k] 0 ∧ 1 ≤ Q.length ∧ Q.length ≤ 3200 ∧ (∀ q ∈ Q, q < 3200) ∧ r = some (.int (zI ((Q.length - 1 : Nat)))) ∧ σ = σ' ∧ mGa o I I' ∧ ∀ j, j < Q.length → I' (o + 19) j = (Q.getD j 0 : Nat)) σ J 0 0 33 [some (.ref o), some (.int (zI k)), some (.int (zI (Q.length : Nat))), some (.int (zI n)), none, none] [] := by
    intro d
    induction d with
    | zero =>
      intro n Q J hd jg jq ji hu
      have hlen := ji.len
      have hpos : 0 < Q.length := List.length_pos_of_mem ji.2.1
      refine sj_ild3 dX10_gather_33 ?_
      refine sj_ild2 dX10_gather_34 ?_
      refine sj_icmp_ge 132 dX10_gather_35 (by decide) (by omega) (by omega) (fun c_35 => ?_) (fun c_35 => ?_)
      rotate_left
      · exact absurd (by omega) c_35
      refine sj_ild2 dX10_gather_132 ?_
      refine sj_iconst dX10_gather_133 ?_
      refine sj_isub dX10_gather_134 ?_
      exact sj_iret dX10_gather_135 rfl rfl (Nat.le_of_ble_eq_true rfl) (Nat.le_of_ble_eq_true rfl) ⟨Q, hu, by omega, by omega, fun q hq => (ji.2.2 q hq).1, by congr 3; omega, rfl, jg, jq.1⟩
    | succ d ih =>
      intro n Q J hd jg jq ji hu
      have hlen := ji.len
      have hpos : 0 < Q.length := List.length_pos_of_mem ji.2.1
      have inn : ∀ (l' done Q : List Nat) (J : sjI), mGa o I J → mAcc o J (done ++ l') → (done ++ l').length ≤ 120 → mQr o k J Q → jQi M E k s Q → (∀ q ∈ l', q < 3200 ∧ jKs M E s q) → jQu E d (jAd Q l') (n + 1) = jQu E 3200 [k] 0 → sj_V l Γ mX10_gather G (fun r σ' I' => ∃ Q, Q = jQu E 3200 [k] 0 ∧ 1 ≤ Q.length ∧ Q.length ≤ 3200 ∧ (∀ q ∈ Q, q < 3200) ∧ r = some (.int (zI ((Q.length - 1 : Nat)))) ∧ σ = σ' ∧ mGa o I I' ∧ ∀ j, j < Q.length → I' (o + 19) j = (Q.getD j 0 : Nat)) σ J 0 0 67 [some (.ref o), some (.int (zI k)), some (.int (zI (Q.length : Nat))), some (.int (zI n)), none, some (.int (zI (done.length : Nat)))] [] := by
        intro l'
        induction l' with
        | nil =>
          intro done Q J jg ja j120 jq ji jl hu
          have hlen := ji.len
          rw [List.append_nil] at ja j120
          have ja1 := ja.1
          refine sj_ild5 dX10_gather_67 ?_
          refine sj_ald0 dX10_gather_69 ?_
          refine sj_getI fl_X10_178 (by assumption) rfl dX10_gather_70 ?_
          refine sj_icmp_ge 126 dX10_gather_73 (by decide) (by omega) (by omega) (fun c_73 => ?_) (fun c_73 => ?_)
          rotate_left
          · exact absurd (by omega) c_73
          refine sj_inc3 (by decide) rfl dX10_gather_126 ?_
          refine sj_goto 33 dX10_gather_129 (by decide) ?_
          refine sj_fg5 ?_
          exact ih (n + 1) Q J (by omega) jg jq ji hu
        | cons q l' ih2 =>
          intro done Q J jg ja j120 jq ji jl hu
          have hlen := ji.len
          have ja1 := ja.1
          have hll : (done ++ q :: l').length = done.length + (l'.length + 1) := by rw [List.length_append]; rfl
          have jql := jl q (List.mem_cons.mpr (Or.inl rfl))
          have hqk := hne q jql.2
          have hqv : J (o + 14) done.length = (q : Nat) := by
            have z := lst_getD ja.2 (show done.length < (done ++ q :: l').length by omega)
            rw [Nat.zero_add] at z
            rw [z]
            simp [List.getD]
          have hfl := jq.2 q jql.1
          refine sj_ild5 dX10_gather_67 ?_
          refine sj_ald0 dX10_gather_69 ?_
          refine sj_getI fl_X10_178 (by assumption) rfl dX10_gather_70 ?_
          refine sj_icmp_ge 126 dX10_gather_73 (by decide) (by omega) (by omega) (fun c_73 => ?_) (fun c_73 => ?_)
          · exact absurd c_73 (by omega)
          refine sj_ald0 dX10_gather_76 ?_
          refine sj_getR fl_X10_61 (by assumption) rfl (mr_27 _) dX10_gather_77 ?_
          refine sj_ald0 dX10_gather_80 ?_
          refine sj_getR fl_X10_49 (by assumption) rfl (mr_20 _) dX10_gather_81 ?_
          refine sj_ild5 dX10_gather_84 ?_
          refine sj_ialdJ (done.length) (by assumption) (by omega) (by omega) (by omega) dX10_gather_86 ?_
          rw [hqv]
          refine sj_zaldJ (q) (by assumption) (by omega) (by omega) (by omega) dX10_gather_87 ?_
          refine sj_if_ne 120 dX10_gather_88 (by decide) (by omega) (fun c_88 => ?_) (fun c_88 => ?_)
          · refine sj_inc5 (by decide) rfl dX10_gather_120 ?_
            refine sj_goto 67 dX10_gather_123 (by decide) ?_
            first
              | (have hin : q ∈ Q := Classical.byContradiction (fun e => by rw [if_neg (fun z => e z.1)] at hfl; omega)
                 have hu2 : jQu E d (jAd Q l') (n + 1) = jQu E 3200 [k] 0 := by rw [← hu]; congr 1; show _ = jAd (if q ∈ Q then Q else Q ++ [q]) l'; rw [if_pos hin]
                 have h := ih2 (done ++ [q]) Q J jg (by rw [List.append_assoc]; exact ja) (by rw [List.append_assoc]; exact j120) jq ji (fun x hx => jl x (List.mem_cons.mpr (Or.inr hx))) hu2
                 rw [show (done ++ [q]).length = done.length + 1 by rw [List.length_append]; rfl] at h
                 exact h)
              | (have hu2 : jQu E d (jAd (Q ++ [q]) l') (n + 1) = jQu E 3200 [k] 0 := by rw [← hu]; congr 1; show _ = jAd (if q ∈ Q then Q else Q ++ [q]) l'; rw [if_neg hnq]
                 have jg2 : mGa o I (sj_up (sj_up J (o + 18) q 1) (o + 19) Q.length (q : Nat)) := ⟨fun a e1 e2 e3 e4 => by rw [sj_up_row e4, sj_up_row e3]; exact jg.1 a e1 e2 e3 e4, fun j e1 e2 e3 => by rw [sj_up_ne (by omega), sj_up_ne (by omega)]; exact jg.2 j e1 e2 e3⟩
                 have ja2 : mAcc o (sj_up (sj_up J (o + 18) q 1) (o + 19) Q.length (q : Nat)) (done ++ q :: l') := ⟨by rw [sj_up_ne (by omega), sj_up_ne (by omega)]; exact ja.1, by rw [sj_up_row (by omega), sj_up_row (by omega)]; exact ja.2⟩
                 have h := ih2 (done ++ [q]) (Q ++ [q]) (sj_up (sj_up J (o + 18) q 1) (o + 19) Q.length (q : Nat)) jg2 (by rw [List.append_assoc]; exact ja2) (by rw [List.append_assoc]; exact j120) (jq.add hqk) (ji.add jql.1 jql.2 hnq) (fun x hx => jl x (List.mem_cons.mpr (Or.inr hx))) hu2
                 rw [show (done ++ [q]).length = done.length + 1 by rw [List.length_append]; rfl, hql2] at h
                 exact h)
          · have hnq : q ∉ Q := fun e => by rw [if_pos ⟨e, hqk⟩] at hfl; omega
            have hql := (ji.add jql.1 jql.2 hnq).len
            have hql2 : (Q ++ [q]).length = Q.length + 1 := by rw [List.length_append]; rfl
            refine sj_ald0 dX10_gather_91 ?_
            refine sj_getR fl_X10_61 (by assumption) rfl (mr_27 _) dX10_gather_92 ?_
            refine sj_ald0 dX10_gather_95 ?_
            refine sj_getR fl_X10_49 (by assumption) rfl (mr_20 _) dX10_gather_96 ?_
            refine sj_ild5 dX10_gather_99 ?_
            refine sj_ialdJ (done.length) (by assumption) (by omega) (by omega) (by omega) dX10_gather_101 ?_
            refine sj_iconst dX10_gather_102 ?_
            rw [hqv]
            refine sj_zastJ (q) (by assumption) (by omega) (by decide) (by omega) (by decide) dX10_gather_103 ?_
            refine sj_ald0 dX10_gather_104 ?_
            refine sj_getR fl_X10_65 (by assumption) rfl (mr_28 _) dX10_gather_105 ?_
            refine sj_ild2 dX10_gather_108 ?_
            refine sj_ald0 dX10_gather_109 ?_
            refine sj_getR fl_X10_49 (by assumption) rfl (mr_20 _) dX10_gather_110 ?_
            refine sj_ild5 dX10_gather_113 ?_
            refine sj_ialdJ (done.length) (by assumption) (by omega) (by omega) (by omega) dX10_gather_115 ?_
            first | rw [hqv] | rw [sj_up_row (show o + 14 ≠ o + 18 by omega), hqv]
            refine sj_iastJ (Q.length) (by assumption) (by omega) (by omega) (by omega) dX10_gather_116 ?_
            refine sj_inc2 (by decide) rfl dX10_gather_117 ?_
            refine sj_inc5 (by decide) rfl dX10_gather_120 ?_
            refine sj_goto 67 dX10_gather_123 (by decide) ?_
            first
              | (have hin : q ∈ Q := Classical.byContradiction (fun e => by rw [if_neg (fun z => e z.1)] at hfl; omega)
                 have hu2 : jQu E d (jAd Q l') (n + 1) = jQu E 3200 [k] 0 := by rw [← hu]; congr 1; show _ = jAd (if q ∈ Q then Q else Q ++ [q]) l'; rw [if_pos hin]
                 have h := ih2 (done ++ [q]) Q J jg (by rw [List.append_assoc]; exact ja) (by rw [List.append_assoc]; exact j120) jq ji (fun x hx => jl x (List.mem_cons.mpr (Or.inr hx))) hu2
                 rw [show (done ++ [q]).length = done.length + 1 by rw [List.length_append]; rfl] at h
                 exact h)
              | (have hu2 : jQu E d (jAd (Q ++ [q]) l') (n + 1) = jQu E 3200 [k] 0 := by rw [← hu]; congr 1; show _ = jAd (if q ∈ Q then Q else Q ++ [q]) l'; rw [if_neg hnq]
                 have jg2 : mGa o I (sj_up (sj_up J (o + 18) q 1) (o + 19) Q.length (q : Nat)) := ⟨fun a e1 e2 e3 e4 => by rw [sj_up_row e4, sj_up_row e3]; exact jg.1 a e1 e2 e3 e4, fun j e1 e2 e3 => by rw [sj_up_ne (by omega), sj_up_ne (by omega)]; exact jg.2 j e1 e2 e3⟩
                 have ja2 : mAcc o (sj_up (sj_up J (o + 18) q 1) (o + 19) Q.length (q : Nat)) (done ++ q :: l') := ⟨by rw [sj_up_ne (by omega), sj_up_ne (by omega)]; exact ja.1, by rw [sj_up_row (by omega), sj_up_row (by omega)]; exact ja.2⟩
                 have h := ih2 (done ++ [q]) (Q ++ [q]) (sj_up (sj_up J (o + 18) q 1) (o + 19) Q.length (q : Nat)) jg2 (by rw [List.append_assoc]; exact ja2) (by rw [List.append_assoc]; exact j120) (jq.add hqk) (ji.add jql.1 jql.2 hnq) (fun x hx => jl x (List.mem_cons.mpr (Or.inr hx))) hu2
                 rw [show (done ++ [q]).length = done.length + 1 by rw [List.length_append]; rfl, hql2] at h
                 exact h)
      have hqn : n < Q.length → J (o + 19) n = (Q.getD n 0 : Nat) := jq.1 n
      have hqm : n < Q.length → Q.getD n 0 ∈ Q := fun h => by
        have z : Q.getD n 0 = Q[n] := by simp [List.getD, h]
        rw [z]; exact List.getElem_mem h
      have h32 : n < Q.length → Q.getD n 0 < 3200 := fun h => (ji.2.2 _ (hqm h)).1
      refine sj_ild3 dX10_gather_33 ?_
      refine sj_ild2 dX10_gather_34 ?_
      refine sj_icmp_ge 132 dX10_gather_35 (by decide) (by omega) (by omega) (fun c_35 => ?_) (fun c_35 => ?_)
      · refine sj_ild2 dX10_gather_132 ?_
        refine sj_iconst dX10_gather_133 ?_
        refine sj_isub dX10_gather_134 ?_
        exact sj_iret dX10_gather_135 rfl rfl (Nat.le_of_ble_eq_true rfl) (Nat.le_of_ble_eq_true rfl) ⟨Q, by rw [← hu]; show Q = if n < Q.length then _ else Q; rw [if_neg (by omega)], by omega, by omega, fun q hq => (ji.2.2 q hq).1, by congr 3; omega, rfl, jg, jq.1⟩
      · obtain ⟨q, hqq⟩ : ∃ q, q = Q.getD n 0 := ⟨_, rfl⟩
        rw [← hqq] at hqn hqm h32
        have hqm := hqm (by omega)
        have h32 := h32 (by omega)
        have hks : jKs M E (s + 1) q := (ji.2.2 q hqm).2.elim (fun e => e ▸ hs1) (fun e => jKs_le e (Nat.le_succ s))
        obtain ⟨zz, hzz⟩ := hks
        obtain ⟨T, nd, hT1, hT2, -⟩ := jStg_of (w := I (o + 8)) (ρ := I (o + 9)) hzz (fun q u hq hu => hL.2.2.2 _ q u hq hu)
        have hnl : jNl E q = nd := by unfold jNl; rw [hT1]; show (jN T (q % 400)).getD [] = nd; rw [jEv_nd hT2]; rfl
        have hw1 : J (o + 1) = I (o + 1) := jg.1 (o + 1) (by omega) (by omega) (by omega) (by omega)
        have hw8 : J (o + 8) = I (o + 8) := jg.1 (o + 8) (by omega) (by omega) (by omega) (by omega)
        have hT3 : 0 < I (o + 1) (1 + 250 * (q / 400)) ∧ mB (I (o + 1)) (q / 400) = jEnc T ∧ jOk 1 T ∧ T.length ≤ 120 := by
          rcases hE.2 (q / 400) (by omega) with ⟨e1, -⟩ | ⟨T', e1, e2⟩
          · rw [e1] at hT1; cases hT1
          · rw [e1] at hT1; cases hT1; exact e2
        have jnl := ji.nl hs1 hqm
        have hqn := hqn (by omega)
        have hu3 : jQu E d (jAd Q (jNl E q)) (n + 1) = jQu E 3200 [k] 0 := by rw [← hu, hqq]; symm; show (if n < Q.length then _ else Q) = _; rw [if_pos (by omega)]
        refine sj_ald0 dX10_gather_38 ?_
        refine sj_ald0 dX10_gather_39 ?_
        refine sj_getR fl_X10_65 (by assumption) rfl (mr_28 _) dX10_gather_40 ?_
        refine sj_ild3 dX10_gather_43 ?_
        refine sj_ialdJ (n) (by assumption) (by omega) (by omega) (by omega) dX10_gather_44 ?_
        refine sj_sipush dX10_gather_45 (by decide) ?_
        rw [hqn]
        refine sj_idiv dX10_gather_48 (by omega) (by omega) ?_
        refine sj_ald0 dX10_gather_49 ?_
        refine sj_getR fl_X10_65 (by assumption) rfl (mr_28 _) dX10_gather_50 ?_
        refine sj_ild3 dX10_gather_53 ?_
        refine sj_ialdJ (n) (by assumption) (by omega) (by omega) (by omega) dX10_gather_54 ?_
        refine sj_sipush dX10_gather_55 (by decide) ?_
        rw [hqn]
        refine sj_irem dX10_gather_58 (by omega) (by omega) ?_
        refine sj_callV (cm_compute (a := q / 400) (i := q % 400) (M := M) (T := T) hS (by rw [hw1]; exact hW) (by omega) (by omega) (by rw [hw1]; exact hM) hM2 (by rw [hw1]; exact fun _ => hT3.2) (by rw [hw8]; exact hL.1)) kc_X10_184 (by assumption) rfl rfl rfl rfl (Nat.le_of_ble_eq_true rfl) dX10_gather_59 (fun r_59 σ_59 I_59 hp_59 => ?_)
        obtain ⟨rfl, hcp, hres⟩ := hp_59
        obtain ⟨xx, rfl, hacc, h120⟩ : ∃ xx, r_59 = some (.int (zI xx)) ∧ mAcc o I_59 nd ∧ nd.length ≤ 120 := by
          rw [hw1, hw8, hT2] at hres
          rcases hres with ⟨e1, -⟩ | ⟨-, ⟨e1, -⟩ | ⟨nd', x', e1, -, e2, e3, e4⟩⟩
          · exact absurd hT3.1 e1
          · cases e1
          · cases e1; exact ⟨_, e2, e3, e4⟩
        refine sj_ist4 (by decide) rfl dX10_gather_62 ?_
        refine sj_iconst dX10_gather_64 ?_
        refine sj_ist5 (by decide) rfl dX10_gather_65 ?_
        refine sj_fg4 ?_
        exact inn nd [] Q I_59 ⟨fun a e1 e2 e3 e4 => by rw [hcp.1 a e1 e2]; exact jg.1 a e1 e2 e3 e4, fun j e1 e2 e3 => by rw [hcp.2 j e1 e2 e3]; exact jg.2 j e1 e2 e3⟩ hacc h120 ⟨fun j hj => by rw [hcp.1 (o + 19) (by omega) (by omega)]; exact jq.1 j hj, fun x hx => by rw [hcp.1 (o + 18) (by omega) (by omega)]; exact jq.2 x hx⟩ ji (hnl ▸ jnl) (hnl ▸ hu3)
  have clr : ∀ (d i : Nat) (J : sjI), d + i = 3200 → mGa o I J → (∀ j, j < i → J (o + 18) j = 0) → sj_V l Γ mX10_gather G (fun r σ' I' => ∃ Q, Q = jQu E 3200 [k] 0 ∧ 1 ≤ Q.length ∧ Q.length ≤ 3200 ∧ (∀ q ∈ Q, q < 3200) ∧ r = some (.int (zI ((Q.length - 1 : Nat)))) ∧ σ = σ' ∧ mGa o I I' ∧ ∀ j, j < Q.length → I' (o + 19) j = (Q.getD j 0 : Nat)) σ J 0 0 2 [some (.ref o), some (.int (zI k)), some (.int (zI i)), none, none, none] [] := by
    intro d
    induction d with
    | zero =>
      intro i J hd jg jz
      refine sj_ild2 dX10_gather_2 ?_
      refine sj_sipush dX10_gather_3 (by decide) ?_
      refine sj_icmp_ge 22 dX10_gather_6 (by decide) (by omega) (by omega) (fun c_6 => ?_) (fun c_6 => ?_)
      rotate_left
      · exact absurd (by omega) c_6
      refine sj_ald0 dX10_gather_22 ?_
      refine sj_getR fl_X10_65 (by assumption) rfl (mr_28 _) dX10_gather_23 ?_
      refine sj_iconst dX10_gather_26 ?_
      refine sj_ild1 dX10_gather_27 ?_
      refine sj_iastJ (0) (by assumption) (by omega) (by omega) (by omega) dX10_gather_28 ?_
      refine sj_iconst dX10_gather_29 ?_
      refine sj_ist2 (by decide) rfl dX10_gather_30 ?_
      refine sj_iconst dX10_gather_31 ?_
      refine sj_ist3 (by decide) rfl dX10_gather_32 ?_
      refine out 3200 0 [k] _ (by omega) ⟨fun a e1 e2 e3 e4 => by rw [sj_up_row e4]; exact jg.1 a e1 e2 e3 e4, fun j e1 e2 e3 => by rw [sj_up_ne (by omega)]; exact jg.2 j e1 e2 e3⟩ ⟨fun j hj => ?_, fun x hx => ?_⟩ ⟨by simp, by simp, fun q hq => ?_⟩ rfl
      · have hj0 : j = 0 := by have : j < 1 := hj; omega
        subst hj0
        rw [sj_up_self]; rfl
      · rw [sj_up_row (by omega), jz x (by omega), if_neg (fun z => z.2 (List.mem_singleton.mp z.1))]
      · rw [List.mem_singleton.mp hq]; exact ⟨hk, Or.inl rfl⟩
    | succ d ih =>
      intro i J hd jg jz
      refine sj_ild2 dX10_gather_2 ?_
      refine sj_sipush dX10_gather_3 (by decide) ?_
      refine sj_icmp_ge 22 dX10_gather_6 (by decide) (by omega) (by omega) (fun c_6 => ?_) (fun c_6 => ?_)
      · exact absurd c_6 (by omega)
      refine sj_ald0 dX10_gather_9 ?_
      refine sj_getR fl_X10_61 (by assumption) rfl (mr_27 _) dX10_gather_10 ?_
      refine sj_ild2 dX10_gather_13 ?_
      refine sj_iconst dX10_gather_14 ?_
      refine sj_zastJ (i) (by assumption) (by omega) (by decide) (by omega) (by decide) dX10_gather_15 ?_
      refine sj_inc2 (by decide) rfl dX10_gather_16 ?_
      refine sj_goto 2 dX10_gather_19 (by decide) ?_
      refine ih (i + 1) _ (by omega) ⟨fun a e1 e2 e3 e4 => by rw [sj_up_row e3]; exact jg.1 a e1 e2 e3 e4, fun j e1 e2 e3 => by rw [sj_up_ne (by omega)]; exact jg.2 j e1 e2 e3⟩ (fun j hj => ?_)
      rcases Nat.lt_or_ge j i with h1 | h1
      · rw [sj_up_ne (by omega)]; exact jz j h1
      · have h2 : j = i := by omega
        subst h2
        rw [sj_up_self]
  refine sj_iconst dX10_gather_0 ?_
  refine sj_ist2 (by decide) rfl dX10_gather_1 ?_
  exact clr 3200 0 I (by omega) ⟨fun _ _ _ _ _ => rfl, fun _ _ _ _ => rfl⟩ (fun j hj => absurd hj (by omega))
end MODEL28
