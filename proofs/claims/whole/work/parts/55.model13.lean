/-- a term in place of a term -/
theorem jOk_repl : ∀ (X M M' R : List Int) (n : Nat), jOk n (X ++ (M ++ R)) → jOk 1 M → jOk 1 M' → jOk n (X ++ (M' ++ R))
  | [], M, M', R, n, h, h1, h2 => by
    obtain ⟨c, L, rfl, -, -⟩ := jOk_ne h1
    match n, h with
    | n + 1, h =>
      rw [Nat.add_comm] at h ⊢
      have h3 := (jOk_split _ 1 n h).2
      rw [List.nil_append, (jTk_app _ R 1 h1).2] at h3
      rw [List.nil_append]
      exact jOk_app M' R 1 n h2 h3
  | x :: X, M, M', R, 0, h, h1, h2 => h.elim
  | x :: X, M, M', R, n + 1, h, h1, h2 => ⟨h.1, jOk_repl X M M' R _ h.2 h1 h2⟩
theorem jStep_some {A L M : List Int} {c : Int} (h : jRoot (jTk 1 (c :: L)) = some M) : jStep A (c :: L) = some (A ++ (M ++ jDr 1 (c :: L))) := by
  show (match jRoot (jTk 1 (c :: L)) with
    | some M => some (A ++ (M ++ jDr 1 (c :: L)))
    | none => jStep (A ++ [c]) L) = _
  rw [h]
theorem jStep_none {A L : List Int} {c : Int} (h : jRoot (jTk 1 (c :: L)) = none) : jStep A (c :: L) = jStep (A ++ [c]) L := by
  show (match jRoot (jTk 1 (c :: L)) with
    | some M => some (A ++ (M ++ jDr 1 (c :: L)))
    | none => jStep (A ++ [c]) L) = _
  rw [h]
theorem jStep_spec : ∀ (L A : List Int) (m : Nat) (T : List Int), jOk m L → jStep A L = some T → ∃ X M M' R, L = X ++ (M ++ R) ∧ T = A ++ (X ++ (M' ++ R)) ∧ jOk 1 M ∧ jRoot M = some M'
  | [], A, m, T, _, h => by cases h
  | c :: L, A, 0, T, hm, h => hm.elim
  | c :: L, A, m + 1, T, hm, h => by
    have hs := jOk_split (c :: L) 1 m (by rw [Nat.add_comm]; exact hm)
    unfold jStep at h
    split at h
    · rename_i M' hM'
      cases h
      exact ⟨[], jTk 1 (c :: L), M', jDr 1 (c :: L), (jTkDr _ 1).symm, rfl, hs.1, hM'⟩
    · obtain ⟨X, M, M', R, e1, e2, e3, e4⟩ := jStep_spec L (A ++ [c]) _ T hm.2 h
      exact ⟨c :: X, M, M', R, by rw [e1]; rfl, by rw [e2, List.append_assoc]; rfl, e3, e4⟩
theorem jStep_ok {T T' : List Int} (h : jOk 1 T) (hs : jStep [] T = some T') : jOk 1 T' ∧ T'.length ≤ T.length + 1 := by
  obtain ⟨X, M, M', R, e1, e2, e3, e4⟩ := jStep_spec T [] 1 T' h hs
  obtain ⟨r1, r2, r3⟩ := jRoot_ok e3 e4
  rw [List.nil_append] at e2
  refine ⟨by rw [e2]; rw [e1] at h; exact jOk_repl X M M' R 1 h e3 r1, ?_⟩
  rw [e1, e2]
  simp only [List.length_append]
  omega
/-- only the rows of rewriting have changed -/
def mOld (o : Nat) (I J : sjI) : Prop := (∀ a, a ≠ o → a ≠ o + 6 → a ≠ o + 7 → J a = I a) ∧ ∀ j, j ≠ 11 → j ≠ 12 → J o j = I o j
/-- the rewritten bytes stand in their row -/
def mTx (o : Nat) (I : sjI) (T : List Int) : Prop := I o 11 = (jEnc T).length ∧ lst (I (o + 7)) 0 (jEnc T).length = jEnc T
def mSf (o : Nat) (I J : sjI) (T : List Int) (r : Option Value) : Prop := mOld o I J ∧ match jStep [] T with
  | some T' => r = some (.int (zI 1)) ∧ mTx o J T'
  | none => r = some (.int (zI 0)) ∧ mTx o J T
theorem mSf_some {o : Nat} {I J : sjI} {T T' : List Int} {r : Option Value} (hs : jStep [] T = some T') (h1 : mOld o I J) (hr : r = some (.int (zI 1))) (h2 : mTx o J T') : mSf o I J T r := by
  unfold mSf
  rw [hs]
  exact ⟨h1, hr, h2⟩
theorem mSf_none {o : Nat} {I J : sjI} {T : List Int} {r : Option Value} (hs : jStep [] T = none) (h1 : mOld o I J) (hr : r = some (.int (zI 0))) (h2 : mTx o J T) : mSf o I J T r := by
  unfold mSf
  rw [hs]
  exact ⟨h1, hr, h2⟩
section MODEL13
variable {l : Launch} {G : sjG} {σ : sjS} {I : sjI}
theorem cm_simplifies {o : Nat} {T : List Int} (hS : mSh σ o) (hok : jOk 1 T) (hT : T.length ≤ 120) (hx : mTx o I T) : sj_Con l yX10_simplifies mX10_simplifies G σ I [.ref o] (fun r σ' I' => σ = σ' ∧ mSf o I I' T r) := by
  obtain ⟨h_o, h_w, h_past, h_images, h_text, h_read, h_made, h_old, h_values, h_ranks, h_operator, h_indexAt, h_second, h_first, h_needed, h_shifts, h_around, h_best, h_isNeeded, h_toSee, h_held, h_there⟩ := id hS
  refine sj_con_of (L0 := [some (.ref o), none, none]) (by decide) rfl rfl rfl (Nat.le_of_ble_eq_true rfl) rfl (fun Γ => ?_)
  have hTl := jEnc_len T
  obtain ⟨hx1, hx2⟩ := id hx
  -- the made bytes become the old ones
  have lpc : ∀ (T' : List Int) (J : sjI), jStep [] T = some T' → mMd o I J (jEnc T') → (jEnc T').length ≤ 500 → ∀ (d i : Nat), i + d = (jEnc T').length → sj_V l Γ mX10_simplifies G (fun r σ' I' => σ = σ' ∧ mSf o I I' T r) σ (sj_ur J (o + 7) (va_cpy (J (o + 6)) (J (o + 7)) 0 0 i)) 0 0 47 [some (.ref o), none, some (.int (zI i))] [] := by
    intro T' J hs hmd hl d
    obtain ⟨g1, g2, g3, g4⟩ := hmd
    induction d with
    | zero =>
      intro i hi
      have hii : i = (jEnc T').length := by omega
      subst hii
      refine sj_ild2 dX10_simplifies_47 ?_
      refine sj_ald0 dX10_simplifies_48 ?_
      refine sj_getI fl_X10_129 (by assumption) rfl dX10_simplifies_49 ?_
      rw [sj_ur_ne (by omega), g3]
      refine sj_icmp_ge 73 dX10_simplifies_52 (by decide) (by omega) (by omega) (fun c_52 => ?_) (fun c_52 => ?_)
      rotate_left
      · exact absurd (by omega) c_52
      refine sj_ald0 dX10_simplifies_73 ?_
      refine sj_ald0 dX10_simplifies_74 ?_
      refine sj_getI fl_X10_129 (by assumption) rfl dX10_simplifies_75 ?_
      rw [sj_ur_ne (by omega), g3]
      refine sj_putI fl_X10_156 (by assumption) rfl rfl rfl dX10_simplifies_78 ?_
      refine sj_iconst dX10_simplifies_81 ?_
      exact sj_iret dX10_simplifies_82 rfl (by decide) (Nat.le_of_ble_eq_true rfl) (Nat.le_of_ble_eq_true rfl) ⟨rfl, mSf_some hs ⟨fun a e1 e2 e3 => by rw [sj_up_row e1, sj_ur_ne e3]; exact g1 a e1 e2, fun j e1 e2 => by rw [sj_up_ne (by omega), sj_ur_ne (by omega)]; exact g2 j e2⟩ rfl ⟨sj_up_self _ _ _ _, by
        rw [sj_up_row (by omega), sj_ur_self]
        rw [← g4]
        rw [lst_len]
        apply lst_congr
        intro j hj
        rw [cpy_in hj]⟩⟩
    | succ d ih =>
      intro i hi
      refine sj_ild2 dX10_simplifies_47 ?_
      refine sj_ald0 dX10_simplifies_48 ?_
      refine sj_getI fl_X10_129 (by assumption) rfl dX10_simplifies_49 ?_
      rw [sj_ur_ne (by omega), g3]
      refine sj_icmp_ge 73 dX10_simplifies_52 (by decide) (by omega) (by omega) (fun c_52 => ?_) (fun c_52 => ?_)
      · exact absurd c_52 (by omega)
      refine sj_ald0 dX10_simplifies_55 ?_
      refine sj_getR fl_X10_28 (by assumption) rfl (mr_10 _) dX10_simplifies_56 ?_
      refine sj_ild2 dX10_simplifies_59 ?_
      refine sj_ald0 dX10_simplifies_60 ?_
      refine sj_getR fl_X10_25 (by assumption) rfl (mr_9 _) dX10_simplifies_61 ?_
      refine sj_ild2 dX10_simplifies_64 ?_
      refine sj_ialdJ (0 + i) (by assumption) (by omega) (by omega) (by omega) dX10_simplifies_65 ?_
      rw [sj_ur_ne (by omega)]
      refine sj_iastJ (0 + i) (by assumption) (by omega) (by omega) (by omega) dX10_simplifies_66 ?_
      rw [cpy_step]
      refine sj_inc2 (by decide) rfl dX10_simplifies_67 ?_
      refine sj_goto 47 dX10_simplifies_70 (by decide) ?_
      exact ih (i + 1) (by omega)
  have lp : ∀ (L A : List Int) (m : Nat) (J : sjI), A ++ L = T → jOk m L → jStep A L = jStep [] T → (∀ a, a ≠ o → a ≠ o + 6 → J a = I a) → (∀ j, j ≠ 12 → J o j = I o j) → sj_V l Γ mX10_simplifies G (fun r σ' I' => σ = σ' ∧ mSf o I I' T r) σ J 0 0 2 [some (.ref o), some (.int (zI ((jEnc A).length : Nat))), none] [] := by
    intro L
    induction L with
    | nil =>
      intro A m J hA hm hst j1 j2
      rw [List.append_nil] at hA
      subst hA
      have j11 : J o 11 = I o 11 := j2 11 (by decide)
      refine sj_ild1 dX10_simplifies_2 ?_
      refine sj_ald0 dX10_simplifies_3 ?_
      refine sj_getI fl_X10_156 (by assumption) rfl dX10_simplifies_4 ?_
      rw [j11, hx1]
      refine sj_icmp_ge 105 dX10_simplifies_7 (by decide) (by omega) (by omega) (fun c_7 => ?_) (fun c_7 => ?_)
      rotate_left
      · exact absurd (by omega) c_7
      refine sj_iconst dX10_simplifies_105 ?_
      exact sj_iret dX10_simplifies_106 rfl (by decide) (Nat.le_of_ble_eq_true rfl) (Nat.le_of_ble_eq_true rfl) ⟨rfl, mSf_none hst.symm ⟨fun a e1 e2 e3 => j1 a e1 e2, fun j e1 e2 => j2 j e2⟩ rfl ⟨by rw [j11, hx1], by rw [j1 (o + 7) (by omega) (by omega)]; exact hx2⟩⟩
    | cons c L ih =>
      intro A m J hA hm hst j1 j2
      match m, hm with
      | m + 1, hm =>
        have hs := jOk_split (c :: L) 1 m (by rw [Nat.add_comm]; exact hm)
        have hMR := jTkDr (c :: L) 1
        have hv : jVc c := hm.1
        have j11 : J o 11 = I o 11 := j2 11 (by decide)
        have hTe : (jEnc T).length = (jEnc A).length + ((jEnc (jTk 1 (c :: L))).length + (jEnc (jDr 1 (c :: L))).length) := by
          rw [← hA, jEnc_app, List.length_append, ← List.length_append (as := jEnc (jTk 1 (c :: L))), ← jEnc_app, hMR]
        rw [← hA, jEnc_app] at hx2
        obtain ⟨x1, x2⟩ := lst_both hx2
        rw [Nat.zero_add] at x2
        obtain ⟨y1, -, y3⟩ := lst_code x2
        rw [← hMR, jEnc_app] at x2
        obtain ⟨x3, x4⟩ := lst_both x2
        have hcl := (jEnc_len (jTk 1 (c :: L))).1
        have htl := jOk_len _ _ hs.1
        have hel := jE_len c
        have hm0 : mMd o I (sj_up J o 12 0) [] := ⟨fun a e1 e2 => by rw [sj_up_row e1]; exact j1 a e1 e2, fun j e => by rw [sj_up_ne (by omega)]; exact j2 j e, sj_up_self _ _ _ _, rfl⟩
        have k1 : ∀ (M' : List Int) (J : sjI), jRoot (jTk 1 (c :: L)) = some M' → mMd o I J (jEnc A ++ jEnc M') → sj_V l Γ mX10_simplifies G (fun r σ' I' => σ = σ' ∧ mSf o I I' T r) σ J 0 0 26 [some (.ref o), some (.int (zI ((jEnc A).length : Nat))), none] [.int (zI 1)] := by
          intro M' J hM' q2
          have hst := (jStep_some (A := A) hM').symm.trans hst
          have hr := jRoot_ok hs.1 hM'
          have h7 : J (o + 7) = I (o + 7) := q2.1 (o + 7) (by omega) (by omega)
          have h11 : J o 11 = I o 11 := q2.2.1 11 (by decide)
          have hT' : jEnc (A ++ (M' ++ jDr 1 (c :: L))) = jEnc A ++ jEnc M' ++ jEnc (jDr 1 (c :: L)) := by rw [jEnc_app, jEnc_app, List.append_assoc]
          have hl' : (jEnc (A ++ (M' ++ jDr 1 (c :: L)))).length ≤ 500 := by rw [hT', List.length_append, List.length_append]; omega
          refine sj_if_eq 83 dX10_simplifies_26 (by decide) (by omega) (fun c_26 => ?_) (fun c_26 => ?_)
          · exact absurd c_26 (by omega)
          refine sj_ald0 dX10_simplifies_29 ?_
          refine sj_ald0 dX10_simplifies_30 ?_
          refine sj_getR fl_X10_28 (by assumption) rfl (mr_10 _) dX10_simplifies_31 ?_
          refine sj_ild1 dX10_simplifies_34 ?_
          refine sj_callS (cm_skip h_old (by omega) hs.1 (by rw [h7]; exact x3) (by omega)) kc_X10_136 rfl rfl (Nat.le_of_ble_eq_true rfl) dX10_simplifies_35 (fun r_35 σ_35 I_35 hp_35 => ?_)
          obtain ⟨rfl, rfl, rfl⟩ := hp_35
          refine sj_ald0 dX10_simplifies_38 ?_
          refine sj_getI fl_X10_156 (by assumption) rfl dX10_simplifies_39 ?_
          rw [h11, hx1, show (jEnc T).length = (jEnc A).length + (jEnc (jTk 1 (c :: L))).length + (jEnc (jDr 1 (c :: L))).length by omega]
          refine sj_callV (cm_layPart hS q2 (by omega) (by rw [List.length_append]; omega)) kc_X10_140 (by assumption) rfl rfl rfl rfl (Nat.le_of_ble_eq_true rfl) dX10_simplifies_42 (fun r_42 σ_42 I_42 hp_42 => ?_)
          obtain ⟨rfl, rfl, q3⟩ := hp_42
          rw [x4, ← hT'] at q3
          refine sj_iconst dX10_simplifies_45 ?_
          refine sj_ist2 (by decide) rfl dX10_simplifies_46 ?_
          refine sj_fg1 ?_
          have h := lpc _ I_42 hst.symm q3 hl' _ 0 (Nat.zero_add _)
          rw [cpy_zero] at h
          exact h
        have k0 : ∀ (J : sjI), jRoot (jTk 1 (c :: L)) = none → mMd o I J (jEnc A) → sj_V l Γ mX10_simplifies G (fun r σ' I' => σ = σ' ∧ mSf o I I' T r) σ J 0 0 26 [some (.ref o), some (.int (zI ((jEnc A).length : Nat))), none] [.int (zI 0)] := by
          intro J hM' q2
          have hst := (jStep_none (A := A) hM').symm.trans hst
          have h7 : J (o + 7) = I (o + 7) := q2.1 (o + 7) (by omega) (by omega)
          have hn := ih (A ++ [c]) _ J (by rw [List.append_assoc]; exact hA) hm.2 hst (fun a e1 e2 => q2.1 a e1 e2) (fun j e => q2.2.1 j e)
          rw [jEnc_app, List.length_append, show jEnc [c] = jE c by rw [jEnc_cons, jEnc_nil, List.append_nil], hel] at hn
          unfold jVc at hv
          by_cases hc : 128 ≤ c
          · rw [if_pos hc] at hn y1
            refine sj_if_eq 83 dX10_simplifies_26 (by decide) (by omega) (fun c_26 => ?_) (fun c_26 => ?_)
            rotate_left
            · exact absurd rfl c_26
            refine sj_ild1 dX10_simplifies_83 ?_
            refine sj_ald0 dX10_simplifies_84 ?_
            refine sj_getR fl_X10_28 (by assumption) rfl (mr_10 _) dX10_simplifies_85 ?_
            refine sj_ild1 dX10_simplifies_88 ?_
            refine sj_ialdJ ((jEnc A).length) (by assumption) (by omega) (by omega) (by omega) dX10_simplifies_89 ?_
            rw [h7, y1]
            refine sj_bipush dX10_simplifies_90 (by decide) ?_
            refine sj_icmp_ne 99 dX10_simplifies_92 (by decide) (by omega) (by omega) (fun c_92 => ?_) (fun c_92 => ?_)
            · exact absurd rfl c_92
            refine sj_iconst dX10_simplifies_95 ?_
            refine sj_goto 100 dX10_simplifies_96 (by decide) ?_
            refine sj_iadd dX10_simplifies_100 ?_
            refine sj_ist1 (by decide) rfl dX10_simplifies_101 ?_
            refine sj_goto 2 dX10_simplifies_102 (by decide) ?_
            exact hn
          · rw [if_neg hc] at hn y1
            refine sj_if_eq 83 dX10_simplifies_26 (by decide) (by omega) (fun c_26 => ?_) (fun c_26 => ?_)
            rotate_left
            · exact absurd rfl c_26
            refine sj_ild1 dX10_simplifies_83 ?_
            refine sj_ald0 dX10_simplifies_84 ?_
            refine sj_getR fl_X10_28 (by assumption) rfl (mr_10 _) dX10_simplifies_85 ?_
            refine sj_ild1 dX10_simplifies_88 ?_
            refine sj_ialdJ ((jEnc A).length) (by assumption) (by omega) (by omega) (by omega) dX10_simplifies_89 ?_
            rw [h7, y1]
            refine sj_bipush dX10_simplifies_90 (by decide) ?_
            refine sj_icmp_ne 99 dX10_simplifies_92 (by decide) (by omega) (by omega) (fun c_92 => ?_) (fun c_92 => ?_)
            rotate_left
            · exact absurd (by omega) c_92
            refine sj_iconst dX10_simplifies_99 ?_
            refine sj_iadd dX10_simplifies_100 ?_
            refine sj_ist1 (by decide) rfl dX10_simplifies_101 ?_
            refine sj_goto 2 dX10_simplifies_102 (by decide) ?_
            exact hn
        refine sj_ild1 dX10_simplifies_2 ?_
        refine sj_ald0 dX10_simplifies_3 ?_
        refine sj_getI fl_X10_156 (by assumption) rfl dX10_simplifies_4 ?_
        rw [j11, hx1]
        refine sj_icmp_ge 105 dX10_simplifies_7 (by decide) (by omega) (by omega) (fun c_7 => ?_) (fun c_7 => ?_)
        · exact absurd c_7 (by omega)
        refine sj_ald0 dX10_simplifies_10 ?_
        refine sj_iconst dX10_simplifies_11 ?_
        refine sj_putI fl_X10_129 (by assumption) rfl rfl rfl dX10_simplifies_12 ?_
        refine sj_ald0 dX10_simplifies_15 ?_
        refine sj_iconst dX10_simplifies_16 ?_
        refine sj_ild1 dX10_simplifies_17 ?_
        refine sj_callV (by have h := cm_layPart (l := l) (G := G) (s := 0) (n := (jEnc A).length) hS hm0 (by omega) (by show 0 + _ ≤ 500; omega); rw [Nat.zero_add] at h; exact h) kc_X10_140 (by assumption) rfl rfl rfl rfl (Nat.le_of_ble_eq_true rfl) dX10_simplifies_18 (fun r_18 σ_18 I_18 hp_18 => ?_)
        obtain ⟨rfl, rfl, q1⟩ := hp_18
        rw [List.nil_append, x1] at q1
        refine sj_ald0 dX10_simplifies_21 ?_
        refine sj_ild1 dX10_simplifies_22 ?_
        refine sj_callV (cm_layRule hS q1 hs.1 x3 (by omega) (by omega)) kc_X10_159 (by assumption) rfl rfl rfl rfl (Nat.le_of_ble_eq_true rfl) dX10_simplifies_23 (fun r_23 σ_23 I_23 hp_23 => ?_)
        obtain ⟨rfl, q2⟩ := hp_23
        unfold mRl at q2
        split at q2
        · rename_i M' hM'
          obtain ⟨rfl, q2⟩ := q2
          exact k1 M' I_23 hM' q2
        · rename_i hM'
          obtain ⟨rfl, q2⟩ := q2
          exact k0 I_23 hM' q2
        skip
  refine sj_iconst dX10_simplifies_0 ?_
  refine sj_ist1 (by decide) rfl dX10_simplifies_1 ?_
  exact lp T [] 1 I rfl hok rfl (fun _ _ _ => rfl) (fun _ _ => rfl)
end MODEL13
