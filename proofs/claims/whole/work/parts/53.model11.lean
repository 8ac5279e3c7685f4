/-- what a rule's method does -/
def mRl (o : Nat) (I J : sjI) (D : List Int) (R : Option (List Int)) (r : Option Value) : Prop := match R with
  | some M => r = some (.int (zI 1)) ∧ mMd o I J (D ++ jEnc M)
  | none => r = some (.int (zI 0)) ∧ mMd o I J D
theorem mRl_some {o : Nat} {I J : sjI} {D M : List Int} {R : Option (List Int)} (hR : R = some M) (h : mMd o I J (D ++ jEnc M)) : mRl o I J D R (some (.int (zI 1))) := by subst hR; exact ⟨rfl, h⟩
theorem mRl_none {o : Nat} {I J : sjI} {D : List Int} {R : Option (List Int)} (hR : R = none) (h : mMd o I J D) : mRl o I J D R (some (.int (zI 0))) := by subst hR; exact ⟨rfl, h⟩
theorem jE_1 {c : Int} (h : c < 128) : jEnc [c] = [c] := by rw [jEnc_cons, jE_else (by omega)]; rfl
section MODEL11
variable {l : Launch} {G : sjG} {σ : sjS} {I J : sjI}
theorem cm_layTail {o k : Nat} {D L : List Int} (hS : mSh σ o) (hD : mMd o I J D) (hok : jOk 1 L) (hM : lst (I (o + 7)) k (jEnc (116 :: L)).length = jEnc (116 :: L)) (hk : k + (jEnc (116 :: L)).length ≤ 500) (hl : D.length + (jEnc (116 :: L)).length + 1 ≤ 500) : sj_Con l yX10_layTail mX10_layTail G σ J [.ref o, .int (zI k)] (fun r σ' I' => σ = σ' ∧ mRl o I I' D (jRoot (116 :: L)) r) := by
  obtain ⟨h_o, h_w, h_past, h_images, h_text, h_read, h_made, h_old, h_values, h_ranks, h_operator, h_indexAt, h_second, h_first, h_needed, h_shifts, h_around, h_best, h_isNeeded, h_toSee, h_held, h_there⟩ := id hS
  refine sj_con_of (L0 := [some (.ref o), some (.int (zI k)), none, none, none]) (by decide) rfl rfl rfl (Nat.le_of_ble_eq_true rfl) rfl (fun Γ => ?_)
  have hok2 : jOk 1 (116 :: L) := ⟨by unfold jVc; omega, by rw [show 0 + jAr 116 = 1 from rfl]; exact hok⟩
  obtain ⟨u, N, rfl, hv, hN⟩ := jOk_ne hok
  rw [Nat.zero_add] at hN
  have h7 : J (o + 7) = I (o + 7) := hD.1 (o + 7) (by omega) (by omega)
  obtain ⟨e0, -, e1⟩ := lst_code hM
  rw [show (jE 116).length = 1 from rfl] at e1
  obtain ⟨e2, e3, e4⟩ := lst_code e1
  have hlen : (jEnc (116 :: u :: N)).length = 1 + ((jE u).length + (jEnc N).length) := by rw [jEnc_cons, jEnc_cons, List.length_append, List.length_append]; rfl
  have hul := jE_len u
  have hR : jRoot (116 :: u :: N) = if 128 ≤ u then some N else if u = 43 ∨ u = 42 then some (u :: 116 :: (jTk 1 N ++ 116 :: jDr 1 N)) else if u = 122 then some (122 :: (jDr 1 N ++ 116 :: jTk 1 N)) else if u = 101 ∨ u = 111 then some (u :: 116 :: 116 :: N) else if 48 ≤ u ∧ u ≤ 57 then some [u] else none := by rw [jRoot_cons, if_pos rfl, jRt_cons]
  have hsk : sj_Con l yX10_skip mX10_skip G σ J [.ref (o + 7), .int (zI k)] (fun r σ' I' => r = some (.int (zI (k + (jEnc (116 :: u :: N)).length : Nat))) ∧ σ = σ' ∧ J = I') := cm_skip h_old (by omega) hok2 (by rw [h7]; exact hM) hk
  generalize (jEnc (116 :: u :: N)).length = n at hlen hk hl hsk
  by_cases hu : 128 ≤ u
  · rw [if_pos hu] at e2 hul hR
    rw [hul] at e4 hlen
    refine sj_ald0 dX10_layTail_0 ?_
    refine sj_getR fl_X10_28 (by assumption) rfl (mr_10 _) dX10_layTail_1 ?_
    refine sj_ild1 dX10_layTail_4 ?_
    refine sj_iconst dX10_layTail_5 ?_
    refine sj_iadd dX10_layTail_6 ?_
    refine sj_ialdJ (k + 1) (by assumption) (by omega) (by omega) (by omega) dX10_layTail_7 ?_
    rw [h7, e2]
    refine sj_ist2 (by decide) rfl dX10_layTail_8 ?_
    refine sj_ald0 dX10_layTail_9 ?_
    refine sj_getR fl_X10_28 (by assumption) rfl (mr_10 _) dX10_layTail_10 ?_
    refine sj_ild1 dX10_layTail_13 ?_
    refine sj_callS (hsk) kc_X10_136 rfl rfl (Nat.le_of_ble_eq_true rfl) dX10_layTail_14 (fun r_14 σ_14 I_14 hp_14 => ?_)
    obtain ⟨rfl, rfl, rfl⟩ := hp_14
    refine sj_ist3 (by decide) rfl dX10_layTail_17 ?_
    refine sj_ild1 dX10_layTail_18 ?_
    refine sj_iconst dX10_layTail_19 ?_
    refine sj_iadd dX10_layTail_20 ?_
    refine sj_ist4 (by decide) rfl dX10_layTail_21 ?_
    refine sj_ild2 dX10_layTail_23 ?_
    refine sj_lookup (off := 60) 84 dX10_layTail_24 (by decide) (by omega) (by rfl) (by decide) ?_
    refine sj_ald0 dX10_layTail_84 ?_
    refine sj_ild1 dX10_layTail_85 ?_
    refine sj_iconst dX10_layTail_86 ?_
    refine sj_iadd dX10_layTail_87 ?_
    refine sj_ild3 dX10_layTail_88 ?_
    rw [show (k : Int) + 3 = ((k + 3 : Nat) : Int) by omega, show k + n = k + 3 + (jEnc N).length by omega]
    refine sj_callV (cm_layPart (n := (jEnc N).length) (s := k + 3) hS hD (by omega) (by omega)) kc_X10_140 (by assumption) rfl rfl rfl rfl (Nat.le_of_ble_eq_true rfl) dX10_layTail_89 (fun r_89 σ_89 I_89 hp_89 => ?_)
    obtain ⟨rfl, rfl, q1⟩ := hp_89
    rw [show k + 3 = k + 1 + 2 by omega, e4] at q1
    refine sj_iconst dX10_layTail_92 ?_
    exact sj_iret dX10_layTail_93 rfl (by decide) (Nat.le_of_ble_eq_true rfl) (Nat.le_of_ble_eq_true rfl) ⟨rfl, mRl_some hR q1⟩
  · rw [if_neg hu] at e2 hul hR
    rw [hul, show k + 1 + 1 = k + 2 by omega] at e4
    rw [hul] at hlen
    unfold jVc at hv
    have hdg := jbs (48 ≤ u ∧ u ≤ 57)
    have hpair : u = 43 ∨ u = 42 ∨ u = 122 → jOk 1 (jTk 1 N) ∧ jOk 1 (jDr 1 N) ∧ lst (I (o + 7)) (k + 2) (jEnc (jTk 1 N)).length = jEnc (jTk 1 N) ∧ lst (I (o + 7)) (k + 2 + (jEnc (jTk 1 N)).length) (jEnc (jDr 1 N)).length = jEnc (jDr 1 N) ∧ (jEnc N).length = (jEnc (jTk 1 N)).length + (jEnc (jDr 1 N)).length := by
      intro hp
      have ha : jAr u = 2 := if_pos (by omega)
      rw [ha] at hN
      obtain ⟨a1, a2, a3⟩ := jOk_two hN
      rw [← a3, jEnc_app] at e4
      obtain ⟨b1, b2⟩ := lst_both e4
      exact ⟨a1, a2, b1, b2, by rw [← List.length_append, ← jEnc_app, a3]⟩
    refine sj_ald0 dX10_layTail_0 ?_
    refine sj_getR fl_X10_28 (by assumption) rfl (mr_10 _) dX10_layTail_1 ?_
    refine sj_ild1 dX10_layTail_4 ?_
    refine sj_iconst dX10_layTail_5 ?_
    refine sj_iadd dX10_layTail_6 ?_
    refine sj_ialdJ (k + 1) (by assumption) (by omega) (by omega) (by omega) dX10_layTail_7 ?_
    rw [h7, e2]
    refine sj_ist2 (by decide) rfl dX10_layTail_8 ?_
    refine sj_ald0 dX10_layTail_9 ?_
    refine sj_getR fl_X10_28 (by assumption) rfl (mr_10 _) dX10_layTail_10 ?_
    refine sj_ild1 dX10_layTail_13 ?_
    refine sj_callS (hsk) kc_X10_136 rfl rfl (Nat.le_of_ble_eq_true rfl) dX10_layTail_14 (fun r_14 σ_14 I_14 hp_14 => ?_)
    obtain ⟨rfl, rfl, rfl⟩ := hp_14
    refine sj_ist3 (by decide) rfl dX10_layTail_17 ?_
    refine sj_ild1 dX10_layTail_18 ?_
    refine sj_iconst dX10_layTail_19 ?_
    refine sj_iadd dX10_layTail_20 ?_
    refine sj_ist4 (by decide) rfl dX10_layTail_21 ?_
    refine sj_ild2 dX10_layTail_23 ?_
    rcases (show 42 = u ∨ 43 = u ∨ 58 = u ∨ 101 = u ∨ 111 = u ∨ 122 = u ∨ (¬ 42 = u ∧ ¬ 43 = u ∧ ¬ 58 = u ∧ ¬ 101 = u ∧ ¬ 111 = u ∧ ¬ 122 = u) by omega) with c_24 | c_24 | c_24 | c_24 | c_24 | c_24 | c_24
    · refine sj_lookup 94 dX10_layTail_24 (by decide) (by omega) (by rw [← c_24]) (by decide) ?_
      obtain ⟨a1, a2, b1, b2, b3⟩ := hpair (by omega)
      rw [if_pos (by omega)] at hR
      refine sj_ald0 dX10_layTail_94 ?_
      refine sj_ild2 dX10_layTail_95 ?_
      refine sj_callV (cm_lay' hS hD (by omega)) kc_X10_132 (by assumption) rfl rfl rfl rfl (Nat.le_of_ble_eq_true rfl) dX10_layTail_96 (fun r_96 σ_96 I_96 hp_96 => ?_)
      obtain ⟨rfl, rfl, q1⟩ := hp_96
      refine sj_ald0 dX10_layTail_99 ?_
      refine sj_bipush dX10_layTail_100 (by decide) ?_
      refine sj_callV (cm_lay' hS q1 (by rw [List.length_append]; show D.length + 1 < 500; omega)) kc_X10_132 (by assumption) rfl rfl rfl rfl (Nat.le_of_ble_eq_true rfl) dX10_layTail_102 (fun r_102 σ_102 I_102 hp_102 => ?_)
      obtain ⟨rfl, rfl, q2⟩ := hp_102
      refine sj_ald0 dX10_layTail_105 ?_
      refine sj_ild4 dX10_layTail_106 ?_
      refine sj_ald0 dX10_layTail_108 ?_
      refine sj_getR fl_X10_28 (by assumption) rfl (mr_10 _) dX10_layTail_109 ?_
      refine sj_ild4 dX10_layTail_112 ?_
      rw [show (k : Int) + 2 = ((k + 2 : Nat) : Int) by omega]
      have h72 : I_102 (o + 7) = I (o + 7) := q2.1 (o + 7) (by omega) (by omega)
      refine sj_callS (cm_skip h_old (by omega) a1 (by rw [h72]; exact b1) (by omega)) kc_X10_136 rfl rfl (Nat.le_of_ble_eq_true rfl) dX10_layTail_114 (fun r_114 σ_114 I_114 hp_114 => ?_)
      obtain ⟨rfl, rfl, rfl⟩ := hp_114
      refine sj_callV (cm_layPart hS q2 (by omega) (by rw [List.length_append, List.length_append]; show D.length + 1 + 1 + _ ≤ 500; omega)) kc_X10_140 (by assumption) rfl rfl rfl rfl (Nat.le_of_ble_eq_true rfl) dX10_layTail_117 (fun r_117 σ_117 I_117 hp_117 => ?_)
      obtain ⟨rfl, rfl, q3⟩ := hp_117
      rw [b1] at q3
      refine sj_ald0 dX10_layTail_120 ?_
      refine sj_bipush dX10_layTail_121 (by decide) ?_
      refine sj_callV (cm_lay' hS q3 (by rw [List.length_append, List.length_append, List.length_append]; show D.length + 1 + 1 + _ < 500; omega)) kc_X10_132 (by assumption) rfl rfl rfl rfl (Nat.le_of_ble_eq_true rfl) dX10_layTail_123 (fun r_123 σ_123 I_123 hp_123 => ?_)
      obtain ⟨rfl, rfl, q4⟩ := hp_123
      have h74 : I_123 (o + 7) = I (o + 7) := q4.1 (o + 7) (by omega) (by omega)
      refine sj_ald0 dX10_layTail_126 ?_
      refine sj_ald0 dX10_layTail_127 ?_
      refine sj_getR fl_X10_28 (by assumption) rfl (mr_10 _) dX10_layTail_128 ?_
      refine sj_ild4 dX10_layTail_131 ?_
      refine sj_callS (cm_skip h_old (by omega) a1 (by rw [h74]; exact b1) (by omega)) kc_X10_136 rfl rfl (Nat.le_of_ble_eq_true rfl) dX10_layTail_133 (fun r_133 σ_133 I_133 hp_133 => ?_)
      obtain ⟨rfl, rfl, rfl⟩ := hp_133
      refine sj_ild3 dX10_layTail_136 ?_
      rw [show k + n = k + 2 + (jEnc (jTk 1 N)).length + (jEnc (jDr 1 N)).length by omega]
      refine sj_callV (cm_layPart hS q4 (by omega) (by rw [List.length_append, List.length_append, List.length_append, List.length_append]; show D.length + 1 + 1 + _ + 1 + _ ≤ 500; omega)) kc_X10_140 (by assumption) rfl rfl rfl rfl (Nat.le_of_ble_eq_true rfl) dX10_layTail_137 (fun r_137 σ_137 I_137 hp_137 => ?_)
      obtain ⟨rfl, rfl, q5⟩ := hp_137
      rw [b2] at q5
      refine sj_iconst dX10_layTail_140 ?_
      exact sj_iret dX10_layTail_141 rfl (by decide) (Nat.le_of_ble_eq_true rfl) (Nat.le_of_ble_eq_true rfl) ⟨rfl, mRl_some hR (by rw [jEnc_cons, jEnc_cons, jEnc_app, jEnc_cons, jE_else hu, show jE 116 = [116] from rfl]; simpa only [List.append_assoc, List.cons_append, List.nil_append] using q5)⟩
    · refine sj_lookup 94 dX10_layTail_24 (by decide) (by omega) (by rw [← c_24]) (by decide) ?_
      obtain ⟨a1, a2, b1, b2, b3⟩ := hpair (by omega)
      rw [if_pos (by omega)] at hR
      refine sj_ald0 dX10_layTail_94 ?_
      refine sj_ild2 dX10_layTail_95 ?_
      refine sj_callV (cm_lay' hS hD (by omega)) kc_X10_132 (by assumption) rfl rfl rfl rfl (Nat.le_of_ble_eq_true rfl) dX10_layTail_96 (fun r_96 σ_96 I_96 hp_96 => ?_)
      obtain ⟨rfl, rfl, q1⟩ := hp_96
      refine sj_ald0 dX10_layTail_99 ?_
      refine sj_bipush dX10_layTail_100 (by decide) ?_
      refine sj_callV (cm_lay' hS q1 (by rw [List.length_append]; show D.length + 1 < 500; omega)) kc_X10_132 (by assumption) rfl rfl rfl rfl (Nat.le_of_ble_eq_true rfl) dX10_layTail_102 (fun r_102 σ_102 I_102 hp_102 => ?_)
      obtain ⟨rfl, rfl, q2⟩ := hp_102
      refine sj_ald0 dX10_layTail_105 ?_
      refine sj_ild4 dX10_layTail_106 ?_
      refine sj_ald0 dX10_layTail_108 ?_
      refine sj_getR fl_X10_28 (by assumption) rfl (mr_10 _) dX10_layTail_109 ?_
      refine sj_ild4 dX10_layTail_112 ?_
      rw [show (k : Int) + 2 = ((k + 2 : Nat) : Int) by omega]
      have h72 : I_102 (o + 7) = I (o + 7) := q2.1 (o + 7) (by omega) (by omega)
      refine sj_callS (cm_skip h_old (by omega) a1 (by rw [h72]; exact b1) (by omega)) kc_X10_136 rfl rfl (Nat.le_of_ble_eq_true rfl) dX10_layTail_114 (fun r_114 σ_114 I_114 hp_114 => ?_)
      obtain ⟨rfl, rfl, rfl⟩ := hp_114
      refine sj_callV (cm_layPart hS q2 (by omega) (by rw [List.length_append, List.length_append]; show D.length + 1 + 1 + _ ≤ 500; omega)) kc_X10_140 (by assumption) rfl rfl rfl rfl (Nat.le_of_ble_eq_true rfl) dX10_layTail_117 (fun r_117 σ_117 I_117 hp_117 => ?_)
      obtain ⟨rfl, rfl, q3⟩ := hp_117
      rw [b1] at q3
      refine sj_ald0 dX10_layTail_120 ?_
      refine sj_bipush dX10_layTail_121 (by decide) ?_
      refine sj_callV (cm_lay' hS q3 (by rw [List.length_append, List.length_append, List.length_append]; show D.length + 1 + 1 + _ < 500; omega)) kc_X10_132 (by assumption) rfl rfl rfl rfl (Nat.le_of_ble_eq_true rfl) dX10_layTail_123 (fun r_123 σ_123 I_123 hp_123 => ?_)
      obtain ⟨rfl, rfl, q4⟩ := hp_123
      have h74 : I_123 (o + 7) = I (o + 7) := q4.1 (o + 7) (by omega) (by omega)
      refine sj_ald0 dX10_layTail_126 ?_
      refine sj_ald0 dX10_layTail_127 ?_
      refine sj_getR fl_X10_28 (by assumption) rfl (mr_10 _) dX10_layTail_128 ?_
      refine sj_ild4 dX10_layTail_131 ?_
      refine sj_callS (cm_skip h_old (by omega) a1 (by rw [h74]; exact b1) (by omega)) kc_X10_136 rfl rfl (Nat.le_of_ble_eq_true rfl) dX10_layTail_133 (fun r_133 σ_133 I_133 hp_133 => ?_)
      obtain ⟨rfl, rfl, rfl⟩ := hp_133
      refine sj_ild3 dX10_layTail_136 ?_
      rw [show k + n = k + 2 + (jEnc (jTk 1 N)).length + (jEnc (jDr 1 N)).length by omega]
      refine sj_callV (cm_layPart hS q4 (by omega) (by rw [List.length_append, List.length_append, List.length_append, List.length_append]; show D.length + 1 + 1 + _ + 1 + _ ≤ 500; omega)) kc_X10_140 (by assumption) rfl rfl rfl rfl (Nat.le_of_ble_eq_true rfl) dX10_layTail_137 (fun r_137 σ_137 I_137 hp_137 => ?_)
      obtain ⟨rfl, rfl, q5⟩ := hp_137
      rw [b2] at q5
      refine sj_iconst dX10_layTail_140 ?_
      exact sj_iret dX10_layTail_141 rfl (by decide) (Nat.le_of_ble_eq_true rfl) (Nat.le_of_ble_eq_true rfl) ⟨rfl, mRl_some hR (by rw [jEnc_cons, jEnc_cons, jEnc_app, jEnc_cons, jE_else hu, show jE 116 = [116] from rfl]; simpa only [List.append_assoc, List.cons_append, List.nil_append] using q5)⟩
    · refine sj_lookup 84 dX10_layTail_24 (by decide) (by omega) (by rw [← c_24]) (by decide) ?_
      exact absurd c_24 (by omega)
    · refine sj_lookup 185 dX10_layTail_24 (by decide) (by omega) (by rw [← c_24]) (by decide) ?_
      rw [if_neg (by omega), if_neg (by omega), if_pos (by omega)] at hR
      refine sj_ald0 dX10_layTail_185 ?_
      refine sj_ild2 dX10_layTail_186 ?_
      refine sj_callV (cm_lay' hS hD (by omega)) kc_X10_132 (by assumption) rfl rfl rfl rfl (Nat.le_of_ble_eq_true rfl) dX10_layTail_187 (fun r_187 σ_187 I_187 hp_187 => ?_)
      obtain ⟨rfl, rfl, q1⟩ := hp_187
      refine sj_ald0 dX10_layTail_190 ?_
      refine sj_bipush dX10_layTail_191 (by decide) ?_
      refine sj_callV (cm_lay' hS q1 (by rw [List.length_append]; show D.length + 1 < 500; omega)) kc_X10_132 (by assumption) rfl rfl rfl rfl (Nat.le_of_ble_eq_true rfl) dX10_layTail_193 (fun r_193 σ_193 I_193 hp_193 => ?_)
      obtain ⟨rfl, rfl, q2⟩ := hp_193
      refine sj_ald0 dX10_layTail_196 ?_
      refine sj_bipush dX10_layTail_197 (by decide) ?_
      refine sj_callV (cm_lay' hS q2 (by rw [List.length_append, List.length_append]; show D.length + 1 + 1 < 500; omega)) kc_X10_132 (by assumption) rfl rfl rfl rfl (Nat.le_of_ble_eq_true rfl) dX10_layTail_199 (fun r_199 σ_199 I_199 hp_199 => ?_)
      obtain ⟨rfl, rfl, q3⟩ := hp_199
      refine sj_ald0 dX10_layTail_202 ?_
      refine sj_ild4 dX10_layTail_203 ?_
      refine sj_ild3 dX10_layTail_205 ?_
      rw [show (k : Int) + 2 = ((k + 2 : Nat) : Int) by omega, show k + n = k + 2 + (jEnc N).length by omega]
      refine sj_callV (cm_layPart hS q3 (by omega) (by rw [List.length_append, List.length_append, List.length_append]; show D.length + 1 + 1 + 1 + _ ≤ 500; omega)) kc_X10_140 (by assumption) rfl rfl rfl rfl (Nat.le_of_ble_eq_true rfl) dX10_layTail_206 (fun r_206 σ_206 I_206 hp_206 => ?_)
      obtain ⟨rfl, rfl, q4⟩ := hp_206
      rw [e4] at q4
      refine sj_iconst dX10_layTail_209 ?_
      exact sj_iret dX10_layTail_210 rfl (by decide) (Nat.le_of_ble_eq_true rfl) (Nat.le_of_ble_eq_true rfl) ⟨rfl, mRl_some hR (by rw [jEnc_cons, jEnc_cons, jEnc_cons, jE_else hu, show jE 116 = [116] from rfl]; simpa only [List.append_assoc, List.cons_append, List.nil_append] using q4)⟩
    · refine sj_lookup 185 dX10_layTail_24 (by decide) (by omega) (by rw [← c_24]) (by decide) ?_
      rw [if_neg (by omega), if_neg (by omega), if_pos (by omega)] at hR
      refine sj_ald0 dX10_layTail_185 ?_
      refine sj_ild2 dX10_layTail_186 ?_
      refine sj_callV (cm_lay' hS hD (by omega)) kc_X10_132 (by assumption) rfl rfl rfl rfl (Nat.le_of_ble_eq_true rfl) dX10_layTail_187 (fun r_187 σ_187 I_187 hp_187 => ?_)
      obtain ⟨rfl, rfl, q1⟩ := hp_187
      refine sj_ald0 dX10_layTail_190 ?_
      refine sj_bipush dX10_layTail_191 (by decide) ?_
      refine sj_callV (cm_lay' hS q1 (by rw [List.length_append]; show D.length + 1 < 500; omega)) kc_X10_132 (by assumption) rfl rfl rfl rfl (Nat.le_of_ble_eq_true rfl) dX10_layTail_193 (fun r_193 σ_193 I_193 hp_193 => ?_)
      obtain ⟨rfl, rfl, q2⟩ := hp_193
      refine sj_ald0 dX10_layTail_196 ?_
      refine sj_bipush dX10_layTail_197 (by decide) ?_
      refine sj_callV (cm_lay' hS q2 (by rw [List.length_append, List.length_append]; show D.length + 1 + 1 < 500; omega)) kc_X10_132 (by assumption) rfl rfl rfl rfl (Nat.le_of_ble_eq_true rfl) dX10_layTail_199 (fun r_199 σ_199 I_199 hp_199 => ?_)
      obtain ⟨rfl, rfl, q3⟩ := hp_199
      refine sj_ald0 dX10_layTail_202 ?_
      refine sj_ild4 dX10_layTail_203 ?_
      refine sj_ild3 dX10_layTail_205 ?_
      rw [show (k : Int) + 2 = ((k + 2 : Nat) : Int) by omega, show k + n = k + 2 + (jEnc N).length by omega]
      refine sj_callV (cm_layPart hS q3 (by omega) (by rw [List.length_append, List.length_append, List.length_append]; show D.length + 1 + 1 + 1 + _ ≤ 500; omega)) kc_X10_140 (by assumption) rfl rfl rfl rfl (Nat.le_of_ble_eq_true rfl) dX10_layTail_206 (fun r_206 σ_206 I_206 hp_206 => ?_)
      obtain ⟨rfl, rfl, q4⟩ := hp_206
      rw [e4] at q4
      refine sj_iconst dX10_layTail_209 ?_
      exact sj_iret dX10_layTail_210 rfl (by decide) (Nat.le_of_ble_eq_true rfl) (Nat.le_of_ble_eq_true rfl) ⟨rfl, mRl_some hR (by rw [jEnc_cons, jEnc_cons, jEnc_cons, jE_else hu, show jE 116 = [116] from rfl]; simpa only [List.append_assoc, List.cons_append, List.nil_append] using q4)⟩
    · refine sj_lookup 142 dX10_layTail_24 (by decide) (by omega) (by rw [← c_24]) (by decide) ?_
      obtain ⟨a1, a2, b1, b2, b3⟩ := hpair (by omega)
      rw [if_neg (by omega), if_pos (by omega)] at hR
      refine sj_ald0 dX10_layTail_142 ?_
      refine sj_bipush dX10_layTail_143 (by decide) ?_
      refine sj_callV (cm_lay' hS hD (by omega)) kc_X10_132 (by assumption) rfl rfl rfl rfl (Nat.le_of_ble_eq_true rfl) dX10_layTail_145 (fun r_145 σ_145 I_145 hp_145 => ?_)
      obtain ⟨rfl, rfl, q1⟩ := hp_145
      have h72 : I_145 (o + 7) = I (o + 7) := q1.1 (o + 7) (by omega) (by omega)
      refine sj_ald0 dX10_layTail_148 ?_
      refine sj_ald0 dX10_layTail_149 ?_
      refine sj_getR fl_X10_28 (by assumption) rfl (mr_10 _) dX10_layTail_150 ?_
      refine sj_ild4 dX10_layTail_153 ?_
      rw [show (k : Int) + 2 = ((k + 2 : Nat) : Int) by omega]
      refine sj_callS (cm_skip h_old (by omega) a1 (by rw [h72]; exact b1) (by omega)) kc_X10_136 rfl rfl (Nat.le_of_ble_eq_true rfl) dX10_layTail_155 (fun r_155 σ_155 I_155 hp_155 => ?_)
      obtain ⟨rfl, rfl, rfl⟩ := hp_155
      refine sj_ild3 dX10_layTail_158 ?_
      rw [show k + n = k + 2 + (jEnc (jTk 1 N)).length + (jEnc (jDr 1 N)).length by omega]
      refine sj_callV (cm_layPart hS q1 (by omega) (by rw [List.length_append]; show D.length + 1 + _ ≤ 500; omega)) kc_X10_140 (by assumption) rfl rfl rfl rfl (Nat.le_of_ble_eq_true rfl) dX10_layTail_159 (fun r_159 σ_159 I_159 hp_159 => ?_)
      obtain ⟨rfl, rfl, q2⟩ := hp_159
      rw [b2] at q2
      refine sj_ald0 dX10_layTail_162 ?_
      refine sj_bipush dX10_layTail_163 (by decide) ?_
      refine sj_callV (cm_lay' hS q2 (by rw [List.length_append, List.length_append]; show D.length + 1 + _ < 500; omega)) kc_X10_132 (by assumption) rfl rfl rfl rfl (Nat.le_of_ble_eq_true rfl) dX10_layTail_165 (fun r_165 σ_165 I_165 hp_165 => ?_)
      obtain ⟨rfl, rfl, q3⟩ := hp_165
      have h73 : I_165 (o + 7) = I (o + 7) := q3.1 (o + 7) (by omega) (by omega)
      refine sj_ald0 dX10_layTail_168 ?_
      refine sj_ild4 dX10_layTail_169 ?_
      refine sj_ald0 dX10_layTail_171 ?_
      refine sj_getR fl_X10_28 (by assumption) rfl (mr_10 _) dX10_layTail_172 ?_
      refine sj_ild4 dX10_layTail_175 ?_
      refine sj_callS (cm_skip h_old (by omega) a1 (by rw [h73]; exact b1) (by omega)) kc_X10_136 rfl rfl (Nat.le_of_ble_eq_true rfl) dX10_layTail_177 (fun r_177 σ_177 I_177 hp_177 => ?_)
      obtain ⟨rfl, rfl, rfl⟩ := hp_177
      refine sj_callV (cm_layPart hS q3 (by omega) (by rw [List.length_append, List.length_append, List.length_append]; show D.length + 1 + _ + 1 + _ ≤ 500; omega)) kc_X10_140 (by assumption) rfl rfl rfl rfl (Nat.le_of_ble_eq_true rfl) dX10_layTail_180 (fun r_180 σ_180 I_180 hp_180 => ?_)
      obtain ⟨rfl, rfl, q4⟩ := hp_180
      rw [b1] at q4
      refine sj_iconst dX10_layTail_183 ?_
      exact sj_iret dX10_layTail_184 rfl (by decide) (Nat.le_of_ble_eq_true rfl) (Nat.le_of_ble_eq_true rfl) ⟨rfl, mRl_some hR (by rw [jEnc_cons, jEnc_app, jEnc_cons, show jE 122 = [122] from rfl, show jE 116 = [116] from rfl]; simpa only [List.append_assoc, List.cons_append, List.nil_append] using q4)⟩
    · refine sj_lookup (off := 187) 211 dX10_layTail_24 (by decide) (by omega) (by simp [Op.lookupswitch.offset_cons, Op.lookupswitch.offset_nil, c_24]) (by decide) ?_
      refine sj_ild2 dX10_layTail_211 ?_
      refine sj_callS (cm_isDigit (by omega)) kc_X10_93 rfl rfl (Nat.le_of_ble_eq_true rfl) dX10_layTail_212 (fun r_212 σ_212 I_212 hp_212 => ?_)
      obtain ⟨rfl, rfl, rfl⟩ := hp_212
      refine sj_if_eq 225 dX10_layTail_215 (by decide) (by omega) (fun c_215 => ?_) (fun c_215 => ?_)
      · rw [if_neg (by omega), if_neg (by omega), if_neg (by omega), if_neg (by omega)] at hR
        refine sj_iconst dX10_layTail_225 ?_
        exact sj_iret dX10_layTail_226 rfl (by decide) (Nat.le_of_ble_eq_true rfl) (Nat.le_of_ble_eq_true rfl) ⟨rfl, mRl_none hR hD⟩
      · rw [if_neg (by omega), if_neg (by omega), if_neg (by omega), if_pos (by omega)] at hR
        refine sj_ald0 dX10_layTail_218 ?_
        refine sj_ild2 dX10_layTail_219 ?_
        refine sj_callV (cm_lay' hS hD (by omega)) kc_X10_132 (by assumption) rfl rfl rfl rfl (Nat.le_of_ble_eq_true rfl) dX10_layTail_220 (fun r_220 σ_220 I_220 hp_220 => ?_)
        obtain ⟨rfl, rfl, q1⟩ := hp_220
        refine sj_iconst dX10_layTail_223 ?_
        exact sj_iret dX10_layTail_224 rfl (by decide) (Nat.le_of_ble_eq_true rfl) (Nat.le_of_ble_eq_true rfl) ⟨rfl, mRl_some hR (by rw [jE_1 (by omega)]; exact q1)⟩
theorem cm_layEvery {o k : Nat} {D L : List Int} {c : Int} (hS : mSh σ o) (hD : mMd o I J D) (hc : c = 101 ∨ c = 111) (hok : jOk 1 L) (hM : lst (I (o + 7)) k (jEnc (c :: L)).length = jEnc (c :: L)) (hk : k + (jEnc (c :: L)).length ≤ 500) (hl : D.length + (jEnc (c :: L)).length + 1 ≤ 500) : sj_Con l yX10_layEvery mX10_layEvery G σ J [.ref o, .int (zI k)] (fun r σ' I' => σ = σ' ∧ mRl o I I' D (jRoot (c :: L)) r) := by
  obtain ⟨h_o, h_w, h_past, h_images, h_text, h_read, h_made, h_old, h_values, h_ranks, h_operator, h_indexAt, h_second, h_first, h_needed, h_shifts, h_around, h_best, h_isNeeded, h_toSee, h_held, h_there⟩ := id hS
  refine sj_con_of (L0 := [some (.ref o), some (.int (zI k)), none, none, none]) (by decide) rfl rfl rfl (Nat.le_of_ble_eq_true rfl) rfl (fun Γ => ?_)
  obtain ⟨u, N, rfl, hv, hN⟩ := jOk_ne hok
  rw [Nat.zero_add] at hN
  have h7 : J (o + 7) = I (o + 7) := hD.1 (o + 7) (by omega) (by omega)
  have hce : jE c = [c] := jE_else (by omega)
  obtain ⟨e0, -, e1⟩ := lst_code hM
  rw [hce, List.length_singleton] at e1
  rw [if_neg (by omega)] at e0
  obtain ⟨e2, e3, e4⟩ := lst_code e1
  have hlen : (jEnc (c :: u :: N)).length = 1 + ((jE u).length + (jEnc N).length) := by rw [jEnc_cons, jEnc_cons, List.length_append, List.length_append, hce]; rfl
  have hul := jE_len u
  have hR : jRoot (c :: u :: N) = if 48 ≤ u ∧ u ≤ 57 then some [u] else if u = 122 then some (if c = 101 then jTk 1 N else jDr 1 N) else none := by
    rw [jRoot_cons, if_neg (by omega), if_pos hc, jRe_cons]
  generalize (jEnc (c :: u :: N)).length = n at hlen hk hl
  unfold jVc at hv
  have hdg := jbs (48 ≤ (if 128 ≤ u then 58 else u) ∧ (if 128 ≤ u then 58 else u) ≤ 57)
  by_cases hu : 128 ≤ u
  · rw [if_pos hu] at e2 hul hdg
    rw [if_neg (by omega), if_neg (by omega)] at hR
    refine sj_ald0 dX10_layEvery_0 ?_
    refine sj_getR fl_X10_28 (by assumption) rfl (mr_10 _) dX10_layEvery_1 ?_
    refine sj_ild1 dX10_layEvery_4 ?_
    refine sj_iconst dX10_layEvery_5 ?_
    refine sj_iadd dX10_layEvery_6 ?_
    refine sj_ialdJ (k + 1) (by assumption) (by omega) (by omega) (by omega) dX10_layEvery_7 ?_
    rw [h7, e2]
    refine sj_ist2 (by decide) rfl dX10_layEvery_8 ?_
    refine sj_ild1 dX10_layEvery_9 ?_
    refine sj_iconst dX10_layEvery_10 ?_
    refine sj_iadd dX10_layEvery_11 ?_
    refine sj_ist3 (by decide) rfl dX10_layEvery_12 ?_
    refine sj_ild2 dX10_layEvery_13 ?_
    refine sj_callS (cm_isDigit (by omega)) kc_X10_93 rfl rfl (Nat.le_of_ble_eq_true rfl) dX10_layEvery_14 (fun r_14 σ_14 I_14 hp_14 => ?_)
    obtain ⟨rfl, rfl, rfl⟩ := hp_14
    refine sj_if_eq 27 dX10_layEvery_17 (by decide) (by omega) (fun c_17 => ?_) (fun c_17 => ?_)
    rotate_left
    · exact absurd (by omega) c_17
    refine sj_ild2 dX10_layEvery_27 ?_
    refine sj_bipush dX10_layEvery_28 (by decide) ?_
    refine sj_icmp_eq 35 dX10_layEvery_30 (by decide) (by omega) (by omega) (fun c_30 => ?_) (fun c_30 => ?_)
    · exact absurd c_30 (by omega)
    refine sj_iconst dX10_layEvery_33 ?_
    exact sj_iret dX10_layEvery_34 rfl (by decide) (Nat.le_of_ble_eq_true rfl) (Nat.le_of_ble_eq_true rfl) ⟨rfl, mRl_none hR hD⟩
  · rw [if_neg hu] at e2 hul hdg
    rw [hul, show k + 1 + 1 = k + 2 by omega] at e4
    rw [hul] at hlen
    refine sj_ald0 dX10_layEvery_0 ?_
    refine sj_getR fl_X10_28 (by assumption) rfl (mr_10 _) dX10_layEvery_1 ?_
    refine sj_ild1 dX10_layEvery_4 ?_
    refine sj_iconst dX10_layEvery_5 ?_
    refine sj_iadd dX10_layEvery_6 ?_
    refine sj_ialdJ (k + 1) (by assumption) (by omega) (by omega) (by omega) dX10_layEvery_7 ?_
    rw [h7, e2]
    refine sj_ist2 (by decide) rfl dX10_layEvery_8 ?_
    refine sj_ild1 dX10_layEvery_9 ?_
    refine sj_iconst dX10_layEvery_10 ?_
    refine sj_iadd dX10_layEvery_11 ?_
    refine sj_ist3 (by decide) rfl dX10_layEvery_12 ?_
    refine sj_ild2 dX10_layEvery_13 ?_
    refine sj_callS (cm_isDigit (by omega)) kc_X10_93 rfl rfl (Nat.le_of_ble_eq_true rfl) dX10_layEvery_14 (fun r_14 σ_14 I_14 hp_14 => ?_)
    obtain ⟨rfl, rfl, rfl⟩ := hp_14
    refine sj_if_eq 27 dX10_layEvery_17 (by decide) (by omega) (fun c_17 => ?_) (fun c_17 => ?_)
    · refine sj_ild2 dX10_layEvery_27 ?_
      refine sj_bipush dX10_layEvery_28 (by decide) ?_
      refine sj_icmp_eq 35 dX10_layEvery_30 (by decide) (by omega) (by omega) (fun c_30 => ?_) (fun c_30 => ?_)
      · rw [if_neg (by omega), if_pos (by omega)] at hR
        have ha : jAr u = 2 := if_pos (by omega)
        rw [ha] at hN
        obtain ⟨a1, a2, a3⟩ := jOk_two hN
        have hNl : (jEnc N).length = (jEnc (jTk 1 N)).length + (jEnc (jDr 1 N)).length := by rw [← List.length_append, ← jEnc_app, a3]
        rw [← a3, jEnc_app] at e4
        obtain ⟨b1, b2⟩ := lst_both e4
        refine sj_ald0 dX10_layEvery_35 ?_
        refine sj_getR fl_X10_28 (by assumption) rfl (mr_10 _) dX10_layEvery_36 ?_
        refine sj_ild3 dX10_layEvery_39 ?_
        rw [show (k : Int) + 2 = ((k + 2 : Nat) : Int) by omega]
        refine sj_callS (cm_skip h_old (by omega) a1 (by rw [h7]; exact b1) (by omega)) kc_X10_136 rfl rfl (Nat.le_of_ble_eq_true rfl) dX10_layEvery_40 (fun r_40 σ_40 I_40 hp_40 => ?_)
        obtain ⟨rfl, rfl, rfl⟩ := hp_40
        refine sj_ist4 (by decide) rfl dX10_layEvery_43 ?_
        refine sj_ald0 dX10_layEvery_45 ?_
        refine sj_getR fl_X10_28 (by assumption) rfl (mr_10 _) dX10_layEvery_46 ?_
        refine sj_ild1 dX10_layEvery_49 ?_
        refine sj_ialdJ (k) (by assumption) (by omega) (by omega) (by omega) dX10_layEvery_50 ?_
        rw [h7, e0]
        refine sj_bipush dX10_layEvery_51 (by decide) ?_
        refine sj_icmp_ne 66 dX10_layEvery_53 (by decide) (by omega) (by omega) (fun c_53 => ?_) (fun c_53 => ?_)
        · first | rw [if_neg (by omega)] at hR | skip
          refine sj_ald0 dX10_layEvery_66 ?_
          refine sj_ild4 dX10_layEvery_67 ?_
          refine sj_ald0 dX10_layEvery_69 ?_
          refine sj_getR fl_X10_28 (by assumption) rfl (mr_10 _) dX10_layEvery_70 ?_
          refine sj_ild4 dX10_layEvery_73 ?_
          refine sj_callS (cm_skip h_old (by omega) a2 (by rw [h7]; exact b2) (by omega)) kc_X10_136 rfl rfl (Nat.le_of_ble_eq_true rfl) dX10_layEvery_75 (fun r_75 σ_75 I_75 hp_75 => ?_)
          obtain ⟨rfl, rfl, rfl⟩ := hp_75
          refine sj_callV (cm_layPart hS hD (by omega) (by omega)) kc_X10_140 (by assumption) rfl rfl rfl rfl (Nat.le_of_ble_eq_true rfl) dX10_layEvery_78 (fun r_78 σ_78 I_78 hp_78 => ?_)
          obtain ⟨rfl, rfl, q1⟩ := hp_78
          rw [b2] at q1
          refine sj_iconst dX10_layEvery_81 ?_
          exact sj_iret dX10_layEvery_82 rfl (by decide) (Nat.le_of_ble_eq_true rfl) (Nat.le_of_ble_eq_true rfl) ⟨rfl, mRl_some hR q1⟩
        · rw [if_pos (by omega)] at hR
          refine sj_ald0 dX10_layEvery_56 ?_
          refine sj_ild3 dX10_layEvery_57 ?_
          refine sj_ild4 dX10_layEvery_58 ?_
          refine sj_callV (cm_layPart hS hD (by omega) (by omega)) kc_X10_140 (by assumption) rfl rfl rfl rfl (Nat.le_of_ble_eq_true rfl) dX10_layEvery_60 (fun r_60 σ_60 I_60 hp_60 => ?_)
          obtain ⟨rfl, rfl, q1⟩ := hp_60
          rw [b1] at q1
          refine sj_goto 81 dX10_layEvery_63 (by decide) ?_
          refine sj_iconst dX10_layEvery_81 ?_
          exact sj_iret dX10_layEvery_82 rfl (by decide) (Nat.le_of_ble_eq_true rfl) (Nat.le_of_ble_eq_true rfl) ⟨rfl, mRl_some hR q1⟩
      · refine sj_iconst dX10_layEvery_33 ?_
        exact sj_iret dX10_layEvery_34 rfl (by decide) (Nat.le_of_ble_eq_true rfl) (Nat.le_of_ble_eq_true rfl) ⟨rfl, mRl_none (by rw [hR, if_neg (by omega), if_neg (by omega)]) hD⟩
    · rw [if_pos (by omega)] at hR
      refine sj_ald0 dX10_layEvery_20 ?_
      refine sj_ild2 dX10_layEvery_21 ?_
      refine sj_callV (cm_lay' hS hD (by omega)) kc_X10_132 (by assumption) rfl rfl rfl rfl (Nat.le_of_ble_eq_true rfl) dX10_layEvery_22 (fun r_22 σ_22 I_22 hp_22 => ?_)
      obtain ⟨rfl, rfl, q1⟩ := hp_22
      refine sj_iconst dX10_layEvery_25 ?_
      exact sj_iret dX10_layEvery_26 rfl (by decide) (Nat.le_of_ble_eq_true rfl) (Nat.le_of_ble_eq_true rfl) ⟨rfl, mRl_some hR (by rw [jE_1 (by omega)]; exact q1)⟩
end MODEL11
