/-- a rule at the first place where one applies; A is what stands before -/
def jStep (A : List Int) : List Int → Option (List Int)
  | [] => none
  | c :: L => match jRoot (jTk 1 (c :: L)) with
    | some M => some (A ++ (M ++ jDr 1 (c :: L)))
    | none => jStep (A ++ [c]) L
theorem jOk_cons {c : Int} {L : List Int} (h : jVc c) (h2 : jOk (jAr c) L) : jOk 1 (c :: L) := ⟨h, by rw [Nat.zero_add]; exact h2⟩
theorem jRoot_ok {M M' : List Int} (h : jOk 1 M) (hr : jRoot M = some M') : jOk 1 M' ∧ (jEnc M').length ≤ (jEnc M).length + 1 ∧ M'.length ≤ M.length + 1 := by
  obtain ⟨c, L, rfl, hv, hL⟩ := jOk_ne h
  rw [Nat.zero_add] at hL
  have t1 : jVc 116 := by unfold jVc; omega
  rw [jRoot_cons] at hr
  split at hr
  · rename_i hc
    subst hc
    have hL1 : jOk 1 L := hL
    obtain ⟨u, N, rfl, hu, hN⟩ := jOk_ne hL1
    rw [Nat.zero_add] at hN
    rw [jRt_cons] at hr
    have hel := jE_len u
    have le : (jEnc (116 :: u :: N)).length = 1 + ((jE u).length + (jEnc N).length) := by rw [jEnc_cons, jEnc_cons, List.length_append, List.length_append]; rfl
    split at hr
    · cases hr
      have ha : jAr u = 1 := by unfold jAr; rw [if_neg (by omega), if_neg (by omega)]
      rw [ha] at hN
      refine ⟨hN, by omega, by simp only [List.length_cons]; omega⟩
    · split at hr
      · cases hr
        have ha : jAr u = 2 := if_pos (by omega)
        rw [ha] at hN
        obtain ⟨a1, a2, a3⟩ := jOk_two hN
        have hl : N.length = (jTk 1 N).length + (jDr 1 N).length := by rw [← List.length_append, a3]
        have hl2 : (jEnc N).length = (jEnc (jTk 1 N)).length + (jEnc (jDr 1 N)).length := by rw [← List.length_append, ← jEnc_app, a3]
        refine ⟨jOk_cons hu ?_, ?_, ?_⟩
        · rw [ha]
          exact ⟨t1, by rw [show 1 + jAr 116 = 1 + 1 from rfl]; exact jOk_app _ _ 1 1 a1 ⟨t1, by rw [show 0 + jAr 116 = 1 from rfl]; exact a2⟩⟩
        · rw [le, jEnc_cons, jEnc_cons, jEnc_app, jEnc_cons]
          simp only [List.length_append, show (jE 116).length = 1 from rfl]
          omega
        · simp only [List.length_cons, List.length_append]
          omega
      · split at hr
        · rename_i hz
          cases hr
          have ha : jAr u = 2 := if_pos (by omega)
          rw [ha] at hN
          obtain ⟨a1, a2, a3⟩ := jOk_two hN
          have hl : N.length = (jTk 1 N).length + (jDr 1 N).length := by rw [← List.length_append, a3]
          have hl2 : (jEnc N).length = (jEnc (jTk 1 N)).length + (jEnc (jDr 1 N)).length := by rw [← List.length_append, ← jEnc_app, a3]
          refine ⟨jOk_cons (by unfold jVc; omega) ?_, ?_, ?_⟩
          · rw [show jAr 122 = 1 + 1 from rfl]
            exact jOk_app _ _ 1 1 a2 ⟨t1, by rw [show 0 + jAr 116 = 1 from rfl]; exact a1⟩
          · rw [le, jEnc_cons, jEnc_app, jEnc_cons]
            simp only [List.length_append, show (jE 116).length = 1 from rfl, show (jE 122).length = 1 from rfl]
            rw [if_neg (by omega)] at hel
            omega
          · simp only [List.length_cons, List.length_append]
            omega
        · split at hr
          · cases hr
            have ha : jAr u = 1 := by unfold jAr; rw [if_neg (by omega), if_neg (by omega)]
            rw [ha] at hN
            refine ⟨jOk_cons hu ?_, ?_, ?_⟩
            · rw [ha]
              exact ⟨t1, by rw [show 0 + jAr 116 = 1 from rfl]; exact ⟨t1, by rw [show 0 + jAr 116 = 1 from rfl]; exact hN⟩⟩
            · rw [le, jEnc_cons, jEnc_cons, jEnc_cons]
              simp only [List.length_append, show (jE 116).length = 1 from rfl]
              omega
            · simp only [List.length_cons]
              omega
          · split at hr
            · rename_i hd
              cases hr
              have ha : jAr u = 0 := by unfold jAr; rw [if_neg (by omega), if_pos (by omega)]
              refine ⟨jOk_cons hu (by rw [ha]; trivial), ?_, ?_⟩
              · rw [le, jEnc_cons, jEnc_nil, List.append_nil]; omega
              · simp only [List.length_cons, List.length_nil]; omega
            · cases hr
  · split at hr
    · rename_i hc
      have hac : jAr c = 1 := by unfold jAr; rw [if_neg (by omega), if_neg (by omega)]
      rw [hac] at hL
      obtain ⟨u, N, rfl, hu, hN⟩ := jOk_ne hL
      rw [Nat.zero_add] at hN
      rw [jRe_cons] at hr
      have hec : (jE c).length = 1 := by rw [jE_else (by omega)]; rfl
      have le : (jEnc (c :: u :: N)).length = 1 + ((jE u).length + (jEnc N).length) := by rw [jEnc_cons, jEnc_cons, List.length_append, List.length_append, hec]
      split at hr
      · cases hr
        have ha : jAr u = 0 := by unfold jAr; rw [if_neg (by omega), if_pos (by omega)]
        refine ⟨jOk_cons hu (by rw [ha]; trivial), ?_, ?_⟩
        · rw [le, jEnc_cons, jEnc_nil, List.append_nil]; omega
        · simp only [List.length_cons, List.length_nil]; omega
      · split at hr
        · cases hr
          have ha : jAr u = 2 := if_pos (by omega)
          rw [ha] at hN
          obtain ⟨a1, a2, a3⟩ := jOk_two hN
          have hl : N.length = (jTk 1 N).length + (jDr 1 N).length := by rw [← List.length_append, a3]
          have hl2 : (jEnc N).length = (jEnc (jTk 1 N)).length + (jEnc (jDr 1 N)).length := by rw [← List.length_append, ← jEnc_app, a3]
          split
          · exact ⟨a1, by omega, by simp only [List.length_cons]; omega⟩
          · exact ⟨a2, by omega, by simp only [List.length_cons]; omega⟩
        · cases hr
    · split at hr
      · rename_i hz
        unfold jRz at hr
        split at hr
        · rename_i h3
          cases hr
          have ha : jAr c = 2 := if_pos (by omega)
          rw [ha] at hL
          obtain ⟨a1, a2, a3⟩ := jOk_two hL
          have hl : L.length = (jTk 1 L).length + (jDr 1 L).length := by rw [← List.length_append, a3]
          have hl2 : (jEnc L).length = (jEnc (jTk 1 L)).length + (jEnc (jDr 1 L)).length := by rw [← List.length_append, ← jEnc_app, a3]
          obtain ⟨u, N, e, hu, hN⟩ := jOk_ne a1
          rw [e] at h3 hl hl2 ⊢
          have hu1 : u = 101 := h3.1
          subst hu1
          rw [show 0 + jAr 101 = 1 from rfl] at hN
          refine ⟨hN, ?_, ?_⟩
          · rw [jEnc_cons c, List.length_append]
            rw [jEnc_cons, List.length_append] at hl2
            show (jEnc N).length ≤ _
            omega
          · show N.length ≤ _
            simp only [List.length_cons] at hl ⊢
            omega
        · cases hr
      · cases hr
section MODEL12
variable {l : Launch} {G : sjG} {σ : sjS} {I J : sjI}
theorem cm_layZip {o k : Nat} {D L : List Int} (hS : mSh σ o) (hD : mMd o I J D) (hok : jOk 2 L) (hM : lst (I (o + 7)) k (jEnc (122 :: L)).length = jEnc (122 :: L)) (hk : k + (jEnc (122 :: L)).length ≤ 500) (hl : D.length + (jEnc (122 :: L)).length + 1 ≤ 500) : sj_Con l yX10_layZip mX10_layZip G σ J [.ref o, .int (zI k)] (fun r σ' I' => σ = σ' ∧ mRl o I I' D (jRoot (122 :: L)) r) := by
  obtain ⟨h_o, h_w, h_past, h_images, h_text, h_read, h_made, h_old, h_values, h_ranks, h_operator, h_indexAt, h_second, h_first, h_needed, h_shifts, h_around, h_best, h_isNeeded, h_toSee, h_held, h_there⟩ := id hS
  refine sj_con_of (L0 := [some (.ref o), some (.int (zI k)), none, none, none, none]) (by decide) rfl rfl rfl (Nat.le_of_ble_eq_true rfl) rfl (fun Γ => ?_)
  obtain ⟨a1, a2, a3⟩ := jOk_two hok
  have h7 : J (o + 7) = I (o + 7) := hD.1 (o + 7) (by omega) (by omega)
  obtain ⟨e0, -, e1⟩ := lst_code hM
  rw [show (jE 122).length = 1 from rfl] at e1
  have hlen : (jEnc (122 :: L)).length = 1 + (jEnc L).length := by rw [jEnc_cons, List.length_append]; rfl
  have hLl : (jEnc L).length = (jEnc (jTk 1 L)).length + (jEnc (jDr 1 L)).length := by rw [← List.length_append, ← jEnc_app, a3]
  rw [← a3, jEnc_app] at e1
  obtain ⟨b1, b2⟩ := lst_both e1
  obtain ⟨u, P, eP, hu, hP⟩ := jOk_ne a1
  obtain ⟨v, Q, eQ, hv, hQ⟩ := jOk_ne a2
  have hRt : (u = 101 ∧ v = 111 ∧ P = Q) → jRoot (122 :: L) = some P := by
    intro h
    rw [jRoot_cons, if_neg (by omega), if_neg (by omega), if_pos rfl]
    unfold jRz
    rw [eP, eQ]
    exact if_pos h
  have hRn : ¬ (u = 101 ∧ v = 111 ∧ P = Q) → jRoot (122 :: L) = none := by
    intro h
    rw [jRoot_cons, if_neg (by omega), if_neg (by omega), if_pos rfl]
    unfold jRz
    rw [eP, eQ]
    exact if_neg h
  have s1 := cm_skip (l := l) (G := G) (I := J) h_old (by omega) a1 (by rw [h7]; exact b1) (by omega)
  have s2 := cm_skip (l := l) (G := G) (I := J) h_old (by omega) a2 (by rw [h7]; exact b2) (by omega)
  rw [eP] at s1 s2 b1 b2 hLl
  rw [eQ] at s2 b2 hLl
  obtain ⟨p0, -, p1⟩ := lst_code b1
  obtain ⟨q0, -, q1⟩ := lst_code b2
  have lP : (jEnc (u :: P)).length = (jE u).length + (jEnc P).length := by rw [jEnc_cons, List.length_append]
  have lQ : (jEnc (v :: Q)).length = (jE v).length + (jEnc Q).length := by rw [jEnc_cons, List.length_append]
  have eu := jE_len u
  have ev := jE_len v
  have vP := jOk_vc P _ hP
  have vQ := jOk_vc Q _ hQ
  unfold jVc at hu hv
  have pu : I (o + 7) (k + 1) = 101 ↔ u = 101 := by rw [p0]; split <;> omega
  have pv : I (o + 7) (k + 1 + (jEnc (u :: P)).length) = 111 ↔ v = 111 := by rw [q0]; split <;> omega
  have pur : 0 ≤ I (o + 7) (k + 1) ∧ I (o + 7) (k + 1) < 128 := by rw [p0]; split <;> omega
  have pvr : 0 ≤ I (o + 7) (k + 1 + (jEnc (u :: P)).length) ∧ I (o + 7) (k + 1 + (jEnc (u :: P)).length) < 128 := by rw [q0]; split <;> omega
  have hx1 : 1 ≤ (jE u).length := by rw [eu]; split <;> omega
  have hy1 : 1 ≤ (jE v).length := by rw [ev]; split <;> omega
  generalize hX : (jEnc (u :: P)).length = x at *
  generalize hY : (jEnc (v :: Q)).length = y at *
  have same : u = 101 → v = 111 → x = y → lst (I (o + 7)) (k + 1 + 1) (x - 1) = jEnc P ∧ lst (I (o + 7)) (k + 1 + x + 1) (x - 1) = jEnc Q := by
    intro h1 h2 h3
    rw [if_neg (by omega)] at eu ev
    rw [eu] at p1 lP
    rw [ev] at q1 lQ
    rw [show x - 1 = (jEnc P).length by omega]
    refine ⟨p1, ?_⟩
    rw [show (jEnc P).length = (jEnc Q).length by omega]
    exact q1
  have fin0 : (¬ (u = 101 ∧ v = 111 ∧ P = Q)) → sj_V l Γ mX10_layZip G (fun r σ' I' => σ = σ' ∧ mRl o I I' D (jRoot (122 :: L)) r) σ J 0 0 93 [some (.ref o), some (.int (zI k)), none, none, none, some (.int (zI 0))] [] := by
    intro hn
    have hR := hRn hn
    refine sj_ild5 dX10_layZip_93 ?_
    exact sj_iret dX10_layZip_95 rfl (by decide) (Nat.le_of_ble_eq_true rfl) (Nat.le_of_ble_eq_true rfl) ⟨rfl, mRl_none hR hD⟩
  have jn : ∀ f : Int, ((f = 1 ∧ (u = 101 ∧ v = 111 ∧ P = Q)) ∨ (f = 0 ∧ ¬ (u = 101 ∧ v = 111 ∧ P = Q))) → sj_V l Γ mX10_layZip G (fun r σ' I' => σ = σ' ∧ mRl o I I' D (jRoot (122 :: L)) r) σ J 0 0 78 [some (.ref o), some (.int (zI k)), some (.int (zI (k + 1 : Nat))), some (.int (zI (k + 1 + x : Nat))), some (.int (zI (k + 1 + x + y : Nat))), none] [.int (zI f)] := by
    intro f hf
    rcases hf with ⟨rfl, hy⟩ | ⟨rfl, hn⟩
    · have hR := hRt hy
      have hu1 : (jE u).length = 1 := by rw [eu, if_neg (by omega)]
      rw [hu1] at p1 lP
      refine sj_ist5 (by decide) rfl dX10_layZip_78 ?_
      refine sj_ild5 dX10_layZip_80 ?_
      refine sj_if_eq 93 dX10_layZip_82 (by decide) (by omega) (fun c_82 => ?_) (fun c_82 => ?_)
      · exact absurd c_82 (by omega)
      refine sj_ald0 dX10_layZip_85 ?_
      refine sj_ild2 dX10_layZip_86 ?_
      refine sj_iconst dX10_layZip_87 ?_
      refine sj_iadd dX10_layZip_88 ?_
      refine sj_ild3 dX10_layZip_89 ?_
      rw [show ((k + 1 : Nat) : Int) + 1 = ((k + 1 + 1 : Nat) : Int) by omega, show k + 1 + x = k + 1 + 1 + (jEnc P).length by omega]
      refine sj_callV (cm_layPart hS hD (by omega) (by omega)) kc_X10_140 (by assumption) rfl rfl rfl rfl (Nat.le_of_ble_eq_true rfl) dX10_layZip_90 (fun r_90 σ_90 I_90 hp_90 => ?_)
      obtain ⟨rfl, rfl, z1⟩ := hp_90
      rw [p1] at z1
      refine sj_ild5 dX10_layZip_93 ?_
      exact sj_iret dX10_layZip_95 rfl (by decide) (Nat.le_of_ble_eq_true rfl) (Nat.le_of_ble_eq_true rfl) ⟨rfl, mRl_some hR z1⟩
    · refine sj_ist5 (by decide) rfl dX10_layZip_78 ?_
      refine sj_ild5 dX10_layZip_80 ?_
      refine sj_if_eq 93 dX10_layZip_82 (by decide) (by omega) (fun c_82 => ?_) (fun c_82 => ?_)
      rotate_left
      · exact absurd rfl c_82
      exact sj_fg4 (sj_fg3 (sj_fg2 (fin0 hn)))
  refine sj_ild1 dX10_layZip_0 ?_
  refine sj_iconst dX10_layZip_1 ?_
  refine sj_iadd dX10_layZip_2 ?_
  refine sj_ist2 (by decide) rfl dX10_layZip_3 ?_
  refine sj_ald0 dX10_layZip_4 ?_
  refine sj_getR fl_X10_28 (by assumption) rfl (mr_10 _) dX10_layZip_5 ?_
  refine sj_ild2 dX10_layZip_8 ?_
  rw [show (k : Int) + 1 = ((k + 1 : Nat) : Int) by omega]
  refine sj_callS (s1) kc_X10_136 rfl rfl (Nat.le_of_ble_eq_true rfl) dX10_layZip_9 (fun r_9 σ_9 I_9 hp_9 => ?_)
  obtain ⟨rfl, rfl, rfl⟩ := hp_9
  refine sj_ist3 (by decide) rfl dX10_layZip_12 ?_
  refine sj_ald0 dX10_layZip_13 ?_
  refine sj_getR fl_X10_28 (by assumption) rfl (mr_10 _) dX10_layZip_14 ?_
  refine sj_ild3 dX10_layZip_17 ?_
  refine sj_callS (s2) kc_X10_136 rfl rfl (Nat.le_of_ble_eq_true rfl) dX10_layZip_18 (fun r_18 σ_18 I_18 hp_18 => ?_)
  obtain ⟨rfl, rfl, rfl⟩ := hp_18
  refine sj_ist4 (by decide) rfl dX10_layZip_21 ?_
  refine sj_ald0 dX10_layZip_23 ?_
  refine sj_getR fl_X10_28 (by assumption) rfl (mr_10 _) dX10_layZip_24 ?_
  refine sj_ild2 dX10_layZip_27 ?_
  refine sj_ialdJ (k + 1) (by assumption) (by omega) (by omega) (by omega) dX10_layZip_28 ?_
  rw [h7]
  refine sj_bipush dX10_layZip_29 (by decide) ?_
  refine sj_icmp_ne 77 dX10_layZip_31 (by decide) (by omega) (by omega) (fun c_31 => ?_) (fun c_31 => ?_)
  · refine sj_iconst dX10_layZip_77 ?_
    first
    | exact jn 0 (Or.inr ⟨rfl, fun z => absurd (pu.mpr z.1) (by omega)⟩)
    | exact jn 0 (Or.inr ⟨rfl, fun z => absurd (pv.mpr z.2.1) (by omega)⟩)
    | exact jn 1 (Or.inl ⟨rfl, by omega, by omega, hiff (by rcases hb with ⟨-, z⟩ | ⟨z, -⟩ <;> first | exact z | exact absurd z c_70)⟩)
    | exact jn 0 (Or.inr ⟨rfl, fun z => by rcases hb with ⟨q, -⟩ | ⟨-, q⟩ <;> first | exact q (by rw [h7, hs.1, hs.2, z.2.2]) | omega⟩)
    | exact jn 0 (Or.inr ⟨rfl, fun z => by have h1 := z.1; have h2 := z.2.1; have h3 := z.2.2; rw [if_neg (by omega)] at eu ev; rw [h3] at lP; omega⟩)
  · refine sj_ald0 dX10_layZip_34 ?_
    refine sj_getR fl_X10_28 (by assumption) rfl (mr_10 _) dX10_layZip_35 ?_
    refine sj_ild3 dX10_layZip_38 ?_
    refine sj_ialdJ (k + 1 + x) (by assumption) (by omega) (by omega) (by omega) dX10_layZip_39 ?_
    rw [h7]
    refine sj_bipush dX10_layZip_40 (by decide) ?_
    refine sj_icmp_ne 77 dX10_layZip_42 (by decide) (by omega) (by omega) (fun c_42 => ?_) (fun c_42 => ?_)
    · refine sj_iconst dX10_layZip_77 ?_
      first
      | exact jn 0 (Or.inr ⟨rfl, fun z => absurd (pu.mpr z.1) (by omega)⟩)
      | exact jn 0 (Or.inr ⟨rfl, fun z => absurd (pv.mpr z.2.1) (by omega)⟩)
      | exact jn 1 (Or.inl ⟨rfl, by omega, by omega, hiff (by rcases hb with ⟨-, z⟩ | ⟨z, -⟩ <;> first | exact z | exact absurd z c_70)⟩)
      | exact jn 0 (Or.inr ⟨rfl, fun z => by rcases hb with ⟨q, -⟩ | ⟨-, q⟩ <;> first | exact q (by rw [h7, hs.1, hs.2, z.2.2]) | omega⟩)
      | exact jn 0 (Or.inr ⟨rfl, fun z => by have h1 := z.1; have h2 := z.2.1; have h3 := z.2.2; rw [if_neg (by omega)] at eu ev; rw [h3] at lP; omega⟩)
    · refine sj_ild3 dX10_layZip_45 ?_
      refine sj_ild2 dX10_layZip_46 ?_
      refine sj_isub dX10_layZip_47 ?_
      refine sj_ild4 dX10_layZip_48 ?_
      refine sj_ild3 dX10_layZip_50 ?_
      refine sj_isub dX10_layZip_51 ?_
      refine sj_icmp_ne 77 dX10_layZip_52 (by decide) (by omega) (by omega) (fun c_52 => ?_) (fun c_52 => ?_)
      · refine sj_iconst dX10_layZip_77 ?_
        first
        | exact jn 0 (Or.inr ⟨rfl, fun z => absurd (pu.mpr z.1) (by omega)⟩)
        | exact jn 0 (Or.inr ⟨rfl, fun z => absurd (pv.mpr z.2.1) (by omega)⟩)
        | exact jn 1 (Or.inl ⟨rfl, by omega, by omega, hiff (by rcases hb with ⟨-, z⟩ | ⟨z, -⟩ <;> first | exact z | exact absurd z c_70)⟩)
        | exact jn 0 (Or.inr ⟨rfl, fun z => by rcases hb with ⟨q, -⟩ | ⟨-, q⟩ <;> first | exact q (by rw [h7, hs.1, hs.2, z.2.2]) | omega⟩)
        | exact jn 0 (Or.inr ⟨rfl, fun z => by have h1 := z.1; have h2 := z.2.1; have h3 := z.2.2; rw [if_neg (by omega)] at eu ev; rw [h3] at lP; omega⟩)
      · refine sj_ald0 dX10_layZip_55 ?_
        refine sj_ild2 dX10_layZip_56 ?_
        refine sj_iconst dX10_layZip_57 ?_
        refine sj_iadd dX10_layZip_58 ?_
        refine sj_ild3 dX10_layZip_59 ?_
        refine sj_iconst dX10_layZip_60 ?_
        refine sj_iadd dX10_layZip_61 ?_
        refine sj_ild3 dX10_layZip_62 ?_
        refine sj_ild2 dX10_layZip_63 ?_
        refine sj_isub dX10_layZip_64 ?_
        refine sj_iconst dX10_layZip_65 ?_
        refine sj_isub dX10_layZip_66 ?_
        have hs := same (by omega) (by omega) (by omega)
        rw [show ((k + 1 : Nat) : Int) + 1 = ((k + 1 + 1 : Nat) : Int) by omega, show ((k + 1 + x : Nat) : Int) + 1 = ((k + 1 + x + 1 : Nat) : Int) by omega, show ((k + 1 + x : Nat) : Int) - ((k + 1 : Nat) : Int) - 1 = ((x - 1 : Nat) : Int) by omega]
        have hrng : ∀ j, j < 500 → 0 ≤ J (o + 7) j ∧ J (o + 7) j < 128 ∨ ¬ (k + 1 + 1 ≤ j ∧ j < k + 1 + 1 + (x - 1)) ∧ ¬ (k + 1 + x + 1 ≤ j ∧ j < k + 1 + x + 1 + (x - 1)) := by
          intro j hj
          rw [h7]
          by_cases h1 : k + 1 + 1 ≤ j ∧ j < k + 1 + 1 + (x - 1)
          · left
            have hm := lst_of (f := I (o + 7)) (s := k + 1 + 1) (n := x - 1) (j := j - (k + 1 + 1)) (by omega)
            rw [hs.1, show k + 1 + 1 + (j - (k + 1 + 1)) = j by omega] at hm
            exact jEnc_byte vP _ hm
          · by_cases h2 : k + 1 + x + 1 ≤ j ∧ j < k + 1 + x + 1 + (x - 1)
            · left
              have hm := lst_of (f := I (o + 7)) (s := k + 1 + x + 1) (n := x - 1) (j := j - (k + 1 + x + 1)) (by omega)
              rw [hs.2, show k + 1 + x + 1 + (j - (k + 1 + x + 1)) = j by omega] at hm
              exact jEnc_byte vQ _ hm
            · exact Or.inr ⟨h1, h2⟩
        have hb := jbs (lst (J (o + 7)) (k + 1 + 1) (x - 1) = lst (J (o + 7)) (k + 1 + x + 1) (x - 1))
        refine sj_callV (cm_isSamePart hS (by omega) (by omega) hrng) kc_X10_144 (by assumption) rfl rfl rfl rfl (Nat.le_of_ble_eq_true rfl) dX10_layZip_67 (fun r_67 σ_67 I_67 hp_67 => ?_)
        obtain ⟨rfl, rfl, rfl⟩ := hp_67
        have hiff : (lst (J (o + 7)) (k + 1 + 1) (x - 1) = lst (J (o + 7)) (k + 1 + x + 1) (x - 1)) → P = Q := fun z => by rw [h7, hs.1, hs.2] at z; exact jEnc_inj P Q vP vQ z
        refine sj_if_eq 77 dX10_layZip_70 (by decide) (by rcases hb with ⟨z, -⟩ | ⟨z, -⟩ <;> rw [z] <;> omega) (fun c_70 => ?_) (fun c_70 => ?_)
        · refine sj_iconst dX10_layZip_77 ?_
          first
          | exact jn 0 (Or.inr ⟨rfl, fun z => absurd (pu.mpr z.1) (by omega)⟩)
          | exact jn 0 (Or.inr ⟨rfl, fun z => absurd (pv.mpr z.2.1) (by omega)⟩)
          | exact jn 1 (Or.inl ⟨rfl, by omega, by omega, hiff (by rcases hb with ⟨-, z⟩ | ⟨z, -⟩ <;> first | exact z | exact absurd z c_70)⟩)
          | exact jn 0 (Or.inr ⟨rfl, fun z => by rcases hb with ⟨q, -⟩ | ⟨-, q⟩ <;> first | exact q (by rw [h7, hs.1, hs.2, z.2.2]) | omega⟩)
          | exact jn 0 (Or.inr ⟨rfl, fun z => by have h1 := z.1; have h2 := z.2.1; have h3 := z.2.2; rw [if_neg (by omega)] at eu ev; rw [h3] at lP; omega⟩)
        · refine sj_iconst dX10_layZip_73 ?_
          refine sj_goto 78 dX10_layZip_74 (by decide) ?_
          first
          | exact jn 0 (Or.inr ⟨rfl, fun z => absurd (pu.mpr z.1) (by omega)⟩)
          | exact jn 0 (Or.inr ⟨rfl, fun z => absurd (pv.mpr z.2.1) (by omega)⟩)
          | exact jn 1 (Or.inl ⟨rfl, by omega, by omega, hiff (by rcases hb with ⟨-, z⟩ | ⟨z, -⟩ <;> first | exact z | exact absurd z c_70)⟩)
          | exact jn 0 (Or.inr ⟨rfl, fun z => by rcases hb with ⟨q, -⟩ | ⟨-, q⟩ <;> first | exact q (by rw [h7, hs.1, hs.2, z.2.2]) | omega⟩)
          | exact jn 0 (Or.inr ⟨rfl, fun z => by have h1 := z.1; have h2 := z.2.1; have h3 := z.2.2; rw [if_neg (by omega)] at eu ev; rw [h3] at lP; omega⟩)
theorem cm_layRule {o k : Nat} {D M : List Int} (hS : mSh σ o) (hD : mMd o I J D) (hok : jOk 1 M) (hM : lst (I (o + 7)) k (jEnc M).length = jEnc M) (hk : k + (jEnc M).length ≤ 500) (hl : D.length + (jEnc M).length + 1 ≤ 500) : sj_Con l yX10_layRule mX10_layRule G σ J [.ref o, .int (zI k)] (fun r σ' I' => σ = σ' ∧ mRl o I I' D (jRoot M) r) := by
  obtain ⟨h_o, h_w, h_past, h_images, h_text, h_read, h_made, h_old, h_values, h_ranks, h_operator, h_indexAt, h_second, h_first, h_needed, h_shifts, h_around, h_best, h_isNeeded, h_toSee, h_held, h_there⟩ := id hS
  refine sj_con_of (L0 := [some (.ref o), some (.int (zI k))]) (by decide) rfl rfl rfl (Nat.le_of_ble_eq_true rfl) rfl (fun Γ => ?_)
  obtain ⟨c, L, rfl, hv, hL⟩ := jOk_ne hok
  rw [Nat.zero_add] at hL
  have h7 : J (o + 7) = I (o + 7) := hD.1 (o + 7) (by omega) (by omega)
  obtain ⟨e0, -, e1⟩ := lst_code hM
  have hlen := (jEnc_len (c :: L)).1
  rw [List.length_cons] at hlen
  have hR := jRoot_cons c L
  have bz : ∀ {I' : sjI} {r : Option Value}, mRl o I I' D (jRoot (c :: L)) r → r = some (.int (zI 1)) ∨ r = some (.int (zI 0)) := by
    intro I' r h
    unfold mRl at h
    split at h
    · exact Or.inl h.1
    · exact Or.inr h.1
  unfold jVc at hv
  by_cases hc : 128 ≤ c
  · rw [if_pos hc] at e0
    rw [if_neg (by omega), if_neg (by omega), if_neg (by omega)] at hR
    refine sj_ald0 dX10_layRule_0 ?_
    refine sj_getR fl_X10_28 (by assumption) rfl (mr_10 _) dX10_layRule_1 ?_
    refine sj_ild1 dX10_layRule_4 ?_
    refine sj_ialdJ (k) (by assumption) (by omega) (by omega) (by omega) dX10_layRule_5 ?_
    rw [h7, e0]
    refine sj_lookup (off := 60) 66 dX10_layRule_6 (by decide) (by omega) (by rfl) (by decide) ?_
    refine sj_iconst dX10_layRule_66 ?_
    exact sj_iret dX10_layRule_67 rfl (by decide) (Nat.le_of_ble_eq_true rfl) (Nat.le_of_ble_eq_true rfl) ⟨rfl, mRl_none hR hD⟩
  · rw [if_neg hc] at e0
    refine sj_ald0 dX10_layRule_0 ?_
    refine sj_getR fl_X10_28 (by assumption) rfl (mr_10 _) dX10_layRule_1 ?_
    refine sj_ild1 dX10_layRule_4 ?_
    refine sj_ialdJ (k) (by assumption) (by omega) (by omega) (by omega) dX10_layRule_5 ?_
    rw [h7, e0]
    rcases (show 101 = c ∨ 111 = c ∨ 116 = c ∨ 122 = c ∨ (¬ 101 = c ∧ ¬ 111 = c ∧ ¬ 116 = c ∧ ¬ 122 = c) by omega) with c_6 | c_6 | c_6 | c_6 | c_6
    · refine sj_lookup 54 dX10_layRule_6 (by decide) (by omega) (by rw [← c_6]) (by decide) ?_
      subst c_6
      refine sj_ald0 dX10_layRule_54 ?_
      refine sj_ild1 dX10_layRule_55 ?_
      refine sj_callV (cm_layEvery hS hD (by omega) hL hM hk hl) kc_X10_150 (by assumption) rfl rfl rfl rfl (Nat.le_of_ble_eq_true rfl) dX10_layRule_56 (fun r_56 σ_56 I_56 hp_56 => ?_)
      obtain ⟨rfl, q1⟩ := hp_56
      rcases bz q1 with rfl | rfl
      all_goals refine sj_iret dX10_layRule_59 rfl (by decide) (Nat.le_of_ble_eq_true rfl) (Nat.le_of_ble_eq_true rfl) ⟨rfl, q1⟩
      skip
    · refine sj_lookup 54 dX10_layRule_6 (by decide) (by omega) (by rw [← c_6]) (by decide) ?_
      subst c_6
      refine sj_ald0 dX10_layRule_54 ?_
      refine sj_ild1 dX10_layRule_55 ?_
      refine sj_callV (cm_layEvery hS hD (by omega) hL hM hk hl) kc_X10_150 (by assumption) rfl rfl rfl rfl (Nat.le_of_ble_eq_true rfl) dX10_layRule_56 (fun r_56 σ_56 I_56 hp_56 => ?_)
      obtain ⟨rfl, q1⟩ := hp_56
      rcases bz q1 with rfl | rfl
      all_goals refine sj_iret dX10_layRule_59 rfl (by decide) (Nat.le_of_ble_eq_true rfl) (Nat.le_of_ble_eq_true rfl) ⟨rfl, q1⟩
      skip
    · refine sj_lookup 48 dX10_layRule_6 (by decide) (by omega) (by rw [← c_6]) (by decide) ?_
      subst c_6
      refine sj_ald0 dX10_layRule_48 ?_
      refine sj_ild1 dX10_layRule_49 ?_
      refine sj_callV (cm_layTail hS hD hL hM hk hl) kc_X10_147 (by assumption) rfl rfl rfl rfl (Nat.le_of_ble_eq_true rfl) dX10_layRule_50 (fun r_50 σ_50 I_50 hp_50 => ?_)
      obtain ⟨rfl, q1⟩ := hp_50
      rcases bz q1 with rfl | rfl
      all_goals refine sj_iret dX10_layRule_53 rfl (by decide) (Nat.le_of_ble_eq_true rfl) (Nat.le_of_ble_eq_true rfl) ⟨rfl, q1⟩
      skip
    · refine sj_lookup 60 dX10_layRule_6 (by decide) (by omega) (by rw [← c_6]) (by decide) ?_
      subst c_6
      refine sj_ald0 dX10_layRule_60 ?_
      refine sj_ild1 dX10_layRule_61 ?_
      refine sj_callV (cm_layZip hS hD hL hM hk hl) kc_X10_153 (by assumption) rfl rfl rfl rfl (Nat.le_of_ble_eq_true rfl) dX10_layRule_62 (fun r_62 σ_62 I_62 hp_62 => ?_)
      obtain ⟨rfl, q1⟩ := hp_62
      rcases bz q1 with rfl | rfl
      all_goals refine sj_iret dX10_layRule_65 rfl (by decide) (Nat.le_of_ble_eq_true rfl) (Nat.le_of_ble_eq_true rfl) ⟨rfl, q1⟩
      skip
    · refine sj_lookup (off := 60) 66 dX10_layRule_6 (by decide) (by omega) (by simp [Op.lookupswitch.offset_cons, Op.lookupswitch.offset_nil, c_6]) (by decide) ?_
      rw [if_neg (by omega), if_neg (by omega), if_neg (by omega)] at hR
      refine sj_iconst dX10_layRule_66 ?_
      exact sj_iret dX10_layRule_67 rfl (by decide) (Nat.le_of_ble_eq_true rfl) (Nat.le_of_ble_eq_true rfl) ⟨rfl, mRl_none hR hD⟩
theorem cm_oldSize {o : Nat} {B : List Int} (hS : mSh σ o) (hn : I o 11 = B.length) (hB : lst (I (o + 7)) 0 B.length = B) (hl : B.length ≤ 500) (hb : ∀ x ∈ B, 0 ≤ x ∧ x < 128) : sj_Con l yX10_oldSize mX10_oldSize G σ I [.ref o] (fun r σ' I' => r = some (.int (zI (jSz 0 B))) ∧ σ = σ' ∧ I = I') := by
  obtain ⟨h_o, h_w, h_past, h_images, h_text, h_read, h_made, h_old, h_values, h_ranks, h_operator, h_indexAt, h_second, h_first, h_needed, h_shifts, h_around, h_best, h_isNeeded, h_toSee, h_held, h_there⟩ := id hS
  refine sj_con_of (L0 := [some (.ref o), none, none]) (by decide) rfl rfl rfl (Nat.le_of_ble_eq_true rfl) rfl (fun Γ => ?_)
  have hb2 : ∀ j, j < B.length → 0 ≤ I (o + 7) j ∧ I (o + 7) j < 128 := by
    intro j hj
    have h := lst_of (f := I (o + 7)) (s := 0) hj
    rw [hB, Nat.zero_add] at h
    exact hb _ h
  have lp : ∀ (d k : Nat) (n p : Int), k + d = B.length → 0 ≤ n ∧ n ≤ k → (k = 0 → p = 0) → (0 < k → p = I (o + 7) (k - 1)) → n + jSz p (lst (I (o + 7)) k d) = jSz 0 B → sj_V l Γ mX10_oldSize G (fun r σ' I' => r = some (.int (zI (jSz 0 B))) ∧ σ = σ' ∧ I = I') σ I 0 0 4 [some (.ref o), some (.int (zI n)), some (.int (zI k))] [] := by
    intro d
    induction d with
    | zero =>
      intro k n p hk hn2 hp0 hp1 hj
      rw [lst_zero] at hj
      simp only [jSz] at hj
      refine sj_ild2 dX10_oldSize_4 ?_
      refine sj_ald0 dX10_oldSize_5 ?_
      refine sj_getI fl_X10_156 (by assumption) rfl dX10_oldSize_6 ?_
      rw [hn]
      refine sj_icmp_ge 43 dX10_oldSize_9 (by decide) (by omega) (by omega) (fun c_9 => ?_) (fun c_9 => ?_)
      rotate_left
      · exact absurd (by omega) c_9
      refine sj_ild1 dX10_oldSize_43 ?_
      exact sj_iret dX10_oldSize_44 rfl rfl (Nat.le_of_ble_eq_true rfl) (Nat.le_of_ble_eq_true rfl) ⟨by rw [← hj, Int.add_zero], rfl, rfl⟩
    | succ d ih =>
      intro k n p hk hn2 hp0 hp1 hj
      rw [lst_cons] at hj
      simp only [jSz] at hj
      have hbk := hb2 k (by omega)
      refine sj_ild2 dX10_oldSize_4 ?_
      refine sj_ald0 dX10_oldSize_5 ?_
      refine sj_getI fl_X10_156 (by assumption) rfl dX10_oldSize_6 ?_
      rw [hn]
      refine sj_icmp_ge 43 dX10_oldSize_9 (by decide) (by omega) (by omega) (fun c_9 => ?_) (fun c_9 => ?_)
      · exact absurd c_9 (by omega)
      refine sj_ild1 dX10_oldSize_12 ?_
      refine sj_ild2 dX10_oldSize_13 ?_
      refine sj_if_le 34 dX10_oldSize_14 (by decide) (by omega) (fun c_14 => ?_) (fun c_14 => ?_)
      · refine sj_iconst dX10_oldSize_34 ?_
        refine sj_iadd dX10_oldSize_35 ?_
        refine sj_ist1 (by decide) rfl dX10_oldSize_36 ?_
        refine sj_inc2 (by decide) rfl dX10_oldSize_37 ?_
        refine sj_goto 4 dX10_oldSize_40 (by decide) ?_
        refine ih (k + 1) _ (I (o + 7) k) (by omega) (by omega) (by omega) (fun _ => rfl) ?_
        split at hj <;> omega
      · have hbk1 := hb2 (k - 1) (by omega)
        refine sj_ald0 dX10_oldSize_17 ?_
        refine sj_getR fl_X10_28 (by assumption) rfl (mr_10 _) dX10_oldSize_18 ?_
        refine sj_ild2 dX10_oldSize_21 ?_
        refine sj_iconst dX10_oldSize_22 ?_
        refine sj_isub dX10_oldSize_23 ?_
        refine sj_ialdJ (k - 1) (by assumption) (by omega) (by omega) (by omega) dX10_oldSize_24 ?_
        refine sj_bipush dX10_oldSize_25 (by decide) ?_
        refine sj_icmp_ne 34 dX10_oldSize_27 (by decide) (by omega) (by omega) (fun c_27 => ?_) (fun c_27 => ?_)
        · refine sj_iconst dX10_oldSize_34 ?_
          refine sj_iadd dX10_oldSize_35 ?_
          refine sj_ist1 (by decide) rfl dX10_oldSize_36 ?_
          refine sj_inc2 (by decide) rfl dX10_oldSize_37 ?_
          refine sj_goto 4 dX10_oldSize_40 (by decide) ?_
          refine ih (k + 1) _ (I (o + 7) k) (by omega) (by omega) (by omega) (fun _ => rfl) ?_
          split at hj <;> omega
        · refine sj_iconst dX10_oldSize_30 ?_
          refine sj_goto 35 dX10_oldSize_31 (by decide) ?_
          refine sj_iadd dX10_oldSize_35 ?_
          refine sj_ist1 (by decide) rfl dX10_oldSize_36 ?_
          refine sj_inc2 (by decide) rfl dX10_oldSize_37 ?_
          refine sj_goto 4 dX10_oldSize_40 (by decide) ?_
          refine ih (k + 1) _ (I (o + 7) k) (by omega) (by omega) (by omega) (fun _ => rfl) ?_
          split at hj <;> omega
  refine sj_iconst dX10_oldSize_0 ?_
  refine sj_ist1 (by decide) rfl dX10_oldSize_1 ?_
  refine sj_iconst dX10_oldSize_2 ?_
  refine sj_ist2 (by decide) rfl dX10_oldSize_3 ?_
  refine lp B.length 0 0 0 (by omega) (by omega) (by omega) (by omega) ?_
  rw [hB, Int.zero_add]
end MODEL12
