theorem lst_head {f : Nat → Int} {k : Nat} {x : Int} {L : List Int} (h : lst f k (x :: L).length = x :: L) : f k = x ∧ lst f (k + 1) L.length = L := by
  rw [List.length_cons, lst_cons] at h
  exact ⟨(List.cons.inj h).1, (List.cons.inj h).2⟩
theorem lst_both {f : Nat → Int} {k : Nat} {A B : List Int} (h : lst f k (A ++ B).length = A ++ B) : lst f k A.length = A ∧ lst f (k + A.length) B.length = B := by
  rw [List.length_append, lst_app] at h
  exact List.append_inj h (lst_len _ _ _)
theorem lst_join {f : Nat → Int} {k : Nat} {A B : List Int} (h1 : lst f k A.length = A) (h2 : lst f (k + A.length) B.length = B) : lst f k (A ++ B).length = A ++ B := by
  rw [List.length_append, lst_app, h1, h2]
/-- what stands where a code's bytes begin -/
theorem lst_code {f : Nat → Int} {k : Nat} {c : Int} {L : List Int} (h : lst f k (jEnc (c :: L)).length = jEnc (c :: L)) : f k = (if 128 ≤ c then 58 else c) ∧ (128 ≤ c → f (k + 1) = c - 80) ∧ lst f (k + (jE c).length) (jEnc L).length = jEnc L := by
  rw [jEnc_cons] at h
  obtain ⟨h1, h2⟩ := lst_both h
  by_cases hc : 128 ≤ c
  · rw [if_pos hc]
    rw [jE_front hc] at h1
    obtain ⟨e1, e2⟩ := lst_head h1
    obtain ⟨e3, -⟩ := lst_head e2
    exact ⟨e1, fun _ => e3, h2⟩
  · rw [if_neg hc]
    rw [jE_else hc] at h1
    exact ⟨(lst_head h1).1, fun h => absurd h hc, h2⟩
section MODEL9
variable {l : Launch} {G : sjG} {σ : sjS} {I : sjI}
theorem cm_skip {a n0 k : Nat} {M : List Int} (hσ : σ.2 a = some (10, n0, fun _ => none)) (hn0 : n0 ≤ 5000) (hok : jOk 1 M) (hM : lst (I a) k (jEnc M).length = jEnc M) (hk : k + (jEnc M).length ≤ n0) : sj_Con l yX10_skip mX10_skip G σ I [.ref a, .int (zI k)] (fun r σ' I' => r = some (.int (zI (k + (jEnc M).length : Nat))) ∧ σ = σ' ∧ I = I') := by
  refine sj_con_of (L0 := [some (.ref a), some (.int (zI k)), none, none]) (by decide) rfl rfl rfl (Nat.le_of_ble_eq_true rfl) rfl (fun Γ => ?_)
  have lp : ∀ (N : List Int) (n j : Nat), jOk n N → n ≤ 5000 → lst (I a) j (jEnc N).length = jEnc N → j + (jEnc N).length = k + (jEnc M).length → sj_V l Γ mX10_skip G (fun r σ' I' => r = some (.int (zI (k + (jEnc M).length : Nat))) ∧ σ = σ' ∧ I = I') σ I 0 0 4 [some (.ref a), some (.int (zI k)), some (.int (zI j)), some (.int (zI n))] [] := by
    intro N
    induction N with
    | nil =>
      intro n j hok hn hl he
      match n, hok with
      | 0, _ =>
        have hj : j = k + (jEnc M).length := by simpa [jEnc] using he
        refine sj_ild3 dX10_skip_4 ?_
        refine sj_if_le 38 dX10_skip_5 (by decide) (by omega) (fun c_5 => ?_) (fun c_5 => ?_)
        rotate_left
        · exact absurd (by omega) c_5
        refine sj_ild2 dX10_skip_38 ?_
        exact sj_iret dX10_skip_39 rfl rfl (Nat.le_of_ble_eq_true rfl) (Nat.le_of_ble_eq_true rfl) ⟨by rw [hj], rfl, rfl⟩
    | cons c N ih =>
      intro n j hok hn hl he
      match n, hok with
      | n + 1, hok =>
        obtain ⟨hv, hok⟩ := hok
        obtain ⟨e1, -, e3⟩ := lst_code hl
        have hp := jAr_pt hv
        have hle := (jEnc_len (c :: N)).1
        have hl2 := jE_len c
        have ho := jOk_len N _ hok
        rw [jEnc_cons, List.length_append] at he
        rw [List.length_cons] at hle
        have hle2 := (jEnc_len N).1
        have hpc := jPt_cases (if 128 ≤ c then 58 else c)
        unfold jVc at hv
        by_cases hc : 128 ≤ c
        · rw [if_pos hc] at e1 hp hl2 hpc
          refine sj_ild3 dX10_skip_4 ?_
          refine sj_if_le 38 dX10_skip_5 (by decide) (by omega) (fun c_5 => ?_) (fun c_5 => ?_)
          · exact absurd c_5 (by omega)
          refine sj_ild3 dX10_skip_8 ?_
          refine sj_ald0 dX10_skip_9 ?_
          refine sj_ild2 dX10_skip_10 ?_
          refine sj_ialdJ (j) (by assumption) (by omega) (by omega) (by omega) dX10_skip_11 ?_
          rw [e1]
          refine sj_callS (cm_parts (by omega)) kc_X10_103 rfl rfl (Nat.le_of_ble_eq_true rfl) dX10_skip_12 (fun r_12 σ_12 I_12 hp_12 => ?_)
          obtain ⟨rfl, rfl, rfl⟩ := hp_12
          refine sj_iconst dX10_skip_15 ?_
          refine sj_isub dX10_skip_16 ?_
          refine sj_iadd dX10_skip_17 ?_
          refine sj_ist3 (by decide) rfl dX10_skip_18 ?_
          refine sj_ild2 dX10_skip_19 ?_
          refine sj_ald0 dX10_skip_20 ?_
          refine sj_ild2 dX10_skip_21 ?_
          refine sj_ialdJ (j) (by assumption) (by omega) (by omega) (by omega) dX10_skip_22 ?_
          rw [e1]
          refine sj_bipush dX10_skip_23 (by decide) ?_
          refine sj_icmp_ne 32 dX10_skip_25 (by decide) (by omega) (by omega) (fun c_25 => ?_) (fun c_25 => ?_)
          · exact absurd rfl c_25
          refine sj_iconst dX10_skip_28 ?_
          refine sj_goto 33 dX10_skip_29 (by decide) ?_
          refine sj_iadd dX10_skip_33 ?_
          refine sj_ist2 (by decide) rfl dX10_skip_34 ?_
          refine sj_goto 4 dX10_skip_35 (by decide) ?_
          have h := ih (n + jAr c) (j + (jE c).length) hok (by omega) e3 (by omega)
          rw [hl2] at h
          rw [show ((n + 1 : Nat) : Int) + (jPt 58 - 1) = ((n + jAr c : Nat) : Int) by omega]
          exact h
        · rw [if_neg hc] at e1 hp hl2 hpc
          refine sj_ild3 dX10_skip_4 ?_
          refine sj_if_le 38 dX10_skip_5 (by decide) (by omega) (fun c_5 => ?_) (fun c_5 => ?_)
          · exact absurd c_5 (by omega)
          refine sj_ild3 dX10_skip_8 ?_
          refine sj_ald0 dX10_skip_9 ?_
          refine sj_ild2 dX10_skip_10 ?_
          refine sj_ialdJ (j) (by assumption) (by omega) (by omega) (by omega) dX10_skip_11 ?_
          rw [e1]
          refine sj_callS (cm_parts (by omega)) kc_X10_103 rfl rfl (Nat.le_of_ble_eq_true rfl) dX10_skip_12 (fun r_12 σ_12 I_12 hp_12 => ?_)
          obtain ⟨rfl, rfl, rfl⟩ := hp_12
          refine sj_iconst dX10_skip_15 ?_
          refine sj_isub dX10_skip_16 ?_
          refine sj_iadd dX10_skip_17 ?_
          refine sj_ist3 (by decide) rfl dX10_skip_18 ?_
          refine sj_ild2 dX10_skip_19 ?_
          refine sj_ald0 dX10_skip_20 ?_
          refine sj_ild2 dX10_skip_21 ?_
          refine sj_ialdJ (j) (by assumption) (by omega) (by omega) (by omega) dX10_skip_22 ?_
          rw [e1]
          refine sj_bipush dX10_skip_23 (by decide) ?_
          refine sj_icmp_ne 32 dX10_skip_25 (by decide) (by omega) (by omega) (fun c_25 => ?_) (fun c_25 => ?_)
          rotate_left
          · exact absurd (by omega) c_25
          refine sj_iconst dX10_skip_32 ?_
          refine sj_iadd dX10_skip_33 ?_
          refine sj_ist2 (by decide) rfl dX10_skip_34 ?_
          refine sj_goto 4 dX10_skip_35 (by decide) ?_
          have h := ih (n + jAr c) (j + (jE c).length) hok (by omega) e3 (by omega)
          rw [hl2] at h
          rw [show ((n + 1 : Nat) : Int) + (jPt c - 1) = ((n + jAr c : Nat) : Int) by omega]
          exact h
  refine sj_ild1 dX10_skip_0 ?_
  refine sj_ist2 (by decide) rfl dX10_skip_1 ?_
  refine sj_iconst dX10_skip_2 ?_
  refine sj_ist3 (by decide) rfl dX10_skip_3 ?_
  exact lp M 1 k hok (by omega) hM rfl
theorem cm_lay {o m : Nat} {c : Int} (hS : mSh σ o) (hm : I o 12 = m) (hm5 : m < 500) : sj_Con l yX10_lay mX10_lay G σ I [.ref o, .int (zI c)] (fun r σ' I' => r = none ∧ σ = σ' ∧ I' = sj_up (sj_up I (o + 6) m c) o 12 ((m + 1 : Nat) : Int)) := by
  obtain ⟨h_o, h_w, h_past, h_images, h_text, h_read, h_made, h_old, h_values, h_ranks, h_operator, h_indexAt, h_second, h_first, h_needed, h_shifts, h_around, h_best, h_isNeeded, h_toSee, h_held, h_there⟩ := id hS
  refine sj_con_of (L0 := [some (.ref o), some (.int (zI c))]) (by decide) rfl rfl rfl (Nat.le_of_ble_eq_true rfl) rfl (fun Γ => ?_)
  refine sj_ald0 dX10_lay_0 ?_
  refine sj_getR fl_X10_25 (by assumption) rfl (mr_9 _) dX10_lay_1 ?_
  refine sj_ald0 dX10_lay_4 ?_
  refine sj_getI fl_X10_129 (by assumption) rfl dX10_lay_5 ?_
  rw [hm]
  refine sj_ild1 dX10_lay_8 ?_
  refine sj_iastJ (m) (by assumption) (by omega) (by omega) (by omega) dX10_lay_9 ?_
  refine sj_ald0 dX10_lay_10 ?_
  refine sj_dup dX10_lay_11 rfl ?_
  refine sj_getI fl_X10_129 (by assumption) rfl dX10_lay_12 ?_
  rw [sj_up_ne (by omega), hm]
  refine sj_iconst dX10_lay_15 ?_
  refine sj_iadd dX10_lay_16 ?_
  refine sj_putI fl_X10_129 (by assumption) rfl rfl rfl dX10_lay_17 ?_
  exact sj_vret dX10_lay_20 rfl (Nat.le_of_ble_eq_true rfl) (Nat.le_of_ble_eq_true rfl) ⟨rfl, rfl, rfl⟩
end MODEL9
