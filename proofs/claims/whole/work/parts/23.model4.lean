/-- the first byte of a text that cannot stand there, from position k on -/
def jFl : List Int → Int → Bool → Int → Int
  | [], needed, fr, k => if 0 < needed ∨ fr = true then k else -9
  | c :: L, needed, fr, k => if c = 32 then jFl L needed fr (k + 1) else if fr = true then (if 48 ≤ c ∧ c ≤ 57 then jFl L needed false (k + 1) else k) else if needed = 0 ∨ jPt c = -9 then k else jFl L (needed + jPt c - 1) (decide (c = 58)) (k + 1)
def jNb (L : List Int) : List Int := L.filter (fun c => decide (c ≠ 32))
theorem jNb_len (L : List Int) : (jNb L).length ≤ L.length := List.length_filter_le _ _
section MODEL4
variable {l : Launch} {G : sjG} {σ : sjS} {I : sjI}
theorem cm_fault {o n : Nat} {X : List Int} (hS : mSh σ o) (hn : I o 6 = n ∧ n ≤ 80) (hX : lst (I (o + 4)) 0 n = X) (hb : ∀ x ∈ X, 32 ≤ x ∧ x ≤ 126) : sj_Con l yX10_fault mX10_fault G σ I [.ref o] (fun r σ' I' => r = some (.int (zI (jFl X 1 false 0))) ∧ σ = σ' ∧ (∀ a, a ≠ o → a ≠ o + 5 → I' a = I a) ∧ (∀ j, j ≠ 8 → I' o j = I o j) ∧ (jFl X 1 false 0 = -9 → I' o 8 = (jNb X).length ∧ lst (I' (o + 5)) 0 (jNb X).length = jNb X)) := by
  obtain ⟨h_o, h_w, h_past, h_images, h_text, h_read, h_made, h_old, h_values, h_ranks, h_operator, h_indexAt, h_second, h_first, h_needed, h_shifts, h_around, h_best, h_isNeeded, h_toSee, h_held, h_there⟩ := id hS
  refine sj_con_of (L0 := [some (.ref o), none, none, none, none]) (by decide) rfl rfl rfl (Nat.le_of_ble_eq_true rfl) rfl (fun Γ => ?_)
  have lp : ∀ (d k m : Nat) (q f : Int) (fr : Bool) (J : sjI), k + d = n → (0 ≤ q ∧ q ≤ k + 1) → m ≤ k → ((fr = true ∧ f = 1) ∨ (fr = false ∧ f = 0)) → (∀ a, a ≠ o → a ≠ o + 5 → J a = I a) → (∀ j, j ≠ 8 → J o j = I o j) → J o 8 = m → lst (J (o + 5)) 0 m = jNb (lst (I (o + 4)) 0 k) → jFl (lst (I (o + 4)) k d) q fr k = jFl X 1 false 0 → sj_V l Γ mX10_fault G (fun r σ' I' => r = some (.int (zI (jFl X 1 false 0))) ∧ σ = σ' ∧ (∀ a, a ≠ o → a ≠ o + 5 → I' a = I a) ∧ (∀ j, j ≠ 8 → I' o j = I o j) ∧ (jFl X 1 false 0 = -9 → I' o 8 = (jNb X).length ∧ lst (I' (o + 5)) 0 (jNb X).length = jNb X)) σ J 0 0 11 [some (.ref o), some (.int (zI q)), some (.int (zI f)), some (.int (zI k)), none] [] := by
    intro d
    induction d with
    | zero =>
      intro k m q f fr J hk hq hm hf h1 h2 h3 h4 hj
      have h6 : J o 6 = I o 6 := h2 6 (by decide)
      simp only [lst_zero, jFl] at hj
      have hkn : k = n := by omega
      subst hkn
      rw [hX] at h4
      have hfin : jFl X 1 false 0 = -9 → J o 8 = (jNb X).length ∧ lst (J (o + 5)) 0 (jNb X).length = jNb X := by
        intro _
        have e : (jNb X).length = m := by rw [← h4, lst_len]
        rw [e]
        exact ⟨h3, h4⟩
      rcases hf with ⟨rfl, rfl⟩ | ⟨rfl, rfl⟩
      · rw [if_pos (Or.inr rfl)] at hj
        refine sj_ild3 dX10_fault_11 ?_
        refine sj_ald0 dX10_fault_12 ?_
        refine sj_getI fl_X10_90 (by assumption) rfl dX10_fault_13 ?_
        rw [h6]
        refine sj_icmp_ge 127 dX10_fault_16 (by decide) (by omega) (by omega) (fun c_16 => ?_) (fun c_16 => ?_)
        rotate_left
        · exact absurd (by omega) c_16
        refine sj_ild1 dX10_fault_127 ?_
        refine sj_if_gt 135 dX10_fault_128 (by decide) (by omega) (fun c_128 => ?_) (fun c_128 => ?_)
        · refine sj_ald0 dX10_fault_135 ?_
          refine sj_getI fl_X10_90 (by assumption) rfl dX10_fault_136 ?_
          rw [h6]
          refine sj_goto 144 dX10_fault_139 (by decide) ?_
          exact sj_iret dX10_fault_144 rfl rfl (Nat.le_of_ble_eq_true rfl) (Nat.le_of_ble_eq_true rfl) ⟨by rw [← hj, hn.1], rfl, h1, h2, hfin⟩
        · refine sj_ild2 dX10_fault_131 ?_
          refine sj_if_eq 142 dX10_fault_132 (by decide) (by omega) (fun c_132 => ?_) (fun c_132 => ?_)
          · exact absurd c_132 (by omega)
          refine sj_ald0 dX10_fault_135 ?_
          refine sj_getI fl_X10_90 (by assumption) rfl dX10_fault_136 ?_
          rw [h6]
          refine sj_goto 144 dX10_fault_139 (by decide) ?_
          exact sj_iret dX10_fault_144 rfl rfl (Nat.le_of_ble_eq_true rfl) (Nat.le_of_ble_eq_true rfl) ⟨by rw [← hj, hn.1], rfl, h1, h2, hfin⟩
      · refine sj_ild3 dX10_fault_11 ?_
        refine sj_ald0 dX10_fault_12 ?_
        refine sj_getI fl_X10_90 (by assumption) rfl dX10_fault_13 ?_
        rw [h6]
        refine sj_icmp_ge 127 dX10_fault_16 (by decide) (by omega) (by omega) (fun c_16 => ?_) (fun c_16 => ?_)
        rotate_left
        · exact absurd (by omega) c_16
        refine sj_ild1 dX10_fault_127 ?_
        refine sj_if_gt 135 dX10_fault_128 (by decide) (by omega) (fun c_128 => ?_) (fun c_128 => ?_)
        · refine sj_ald0 dX10_fault_135 ?_
          refine sj_getI fl_X10_90 (by assumption) rfl dX10_fault_136 ?_
          rw [h6]
          rw [if_pos (Or.inl (by omega))] at hj
          refine sj_goto 144 dX10_fault_139 (by decide) ?_
          exact sj_iret dX10_fault_144 rfl rfl (Nat.le_of_ble_eq_true rfl) (Nat.le_of_ble_eq_true rfl) ⟨by first | rw [← hj, hn.1] | rw [← hj], rfl, h1, h2, hfin⟩
        · refine sj_ild2 dX10_fault_131 ?_
          refine sj_if_eq 142 dX10_fault_132 (by decide) (by omega) (fun c_132 => ?_) (fun c_132 => ?_)
          rotate_left
          · exact absurd rfl c_132
          rw [if_neg (by simp; omega)] at hj
          refine sj_bipush dX10_fault_142 (by decide) ?_
          exact sj_iret dX10_fault_144 rfl rfl (Nat.le_of_ble_eq_true rfl) (Nat.le_of_ble_eq_true rfl) ⟨by first | rw [← hj, hn.1] | rw [← hj], rfl, h1, h2, hfin⟩
    | succ d ih =>
      intro k m q f fr J hk hq hm hf h1 h2 h3 h4 hj
      have h6 : J o 6 = I o 6 := h2 6 (by decide)
      have ht : J (o + 4) = I (o + 4) := h1 (o + 4) (by omega) (by omega)
      rw [lst_cons] at hj
      simp only [jFl] at hj
      have hc := hb (I (o + 4) k) (by rw [← hX, show k = 0 + k by omega]; exact lst_of (by omega))
      have hsn : jNb (lst (I (o + 4)) 0 (k + 1)) = jNb (lst (I (o + 4)) 0 k) ++ (if I (o + 4) k = 32 then [] else [I (o + 4) k]) := by
        rw [lst_succ, Nat.zero_add]
        simp only [jNb, List.filter_append]
        congr 1
        by_cases h : I (o + 4) k = 32
        · simp [h]
        · simp [h]
      have hnext : ∀ c : Int, c = I (o + 4) k → ¬ c = 32 → (∀ a, a ≠ o → a ≠ o + 5 → sj_up (sj_up J (o + 5) m c) o 8 (m + 1) a = I a) ∧ (∀ j, j ≠ 8 → sj_up (sj_up J (o + 5) m c) o 8 (m + 1) o j = I o j) ∧ sj_up (sj_up J (o + 5) m c) o 8 (m + 1) o 8 = ((m + 1 : Nat) : Int) ∧ lst (sj_up (sj_up J (o + 5) m c) o 8 (m + 1) (o + 5)) 0 (m + 1) = jNb (lst (I (o + 4)) 0 (k + 1)) := by
        intro c hce hcn
        refine ⟨fun a e1 e2 => by rw [sj_up_row e1, sj_up_row e2]; exact h1 a e1 e2, fun j e1 => by rw [sj_up_ne (by omega), sj_up_ne (by omega)]; exact h2 j e1, sj_up_self _ _ _ _, ?_⟩
        have e := lst_up_succ (I := J) (a := o + 5) (s := 0) (n := m) (v := c)
        rw [Nat.zero_add] at e
        rw [lst_up (Or.inl (by omega)), e, h4, hsn, if_neg (by rw [← hce]; exact hcn), hce]
      rcases hf with ⟨rfl, rfl⟩ | ⟨rfl, rfl⟩
      · rw [if_pos (rfl : true = true)] at hj
        refine sj_ild3 dX10_fault_11 ?_
        refine sj_ald0 dX10_fault_12 ?_
        refine sj_getI fl_X10_90 (by assumption) rfl dX10_fault_13 ?_
        rw [h6]
        refine sj_icmp_ge 127 dX10_fault_16 (by decide) (by omega) (by omega) (fun c_16 => ?_) (fun c_16 => ?_)
        · exact absurd c_16 (by omega)
        refine sj_ald0 dX10_fault_19 ?_
        refine sj_getR fl_X10_19 (by assumption) rfl (mr_5 _) dX10_fault_20 ?_
        refine sj_ild3 dX10_fault_23 ?_
        refine sj_ialdJ (k) (by assumption) (by omega) (by omega) (by omega) dX10_fault_24 ?_
        rw [ht]
        refine sj_ist4 (by decide) rfl dX10_fault_25 ?_
        refine sj_ild4 dX10_fault_27 ?_
        refine sj_bipush dX10_fault_29 (by decide) ?_
        refine sj_icmp_eq 121 dX10_fault_31 (by decide) (by omega) (by omega) (fun c_31 => ?_) (fun c_31 => ?_)
        · refine sj_inc3 (by decide) rfl dX10_fault_121 ?_
          refine sj_goto 11 dX10_fault_124 (by decide) ?_
          refine sj_fg4 ?_
          first
          | (rw [if_pos (by omega)] at hj
             exact ih (k + 1) m _ _ true J (by omega) (by omega) (by omega) (Or.inl ⟨rfl, rfl⟩) h1 h2 h3 (by rw [hsn, if_pos (by omega), List.append_nil]; exact h4) hj)
          | (rw [if_neg (by omega), if_pos (by omega)] at hj
             obtain ⟨n1, n2, n3, n4⟩ := hnext _ rfl (by omega)
             refine ih (k + 1) (m + 1) _ _ false _ (by omega) (by omega) (by omega) (Or.inr ⟨rfl, rfl⟩) n1 n2 n3 n4 ?_
             rw [Int.add_zero]; exact hj)
        · refine sj_ild2 dX10_fault_34 ?_
          refine sj_if_eq 49 dX10_fault_35 (by decide) (by omega) (fun c_35 => ?_) (fun c_35 => ?_)
          · exact absurd c_35 (by omega)
          refine sj_ild4 dX10_fault_38 ?_
          refine sj_callS (cm_isDigit (by omega)) kc_X10_93 rfl rfl (Nat.le_of_ble_eq_true rfl) dX10_fault_40 (fun r_40 σ_40 I_40 hp_40 => ?_)
          obtain ⟨rfl, rfl, rfl⟩ := hp_40
          have hd : (if 48 ≤ I (o + 4) k ∧ I (o + 4) k ≤ 57 then (1 : Int) else 0) = 1 ∧ (48 ≤ I (o + 4) k ∧ I (o + 4) k ≤ 57) ∨ (if 48 ≤ I (o + 4) k ∧ I (o + 4) k ≤ 57 then (1 : Int) else 0) = 0 ∧ ¬ (48 ≤ I (o + 4) k ∧ I (o + 4) k ≤ 57) := by split <;> simp_all
          refine sj_if_ne 65 dX10_fault_43 (by decide) (by omega) (fun c_43 => ?_) (fun c_43 => ?_)
          · refine sj_ald0 dX10_fault_65 ?_
            refine sj_getR fl_X10_22 (by assumption) rfl (mr_7 _) dX10_fault_66 ?_
            refine sj_ald0 dX10_fault_69 ?_
            refine sj_getI fl_X10_100 (by assumption) rfl dX10_fault_70 ?_
            rw [h3]
            refine sj_ild4 dX10_fault_73 ?_
            refine sj_iastJ (m) (by assumption) (by omega) (by omega) (by omega) dX10_fault_75 ?_
            refine sj_ald0 dX10_fault_76 ?_
            refine sj_dup dX10_fault_77 rfl ?_
            refine sj_getI fl_X10_100 (by assumption) rfl dX10_fault_78 ?_
            rw [sj_up_ne (by omega), h3]
            refine sj_iconst dX10_fault_81 ?_
            refine sj_iadd dX10_fault_82 ?_
            refine sj_putI fl_X10_100 (by assumption) rfl rfl rfl dX10_fault_83 ?_
            refine sj_ild1 dX10_fault_86 ?_
            refine sj_ild2 dX10_fault_87 ?_
            refine sj_if_eq 95 dX10_fault_88 (by decide) (by omega) (fun c_88 => ?_) (fun c_88 => ?_)
            · exact absurd c_88 (by omega)
            refine sj_iconst dX10_fault_91 ?_
            refine sj_goto 102 dX10_fault_92 (by decide) ?_
            refine sj_iadd dX10_fault_102 ?_
            refine sj_ist1 (by decide) rfl dX10_fault_103 ?_
            refine sj_ild2 dX10_fault_104 ?_
            refine sj_if_ne 119 dX10_fault_105 (by decide) (by omega) (fun c_105 => ?_) (fun c_105 => ?_)
            rotate_left
            · exact absurd (by omega) c_105
            refine sj_iconst dX10_fault_119 ?_
            refine sj_ist2 (by decide) rfl dX10_fault_120 ?_
            refine sj_inc3 (by decide) rfl dX10_fault_121 ?_
            refine sj_goto 11 dX10_fault_124 (by decide) ?_
            refine sj_fg4 ?_
            first
            | (rw [if_pos (by omega)] at hj
               exact ih (k + 1) m _ _ true J (by omega) (by omega) (by omega) (Or.inl ⟨rfl, rfl⟩) h1 h2 h3 (by rw [hsn, if_pos (by omega), List.append_nil]; exact h4) hj)
            | (rw [if_neg (by omega), if_pos (by omega)] at hj
               obtain ⟨n1, n2, n3, n4⟩ := hnext _ rfl (by omega)
               refine ih (k + 1) (m + 1) _ _ false _ (by omega) (by omega) (by omega) (Or.inr ⟨rfl, rfl⟩) n1 n2 n3 n4 ?_
               rw [Int.add_zero]; exact hj)
          · refine sj_goto 63 dX10_fault_46 (by decide) ?_
            refine sj_ild3 dX10_fault_63 ?_
            exact sj_iret dX10_fault_64 rfl rfl (Nat.le_of_ble_eq_true rfl) (Nat.le_of_ble_eq_true rfl) ⟨by rw [if_neg (by omega), if_neg (by omega)] at hj; rw [← hj], rfl, h1, h2, fun hz => by rw [if_neg (by omega), if_neg (by omega)] at hj; omega⟩
      · simp only [Bool.false_eq_true, if_false] at hj
        have hp := jPt_cases (I (o + 4) k)
        refine sj_ild3 dX10_fault_11 ?_
        refine sj_ald0 dX10_fault_12 ?_
        refine sj_getI fl_X10_90 (by assumption) rfl dX10_fault_13 ?_
        rw [h6]
        refine sj_icmp_ge 127 dX10_fault_16 (by decide) (by omega) (by omega) (fun c_16 => ?_) (fun c_16 => ?_)
        · exact absurd c_16 (by omega)
        refine sj_ald0 dX10_fault_19 ?_
        refine sj_getR fl_X10_19 (by assumption) rfl (mr_5 _) dX10_fault_20 ?_
        refine sj_ild3 dX10_fault_23 ?_
        refine sj_ialdJ (k) (by assumption) (by omega) (by omega) (by omega) dX10_fault_24 ?_
        rw [ht]
        refine sj_ist4 (by decide) rfl dX10_fault_25 ?_
        refine sj_ild4 dX10_fault_27 ?_
        refine sj_bipush dX10_fault_29 (by decide) ?_
        refine sj_icmp_eq 121 dX10_fault_31 (by decide) (by omega) (by omega) (fun c_31 => ?_) (fun c_31 => ?_)
        · refine sj_inc3 (by decide) rfl dX10_fault_121 ?_
          refine sj_goto 11 dX10_fault_124 (by decide) ?_
          refine sj_fg4 ?_
          first
          | (rw [if_pos (by omega)] at hj
             exact ih (k + 1) m _ _ false J (by omega) (by omega) (by omega) (Or.inr ⟨rfl, rfl⟩) h1 h2 h3 (by rw [hsn, if_pos (by omega), List.append_nil]; exact h4) hj)
          | (rw [if_neg (by omega), if_neg (by omega)] at hj
             obtain ⟨n1, n2, n3, n4⟩ := hnext _ rfl (by omega)
             refine ih (k + 1) (m + 1) _ _ (decide (I (o + 4) k = 58)) _ (by omega) (by omega) (by omega) ?_ n1 n2 n3 n4 ?_
             · first | exact Or.inl ⟨decide_eq_true (by omega), rfl⟩ | exact Or.inr ⟨decide_eq_false (by omega), rfl⟩
             · rw [Int.add_sub_assoc] at hj; exact hj)
        · refine sj_ild2 dX10_fault_34 ?_
          refine sj_if_eq 49 dX10_fault_35 (by decide) (by omega) (fun c_35 => ?_) (fun c_35 => ?_)
          rotate_left
          · exact absurd (by omega) c_35
          refine sj_ild1 dX10_fault_49 ?_
          refine sj_if_eq 63 dX10_fault_50 (by decide) (by omega) (fun c_50 => ?_) (fun c_50 => ?_)
          · refine sj_ild3 dX10_fault_63 ?_
            exact sj_iret dX10_fault_64 rfl rfl (Nat.le_of_ble_eq_true rfl) (Nat.le_of_ble_eq_true rfl) ⟨by rw [if_neg (by omega), if_pos (by omega)] at hj; rw [← hj], rfl, h1, h2, fun hz => by rw [if_neg (by omega), if_pos (by omega)] at hj; omega⟩
          · refine sj_ild4 dX10_fault_53 ?_
            refine sj_callS (cm_parts (by omega)) kc_X10_103 rfl rfl (Nat.le_of_ble_eq_true rfl) dX10_fault_55 (fun r_55 σ_55 I_55 hp_55 => ?_)
            obtain ⟨rfl, rfl, rfl⟩ := hp_55
            refine sj_bipush dX10_fault_58 (by decide) ?_
            refine sj_icmp_ne 65 dX10_fault_60 (by decide) (by omega) (by omega) (fun c_60 => ?_) (fun c_60 => ?_)
            · refine sj_ald0 dX10_fault_65 ?_
              refine sj_getR fl_X10_22 (by assumption) rfl (mr_7 _) dX10_fault_66 ?_
              refine sj_ald0 dX10_fault_69 ?_
              refine sj_getI fl_X10_100 (by assumption) rfl dX10_fault_70 ?_
              rw [h3]
              refine sj_ild4 dX10_fault_73 ?_
              refine sj_iastJ (m) (by assumption) (by omega) (by omega) (by omega) dX10_fault_75 ?_
              refine sj_ald0 dX10_fault_76 ?_
              refine sj_dup dX10_fault_77 rfl ?_
              refine sj_getI fl_X10_100 (by assumption) rfl dX10_fault_78 ?_
              rw [sj_up_ne (by omega), h3]
              refine sj_iconst dX10_fault_81 ?_
              refine sj_iadd dX10_fault_82 ?_
              refine sj_putI fl_X10_100 (by assumption) rfl rfl rfl dX10_fault_83 ?_
              refine sj_ild1 dX10_fault_86 ?_
              refine sj_ild2 dX10_fault_87 ?_
              refine sj_if_eq 95 dX10_fault_88 (by decide) (by omega) (fun c_88 => ?_) (fun c_88 => ?_)
              rotate_left
              · exact absurd (by omega) c_88
              refine sj_ild4 dX10_fault_95 ?_
              refine sj_callS (cm_parts (by omega)) kc_X10_103 rfl rfl (Nat.le_of_ble_eq_true rfl) dX10_fault_97 (fun r_97 σ_97 I_97 hp_97 => ?_)
              obtain ⟨rfl, rfl, rfl⟩ := hp_97
              refine sj_iconst dX10_fault_100 ?_
              refine sj_isub dX10_fault_101 ?_
              refine sj_iadd dX10_fault_102 ?_
              refine sj_ist1 (by decide) rfl dX10_fault_103 ?_
              refine sj_ild2 dX10_fault_104 ?_
              refine sj_if_ne 119 dX10_fault_105 (by decide) (by omega) (fun c_105 => ?_) (fun c_105 => ?_)
              · exact absurd (by omega) c_105
              refine sj_ild4 dX10_fault_108 ?_
              refine sj_bipush dX10_fault_110 (by decide) ?_
              refine sj_icmp_ne 119 dX10_fault_112 (by decide) (by omega) (by omega) (fun c_112 => ?_) (fun c_112 => ?_)
              · refine sj_iconst dX10_fault_119 ?_
                refine sj_ist2 (by decide) rfl dX10_fault_120 ?_
                refine sj_inc3 (by decide) rfl dX10_fault_121 ?_
                refine sj_goto 11 dX10_fault_124 (by decide) ?_
                refine sj_fg4 ?_
                first
                | (rw [if_pos (by omega)] at hj
                   exact ih (k + 1) m _ _ false J (by omega) (by omega) (by omega) (Or.inr ⟨rfl, rfl⟩) h1 h2 h3 (by rw [hsn, if_pos (by omega), List.append_nil]; exact h4) hj)
                | (rw [if_neg (by omega), if_neg (by omega)] at hj
                   obtain ⟨n1, n2, n3, n4⟩ := hnext _ rfl (by omega)
                   refine ih (k + 1) (m + 1) _ _ (decide (I (o + 4) k = 58)) _ (by omega) (by omega) (by omega) ?_ n1 n2 n3 n4 ?_
                   · first | exact Or.inl ⟨decide_eq_true (by omega), rfl⟩ | exact Or.inr ⟨decide_eq_false (by omega), rfl⟩
                   · rw [Int.add_sub_assoc] at hj; exact hj)
              · refine sj_iconst dX10_fault_115 ?_
                refine sj_goto 120 dX10_fault_116 (by decide) ?_
                refine sj_ist2 (by decide) rfl dX10_fault_120 ?_
                refine sj_inc3 (by decide) rfl dX10_fault_121 ?_
                refine sj_goto 11 dX10_fault_124 (by decide) ?_
                refine sj_fg4 ?_
                first
                | (rw [if_pos (by omega)] at hj
                   exact ih (k + 1) m _ _ false J (by omega) (by omega) (by omega) (Or.inr ⟨rfl, rfl⟩) h1 h2 h3 (by rw [hsn, if_pos (by omega), List.append_nil]; exact h4) hj)
                | (rw [if_neg (by omega), if_neg (by omega)] at hj
                   obtain ⟨n1, n2, n3, n4⟩ := hnext _ rfl (by omega)
                   refine ih (k + 1) (m + 1) _ _ (decide (I (o + 4) k = 58)) _ (by omega) (by omega) (by omega) ?_ n1 n2 n3 n4 ?_
                   · first | exact Or.inl ⟨decide_eq_true (by omega), rfl⟩ | exact Or.inr ⟨decide_eq_false (by omega), rfl⟩
                   · rw [Int.add_sub_assoc] at hj; exact hj)
            · refine sj_ild3 dX10_fault_63 ?_
              exact sj_iret dX10_fault_64 rfl rfl (Nat.le_of_ble_eq_true rfl) (Nat.le_of_ble_eq_true rfl) ⟨by rw [if_neg (by omega), if_pos (by omega)] at hj; rw [← hj], rfl, h1, h2, fun hz => by rw [if_neg (by omega), if_pos (by omega)] at hj; omega⟩
  refine sj_ald0 dX10_fault_0 ?_
  refine sj_iconst dX10_fault_1 ?_
  refine sj_putI fl_X10_100 (by assumption) rfl rfl rfl dX10_fault_2 ?_
  refine sj_iconst dX10_fault_5 ?_
  refine sj_ist1 (by decide) rfl dX10_fault_6 ?_
  refine sj_iconst dX10_fault_7 ?_
  refine sj_ist2 (by decide) rfl dX10_fault_8 ?_
  refine sj_iconst dX10_fault_9 ?_
  refine sj_ist3 (by decide) rfl dX10_fault_10 ?_
  refine lp n 0 0 1 0 false (sj_up I o 8 0) (by omega) (by omega) (by omega) (Or.inr ⟨rfl, rfl⟩) (fun a e1 e2 => sj_up_row e1) (fun j e => sj_up_ne (by omega)) (sj_up_self _ _ _ _) rfl ?_
  rw [hX]; rfl
end MODEL4
