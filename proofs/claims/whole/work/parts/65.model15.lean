/-- place and index -/
def mPi (o : Nat) (I J : sjI) (p i : Nat) : Prop := (∀ a, a ≠ o → J a = I a) ∧ (∀ j, j ≠ 22 → j ≠ 23 → J o j = I o j) ∧ J o 22 = p ∧ J o 23 = i
theorem mPi.go {o : Nat} {I J : sjI} {p i : Nat} (h : mPi o I J p i) (p' i' : Nat) : mPi o I (sj_up (sj_up J o 22 p') o 23 i') p' i' := by
  obtain ⟨h1, h2, h3, h4⟩ := h
  exact ⟨fun a e => by rw [sj_up_row e, sj_up_row e]; exact h1 a e, fun j e1 e2 => by rw [sj_up_ne (by omega), sj_up_ne (by omega)]; exact h2 j e1 e2, by rw [sj_up_ne (by omega), sj_up_self], sj_up_self _ _ _ _⟩
/-- where the descent from L at i may end -/
def mDs (o : Nat) (I J : sjI) (M : Int) (L : List Int) (i : Nat) (r : Option Value) : Prop := ∃ p' i' : Nat, mPi o I J p' i' ∧ p' < 2001 ∧
  ((∃ v : Int, r = some (.int (zI v)) ∧ (0 ≤ v ∧ v < M) ∧ jN L i = some [] ∧ ∀ vv, jV M vv L i = v) ∨
   (r = some (.int (zI (-9))) ∧ (1000000000 < i' ∧ i' < 2000000000) ∧ (0 ≤ I (o + 1) p' ∧ I (o + 1) p' < 128) ∧ jN L i = none) ∨
   (r = some (.int (zI (-9))) ∧ i' ≤ 1000000000 ∧ ∃ (c : Int) (L' : List Int) (m' : Nat), jOk (m' + 1) (c :: L') ∧ (jTk 1 (c :: L')).length ≤ (jTk 1 L).length ∧ ((65 ≤ c ∧ c ≤ 72) ∨ c = 43 ∨ c = 42) ∧ lst (I (o + 1)) p' (jEnc (c :: L')).length = jEnc (c :: L') ∧ p' + (jEnc (c :: L')).length ≤ 2001 ∧ jN L i = jN (c :: L') i' ∧ (jN L i ≠ none → ∀ vv, jV M vv L i = jV M vv (c :: L') i')))
theorem jN_big {L : List Int} {i : Nat} (h : 1000000000 < i) : jN L i = none := by
  cases L with
  | nil => rfl
  | cons c L => rw [jN_cons, if_pos h]
theorem jTk_add : ∀ (L : List Int) (n m : Nat), jTk (n + m) L = jTk n L ++ jTk m (jDr n L)
  | L, 0, m => by rw [jTk_0, jDr_0, Nat.zero_add]; rfl
  | [], n + 1, m => by
    rw [show n + 1 + m = n + m + 1 by omega]
    show [] = [] ++ jTk m []
    cases m <;> rfl
  | c :: L, n + 1, m => by
    rw [show n + 1 + m = n + m + 1 by omega]
    show c :: jTk (n + m + jAr c) L = c :: (jTk (n + jAr c) L ++ jTk m (jDr (n + jAr c) L))
    rw [← jTk_add L (n + jAr c) m, show n + m + jAr c = n + jAr c + m by omega]
section MODEL15
variable {l : Launch} {G : sjG} {σ : sjS} {I : sjI}
theorem cm_descend {o p0 i0 m0 : Nat} {M : Int} {L0 : List Int} {J0 : sjI} (hS : mSh σ o) (hM : I (o + 1) 0 = M) (hM2 : 2 ≤ M ∧ M ≤ 10) (hok0 : jOk (m0 + 1) L0) (hL0 : lst (I (o + 1)) p0 (jEnc L0).length = jEnc L0) (hb0 : p0 + (jEnc L0).length ≤ 2001) (hi0 : i0 ≤ 1000000001) (hJ0 : mPi o I J0 p0 i0) : sj_Con l yX10_descend mX10_descend G σ J0 [.ref o] (fun r σ' I' => σ = σ' ∧ mDs o I I' M L0 i0 r) := by
  obtain ⟨h_o, h_w, h_past, h_images, h_text, h_read, h_made, h_old, h_values, h_ranks, h_operator, h_indexAt, h_second, h_first, h_needed, h_shifts, h_around, h_best, h_isNeeded, h_toSee, h_held, h_there⟩ := id hS
  refine sj_con_of (L0 := [some (.ref o), none]) (by decide) rfl rfl rfl (Nat.le_of_ble_eq_true rfl) rfl (fun Γ => ?_)
  have lp : ∀ (n : Nat) (L : List Int) (m p i : Nat) (J : sjI), L.length ≤ n → jOk (m + 1) L → lst (I (o + 1)) p (jEnc L).length = jEnc L → p + (jEnc L).length ≤ 2001 → i ≤ 1000000001 → mPi o I J p i → (jTk 1 L).length ≤ (jTk 1 L0).length → jN L0 i0 = jN L i → (jN L0 i0 ≠ none → ∀ vv, jV M vv L0 i0 = jV M vv L i) → sj_V l Γ mX10_descend G (fun r σ' I' => σ = σ' ∧ mDs o I I' M L0 i0 r) σ J 0 0 0 [some (.ref o), none] [] := by
    intro n
    induction n with
    | zero =>
      intro L m p i J hn hok
      have := jOk_len L _ hok
      omega
    | succ n ih =>
      intro L m p i J hn hok hL hb hi hJ hle hN hV
      obtain ⟨c, N, rfl, hv, hN1⟩ := jOk_ne hok
      obtain ⟨g1, g2, g3, g4⟩ := id hJ
      have hw : J (o + 1) = I (o + 1) := g1 (o + 1) (by omega)
      obtain ⟨e1, e2, e3⟩ := lst_code hL
      have hlen : (jEnc (c :: N)).length = (jE c).length + (jEnc N).length := by rw [jEnc_cons, List.length_append]
      have hel := jE_len c
      rw [List.length_cons] at hn
      have htk : (jTk 1 (c :: N)).length = 1 + (jTk (jAr c) N).length := by show (c :: jTk (0 + jAr c) N).length = _; rw [Nat.zero_add, List.length_cons]; omega
      have hNc := jN_cons c N i
      have hVc := fun vv => jV_cons M vv c N i
      by_cases hbig : 1000000000 < i
      · rw [if_pos hbig] at hNc
        have hp1 : p < 2001 := by split at hel <;> omega
        have hbyte : 0 ≤ I (o + 1) p ∧ I (o + 1) p < 128 := by unfold jVc at hv; rw [e1]; split <;> omega
        refine sj_ald0 dX10_descend_0 ?_
        refine sj_getR fl_X10_7 (by assumption) rfl (mr_0 _) dX10_descend_1 ?_
        refine sj_ald0 dX10_descend_4 ?_
        refine sj_getI fl_X10_169 (by assumption) rfl dX10_descend_5 ?_
        rw [g3]
        refine sj_ialdJ (p) (by assumption) (by omega) (by omega) (by omega) dX10_descend_8 ?_
        rw [hw]
        refine sj_ist1 (by decide) rfl dX10_descend_9 ?_
        refine sj_ald0 dX10_descend_10 ?_
        refine sj_getI fl_X10_172 (by assumption) rfl dX10_descend_11 ?_
        rw [g4]
        refine sj_ldc kd_X10_175 dX10_descend_14 ?_
        refine sj_icmp_le 22 dX10_descend_16 (by decide) (by omega) (by omega) (fun c_16 => ?_) (fun c_16 => ?_)
        · exact absurd c_16 (by omega)
        refine sj_bipush dX10_descend_19 (by decide) ?_
        exact sj_iret dX10_descend_21 rfl rfl (Nat.le_of_ble_eq_true rfl) (Nat.le_of_ble_eq_true rfl) ⟨rfl, p, i, hJ, hp1, Or.inr (Or.inl ⟨rfl, by omega, hbyte, by rw [hN, hNc]⟩)⟩
      · rw [if_neg hbig] at hNc
        by_cases hc : 128 ≤ c
        · have hv2 := hv
          unfold jVc at hv2
          rw [if_pos hc] at e1 hel
          have hd2 := e2 hc
          have hdg := jbs (48 ≤ (58 : Int) ∧ (58 : Int) ≤ 57)
          have ha : jAr c = 1 := by unfold jAr; rw [if_neg (by omega), if_neg (by omega)]
          rw [ha] at hN1 htk
          rw [if_neg (by omega), if_neg (by omega), if_pos hc] at hNc
          have hVc2 : ∀ vv, jV M vv (c :: N) i = if i = 0 then (c - 128) % M else jV M vv N (i - 1) := fun vv => by rw [hVc vv, if_neg (by omega), if_neg (by omega), if_pos hc]
          refine sj_ald0 dX10_descend_0 ?_
          refine sj_getR fl_X10_7 (by assumption) rfl (mr_0 _) dX10_descend_1 ?_
          refine sj_ald0 dX10_descend_4 ?_
          refine sj_getI fl_X10_169 (by assumption) rfl dX10_descend_5 ?_
          rw [g3]
          refine sj_ialdJ (p) (by assumption) (by omega) (by omega) (by omega) dX10_descend_8 ?_
          rw [hw, e1]
          refine sj_ist1 (by decide) rfl dX10_descend_9 ?_
          refine sj_ald0 dX10_descend_10 ?_
          refine sj_getI fl_X10_172 (by assumption) rfl dX10_descend_11 ?_
          rw [g4]
          refine sj_ldc kd_X10_175 dX10_descend_14 ?_
          refine sj_icmp_le 22 dX10_descend_16 (by decide) (by omega) (by omega) (fun c_16 => ?_) (fun c_16 => ?_)
          rotate_left
          · exact absurd (by omega) c_16
          refine sj_ild1 dX10_descend_22 ?_
          refine sj_callS (cm_isDigit (by omega)) kc_X10_93 rfl rfl (Nat.le_of_ble_eq_true rfl) dX10_descend_23 (fun r_23 σ_23 I_23 hp_23 => ?_)
          obtain ⟨rfl, rfl, rfl⟩ := hp_23
          refine sj_if_eq 41 dX10_descend_26 (by decide) (by omega) (fun c_26 => ?_) (fun c_26 => ?_)
          rotate_left
          · exact absurd (by omega) c_26
          refine sj_ild1 dX10_descend_41 ?_
          refine sj_bipush dX10_descend_42 (by decide) ?_
          refine sj_icmp_ne 76 dX10_descend_44 (by decide) (by omega) (by omega) (fun c_44 => ?_) (fun c_44 => ?_)
          · exact absurd rfl c_44
          refine sj_ald0 dX10_descend_47 ?_
          refine sj_getI fl_X10_172 (by assumption) rfl dX10_descend_48 ?_
          rw [g4]
          refine sj_if_ne 76 dX10_descend_51 (by decide) (by omega) (fun c_51 => ?_) (fun c_51 => ?_)
          · refine sj_ild1 dX10_descend_76 ?_
            refine sj_lookup (off := 51) 128 dX10_descend_77 (by decide) (by omega) (by rfl) (by decide) ?_
            refine sj_ald0 dX10_descend_128 ?_
            refine sj_dup dX10_descend_129 rfl ?_
            refine sj_getI fl_X10_169 (by assumption) rfl dX10_descend_130 ?_
            rw [g3]
            refine sj_iconst dX10_descend_133 ?_
            refine sj_iadd dX10_descend_134 ?_
            refine sj_putI fl_X10_169 (by assumption) rfl rfl rfl dX10_descend_135 ?_
            refine sj_ald0 dX10_descend_138 ?_
            refine sj_dup dX10_descend_139 rfl ?_
            refine sj_getI fl_X10_172 (by assumption) rfl dX10_descend_140 ?_
            rw [sj_up_ne (by omega), g4]
            refine sj_iconst dX10_descend_143 ?_
            refine sj_isub dX10_descend_144 ?_
            refine sj_putI fl_X10_172 (by assumption) rfl rfl rfl dX10_descend_145 ?_
            refine sj_goto 301 dX10_descend_148 (by decide) ?_
            refine sj_goto 0 dX10_descend_301 (by decide) ?_
            refine sj_fg1 ?_
            rw [show (p : Int) + 2 = ((p + 2 : Nat) : Int) by omega, show (i : Int) - 1 = ((i - 1 : Nat) : Int) by omega]
            exact ih N m (p + 2) (i - 1) _ (by omega) hN1 (by rw [hel] at e3; exact e3) (by omega) (by omega) (hJ.go _ _) (by omega) (by rw [hN, hNc, if_neg (by omega)]) (fun hz vv => by rw [hV hz vv, hVc2 vv, if_neg (by omega)])
          · refine sj_ald0 dX10_descend_54 ?_
            refine sj_getR fl_X10_7 (by assumption) rfl (mr_0 _) dX10_descend_55 ?_
            refine sj_ald0 dX10_descend_58 ?_
            refine sj_getI fl_X10_169 (by assumption) rfl dX10_descend_59 ?_
            rw [g3]
            refine sj_iconst dX10_descend_62 ?_
            refine sj_iadd dX10_descend_63 ?_
            refine sj_ialdJ (p + 1) (by assumption) (by omega) (by omega) (by omega) dX10_descend_64 ?_
            rw [hw, hd2]
            have hz : jN L0 i0 = some [] := by rw [hN, hNc, if_pos (by omega)]
            refine sj_bipush dX10_descend_65 (by decide) ?_
            refine sj_isub dX10_descend_67 ?_
            refine sj_ald0 dX10_descend_68 ?_
            refine sj_getR fl_X10_7 (by assumption) rfl (mr_0 _) dX10_descend_69 ?_
            refine sj_iconst dX10_descend_72 ?_
            refine sj_ialdJ (0) (by assumption) (by omega) (by omega) (by omega) dX10_descend_73 ?_
            rw [hw, hM]
            refine sj_irem dX10_descend_74 (by omega) (by omega) ?_
            exact sj_iret dX10_descend_75 rfl rfl (Nat.le_of_ble_eq_true rfl) (Nat.le_of_ble_eq_true rfl) ⟨rfl, p, i, hJ, by omega, Or.inl ⟨(c - 80 - 48) % M, rfl, ⟨Int.emod_nonneg _ (by omega), Int.emod_lt_of_pos _ (by omega)⟩, hz, fun vv => by rw [hV (by rw [hz]; exact fun q => by cases q) vv, hVc2 vv, if_pos (by omega), show c - 80 - 48 = c - 128 by omega]⟩⟩
        · have hv2 := hv
          unfold jVc at hv2
          rw [if_neg hc] at e1 hel
          rw [hel] at e3
          have hdg := jbs (48 ≤ c ∧ c ≤ 57)
          have hst : ((65 ≤ c ∧ c ≤ 72) ∨ c = 43 ∨ c = 42) → mDs o I J M L0 i0 (some (.int (zI (-9)))) := fun h => ⟨p, i, hJ, by omega, Or.inr (Or.inr ⟨rfl, by omega, c, N, m, hok, hle, h, hL, hb, hN, hV⟩)⟩
          have hVd : ∀ vv, (48 ≤ c ∧ c ≤ 57) → jV M vv (c :: N) i = (c - 48) % M := fun vv h => by rw [hVc vv, if_neg (by omega), if_pos h]
          have hone : c = 116 ∨ c = 101 ∨ c = 111 → jOk (m + 1) N := by
            intro h
            have ha : jAr c = 1 := by unfold jAr; rw [if_neg (by omega), if_neg (by omega)]
            rw [ha] at hN1
            exact hN1
          have htk1 : c = 116 ∨ c = 101 ∨ c = 111 → (jTk 1 N).length ≤ (jTk 1 L0).length := by
            intro h
            have ha : jAr c = 1 := by unfold jAr; rw [if_neg (by omega), if_neg (by omega)]
            rw [ha] at htk
            omega
          have htk2 : c = 122 → (jTk 1 N).length ≤ (jTk 1 L0).length ∧ (jTk 1 (jDr 1 N)).length ≤ (jTk 1 L0).length := by
            intro h
            have ha : jAr c = 2 := if_pos (by omega)
            rw [ha, jTk_add N 1 1, List.length_append] at htk
            omega
          refine sj_ald0 dX10_descend_0 ?_
          refine sj_getR fl_X10_7 (by assumption) rfl (mr_0 _) dX10_descend_1 ?_
          refine sj_ald0 dX10_descend_4 ?_
          refine sj_getI fl_X10_169 (by assumption) rfl dX10_descend_5 ?_
          rw [g3]
          refine sj_ialdJ (p) (by assumption) (by omega) (by omega) (by omega) dX10_descend_8 ?_
          rw [hw, e1]
          refine sj_ist1 (by decide) rfl dX10_descend_9 ?_
          refine sj_ald0 dX10_descend_10 ?_
          refine sj_getI fl_X10_172 (by assumption) rfl dX10_descend_11 ?_
          rw [g4]
          refine sj_ldc kd_X10_175 dX10_descend_14 ?_
          refine sj_icmp_le 22 dX10_descend_16 (by decide) (by omega) (by omega) (fun c_16 => ?_) (fun c_16 => ?_)
          rotate_left
          · exact absurd (by omega) c_16
          refine sj_ild1 dX10_descend_22 ?_
          refine sj_callS (cm_isDigit (by omega)) kc_X10_93 rfl rfl (Nat.le_of_ble_eq_true rfl) dX10_descend_23 (fun r_23 σ_23 I_23 hp_23 => ?_)
          obtain ⟨rfl, rfl, rfl⟩ := hp_23
          refine sj_if_eq 41 dX10_descend_26 (by decide) (by omega) (fun c_26 => ?_) (fun c_26 => ?_)
          · refine sj_ild1 dX10_descend_41 ?_
            refine sj_bipush dX10_descend_42 (by decide) ?_
            refine sj_icmp_ne 76 dX10_descend_44 (by decide) (by omega) (by omega) (fun c_44 => ?_) (fun c_44 => ?_)
            rotate_left
            · exact absurd (by omega) c_44
            refine sj_ild1 dX10_descend_76 ?_
            rcases (show 58 = c ∨ 101 = c ∨ 111 = c ∨ 116 = c ∨ 122 = c ∨ (¬ 58 = c ∧ ¬ 101 = c ∧ ¬ 111 = c ∧ ¬ 116 = c ∧ ¬ 122 = c) by omega) with c_77 | c_77 | c_77 | c_77 | c_77 | c_77
            · refine sj_lookup 128 dX10_descend_77 (by decide) (by omega) (by rw [← c_77]) (by decide) ?_
              exact absurd c_77 (by omega)
            · refine sj_lookup 174 dX10_descend_77 (by decide) (by omega) (by rw [← c_77]) (by decide) ?_
              refine sj_ald0 dX10_descend_174 ?_
              refine sj_dup dX10_descend_175 rfl ?_
              refine sj_getI fl_X10_169 (by assumption) rfl dX10_descend_176 ?_
              rw [g3]
              refine sj_iconst dX10_descend_179 ?_
              refine sj_iadd dX10_descend_180 ?_
              refine sj_putI fl_X10_169 (by assumption) rfl rfl rfl dX10_descend_181 ?_
              refine sj_ald0 dX10_descend_184 ?_
              refine sj_ald0 dX10_descend_185 ?_
              refine sj_getI fl_X10_172 (by assumption) rfl dX10_descend_186 ?_
              rw [sj_up_ne (by omega), g4]
              refine sj_ldc kd_X10_176 dX10_descend_189 ?_
              refine sj_icmp_le 199 dX10_descend_191 (by decide) (by omega) (by omega) (fun c_191 => ?_) (fun c_191 => ?_)
              · refine sj_iconst dX10_descend_199 ?_
                refine sj_ald0 dX10_descend_200 ?_
                refine sj_getI fl_X10_172 (by assumption) rfl dX10_descend_201 ?_
                rw [sj_up_ne (by omega), g4]
                refine sj_imul dX10_descend_204 ?_
                refine sj_putI fl_X10_172 (by assumption) rfl rfl rfl dX10_descend_205 ?_
                refine sj_goto 301 dX10_descend_208 (by decide) (sj_goto 0 dX10_descend_301 (by decide) (sj_fg1 ?_))
                rw [show (p : Int) + 1 = ((p + 1 : Nat) : Int) by omega]
                rw [if_neg (by omega), if_neg (by omega), if_neg hc, if_neg (by omega), if_pos (by omega)] at hNc
                first
                | (rw [show (2 : Int) * (i : Int) = ((2 * i : Nat) : Int) by omega]
                   exact ih N m (p + 1) (2 * i) _ (by omega) (hone (by omega)) e3 (by omega) (by omega) (hJ.go _ _) (htk1 (by omega)) (by rw [hN, hNc]) (fun hz vv => by rw [hV hz vv, hVc vv, if_neg (by omega), if_neg (by omega), if_neg hc, if_neg (by omega), if_pos (by omega)]))
                | (rw [jN_big (L := N) (i := 2 * i) (by omega)] at hNc
                   exact ih N m (p + 1) 1000000001 _ (by omega) (hone (by omega)) e3 (by omega) (by omega) (hJ.go _ _) (htk1 (by omega)) (by rw [hN, hNc, jN_big (by omega)]) (fun hz => absurd (hN.trans hNc) hz))
              · refine sj_ldc kd_X10_177 dX10_descend_194 ?_
                refine sj_goto 205 dX10_descend_196 (by decide) ?_
                refine sj_putI fl_X10_172 (by assumption) rfl rfl rfl dX10_descend_205 ?_
                refine sj_goto 301 dX10_descend_208 (by decide) (sj_goto 0 dX10_descend_301 (by decide) (sj_fg1 ?_))
                rw [show (p : Int) + 1 = ((p + 1 : Nat) : Int) by omega]
                rw [if_neg (by omega), if_neg (by omega), if_neg hc, if_neg (by omega), if_pos (by omega)] at hNc
                first
                | (rw [show (2 : Int) * (i : Int) = ((2 * i : Nat) : Int) by omega]
                   exact ih N m (p + 1) (2 * i) _ (by omega) (hone (by omega)) e3 (by omega) (by omega) (hJ.go _ _) (htk1 (by omega)) (by rw [hN, hNc]) (fun hz vv => by rw [hV hz vv, hVc vv, if_neg (by omega), if_neg (by omega), if_neg hc, if_neg (by omega), if_pos (by omega)]))
                | (rw [jN_big (L := N) (i := 2 * i) (by omega)] at hNc
                   exact ih N m (p + 1) 1000000001 _ (by omega) (hone (by omega)) e3 (by omega) (by omega) (hJ.go _ _) (htk1 (by omega)) (by rw [hN, hNc, jN_big (by omega)]) (fun hz => absurd (hN.trans hNc) hz))
            · refine sj_lookup 211 dX10_descend_77 (by decide) (by omega) (by rw [← c_77]) (by decide) ?_
              refine sj_ald0 dX10_descend_211 ?_
              refine sj_dup dX10_descend_212 rfl ?_
              refine sj_getI fl_X10_169 (by assumption) rfl dX10_descend_213 ?_
              rw [g3]
              refine sj_iconst dX10_descend_216 ?_
              refine sj_iadd dX10_descend_217 ?_
              refine sj_putI fl_X10_169 (by assumption) rfl rfl rfl dX10_descend_218 ?_
              refine sj_ald0 dX10_descend_221 ?_
              refine sj_ald0 dX10_descend_222 ?_
              refine sj_getI fl_X10_172 (by assumption) rfl dX10_descend_223 ?_
              rw [sj_up_ne (by omega), g4]
              refine sj_ldc kd_X10_176 dX10_descend_226 ?_
              refine sj_icmp_le 236 dX10_descend_228 (by decide) (by omega) (by omega) (fun c_228 => ?_) (fun c_228 => ?_)
              · refine sj_iconst dX10_descend_236 ?_
                refine sj_ald0 dX10_descend_237 ?_
                refine sj_getI fl_X10_172 (by assumption) rfl dX10_descend_238 ?_
                rw [sj_up_ne (by omega), g4]
                refine sj_imul dX10_descend_241 ?_
                refine sj_iconst dX10_descend_242 ?_
                refine sj_iadd dX10_descend_243 ?_
                refine sj_putI fl_X10_172 (by assumption) rfl rfl rfl dX10_descend_244 ?_
                refine sj_goto 301 dX10_descend_247 (by decide) (sj_goto 0 dX10_descend_301 (by decide) (sj_fg1 ?_))
                rw [show (p : Int) + 1 = ((p + 1 : Nat) : Int) by omega]
                rw [if_neg (by omega), if_neg (by omega), if_neg hc, if_neg (by omega), if_neg (by omega), if_pos (by omega)] at hNc
                first
                | (rw [show (2 : Int) * (i : Int) + 1 = ((2 * i + 1 : Nat) : Int) by omega]
                   exact ih N m (p + 1) (2 * i + 1) _ (by omega) (hone (by omega)) e3 (by omega) (by omega) (hJ.go _ _) (htk1 (by omega)) (by rw [hN, hNc]) (fun hz vv => by rw [hV hz vv, hVc vv, if_neg (by omega), if_neg (by omega), if_neg hc, if_neg (by omega), if_neg (by omega), if_pos (by omega)]))
                | (rw [jN_big (L := N) (i := 2 * i + 1) (by omega)] at hNc
                   exact ih N m (p + 1) 1000000001 _ (by omega) (hone (by omega)) e3 (by omega) (by omega) (hJ.go _ _) (htk1 (by omega)) (by rw [hN, hNc, jN_big (by omega)]) (fun hz => absurd (hN.trans hNc) hz))
              · refine sj_ldc kd_X10_177 dX10_descend_231 ?_
                refine sj_goto 244 dX10_descend_233 (by decide) ?_
                refine sj_putI fl_X10_172 (by assumption) rfl rfl rfl dX10_descend_244 ?_
                refine sj_goto 301 dX10_descend_247 (by decide) (sj_goto 0 dX10_descend_301 (by decide) (sj_fg1 ?_))
                rw [show (p : Int) + 1 = ((p + 1 : Nat) : Int) by omega]
                rw [if_neg (by omega), if_neg (by omega), if_neg hc, if_neg (by omega), if_neg (by omega), if_pos (by omega)] at hNc
                first
                | (rw [show (2 : Int) * (i : Int) + 1 = ((2 * i + 1 : Nat) : Int) by omega]
                   exact ih N m (p + 1) (2 * i + 1) _ (by omega) (hone (by omega)) e3 (by omega) (by omega) (hJ.go _ _) (htk1 (by omega)) (by rw [hN, hNc]) (fun hz vv => by rw [hV hz vv, hVc vv, if_neg (by omega), if_neg (by omega), if_neg hc, if_neg (by omega), if_neg (by omega), if_pos (by omega)]))
                | (rw [jN_big (L := N) (i := 2 * i + 1) (by omega)] at hNc
                   exact ih N m (p + 1) 1000000001 _ (by omega) (hone (by omega)) e3 (by omega) (by omega) (hJ.go _ _) (htk1 (by omega)) (by rw [hN, hNc, jN_big (by omega)]) (fun hz => absurd (hN.trans hNc) hz))
            · refine sj_lookup 151 dX10_descend_77 (by decide) (by omega) (by rw [← c_77]) (by decide) ?_
              refine sj_ald0 dX10_descend_151 ?_
              refine sj_dup dX10_descend_152 rfl ?_
              refine sj_getI fl_X10_169 (by assumption) rfl dX10_descend_153 ?_
              rw [g3]
              refine sj_iconst dX10_descend_156 ?_
              refine sj_iadd dX10_descend_157 ?_
              refine sj_putI fl_X10_169 (by assumption) rfl rfl rfl dX10_descend_158 ?_
              refine sj_ald0 dX10_descend_161 ?_
              refine sj_dup dX10_descend_162 rfl ?_
              refine sj_getI fl_X10_172 (by assumption) rfl dX10_descend_163 ?_
              rw [sj_up_ne (by omega), g4]
              refine sj_iconst dX10_descend_166 ?_
              refine sj_iadd dX10_descend_167 ?_
              refine sj_putI fl_X10_172 (by assumption) rfl rfl rfl dX10_descend_168 ?_
              refine sj_goto 301 dX10_descend_171 (by decide) (sj_goto 0 dX10_descend_301 (by decide) (sj_fg1 ?_))
              rw [show (p : Int) + 1 = ((p + 1 : Nat) : Int) by omega, show (i : Int) + 1 = ((i + 1 : Nat) : Int) by omega]
              rw [if_neg (by omega), if_neg (by omega), if_neg hc, if_pos (by omega)] at hNc
              exact ih N m (p + 1) (i + 1) _ (by omega) (hone (by omega)) e3 (by omega) (by omega) (hJ.go _ _) (htk1 (by omega)) (by rw [hN, hNc]) (fun hz vv => by rw [hV hz vv, hVc vv, if_neg (by omega), if_neg (by omega), if_neg hc, if_pos (by omega)])
            · refine sj_lookup 250 dX10_descend_77 (by decide) (by omega) (by rw [← c_77]) (by decide) ?_
              refine sj_ald0 dX10_descend_250 ?_
              refine sj_ald0 dX10_descend_251 ?_
              refine sj_getI fl_X10_172 (by assumption) rfl dX10_descend_252 ?_
              rw [g4]
              refine sj_iconst dX10_descend_255 ?_
              refine sj_irem dX10_descend_256 (by omega) (by omega) ?_
              refine sj_if_ne 269 dX10_descend_257 (by decide) (by omega) (fun c_257 => ?_) (fun c_257 => ?_)
              · refine sj_ald0 dX10_descend_269 ?_
                refine sj_getR fl_X10_7 (by assumption) rfl (mr_0 _) dX10_descend_270 ?_
                refine sj_ald0 dX10_descend_273 ?_
                refine sj_getI fl_X10_169 (by assumption) rfl dX10_descend_274 ?_
                rw [g3]
                refine sj_iconst dX10_descend_277 ?_
                refine sj_iadd dX10_descend_278 ?_
                have ha : jAr c = 2 := if_pos (by omega)
                rw [ha] at hN1
                have hN2 : jOk (1 + (m + 1)) N := by rw [show 1 + (m + 1) = m + 2 by omega]; exact hN1
                obtain ⟨a1, a2⟩ := jOk_split N 1 (m + 1) hN2
                have a3 := jTkDr N 1
                have hNl : (jEnc N).length = (jEnc (jTk 1 N)).length + (jEnc (jDr 1 N)).length := by rw [← List.length_append, ← jEnc_app, a3]
                have e3' := e3
                rw [← a3, jEnc_app] at e3'
                obtain ⟨b1, b2⟩ := lst_both e3'
                have hdl := jDr_len N 1
                rw [show (p : Int) + 1 = ((p + 1 : Nat) : Int) by omega]
                refine sj_callS (cm_skip h_w (by omega) a1 (by rw [hw]; exact b1) (by omega)) kc_X10_136 rfl rfl (Nat.le_of_ble_eq_true rfl) dX10_descend_279 (fun r_279 σ_279 I_279 hp_279 => ?_)
                obtain ⟨rfl, rfl, rfl⟩ := hp_279
                refine sj_putI fl_X10_169 (by assumption) rfl rfl rfl dX10_descend_282 ?_
                refine sj_ald0 dX10_descend_285 ?_
                refine sj_ald0 dX10_descend_286 ?_
                refine sj_getI fl_X10_172 (by assumption) rfl dX10_descend_287 ?_
                rw [sj_up_ne (by omega), g4]
                refine sj_iconst dX10_descend_290 ?_
                refine sj_idiv dX10_descend_291 (by omega) (by omega) ?_
                refine sj_putI fl_X10_172 (by assumption) rfl rfl rfl dX10_descend_292 ?_
                refine sj_goto 301 dX10_descend_295 (by decide) (sj_goto 0 dX10_descend_301 (by decide) (sj_fg1 ?_))
                rw [show (i : Int) / 2 = ((i / 2 : Nat) : Int) by omega]
                rw [if_neg (by omega), if_neg (by omega), if_neg hc, if_neg (by omega), if_neg (by omega), if_neg (by omega), if_pos (by omega)] at hNc
                have hVz : ∀ vv, jV M vv (c :: N) i = if i % 2 = 0 then jV M vv N (i / 2) else jV M vv (jDr 1 N) (i / 2) := fun vv => by rw [hVc vv, if_neg (by omega), if_neg (by omega), if_neg hc, if_neg (by omega), if_neg (by omega), if_neg (by omega), if_pos (by omega)]
                first
                | (rw [show (p : Int) + 1 = ((p + 1 : Nat) : Int) by omega]
                   have ha : jAr c = 2 := if_pos (by omega)
                   rw [ha] at hN1
                   exact ih N (m + 1) (p + 1) (i / 2) _ (by omega) hN1 e3 (by omega) (by omega) (hJ.go _ _) (htk2 (by omega)).1 (by rw [hN, hNc, if_pos (by omega)]) (fun hz vv => by rw [hV hz vv, hVz vv, if_pos (by omega)]))
                | exact ih (jDr 1 N) m (p + 1 + (jEnc (jTk 1 N)).length) (i / 2) _ (by omega) a2 b2 (by omega) (by omega) (hJ.go _ _) (htk2 (by omega)).2 (by rw [hN, hNc, if_neg (by omega)]) (fun hz vv => by rw [hV hz vv, hVz vv, if_neg (by omega)])
              · refine sj_ald0 dX10_descend_260 ?_
                refine sj_getI fl_X10_169 (by assumption) rfl dX10_descend_261 ?_
                rw [g3]
                refine sj_iconst dX10_descend_264 ?_
                refine sj_iadd dX10_descend_265 ?_
                refine sj_goto 282 dX10_descend_266 (by decide) ?_
                refine sj_putI fl_X10_169 (by assumption) rfl rfl rfl dX10_descend_282 ?_
                refine sj_ald0 dX10_descend_285 ?_
                refine sj_ald0 dX10_descend_286 ?_
                refine sj_getI fl_X10_172 (by assumption) rfl dX10_descend_287 ?_
                rw [sj_up_ne (by omega), g4]
                refine sj_iconst dX10_descend_290 ?_
                refine sj_idiv dX10_descend_291 (by omega) (by omega) ?_
                refine sj_putI fl_X10_172 (by assumption) rfl rfl rfl dX10_descend_292 ?_
                refine sj_goto 301 dX10_descend_295 (by decide) (sj_goto 0 dX10_descend_301 (by decide) (sj_fg1 ?_))
                rw [show (i : Int) / 2 = ((i / 2 : Nat) : Int) by omega]
                rw [if_neg (by omega), if_neg (by omega), if_neg hc, if_neg (by omega), if_neg (by omega), if_neg (by omega), if_pos (by omega)] at hNc
                have hVz : ∀ vv, jV M vv (c :: N) i = if i % 2 = 0 then jV M vv N (i / 2) else jV M vv (jDr 1 N) (i / 2) := fun vv => by rw [hVc vv, if_neg (by omega), if_neg (by omega), if_neg hc, if_neg (by omega), if_neg (by omega), if_neg (by omega), if_pos (by omega)]
                first
                | (rw [show (p : Int) + 1 = ((p + 1 : Nat) : Int) by omega]
                   have ha : jAr c = 2 := if_pos (by omega)
                   rw [ha] at hN1
                   exact ih N (m + 1) (p + 1) (i / 2) _ (by omega) hN1 e3 (by omega) (by omega) (hJ.go _ _) (htk2 (by omega)).1 (by rw [hN, hNc, if_pos (by omega)]) (fun hz vv => by rw [hV hz vv, hVz vv, if_pos (by omega)]))
                | exact ih (jDr 1 N) m (p + 1 + (jEnc (jTk 1 N)).length) (i / 2) _ (by omega) a2 b2 (by omega) (by omega) (hJ.go _ _) (htk2 (by omega)).2 (by rw [hN, hNc, if_neg (by omega)]) (fun hz vv => by rw [hV hz vv, hVz vv, if_neg (by omega)])
            · refine sj_lookup (off := 221) 298 dX10_descend_77 (by decide) (by omega) (by simp [Op.lookupswitch.offset_cons, Op.lookupswitch.offset_nil, c_77]) (by decide) ?_
              refine sj_bipush dX10_descend_298 (by decide) ?_
              exact sj_iret dX10_descend_300 rfl rfl (Nat.le_of_ble_eq_true rfl) (Nat.le_of_ble_eq_true rfl) ⟨rfl, hst (by omega)⟩
          · refine sj_ild1 dX10_descend_29 ?_
            refine sj_bipush dX10_descend_30 (by decide) ?_
            refine sj_isub dX10_descend_32 ?_
            refine sj_ald0 dX10_descend_33 ?_
            refine sj_getR fl_X10_7 (by assumption) rfl (mr_0 _) dX10_descend_34 ?_
            refine sj_iconst dX10_descend_37 ?_
            refine sj_ialdJ (0) (by assumption) (by omega) (by omega) (by omega) dX10_descend_38 ?_
            rw [hw, hM]
            have hz : jN L0 i0 = some [] := by rw [hN, hNc, if_neg (by omega), if_pos (by omega)]
            refine sj_irem dX10_descend_39 (by omega) (by omega) ?_
            exact sj_iret dX10_descend_40 rfl rfl (Nat.le_of_ble_eq_true rfl) (Nat.le_of_ble_eq_true rfl) ⟨rfl, p, i, hJ, by omega, Or.inl ⟨(c - 48) % M, rfl, ⟨Int.emod_nonneg _ (by omega), Int.emod_lt_of_pos _ (by omega)⟩, hz, fun vv => by rw [hV (by rw [hz]; exact fun q => by cases q) vv, hVd vv (by omega)]⟩⟩
  exact lp L0.length L0 m0 p0 i0 J0 (Nat.le_refl _) hok0 hL0 hb0 hi0 hJ0 (Nat.le_refl _) rfl (fun _ _ => rfl)
end MODEL15
