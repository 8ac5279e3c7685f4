theorem mW_of {f g : Nat → Int} (h : ∀ k, k < 2001 → f k = g k) (hW : mW g) : mW f := by
  intro a ha
  obtain ⟨w1, w2⟩ := hW a ha
  rw [h _ (by omega)]
  refine ⟨w1, fun j hj => ?_⟩
  rw [h _ (by omega)]
  exact w2 j hj
theorem mEq_of {f g : Nat → Int} {E : Nat → Option (List Int)} (h : ∀ k, k < 2001 → f k = g k) (hW : mW g) (hE : mEq g E) : mEq f E := by
  refine ⟨hE.1, fun a ha => ?_⟩
  have hl := (hW a ha).1
  rcases hE.2 a ha with ⟨e1, e2⟩ | ⟨T, e1, e2, e3, e4⟩
  · exact Or.inl ⟨e1, by rw [h _ (by omega)]; exact e2⟩
  · refine Or.inr ⟨T, e1, by rw [h _ (by omega)]; exact e2, ?_, e4⟩
    rw [← e3]
    unfold mB
    rw [h (1 + 250 * a) (by omega)]
    exact lst_congr (fun j hj => h _ (by omega))
theorem jV_rng (M : Int) (hM : 2 ≤ M) (v : Nat → Int) : ∀ (n : Nat) (L : List Int) (i : Nat) (l : List Nat), L.length ≤ n → jN L i = some l → (∀ q ∈ l, 0 ≤ v q ∧ v q < M) → 0 ≤ jV M v L i ∧ jV M v L i < M
  | n, [], i, l, _, h, _ => by cases h
  | 0, c :: L, i, l, hn, h, _ => absurd hn (by simp)
  | n + 1, c :: L, i, l, hn, h, hq => by
    have hl : L.length ≤ n := by simpa using hn
    have hd := jDr_len L 1
    have em : ∀ x : Int, 0 ≤ x % M ∧ x % M < M := fun x => ⟨Int.emod_nonneg x (by omega), Int.emod_lt_of_pos x (by omega)⟩
    rw [jN_cons] at h
    rw [jV_cons]
    have ih := fun j l' h1 h2 => jV_rng M hM v n L j l' hl h1 h2
    have ih2 := fun j l' h1 h2 => jV_rng M hM v n (jDr 1 L) j l' (by omega) h1 h2
    split at h
    · cases h
    · split at h
      · rename_i hc
        rw [if_pos hc]
        split at h
        · cases h
          exact hq _ (List.mem_singleton.mpr rfl)
        · cases h
      · rename_i hc
        rw [if_neg hc]
        split at h
        · rename_i hc; rw [if_pos hc]; exact em _
        · rename_i hc
          rw [if_neg hc]
          split at h
          · rename_i hc
            rw [if_pos hc]
            split at h
            · rename_i h0; rw [if_pos h0]; exact em _
            · rename_i h0; rw [if_neg h0]; exact ih _ _ h hq
          · rename_i hc
            rw [if_neg hc]
            split at h
            · rename_i hc; rw [if_pos hc]; exact ih _ _ h hq
            · rename_i hc
              rw [if_neg hc]
              split at h
              · rename_i hc; rw [if_pos hc]; exact ih _ _ h hq
              · rename_i hc
                rw [if_neg hc]
                split at h
                · rename_i hc; rw [if_pos hc]; exact ih _ _ h hq
                · rename_i hc
                  rw [if_neg hc]
                  split at h
                  · rename_i hc
                    rw [if_pos hc]
                    split at h
                    · rename_i h0; rw [if_pos h0]; exact ih _ _ h hq
                    · rename_i h0; rw [if_neg h0]; exact ih2 _ _ h hq
                  · rename_i hc
                    rw [if_neg hc]
                    split
                    · exact em _
                    · exact em _
theorem jEv_val {M : Int} {v : Nat → Int} {L : List Int} {i : Nat} {nd : List Nat} {x : Int} (h : jEv M v L i = some (nd, x)) : x = jV M v L i := by
  unfold jEv at h
  split at h
  · cases h
  · split at h
    · cases h; rfl
    · cases h
theorem jStg_rng {M : Int} (hM : 2 ≤ M) {E : Nat → Option (List Int)} : ∀ (n k : Nat) (z : Int × Int), jStg M E n k = some z → 0 ≤ z.1 ∧ z.1 < M
  | 0, k, z, h => by cases h
  | n + 1, k, z, h => by
    obtain ⟨T, nd, x, e1, e2, rfl⟩ := jStg_some h
    have e3 := (jEv_more (w := fun q => ((jStg M E n q).map Prod.fst).getD (-9)) e2 (fun _ _ _ => rfl)).2
    show 0 ≤ x ∧ x < M
    rw [jEv_val e2]
    refine jV_rng M hM _ T.length T _ nd (Nat.le_refl _) (jEv_nd e2) (fun q hq => ?_)
    obtain ⟨u, hu⟩ := jStg_v (e3 q hq).1
    show 0 ≤ ((jStg M E n q).map Prod.fst).getD (-9) ∧ ((jStg M E n q).map Prod.fst).getD (-9) < M
    rw [hu]
    exact jStg_rng hM n q u hu
/-- the value of a cell -/
noncomputable def jVal (M : Int) (E : Nat → Option (List Int)) (k : Nat) : Int := by
  exact @dite Int (∃ z n, jStg M E n k = some z) (Classical.propDecidable _) (fun h => (Classical.choose h).1) (fun _ => -9)
theorem jVal_some {M : Int} {E : Nat → Option (List Int)} {n k : Nat} {z : Int × Int} (h : jStg M E n k = some z) : jVal M E k = z.1 := by
  unfold jVal
  have h2 : ∃ z n, jStg M E n k = some z := ⟨z, n, h⟩
  rw [dif_pos h2]
  obtain ⟨m, hm⟩ := Classical.choose_spec h2
  rw [jStg_uniq hm h]
theorem jVal_none {M : Int} {E : Nat → Option (List Int)} {k : Nat} (h : ¬ ∃ z n, jStg M E n k = some z) : jVal M E k = -9 := by
  unfold jVal
  rw [dif_neg h]
theorem mLd.val {o : Nat} {M : Int} {E : Nat → Option (List Int)} {J : sjI} (h : mLd o M E J) (hM : 2 ≤ M) {k : Nat} (hk : k < 3200) : J (o + 8) k = jVal M E k := by
  by_cases e : J (o + 8) k = -9
  · rw [e, jVal_none]
    rintro ⟨z, n, hz⟩
    have := (h.2.2.2 n k z hk hz).1
    have h1 := h.1 k hk
    have h3 := jStg_rng hM n k z hz
    omega
  · obtain ⟨n, hn⟩ := h.2.2.1 k hk e
    rw [jVal_some hn]
/-- the first place at which two rows differ -/
def jDf (v w : Nat → Int) (s : Nat) : Nat → Nat → Int
  | 0, _ => -9
  | d + 1, i => if v (s + i) = w (s + i) then jDf v w s d (i + 1) else i
def mC1 (o q k : Nat) (I J : sjI) : Prop := (∀ b, b ≠ o + 1 → b ≠ o + 20 → J b = I b) ∧ (∀ j, j < k → J (o + 20) j = I (o + 1) j ∧ J (o + 1) j = I (o + 3) (2001 * q + j)) ∧ ∀ j, k ≤ j → J (o + 1) j = I (o + 1) j
theorem mC1.step {o q k : Nat} {I J : sjI} (h : mC1 o q k I J) : mC1 o q (k + 1) I (sj_up (sj_up J (o + 20) k (J (o + 1) k)) (o + 1) k (I (o + 3) (2001 * q + k))) := by
  refine ⟨fun b e1 e2 => ?_, fun j hj => ?_, fun j hj => ?_⟩
  · rw [sj_up_row e1, sj_up_row e2]; exact h.1 b e1 e2
  · by_cases e : j = k
    · subst e
      refine ⟨?_, ?_⟩
      · rw [sj_up_ne (by omega), sj_up_self]; exact h.2.2 j (Nat.le_refl _)
      · rw [sj_up_self]
    · have := h.2.1 j (by omega)
      refine ⟨?_, ?_⟩
      · rw [sj_up_ne (by omega), sj_up_ne (by omega)]; exact this.1
      · rw [sj_up_ne (by omega), sj_up_ne (by omega)]; exact this.2
  · rw [sj_up_ne (by omega), sj_up_ne (by omega)]; exact h.2.2 j (by omega)
/-- what changed leaves -/
def mCd (o : Nat) (I J : sjI) : Prop := (∀ b, b = o + 2 ∨ b = o + 3 ∨ b = o + 4 ∨ b < o ∨ o + 21 < b → J b = I b) ∧ (∀ j, j = 2 ∨ j = 4 ∨ j = 6 → J o j = I o j) ∧ ∀ k, k < 2001 → J (o + 1) k = I (o + 1) k
section MODEL30
variable {l : Launch} {G : sjG} {σ : sjS} {I : sjI}
theorem cm_changed {o F : Nat} {M M2 a i : Int} {E E2 : Nat → Option (List Int)} (hS : mSh σ o) (hW : mW (I (o + 1))) (hE : mEq (I (o + 1)) E) (hM : I (o + 1) 0 = M) (hM2 : 2 ≤ M ∧ M ≤ 10) (hF : I o 4 = F) (hF4 : F < 4) (ha : -2147483648 ≤ a ∧ a < 2147483648) (hi : -2147483648 ≤ i ∧ i < 2147483648) (hG : (0 ≤ i ∧ i ≤ 1) → F / 2 ^ i.toNat % 2 = 1 → mW (fun k => I (o + 3) (2001 * i.toNat + k)) ∧ mEq (fun k => I (o + 3) (2001 * i.toNat + k)) E2 ∧ I (o + 3) (2001 * i.toNat) = M2 ∧ (2 ≤ M2 ∧ M2 ≤ 10)) : sj_Con l yX10_changed mX10_changed G σ I [.ref o, .int (zI a), .int (zI i)] (fun r σ' I' => σ = σ' ∧ ((¬ ((0 ≤ a ∧ a ≤ 7) ∧ (0 ≤ i ∧ i ≤ 1)) ∧ r = some (.int (zI (-1))) ∧ I = I') ∨ (((0 ≤ a ∧ a ≤ 7) ∧ (0 ≤ i ∧ i ≤ 1)) ∧ ¬ F / 2 ^ i.toNat % 2 = 1 ∧ r = some (.int (zI (-2))) ∧ I = I') ∨ (((0 ≤ a ∧ a ≤ 7) ∧ (0 ≤ i ∧ i ≤ 1)) ∧ F / 2 ^ i.toNat % 2 = 1 ∧ r = some (.int (zI (jDf (jVal M E) (jVal M2 E2) (400 * a.toNat) 400 0))) ∧ mCd o I I' ∧ I' o 15 = 1 ∧ mLd o M E I'))) := by
  obtain ⟨h_o, h_w, h_past, h_images, h_text, h_read, h_made, h_old, h_values, h_ranks, h_operator, h_indexAt, h_second, h_first, h_needed, h_shifts, h_around, h_best, h_isNeeded, h_toSee, h_held, h_there⟩ := id hS
  refine sj_con_of (L0 := [some (.ref o), some (.int (zI a)), some (.int (zI i)), none]) (by decide) rfl rfl rfl (Nat.le_of_ble_eq_true rfl) rfl (fun Γ => ?_)
  have b1 := jbs (0 ≤ a ∧ a ≤ 7)
  have b2 := jbs (0 ≤ i ∧ i ≤ 1)
  have lp4 : ∀ (aa q : Nat), a = aa → i = q → aa < 8 → q < 2 → F / 2 ^ q % 2 = 1 → ∀ K : sjI, mCd o I K → K o 15 = 1 → mLd o M E K → (∀ j, j < 400 → K (o + 21) j = jVal M2 E2 (400 * aa + j) ∧ -9 ≤ K (o + 21) j ∧ K (o + 21) j < 10) → ∀ (d k : Nat), k + d = 400 → jDf (jVal M E) (jVal M2 E2) (400 * aa) d k = jDf (jVal M E) (jVal M2 E2) (400 * aa) 400 0 → sj_V l Γ mX10_changed G (fun r σ' I' => σ = σ' ∧ ((¬ ((0 ≤ a ∧ a ≤ 7) ∧ (0 ≤ i ∧ i ≤ 1)) ∧ r = some (.int (zI (-1))) ∧ I = I') ∨ (((0 ≤ a ∧ a ≤ 7) ∧ (0 ≤ i ∧ i ≤ 1)) ∧ ¬ F / 2 ^ i.toNat % 2 = 1 ∧ r = some (.int (zI (-2))) ∧ I = I') ∨ (((0 ≤ a ∧ a ≤ 7) ∧ (0 ≤ i ∧ i ≤ 1)) ∧ F / 2 ^ i.toNat % 2 = 1 ∧ r = some (.int (zI (jDf (jVal M E) (jVal M2 E2) (400 * a.toNat) 400 0))) ∧ mCd o I I' ∧ I' o 15 = 1 ∧ mLd o M E I'))) σ K 0 0 146 [some (.ref o), some (.int (zI aa)), some (.int (zI q)), some (.int (zI k))] [] := by
    intro aa q ea eq haa hq hbit K hK h15 hL hT d
    subst ea eq
    induction d with
    | zero =>
      intro k hk hj
      have hj2 : (-9 : Int) = jDf (jVal M E) (jVal M2 E2) (400 * aa) 400 0 := hj
      refine sj_ild3 dX10_changed_146 ?_
      refine sj_sipush dX10_changed_147 (by decide) ?_
      refine sj_icmp_ge 176 dX10_changed_150 (by decide) (by omega) (by omega) (fun c_150 => ?_) (fun c_150 => ?_)
      rotate_left
      · exact absurd (by omega) c_150
      refine sj_bipush dX10_changed_176 (by decide) ?_
      exact sj_iret dX10_changed_178 rfl rfl (Nat.le_of_ble_eq_true rfl) (Nat.le_of_ble_eq_true rfl) ⟨rfl, Or.inr (Or.inr ⟨by omega, hbit, by rw [hj2]; rfl, hK, h15, hL⟩)⟩
    | succ d ih =>
      intro k hk hj
      have hT1 := hT k (by omega)
      have hv := hL.1 (400 * aa + k) (by omega)
      have hv2 := hL.val hM2.1 (k := 400 * aa + k) (by omega)
      have hj2 : (if jVal M E (400 * aa + k) = jVal M2 E2 (400 * aa + k) then jDf (jVal M E) (jVal M2 E2) (400 * aa) d (k + 1) else (k : Int)) = jDf (jVal M E) (jVal M2 E2) (400 * aa) 400 0 := hj
      refine sj_ild3 dX10_changed_146 ?_
      refine sj_sipush dX10_changed_147 (by decide) ?_
      refine sj_icmp_ge 176 dX10_changed_150 (by decide) (by omega) (by omega) (fun c_150 => ?_) (fun c_150 => ?_)
      · exact absurd c_150 (by omega)
      refine sj_ald0 dX10_changed_153 ?_
      refine sj_ild1 dX10_changed_154 ?_
      refine sj_ild3 dX10_changed_155 ?_
      refine sj_callV (cm_at hS haa (by omega)) kc_X10_190 (by assumption) rfl rfl rfl rfl (Nat.le_of_ble_eq_true rfl) dX10_changed_156 (fun r_156 σ_156 I_156 hp_156 => ?_)
      obtain ⟨rfl, rfl, rfl⟩ := hp_156
      refine sj_ald0 dX10_changed_159 ?_
      refine sj_getR fl_X10_71 (by assumption) rfl (mr_30 _) dX10_changed_160 ?_
      refine sj_ild3 dX10_changed_163 ?_
      refine sj_ialdJ (k) (by assumption) (by omega) (by omega) (by omega) dX10_changed_164 ?_
      refine sj_icmp_eq 170 dX10_changed_165 (by decide) (by omega) (by omega) (fun c_165 => ?_) (fun c_165 => ?_)
      · refine sj_inc3 (by decide) rfl dX10_changed_170 ?_
        refine sj_goto 146 dX10_changed_173 (by decide) ?_
        exact ih (k + 1) (by omega) (by rw [← hj2, if_pos (by omega)])
      · refine sj_ild3 dX10_changed_168 ?_
        exact sj_iret dX10_changed_169 rfl rfl (Nat.le_of_ble_eq_true rfl) (Nat.le_of_ble_eq_true rfl) ⟨rfl, Or.inr (Or.inr ⟨by omega, hbit, by rw [show (jDf (jVal M E) (jVal M2 E2) (400 * (aa : Int).toNat) 400 0) = (k : Int) from by rw [show (aa : Int).toNat = aa from rfl, ← hj2, if_neg (by omega)]], hK, h15, hL⟩)⟩
  have lp3 : ∀ (aa q : Nat), a = aa → i = q → aa < 8 → q < 2 → F / 2 ^ q % 2 = 1 → ∀ K : sjI, (∀ b, b = o + 2 ∨ b = o + 3 ∨ b = o + 4 ∨ b < o ∨ o + 21 < b → K b = I b) → (∀ j, j = 2 ∨ j = 4 ∨ j = 6 → K o j = I o j) → (∀ j, j < 2001 → K (o + 20) j = I (o + 1) j) → (∀ j, j < 400 → K (o + 21) j = jVal M2 E2 (400 * aa + j) ∧ -9 ≤ K (o + 21) j ∧ K (o + 21) j < 10) → ∀ (d k : Nat), k + d = 2001 → sj_V l Γ mX10_changed G (fun r σ' I' => σ = σ' ∧ ((¬ ((0 ≤ a ∧ a ≤ 7) ∧ (0 ≤ i ∧ i ≤ 1)) ∧ r = some (.int (zI (-1))) ∧ I = I') ∨ (((0 ≤ a ∧ a ≤ 7) ∧ (0 ≤ i ∧ i ≤ 1)) ∧ ¬ F / 2 ^ i.toNat % 2 = 1 ∧ r = some (.int (zI (-2))) ∧ I = I') ∨ (((0 ≤ a ∧ a ≤ 7) ∧ (0 ≤ i ∧ i ≤ 1)) ∧ F / 2 ^ i.toNat % 2 = 1 ∧ r = some (.int (zI (jDf (jVal M E) (jVal M2 E2) (400 * a.toNat) 400 0))) ∧ mCd o I I' ∧ I' o 15 = 1 ∧ mLd o M E I'))) σ (sj_ur K (o + 1) (va_cpy (K (o + 20)) (K (o + 1)) 0 0 k)) 0 0 110 [some (.ref o), some (.int (zI aa)), some (.int (zI q)), some (.int (zI k))] [] := by
    intro aa q ea eq haa hq hbit K k1 k2 k3 hT d
    subst ea eq
    induction d with
    | zero =>
      intro k hk
      have hk1 : k = 2001 := by omega
      subst hk1
      have hrow : ∀ k, k < 2001 → va_cpy (K (o + 20)) (K (o + 1)) 0 0 2001 k = I (o + 1) k := by
        intro k hk
        have e := cpy_in (f := K (o + 20)) (g := K (o + 1)) (sp := 0) (dp := 0) hk
        rw [Nat.zero_add] at e
        rw [e, k3 k hk]
      refine sj_ild3 dX10_changed_110 ?_
      refine sj_sipush dX10_changed_111 (by decide) ?_
      refine sj_icmp_ge 135 dX10_changed_114 (by decide) (by omega) (by omega) (fun c_114 => ?_) (fun c_114 => ?_)
      rotate_left
      · exact absurd (by omega) c_114
      refine sj_ald0 dX10_changed_135 ?_
      refine sj_iconst dX10_changed_136 ?_
      refine sj_putI fl_X10_86 (by assumption) rfl (by decide) rfl dX10_changed_137 ?_
      refine sj_ald0 dX10_changed_140 ?_
      refine sj_callV (cm_layValues (M := M) (E := E) hS (by rw [sj_up_row (by omega), sj_ur_self]; exact mW_of hrow hW) (by rw [sj_up_row (by omega), sj_ur_self]; exact mEq_of hrow hW hE) (by rw [sj_up_row (by omega), sj_ur_self, hrow 0 (by omega)]; exact hM) hM2 (Or.inl (by rw [sj_up_self]))) kc_X10_193 (by assumption) rfl rfl rfl rfl (Nat.le_of_ble_eq_true rfl) dX10_changed_141 (fun r_141 σ_141 I_141 hp_141 => ?_)
      obtain ⟨rfl, rfl, j1, j2, j3⟩ := hp_141
      have q1 : ∀ b, b ≠ o → ¬ (o + 8 ≤ b ∧ b ≤ o + 14) → b ≠ o + 1 → I_141 b = K b := fun b e1 e2 e3 => by rw [j1.1 b e1 e2, sj_up_row e1, sj_ur_ne e3]
      refine sj_iconst dX10_changed_144 ?_
      refine sj_ist3 (by decide) rfl dX10_changed_145 ?_
      exact lp4 aa q rfl rfl haa hq hbit I_141 ⟨fun b hb => by rw [q1 b (by omega) (by omega) (by omega)]; exact k1 b hb, fun j hj => by rw [j1.2 j (by omega) (by omega) (by omega) (by omega), sj_up_ne (by omega), sj_ur_ne (by omega)]; exact k2 j hj, fun k hk => by rw [j1.1 (o + 1) (by omega) (by omega), sj_up_row (by omega), sj_ur_self]; exact hrow k hk⟩ j2 j3 (fun j hj => by rw [q1 (o + 21) (by omega) (by omega) (by omega)]; exact hT j hj) 400 0 (by omega) rfl
    | succ d ih =>
      intro k hk
      refine sj_ild3 dX10_changed_110 ?_
      refine sj_sipush dX10_changed_111 (by decide) ?_
      refine sj_icmp_ge 135 dX10_changed_114 (by decide) (by omega) (by omega) (fun c_114 => ?_) (fun c_114 => ?_)
      · exact absurd c_114 (by omega)
      refine sj_ald0 dX10_changed_117 ?_
      refine sj_getR fl_X10_7 (by assumption) rfl (mr_0 _) dX10_changed_118 ?_
      refine sj_ild3 dX10_changed_121 ?_
      refine sj_ald0 dX10_changed_122 ?_
      refine sj_getR fl_X10_68 (by assumption) rfl (mr_29 _) dX10_changed_123 ?_
      refine sj_ild3 dX10_changed_126 ?_
      refine sj_ialdJ (0 + k) (by assumption) (by omega) (by omega) (by omega) dX10_changed_127 ?_
      rw [sj_ur_ne (by omega)]
      refine sj_iastJ (0 + k) (by assumption) (by omega) (by omega) (by omega) dX10_changed_128 ?_
      rw [cpy_step]
      refine sj_inc3 (by decide) rfl dX10_changed_129 ?_
      refine sj_goto 110 dX10_changed_132 (by decide) ?_
      exact ih (k + 1) (by omega)
  have lp2 : ∀ (aa q : Nat), a = aa → i = q → aa < 8 → q < 2 → F / 2 ^ q % 2 = 1 → ∀ K : sjI, (∀ b, b = o + 2 ∨ b = o + 3 ∨ b = o + 4 ∨ b < o ∨ o + 21 < b → K b = I b) → (∀ j, j = 2 ∨ j = 4 ∨ j = 6 → K o j = I o j) → (∀ j, j < 2001 → K (o + 20) j = I (o + 1) j) → (∀ j, j < 3200 → K (o + 8) j = jVal M2 E2 j ∧ -9 ≤ K (o + 8) j ∧ K (o + 8) j < 10) → ∀ (d k : Nat), k + d = 400 → sj_V l Γ mX10_changed G (fun r σ' I' => σ = σ' ∧ ((¬ ((0 ≤ a ∧ a ≤ 7) ∧ (0 ≤ i ∧ i ≤ 1)) ∧ r = some (.int (zI (-1))) ∧ I = I') ∨ (((0 ≤ a ∧ a ≤ 7) ∧ (0 ≤ i ∧ i ≤ 1)) ∧ ¬ F / 2 ^ i.toNat % 2 = 1 ∧ r = some (.int (zI (-2))) ∧ I = I') ∨ (((0 ≤ a ∧ a ≤ 7) ∧ (0 ≤ i ∧ i ≤ 1)) ∧ F / 2 ^ i.toNat % 2 = 1 ∧ r = some (.int (zI (jDf (jVal M E) (jVal M2 E2) (400 * a.toNat) 400 0))) ∧ mCd o I I' ∧ I' o 15 = 1 ∧ mLd o M E I'))) σ (sj_ur K (o + 21) (va_cpy (K (o + 8)) (K (o + 21)) (400 * aa) 0 k)) 0 0 83 [some (.ref o), some (.int (zI aa)), some (.int (zI q)), some (.int (zI k))] [] := by
    intro aa q ea eq haa hq hbit K k1 k2 k3 hT d
    subst ea eq
    induction d with
    | zero =>
      intro k hk
      have hk1 : k = 400 := by omega
      subst hk1
      refine sj_ild3 dX10_changed_83 ?_
      refine sj_sipush dX10_changed_84 (by decide) ?_
      refine sj_icmp_ge 108 dX10_changed_87 (by decide) (by omega) (by omega) (fun c_87 => ?_) (fun c_87 => ?_)
      rotate_left
      · exact absurd (by omega) c_87
      refine sj_iconst dX10_changed_108 ?_
      refine sj_ist3 (by decide) rfl dX10_changed_109 ?_
      have h := lp3 aa q rfl rfl haa hq hbit (sj_ur K (o + 21) (va_cpy (K (o + 8)) (K (o + 21)) (400 * aa) 0 400)) (fun b hb => by rw [sj_ur_ne (by omega)]; exact k1 b hb) (fun j hj => by rw [sj_ur_ne (by omega)]; exact k2 j hj) (fun j hj => by rw [sj_ur_ne (by omega)]; exact k3 j hj) (fun j hj => by
        have e := cpy_in (f := K (o + 8)) (g := K (o + 21)) (sp := 400 * aa) (dp := 0) hj
        rw [Nat.zero_add] at e
        rw [sj_ur_self, e]
        exact hT _ (by omega)) 2001 0 (by omega)
      rw [cpy_zero] at h
      exact h
    | succ d ih =>
      intro k hk
      refine sj_ild3 dX10_changed_83 ?_
      refine sj_sipush dX10_changed_84 (by decide) ?_
      refine sj_icmp_ge 108 dX10_changed_87 (by decide) (by omega) (by omega) (fun c_87 => ?_) (fun c_87 => ?_)
      · exact absurd c_87 (by omega)
      refine sj_ald0 dX10_changed_90 ?_
      refine sj_getR fl_X10_71 (by assumption) rfl (mr_30 _) dX10_changed_91 ?_
      refine sj_ild3 dX10_changed_94 ?_
      refine sj_ald0 dX10_changed_95 ?_
      refine sj_ild1 dX10_changed_96 ?_
      refine sj_ild3 dX10_changed_97 ?_
      refine sj_callV (cm_at hS haa (by omega)) kc_X10_190 (by assumption) rfl rfl rfl rfl (Nat.le_of_ble_eq_true rfl) dX10_changed_98 (fun r_98 σ_98 I_98 hp_98 => ?_)
      obtain ⟨rfl, rfl, rfl⟩ := hp_98
      rw [sj_ur_ne (by omega)]
      refine sj_iastJ (0 + k) (by assumption) (by omega) (by omega) (by omega) dX10_changed_101 ?_
      rw [cpy_step]
      refine sj_inc3 (by decide) rfl dX10_changed_102 ?_
      refine sj_goto 83 dX10_changed_105 (by decide) ?_
      exact ih (k + 1) (by omega)
  have lp1 : ∀ (aa q : Nat), a = aa → i = q → aa < 8 → q < 2 → F / 2 ^ q % 2 = 1 → ∀ (d k : Nat) (J : sjI), k + d = 2001 → mC1 o q k I J → sj_V l Γ mX10_changed G (fun r σ' I' => σ = σ' ∧ ((¬ ((0 ≤ a ∧ a ≤ 7) ∧ (0 ≤ i ∧ i ≤ 1)) ∧ r = some (.int (zI (-1))) ∧ I = I') ∨ (((0 ≤ a ∧ a ≤ 7) ∧ (0 ≤ i ∧ i ≤ 1)) ∧ ¬ F / 2 ^ i.toNat % 2 = 1 ∧ r = some (.int (zI (-2))) ∧ I = I') ∨ (((0 ≤ a ∧ a ≤ 7) ∧ (0 ≤ i ∧ i ≤ 1)) ∧ F / 2 ^ i.toNat % 2 = 1 ∧ r = some (.int (zI (jDf (jVal M E) (jVal M2 E2) (400 * a.toNat) 400 0))) ∧ mCd o I I' ∧ I' o 15 = 1 ∧ mLd o M E I'))) σ J 0 0 29 [some (.ref o), some (.int (zI aa)), some (.int (zI q)), some (.int (zI k))] [] := by
    intro aa q ea eq haa hq hbit d
    subst ea eq
    induction d with
    | zero =>
      intro k J hk hJ
      have hk1 : k = 2001 := by omega
      subst hk1
      obtain ⟨g1, g2, g3, g4⟩ := hG (by omega) hbit
      have hrow : ∀ k, k < 2001 → J (o + 1) k = (fun k => I (o + 3) (2001 * q + k)) k := fun k hk => (hJ.2.1 k hk).2
      refine sj_ild3 dX10_changed_29 ?_
      refine sj_sipush dX10_changed_30 (by decide) ?_
      refine sj_icmp_ge 72 dX10_changed_33 (by decide) (by omega) (by omega) (fun c_33 => ?_) (fun c_33 => ?_)
      rotate_left
      · exact absurd (by omega) c_33
      refine sj_ald0 dX10_changed_72 ?_
      refine sj_iconst dX10_changed_73 ?_
      refine sj_putI fl_X10_86 (by assumption) rfl (by decide) rfl dX10_changed_74 ?_
      refine sj_ald0 dX10_changed_77 ?_
      refine sj_callV (cm_layValues (M := M2) (E := E2) hS (by rw [sj_up_row (by omega)]; exact mW_of hrow g1) (by rw [sj_up_row (by omega)]; exact mEq_of hrow g1 g2) (by rw [sj_up_row (by omega), hrow 0 (by omega)]; exact g3) g4 (Or.inl (by rw [sj_up_self]))) kc_X10_193 (by assumption) rfl rfl rfl rfl (Nat.le_of_ble_eq_true rfl) dX10_changed_78 (fun r_78 σ_78 I_78 hp_78 => ?_)
      obtain ⟨rfl, rfl, j1, j2, j3⟩ := hp_78
      have q1 : ∀ b, b ≠ o → ¬ (o + 8 ≤ b ∧ b ≤ o + 14) → I_78 b = J b := fun b e1 e2 => by rw [j1.1 b e1 e2, sj_up_row e1]
      refine sj_iconst dX10_changed_81 ?_
      refine sj_ist3 (by decide) rfl dX10_changed_82 ?_
      have h := lp2 aa q rfl rfl haa hq hbit I_78 (fun b hb => by rw [q1 b (by omega) (by omega)]; exact hJ.1 b (by omega) (by omega)) (fun j hj => by rw [j1.2 j (by omega) (by omega) (by omega) (by omega), sj_up_ne (by omega)]; exact congrFun (hJ.1 o (by omega) (by omega)) j) (fun j hj => by rw [q1 (o + 20) (by omega) (by omega)]; exact (hJ.2.1 j hj).1) (fun j hj => ⟨j3.val g4.1 hj, by have := j3.1 j hj; omega⟩) 400 0 (by omega)
      rw [cpy_zero] at h
      exact h
    | succ d ih =>
      intro k J hk hJ
      refine sj_ild3 dX10_changed_29 ?_
      refine sj_sipush dX10_changed_30 (by decide) ?_
      refine sj_icmp_ge 72 dX10_changed_33 (by decide) (by omega) (by omega) (fun c_33 => ?_) (fun c_33 => ?_)
      · exact absurd c_33 (by omega)
      refine sj_ald0 dX10_changed_36 ?_
      refine sj_getR fl_X10_68 (by assumption) rfl (mr_29 _) dX10_changed_37 ?_
      refine sj_ild3 dX10_changed_40 ?_
      refine sj_ald0 dX10_changed_41 ?_
      refine sj_getR fl_X10_7 (by assumption) rfl (mr_0 _) dX10_changed_42 ?_
      refine sj_ild3 dX10_changed_45 ?_
      refine sj_ialdJ (k) (by assumption) (by omega) (by omega) (by omega) dX10_changed_46 ?_
      refine sj_iastJ (k) (by assumption) (by omega) (by omega) (by omega) dX10_changed_47 ?_
      refine sj_ald0 dX10_changed_48 ?_
      refine sj_getR fl_X10_7 (by assumption) rfl (mr_0 _) dX10_changed_49 ?_
      refine sj_ild3 dX10_changed_52 ?_
      refine sj_ald0 dX10_changed_53 ?_
      refine sj_getR fl_X10_16 (by assumption) rfl (mr_3 _) dX10_changed_54 ?_
      refine sj_sipush dX10_changed_57 (by decide) ?_
      refine sj_ild2 dX10_changed_60 ?_
      refine sj_imul dX10_changed_61 ?_
      refine sj_ild3 dX10_changed_62 ?_
      refine sj_iadd dX10_changed_63 ?_
      refine sj_ialdJ (2001 * q + k) (by assumption) (by omega) (by omega) (by omega) dX10_changed_64 ?_
      rw [sj_up_row (by omega), hJ.1 (o + 3) (by omega) (by omega)]
      refine sj_iastJ (k) (by assumption) (by omega) (by omega) (by omega) dX10_changed_65 ?_
      refine sj_inc3 (by decide) rfl dX10_changed_66 ?_
      refine sj_goto 29 dX10_changed_69 (by decide) ?_
      exact ih (k + 1) _ (by omega) hJ.step
  refine sj_ild1 dX10_changed_0 ?_
  refine sj_callS (cm_isStream ha) kc_X10_109 rfl rfl (Nat.le_of_ble_eq_true rfl) dX10_changed_1 (fun r_1 σ_1 I_1 hp_1 => ?_)
  obtain ⟨rfl, rfl, rfl⟩ := hp_1
  refine sj_if_eq 14 dX10_changed_4 (by decide) (by omega) (fun c_4 => ?_) (fun c_4 => ?_)
  · refine sj_iconst dX10_changed_14 ?_
    exact sj_iret dX10_changed_15 rfl rfl (Nat.le_of_ble_eq_true rfl) (Nat.le_of_ble_eq_true rfl) ⟨rfl, Or.inl ⟨by omega, rfl, rfl⟩⟩
  · refine sj_ild2 dX10_changed_7 ?_
    refine sj_callS (cm_isImage hi) kc_X10_250 rfl rfl (Nat.le_of_ble_eq_true rfl) dX10_changed_8 (fun r_8 σ_8 I_8 hp_8 => ?_)
    obtain ⟨rfl, rfl, rfl⟩ := hp_8
    refine sj_if_ne 16 dX10_changed_11 (by decide) (by omega) (fun c_11 => ?_) (fun c_11 => ?_)
    · obtain ⟨aa, rfl⟩ := jNat (a := a) (by omega)
      obtain ⟨q, rfl⟩ := jNat (a := i) (by omega)
      have b3 := jbs (F / 2 ^ q % 2 = 1)
      refine sj_ald0 dX10_changed_16 ?_
      refine sj_ild2 dX10_changed_17 ?_
      refine sj_callV (cm_isKept hS hF hF4 (by omega)) kc_X10_253 (by assumption) rfl rfl rfl rfl (Nat.le_of_ble_eq_true rfl) dX10_changed_18 (fun r_18 σ_18 I_18 hp_18 => ?_)
      obtain ⟨rfl, rfl, rfl⟩ := hp_18
      refine sj_if_ne 27 dX10_changed_21 (by decide) (by omega) (fun c_21 => ?_) (fun c_21 => ?_)
      · refine sj_iconst dX10_changed_27 ?_
        refine sj_ist3 (by decide) rfl dX10_changed_28 ?_
        exact lp1 aa q rfl rfl (by omega) (by omega) (by omega) 2001 0 I (by omega) ⟨fun _ _ _ => rfl, fun j hj => absurd hj (by omega), fun _ _ => rfl⟩
      · refine sj_bipush dX10_changed_24 (by decide) ?_
        exact sj_iret dX10_changed_26 rfl rfl (Nat.le_of_ble_eq_true rfl) (Nat.le_of_ble_eq_true rfl) ⟨rfl, Or.inr (Or.inl ⟨by omega, by show ¬ F / 2 ^ q % 2 = 1; omega, rfl, rfl⟩)⟩
    · refine sj_iconst dX10_changed_14 ?_
      exact sj_iret dX10_changed_15 rfl rfl (Nat.le_of_ble_eq_true rfl) (Nat.le_of_ble_eq_true rfl) ⟨rfl, Or.inl ⟨by omega, rfl, rfl⟩⟩
end MODEL30
