theorem jUn_all {w : Nat → Int} : ∀ n, (∀ k, k < n → w k = -9) → jUn w n = n
  | 0, _ => rfl
  | n + 1, h => by
    simp only [jUn]
    rw [jUn_all n (fun k hk => h k (by omega)), if_pos (h n (by omega))]
theorem zI_oC {b ρ : Int} (hb : b = 0 ∨ b = 1) (hρ : ρ = 0 ∨ ρ = 1) : zI b ||| zI ρ = zI (if ρ = 1 then 1 else b) := by
  rcases hb with rfl | rfl <;> rcases hρ with rfl | rfl <;> decide
/-- a sweep: b tells whether something was found since u cells were unknown -/
def mSw (o : Nat) (I : sjI) (M : Int) (E : Nat → Option (List Int)) (u : Nat) (b : Int) (J : sjI) : Prop := mLy o I J ∧ J o 15 = 1 ∧ mPart o M E J ∧ (b = 0 ∨ b = 1) ∧ jUn (J (o + 8)) 3200 ≤ u ∧ (b = 1 → jUn (J (o + 8)) 3200 + 1 ≤ u)
theorem mNo.same {o : Nat} {M : Int} {E : Nat → Option (List Int)} {J J' : sjI} {k : Nat} (h : mNo o M E J k) (e : J' (o + 8) = J (o + 8)) : mNo o M E J' k := by
  unfold mNo at h ⊢
  rw [e]
  exact h
section MODEL19
variable {l : Launch} {G : sjG} {σ : sjS} {I : sjI}
theorem cm_find2 {o k u : Nat} {M b : Int} {E : Nat → Option (List Int)} {J : sjI} (hS : mSh σ o) (hW : mW (I (o + 1))) (hE : mEq (I (o + 1)) E) (hk : k < 3200) (hM : I (o + 1) 0 = M) (hM2 : 2 ≤ M ∧ M ≤ 10) (hJ : mSw o I M E u b J) : sj_Con l yX10_find mX10_find G σ J [.ref o, .int (zI k)] (fun r σ' J' => σ = σ' ∧ ∃ ρ : Int, r = some (.int (zI ρ)) ∧ (ρ = 0 ∨ ρ = 1) ∧ mSw o I M E u (if ρ = 1 then 1 else b) J' ∧ (ρ = 0 → J' (o + 8) = J (o + 8) ∧ mNo o M E J' k)) := by
  obtain ⟨j1, j2, j3, j4, j5, j6⟩ := hJ
  refine (cm_find' (l := l) (G := G) hS hW hE hk hM hM2 j1 j3).weak (fun r σ' J' h => ?_)
  obtain ⟨h1, h2, h3, h4, h5⟩ := h
  rcases h5 with ⟨rfl, h6, h7⟩ | ⟨rfl, h6⟩
  · refine ⟨h1, 0, rfl, Or.inl rfl, ?_, fun _ => ⟨h6, h7⟩⟩
    rw [if_neg (by decide)]
    exact ⟨h2, h3.trans j2, h4, j4, by rw [h6]; exact j5, by rw [h6]; exact j6⟩
  · refine ⟨h1, 1, rfl, Or.inr rfl, ?_, fun z => absurd z (by decide)⟩
    rw [if_pos rfl]
    exact ⟨h2, h3.trans j2, h4, Or.inr rfl, by omega, fun _ => by omega⟩
theorem cm_layValues {o : Nat} {M : Int} {E : Nat → Option (List Int)} (hS : mSh σ o) (hW : mW (I (o + 1))) (hE : mEq (I (o + 1)) E) (hM : I (o + 1) 0 = M) (hM2 : 2 ≤ M ∧ M ≤ 10) (h15 : I o 15 = 0 ∨ (I o 15 = 1 ∧ mLd o M E I)) : sj_Con l yX10_layValues mX10_layValues G σ I [.ref o] (fun r σ' I' => r = none ∧ σ = σ' ∧ mLy o I I' ∧ I' o 15 = 1 ∧ mLd o M E I') := by
  obtain ⟨h_o, h_w, h_past, h_images, h_text, h_read, h_made, h_old, h_values, h_ranks, h_operator, h_indexAt, h_second, h_first, h_needed, h_shifts, h_around, h_best, h_isNeeded, h_toSee, h_held, h_there⟩ := id hS
  refine sj_con_of (L0 := [some (.ref o), none, none, none]) (by decide) rfl rfl rfl (Nat.le_of_ble_eq_true rfl) rfl (fun Γ => ?_)
  have ex : ∀ (J : sjI), mLy o I J → J o 15 = 1 → mPart o M E J → (∀ k, k < 3200 → mNo o M E J k) → sj_V l Γ mX10_layValues G (fun r σ' I' => r = none ∧ σ = σ' ∧ mLy o I I' ∧ I' o 15 = 1 ∧ mLd o M E I') σ J 0 0 45 [some (.ref o), some (.int (zI 0)), none, none] [] := by
    intro J j1 j2 j3 j4
    refine sj_ild1 dX10_layValues_45 ?_
    refine sj_if_eq 138 dX10_layValues_46 (by decide) (by omega) (fun c_46 => ?_) (fun c_46 => ?_)
    rotate_left
    · exact absurd rfl c_46
    exact sj_vret dX10_layValues_138 rfl (Nat.le_of_ble_eq_true rfl) (Nat.le_of_ble_eq_true rfl) ⟨rfl, rfl, j1, j2, mLd_of hE.1 j3 j4⟩
  have sweep : ∀ (u : Nat), (∀ (b : Int) (J : sjI), mSw o I M E u b J → (b = 0 → ∀ k, k < 3200 → mNo o M E J k) → sj_V l Γ mX10_layValues G (fun r σ' I' => r = none ∧ σ = σ' ∧ mLy o I I' ∧ I' o 15 = 1 ∧ mLd o M E I') σ J 0 0 45 [some (.ref o), some (.int (zI b)), none, none] []) → ∀ (J : sjI) (w : Option Value), mSw o I M E u 0 J → sj_V l Γ mX10_layValues G (fun r σ' I' => r = none ∧ σ = σ' ∧ mLy o I I' ∧ I' o 15 = 1 ∧ mLd o M E I') σ J 0 0 49 [some (.ref o), w, none, none] [] := by
    intro u hc
    have lpC : ∀ (d : Nat) (i b : Int) (J : sjI), i + 1 = d → d ≤ 400 → mSw o I M E u b J → (b = 0 → ∀ k, k < 3200 → mNo o M E J k) → sj_V l Γ mX10_layValues G (fun r σ' I' => r = none ∧ σ = σ' ∧ mLy o I I' ∧ I' o 15 = 1 ∧ mLd o M E I') σ J 0 0 98 [some (.ref o), some (.int (zI b)), some (.int (zI i)), none] [] := by
      intro d
      induction d with
      | zero =>
        intro i b J hi hd hsw hno
        refine sj_ild2 dX10_layValues_98 ?_
        refine sj_if_lt 135 dX10_layValues_99 (by decide) (by omega) (fun c_99 => ?_) (fun c_99 => ?_)
        rotate_left
        · exact absurd (by omega) c_99
        refine sj_goto 45 dX10_layValues_135 (by decide) ?_
        exact sj_fg2 (hc b J hsw hno)
      | succ d ih =>
        intro i b J hi hd hsw hno
        obtain ⟨ii, rfl⟩ := jNat (a := i) (by omega)
        have lpD : ∀ (e : Nat) (a b : Int) (J : sjI), a + 1 = e → e ≤ 8 → mSw o I M E u b J → (b = 0 → ∀ k, k < 3200 → mNo o M E J k) → sj_V l Γ mX10_layValues G (fun r σ' I' => r = none ∧ σ = σ' ∧ mLy o I I' ∧ I' o 15 = 1 ∧ mLd o M E I') σ J 0 0 105 [some (.ref o), some (.int (zI b)), some (.int (zI (ii : Int))), some (.int (zI a))] [] := by
          intro e
          induction e with
          | zero =>
            intro a b J ha he hsw hno
            refine sj_ild3 dX10_layValues_105 ?_
            refine sj_if_lt 129 dX10_layValues_106 (by decide) (by omega) (fun c_106 => ?_) (fun c_106 => ?_)
            rotate_left
            · exact absurd (by omega) c_106
            refine sj_inc2 (by decide) rfl dX10_layValues_129 ?_
            refine sj_goto 98 dX10_layValues_132 (by decide) ?_
            exact sj_fg3 (ih _ b J (by omega) (by omega) hsw hno)
          | succ e ihe =>
            intro a b J ha he hsw hno
            obtain ⟨aa, rfl⟩ := jNat (a := a) (by omega)
            refine sj_ild3 dX10_layValues_105 ?_
            refine sj_if_lt 129 dX10_layValues_106 (by decide) (by omega) (fun c_106 => ?_) (fun c_106 => ?_)
            · exact absurd c_106 (by omega)
            refine sj_ild1 dX10_layValues_109 ?_
            refine sj_ald0 dX10_layValues_110 ?_
            refine sj_sipush dX10_layValues_111 (by decide) ?_
            refine sj_ild3 dX10_layValues_114 ?_
            refine sj_imul dX10_layValues_115 ?_
            refine sj_ild2 dX10_layValues_116 ?_
            refine sj_iadd dX10_layValues_117 ?_
            rw [show (400 : Int) * (aa : Int) + (ii : Int) = ((400 * aa + ii : Nat) : Int) by omega]
            refine sj_callV (cm_find2 hS hW hE (by omega) hM hM2 hsw) kc_X10_187 (by assumption) rfl rfl rfl rfl (Nat.le_of_ble_eq_true rfl) dX10_layValues_118 (fun r_118 σ_118 I_118 hp_118 => ?_)
            obtain ⟨rfl, ρ, rfl, hρ, hsw2, hρ0⟩ := hp_118
            refine sj_ior dX10_layValues_121 (zI_oC hsw.2.2.2.1 hρ) ?_
            refine sj_ist1 (by decide) rfl dX10_layValues_122 ?_
            refine sj_inc3 (by decide) rfl dX10_layValues_123 ?_
            refine sj_goto 105 dX10_layValues_126 (by decide) ?_
            refine ihe _ _ _ (by omega) (by omega) hsw2 (fun z k hk => ?_)
            have hr0 : ρ = 0 := by
              rcases hρ with h | h
              · exact h
              · rw [if_pos h] at z; omega
            rw [if_neg (by omega)] at z
            exact (hno z k hk).same (hρ0 hr0).1
        refine sj_ild2 dX10_layValues_98 ?_
        refine sj_if_lt 135 dX10_layValues_99 (by decide) (by omega) (fun c_99 => ?_) (fun c_99 => ?_)
        · exact absurd c_99 (by omega)
        refine sj_bipush dX10_layValues_102 (by decide) ?_
        refine sj_ist3 (by decide) rfl dX10_layValues_104 ?_
        exact lpD 8 7 b J (by omega) (by omega) hsw hno
    have lpA : ∀ (d i : Nat) (b : Int) (J : sjI), i + d = 400 → mSw o I M E u b J → (b = 0 → ∀ k, k < 3200 → k % 400 < i → mNo o M E J k) → sj_V l Γ mX10_layValues G (fun r σ' I' => r = none ∧ σ = σ' ∧ mLy o I I' ∧ I' o 15 = 1 ∧ mLd o M E I') σ J 0 0 53 [some (.ref o), some (.int (zI b)), some (.int (zI i)), none] [] := by
      intro d
      induction d with
      | zero =>
        intro i b J hi hsw hno
        refine sj_ild2 dX10_layValues_53 ?_
        refine sj_sipush dX10_layValues_54 (by decide) ?_
        refine sj_icmp_ge 94 dX10_layValues_57 (by decide) (by omega) (by omega) (fun c_57 => ?_) (fun c_57 => ?_)
        rotate_left
        · exact absurd (by omega) c_57
        refine sj_sipush dX10_layValues_94 (by decide) ?_
        refine sj_ist2 (by decide) rfl dX10_layValues_97 ?_
        exact lpC 400 399 b J (by omega) (by omega) hsw (fun z k hk => hno z k hk (by omega))
      | succ d ih =>
        intro i b J hi hsw hno
        have lpB : ∀ (e a : Nat) (b : Int) (J : sjI), a + e = 8 → mSw o I M E u b J → (b = 0 → ∀ k, k < 3200 → (k % 400 < i ∨ (k % 400 = i ∧ k / 400 < a)) → mNo o M E J k) → sj_V l Γ mX10_layValues G (fun r σ' I' => r = none ∧ σ = σ' ∧ mLy o I I' ∧ I' o 15 = 1 ∧ mLd o M E I') σ J 0 0 62 [some (.ref o), some (.int (zI b)), some (.int (zI i)), some (.int (zI a))] [] := by
          intro e
          induction e with
          | zero =>
            intro a b J ha hsw hno
            refine sj_ild3 dX10_layValues_62 ?_
            refine sj_bipush dX10_layValues_63 (by decide) ?_
            refine sj_icmp_ge 88 dX10_layValues_65 (by decide) (by omega) (by omega) (fun c_65 => ?_) (fun c_65 => ?_)
            rotate_left
            · exact absurd (by omega) c_65
            refine sj_inc2 (by decide) rfl dX10_layValues_88 ?_
            refine sj_goto 53 dX10_layValues_91 (by decide) ?_
            exact sj_fg3 (ih (i + 1) b J (by omega) hsw (fun z k hk hki => hno z k hk (by omega)))
          | succ e ihe =>
            intro a b J ha hsw hno
            refine sj_ild3 dX10_layValues_62 ?_
            refine sj_bipush dX10_layValues_63 (by decide) ?_
            refine sj_icmp_ge 88 dX10_layValues_65 (by decide) (by omega) (by omega) (fun c_65 => ?_) (fun c_65 => ?_)
            · exact absurd c_65 (by omega)
            refine sj_ild1 dX10_layValues_68 ?_
            refine sj_ald0 dX10_layValues_69 ?_
            refine sj_sipush dX10_layValues_70 (by decide) ?_
            refine sj_ild3 dX10_layValues_73 ?_
            refine sj_imul dX10_layValues_74 ?_
            refine sj_ild2 dX10_layValues_75 ?_
            refine sj_iadd dX10_layValues_76 ?_
            rw [show (400 : Int) * (a : Int) + (i : Int) = ((400 * a + i : Nat) : Int) by omega]
            refine sj_callV (cm_find2 hS hW hE (by omega) hM hM2 hsw) kc_X10_187 (by assumption) rfl rfl rfl rfl (Nat.le_of_ble_eq_true rfl) dX10_layValues_77 (fun r_77 σ_77 I_77 hp_77 => ?_)
            obtain ⟨rfl, ρ, rfl, hρ, hsw2, hρ0⟩ := hp_77
            refine sj_ior dX10_layValues_80 (zI_oC hsw.2.2.2.1 hρ) ?_
            refine sj_ist1 (by decide) rfl dX10_layValues_81 ?_
            refine sj_inc3 (by decide) rfl dX10_layValues_82 ?_
            refine sj_goto 62 dX10_layValues_85 (by decide) ?_
            refine ihe (a + 1) _ _ (by omega) hsw2 (fun z k hk hki => ?_)
            have hr0 : ρ = 0 := by
              rcases hρ with h | h
              · exact h
              · rw [if_pos h] at z; omega
            rw [if_neg (by omega)] at z
            by_cases e : k = 400 * a + i
            · rw [e]; exact (hρ0 hr0).2
            · exact (hno z k hk (by omega)).same (hρ0 hr0).1
        refine sj_ild2 dX10_layValues_53 ?_
        refine sj_sipush dX10_layValues_54 (by decide) ?_
        refine sj_icmp_ge 94 dX10_layValues_57 (by decide) (by omega) (by omega) (fun c_57 => ?_) (fun c_57 => ?_)
        · exact absurd c_57 (by omega)
        refine sj_iconst dX10_layValues_60 ?_
        refine sj_ist3 (by decide) rfl dX10_layValues_61 ?_
        exact lpB 8 0 b J (by omega) hsw (fun z k hk hki => hno z k hk (by omega))
    intro J w hsw
    refine sj_iconst dX10_layValues_49 ?_
    refine sj_ist1 (by decide) rfl dX10_layValues_50 ?_
    refine sj_iconst dX10_layValues_51 ?_
    refine sj_ist2 (by decide) rfl dX10_layValues_52 ?_
    exact lpA 400 0 0 J (by omega) hsw (fun _ k _ h => absurd h (by omega))
  have lpW : ∀ (u : Nat) (J : sjI), mLy o I J → J o 15 = 1 → mPart o M E J → jUn (J (o + 8)) 3200 ≤ u → sj_V l Γ mX10_layValues G (fun r σ' I' => r = none ∧ σ = σ' ∧ mLy o I I' ∧ I' o 15 = 1 ∧ mLd o M E I') σ J 0 0 45 [some (.ref o), some (.int (zI 1)), none, none] [] := by
    intro u
    induction u with
    | zero =>
      intro J j1 j2 j3 hu
      refine sj_ild1 dX10_layValues_45 ?_
      refine sj_if_eq 138 dX10_layValues_46 (by decide) (by omega) (fun c_46 => ?_) (fun c_46 => ?_)
      · exact absurd c_46 (by omega)
      refine sweep 0 (fun b J2 hsw hno => ?_) J _ ⟨j1, j2, j3, Or.inl rfl, hu, fun z => absurd z (by decide)⟩
      obtain ⟨s1, s2, s3, s4, s5, s6⟩ := hsw
      rcases s4 with rfl | rfl
      · exact ex J2 s1 s2 s3 (hno rfl)
      · exact absurd (s6 rfl) (by omega)
    | succ u ihu =>
      intro J j1 j2 j3 hu
      refine sj_ild1 dX10_layValues_45 ?_
      refine sj_if_eq 138 dX10_layValues_46 (by decide) (by omega) (fun c_46 => ?_) (fun c_46 => ?_)
      · exact absurd c_46 (by omega)
      refine sweep (u + 1) (fun b J2 hsw hno => ?_) J _ ⟨j1, j2, j3, Or.inl rfl, hu, fun z => absurd z (by decide)⟩
      obtain ⟨s1, s2, s3, s4, s5, s6⟩ := hsw
      rcases s4 with rfl | rfl
      · exact ex J2 s1 s2 s3 (hno rfl)
      · exact ihu J2 s1 s2 s3 (by have := s6 rfl; omega)
  have lp0 : ∀ (d k : Nat) (J : sjI), k + d = 3200 → mLy o I J → J o 15 = 1 → (∀ j, j < k → J (o + 8) j = -9 ∧ J (o + 9) j = 0) → sj_V l Γ mX10_layValues G (fun r σ' I' => r = none ∧ σ = σ' ∧ mLy o I I' ∧ I' o 15 = 1 ∧ mLd o M E I') σ J 0 0 15 [some (.ref o), some (.int (zI k)), none, none] [] := by
    intro d
    induction d with
    | zero =>
      intro k J hk j1 j2 j3
      have hk3 : k = 3200 := by omega
      subst hk3
      have hun := jUn_all 3200 (fun k hk => (j3 k hk).1)
      refine sj_ild1 dX10_layValues_15 ?_
      refine sj_sipush dX10_layValues_16 (by decide) ?_
      refine sj_icmp_ge 43 dX10_layValues_19 (by decide) (by omega) (by omega) (fun c_19 => ?_) (fun c_19 => ?_)
      rotate_left
      · exact absurd (by omega) c_19
      refine sj_iconst dX10_layValues_43 ?_
      refine sj_ist1 (by decide) rfl dX10_layValues_44 ?_
      exact lpW 3200 J j1 j2 ⟨fun k hk => Or.inl (j3 k hk).1, fun k hk => by rw [(j3 k hk).2, hun]; omega, fun k hk hn => absurd (j3 k hk).1 hn⟩ (by omega)
    | succ d ih =>
      intro k J hk j1 j2 j3
      refine sj_ild1 dX10_layValues_15 ?_
      refine sj_sipush dX10_layValues_16 (by decide) ?_
      refine sj_icmp_ge 43 dX10_layValues_19 (by decide) (by omega) (by omega) (fun c_19 => ?_) (fun c_19 => ?_)
      · exact absurd c_19 (by omega)
      refine sj_ald0 dX10_layValues_22 ?_
      refine sj_getR fl_X10_31 (by assumption) rfl (mr_13 _) dX10_layValues_23 ?_
      refine sj_ild1 dX10_layValues_26 ?_
      refine sj_bipush dX10_layValues_27 (by decide) ?_
      refine sj_iastJ (k) (by assumption) (by omega) (by omega) (by omega) dX10_layValues_29 ?_
      refine sj_ald0 dX10_layValues_30 ?_
      refine sj_getR fl_X10_34 (by assumption) rfl (mr_14 _) dX10_layValues_31 ?_
      refine sj_ild1 dX10_layValues_34 ?_
      refine sj_iconst dX10_layValues_35 ?_
      refine sj_iastJ (k) (by assumption) (by omega) (by omega) (by omega) dX10_layValues_36 ?_
      refine sj_inc1 (by decide) rfl dX10_layValues_37 ?_
      refine sj_goto 15 dX10_layValues_40 (by decide) ?_
      refine ih (k + 1) _ (by omega) ⟨fun a e1 e2 => by rw [sj_up_row (by omega), sj_up_row (by omega)]; exact j1.1 a e1 e2, fun j e1 e2 e3 e4 => by rw [sj_up_row (by omega), sj_up_row (by omega)]; exact j1.2 j e1 e2 e3 e4⟩ (by rw [sj_up_row (by omega), sj_up_row (by omega)]; exact j2) (fun j hj => ?_)
      by_cases e : j = k
      · subst e; exact ⟨by rw [sj_up_row (by omega), sj_up_self], sj_up_self _ _ _ _⟩
      · exact ⟨by rw [sj_up_row (by omega), sj_up_ne (by omega)]; exact (j3 j (by omega)).1, by rw [sj_up_ne (by omega), sj_up_row (by omega)]; exact (j3 j (by omega)).2⟩
  refine sj_ald0 dX10_layValues_0 ?_
  refine sj_getI fl_X10_86 (by assumption) rfl dX10_layValues_1 ?_
  refine sj_if_eq 8 dX10_layValues_4 (by decide) (by omega) (fun c_4 => ?_) (fun c_4 => ?_)
  · refine sj_ald0 dX10_layValues_8 ?_
    refine sj_iconst dX10_layValues_9 ?_
    refine sj_putI fl_X10_86 (by assumption) rfl (by decide) rfl dX10_layValues_10 ?_
    refine sj_iconst dX10_layValues_13 ?_
    refine sj_ist1 (by decide) rfl dX10_layValues_14 ?_
    exact lp0 3200 0 _ (by omega) ⟨fun a e1 e2 => sj_up_row e1, fun j e1 e2 e3 e4 => sj_up_ne (by omega)⟩ (sj_up_self _ _ _ _) (fun j hj => absurd hj (by omega))
  · exact sj_vret dX10_layValues_7 rfl (Nat.le_of_ble_eq_true rfl) (Nat.le_of_ble_eq_true rfl) ⟨rfl, rfl, ⟨fun _ _ _ => rfl, fun _ _ _ _ _ => rfl⟩, by omega, (h15.resolve_left (by omega)).2⟩
end MODEL19
