theorem rwl.set2 {I : sjI} {r : Nat} {L A C : List Int} {x y u w : Int} (h : rwl I r L) (hL : L = A ++ (x :: y :: C)) : rwl (sj_up (sj_up I (r + 1) A.length u) (r + 1) (A.length + 1) w) r (A ++ (u :: w :: C)) := by
  obtain ⟨h1, h2, h3⟩ := h
  have hl : L.length = (A ++ (u :: w :: C)).length := by rw [hL]; simp
  rw [hL] at h3
  obtain ⟨e1, e2⟩ := lst_both h3
  obtain ⟨_, e3⟩ := lst_head e2
  obtain ⟨_, e4⟩ := lst_head e3
  refine ⟨by rw [sj_up_row (by omega), sj_up_row (by omega), h1, hl], by rw [← hl]; exact h2, lst_join ?_ (lst_con ?_ (lst_con ?_ ?_))⟩
  · exact lst_as e1 (fun j hj => by rw [sj_up_ne (by omega), sj_up_ne (by omega)])
  · rw [sj_up_ne (by omega), Nat.zero_add, sj_up_self]
  · rw [Nat.zero_add, sj_up_self]
  · exact lst_as e4 (fun j hj => by rw [sj_up_ne (by omega), sj_up_ne (by omega)])
/-- what a step leaves: all but the rows of the work -/
def rKp (r : Nat) (I J : sjI) : Prop := ∀ q, q < r ∨ r + 3 < q → J q = I q
def rOut (r : Nat) (J : sjI) (T : List Int) (v : Option Value) : Prop := (T.length ≤ 120 ∧ v = some (.int (zI 1)) ∧ rwl J r T) ∨ (120 < T.length ∧ v = some (.int (zI 0)))
section REWRITE3
variable {l : Launch} {G : sjG} {σ : sjS} {I : sjI}
theorem cx4_pushTail {r : Nat} {L A N C M : List Int} {p : Int} (hS : rSh σ r) (h : rwl I r L) (he : rwe I r L) (hL : L = A ++ (116 :: (N ++ C))) (hN : jOk 1 N) (hM : jRt N = some M) (hp : p = A.length) : sj_Con l yX4_pushTail mX4_pushTail G σ I [.ref r, .int (zI p)] (fun v σ' I' => σ = σ' ∧ rKp r I I' ∧ rOut r I' (A ++ (M ++ C)) v) := by
  obtain ⟨s0, s1, s2, s3⟩ := id hS
  obtain ⟨h1, h2, h3⟩ := id h
  obtain ⟨u, N', rfl, hvu, hN'⟩ := jOk_ne hN
  rw [Nat.zero_add] at hN'
  have ru := jVc_rng hvu
  unfold jVc at hvu
  have hcu := h.cd (A := A ++ [116]) (c := u) (C := N' ++ C) (by rw [hL]; simp)
  rw [show (A ++ ([116] : List Int)).length = A.length + 1 by simp] at hcu
  have hll : L.length = A.length + (2 + (N'.length + C.length)) := by rw [hL]; simp only [List.length_append, List.length_cons]; omega
  rw [jRt_cons] at hM
  have b1 := jbs (48 ≤ u ∧ u ≤ 57)
  have b2 := jbs (128 ≤ u)
  have b3 := jbs (u = 43 ∨ u = 42 ∨ u = 122)
  have har := jAr_cases u
  subst hp
  refine sj_con_of (L0 := [some (.ref r), some (.int (zI (A.length : Int))), none]) (by decide) rfl rfl rfl (Nat.le_of_ble_eq_true rfl) rfl (fun Γ => ?_)
  by_cases d1 : 48 ≤ u ∧ u ≤ 57
  · rw [if_neg (by omega), if_neg (by omega), if_neg (by omega), if_neg (by omega), if_pos d1] at hM
    cases hM
    rw [show jAr u = 0 by omega] at hN'
    have hn : N' = [] := by cases N' with | nil => rfl | cons a b => exact hN'.elim
    subst hn
    refine sj_ald0 dX4_pushTail_0 ?_
    refine sj_getR fl_X4_9 (by assumption) rfl (rR_0 _) dX4_pushTail_1 ?_
    refine sj_ild1 dX4_pushTail_4 ?_
    refine sj_iconst dX4_pushTail_5 ?_
    refine sj_iadd dX4_pushTail_6 ?_
    refine sj_ialdJ (A.length + 1) (by assumption) (by omega) (by omega) (by omega) dX4_pushTail_7 ?_
    rw [hcu]
    refine sj_ist2 (by decide) rfl dX4_pushTail_8 ?_
    refine sj_ild2 dX4_pushTail_9 ?_
    refine sj_callS (cx0_isDigit (by omega)) kc_X4_65 rfl rfl (Nat.le_of_ble_eq_true rfl) dX4_pushTail_10 (fun r_10 σ_10 I_10 hp_10 => ?_)
    obtain ⟨rfl, rfl, rfl⟩ := hp_10
    refine sj_if_eq 26 dX4_pushTail_13 (by decide) (by omega) (fun c_13 => ?_) (fun c_13 => ?_)
    · (exfalso; omega)
    refine sj_ald0 dX4_pushTail_16 ?_
    refine sj_ild1 dX4_pushTail_17 ?_
    refine sj_ild1 dX4_pushTail_18 ?_
    refine sj_iconst dX4_pushTail_19 ?_
    refine sj_iadd dX4_pushTail_20 ?_
    refine sj_callV (cx4_cut (A := A) (B := [116]) (C := [u] ++ C) hS h (by rw [hL]; simp) rfl rfl) kc_X4_82 (by assumption) rfl rfl rfl rfl (Nat.le_of_ble_eq_true rfl) dX4_pushTail_21 (fun r_21 σ_21 I_21 hp_21 => ?_)
    obtain ⟨rfl, rfl, x1, x2⟩ := hp_21
    refine sj_iconst dX4_pushTail_24 ?_
    exact sj_iret dX4_pushTail_25 rfl (by decide) (Nat.le_of_ble_eq_true rfl) (Nat.le_of_ble_eq_true rfl) ⟨rfl, fun q hq => x1 q (by omega) (by omega), Or.inl ⟨x2.2.1, rfl, x2⟩⟩
  · by_cases d2 : 128 ≤ u
    · rw [if_pos d2] at hM
      cases hM
      refine sj_ald0 dX4_pushTail_0 ?_
      refine sj_getR fl_X4_9 (by assumption) rfl (rR_0 _) dX4_pushTail_1 ?_
      refine sj_ild1 dX4_pushTail_4 ?_
      refine sj_iconst dX4_pushTail_5 ?_
      refine sj_iadd dX4_pushTail_6 ?_
      refine sj_ialdJ (A.length + 1) (by assumption) (by omega) (by omega) (by omega) dX4_pushTail_7 ?_
      rw [hcu]
      refine sj_ist2 (by decide) rfl dX4_pushTail_8 ?_
      refine sj_ild2 dX4_pushTail_9 ?_
      refine sj_callS (cx0_isDigit (by omega)) kc_X4_65 rfl rfl (Nat.le_of_ble_eq_true rfl) dX4_pushTail_10 (fun r_10 σ_10 I_10 hp_10 => ?_)
      obtain ⟨rfl, rfl, rfl⟩ := hp_10
      refine sj_if_eq 26 dX4_pushTail_13 (by decide) (by omega) (fun c_13 => ?_) (fun c_13 => ?_)
      rotate_left
      · (exfalso; omega)
      refine sj_ild2 dX4_pushTail_26 ?_
      refine sj_callS (cx0_isFront (by omega)) kc_X4_85 rfl rfl (Nat.le_of_ble_eq_true rfl) dX4_pushTail_27 (fun r_27 σ_27 I_27 hp_27 => ?_)
      obtain ⟨rfl, rfl, rfl⟩ := hp_27
      refine sj_if_eq 43 dX4_pushTail_30 (by decide) (by omega) (fun c_30 => ?_) (fun c_30 => ?_)
      · (exfalso; omega)
      refine sj_ald0 dX4_pushTail_33 ?_
      refine sj_ild1 dX4_pushTail_34 ?_
      refine sj_ild1 dX4_pushTail_35 ?_
      refine sj_iconst dX4_pushTail_36 ?_
      refine sj_iadd dX4_pushTail_37 ?_
      refine sj_callV (cx4_cut (A := A) (B := [116, u]) (C := M ++ C) hS h (by rw [hL]; simp) rfl rfl) kc_X4_82 (by assumption) rfl rfl rfl rfl (Nat.le_of_ble_eq_true rfl) dX4_pushTail_38 (fun r_38 σ_38 I_38 hp_38 => ?_)
      obtain ⟨rfl, rfl, x1, x2⟩ := hp_38
      refine sj_iconst dX4_pushTail_41 ?_
      exact sj_iret dX4_pushTail_42 rfl (by decide) (Nat.le_of_ble_eq_true rfl) (Nat.le_of_ble_eq_true rfl) ⟨rfl, fun q hq => x1 q (by omega) (by omega), Or.inl ⟨x2.2.1, rfl, x2⟩⟩
    · rw [if_neg d2] at hM
      by_cases d3 : u = 122
      · subst d3
        rw [if_neg (by omega), if_pos rfl] at hM
        cases hM
        rw [show jAr 122 = 2 by omega] at hN'
        obtain ⟨B, S, rfl, hb, hs, k1, k2⟩ := jOk_apart hN'
        rw [k1, k2]
        refine sj_ald0 dX4_pushTail_0 ?_
        refine sj_getR fl_X4_9 (by assumption) rfl (rR_0 _) dX4_pushTail_1 ?_
        refine sj_ild1 dX4_pushTail_4 ?_
        refine sj_iconst dX4_pushTail_5 ?_
        refine sj_iadd dX4_pushTail_6 ?_
        refine sj_ialdJ (A.length + 1) (by assumption) (by omega) (by omega) (by omega) dX4_pushTail_7 ?_
        rw [hcu]
        refine sj_ist2 (by decide) rfl dX4_pushTail_8 ?_
        refine sj_ild2 dX4_pushTail_9 ?_
        refine sj_callS (cx0_isDigit (by omega)) kc_X4_65 rfl rfl (Nat.le_of_ble_eq_true rfl) dX4_pushTail_10 (fun r_10 σ_10 I_10 hp_10 => ?_)
        obtain ⟨rfl, rfl, rfl⟩ := hp_10
        refine sj_if_eq 26 dX4_pushTail_13 (by decide) (by omega) (fun c_13 => ?_) (fun c_13 => ?_)
        rotate_left
        · (exfalso; omega)
        refine sj_ild2 dX4_pushTail_26 ?_
        refine sj_callS (cx0_isFront (by omega)) kc_X4_85 rfl rfl (Nat.le_of_ble_eq_true rfl) dX4_pushTail_27 (fun r_27 σ_27 I_27 hp_27 => ?_)
        obtain ⟨rfl, rfl, rfl⟩ := hp_27
        refine sj_if_eq 43 dX4_pushTail_30 (by decide) (by omega) (fun c_30 => ?_) (fun c_30 => ?_)
        rotate_left
        · (exfalso; omega)
        refine sj_ild2 dX4_pushTail_43 ?_
        refine sj_bipush dX4_pushTail_44 (by decide) ?_
        refine sj_icmp_ne 56 dX4_pushTail_46 (by decide) (by omega) (by omega) (fun c_46 => ?_) (fun c_46 => ?_)
        · (exfalso; omega)
        refine sj_ald0 dX4_pushTail_49 ?_
        refine sj_ild1 dX4_pushTail_50 ?_
        refine sj_callV (cx4_turnZip (A := A) (B := B) (S := S) (C := C) hS h he (by rw [hL]; simp) hb hs rfl) kc_X4_88 (by assumption) rfl rfl rfl rfl (Nat.le_of_ble_eq_true rfl) dX4_pushTail_51 (fun r_51 σ_51 I_51 hp_51 => ?_)
        obtain ⟨rfl, rfl, x1, x2⟩ := hp_51
        refine sj_iconst dX4_pushTail_54 ?_
        exact sj_iret dX4_pushTail_55 rfl (by decide) (Nat.le_of_ble_eq_true rfl) (Nat.le_of_ble_eq_true rfl) ⟨rfl, fun q hq => x1 q (by omega) (by omega), by
          have e : A ++ (122 :: (S ++ (116 :: (B ++ C)))) = A ++ ((122 :: (S ++ 116 :: B)) ++ C) := by simp
          rw [e] at x2
          exact Or.inl ⟨x2.2.1, rfl, x2⟩⟩
      · by_cases d4 : u = 43 ∨ u = 42
        · rw [if_pos d4] at hM
          cases hM
          rw [show jAr u = 2 by omega] at hN'
          obtain ⟨B, S, rfl, hb, hs, k1, k2⟩ := jOk_apart hN'
          rw [k1, k2]
          have hend := he.fin (A := A ++ [116, u]) (M := B) (C := S ++ C) (by rw [hL]; simp) hb
          rw [show (A ++ [116, u]).length = A.length + 2 by simp] at hend
          have hbl := jOk_len B 1 hb
          rw [List.length_append] at hll
          have hnl : (A ++ ((u :: 116 :: (B ++ 116 :: S)) ++ C)).length = L.length + 1 := by rw [hll]; simp only [List.length_append, List.length_cons]; omega
          have x0 := h.set2 (A := A) (x := 116) (y := u) (u := u) (w := 116) (C := B ++ (S ++ C)) (by rw [hL]; simp)
          refine sj_ald0 dX4_pushTail_0 ?_
          refine sj_getR fl_X4_9 (by assumption) rfl (rR_0 _) dX4_pushTail_1 ?_
          refine sj_ild1 dX4_pushTail_4 ?_
          refine sj_iconst dX4_pushTail_5 ?_
          refine sj_iadd dX4_pushTail_6 ?_
          refine sj_ialdJ (A.length + 1) (by assumption) (by omega) (by omega) (by omega) dX4_pushTail_7 ?_
          rw [hcu]
          refine sj_ist2 (by decide) rfl dX4_pushTail_8 ?_
          refine sj_ild2 dX4_pushTail_9 ?_
          refine sj_callS (cx0_isDigit (by omega)) kc_X4_65 rfl rfl (Nat.le_of_ble_eq_true rfl) dX4_pushTail_10 (fun r_10 σ_10 I_10 hp_10 => ?_)
          obtain ⟨rfl, rfl, rfl⟩ := hp_10
          refine sj_if_eq 26 dX4_pushTail_13 (by decide) (by omega) (fun c_13 => ?_) (fun c_13 => ?_)
          rotate_left
          · (exfalso; omega)
          refine sj_ild2 dX4_pushTail_26 ?_
          refine sj_callS (cx0_isFront (by omega)) kc_X4_85 rfl rfl (Nat.le_of_ble_eq_true rfl) dX4_pushTail_27 (fun r_27 σ_27 I_27 hp_27 => ?_)
          obtain ⟨rfl, rfl, rfl⟩ := hp_27
          refine sj_if_eq 43 dX4_pushTail_30 (by decide) (by omega) (fun c_30 => ?_) (fun c_30 => ?_)
          rotate_left
          · (exfalso; omega)
          refine sj_ild2 dX4_pushTail_43 ?_
          refine sj_bipush dX4_pushTail_44 (by decide) ?_
          refine sj_icmp_ne 56 dX4_pushTail_46 (by decide) (by omega) (by omega) (fun c_46 => ?_) (fun c_46 => ?_)
          rotate_left
          · (exfalso; omega)
          refine sj_ald0 dX4_pushTail_56 ?_
          refine sj_getI fl_X4_33 (by assumption) rfl dX4_pushTail_57 ?_
          rw [h1]
          refine sj_bipush dX4_pushTail_60 (by decide) ?_
          refine sj_icmp_lt 67 dX4_pushTail_62 (by decide) (by omega) (by omega) (fun c_62 => ?_) (fun c_62 => ?_)
          · refine sj_ald0 dX4_pushTail_67 ?_
            refine sj_getR fl_X4_9 (by assumption) rfl (rR_0 _) dX4_pushTail_68 ?_
            refine sj_ild1 dX4_pushTail_71 ?_
            refine sj_ild2 dX4_pushTail_72 ?_
            refine sj_iastJ (A.length) (by assumption) (by omega) (by omega) (by omega) dX4_pushTail_73 ?_
            refine sj_ald0 dX4_pushTail_74 ?_
            refine sj_getR fl_X4_9 (by assumption) rfl (rR_0 _) dX4_pushTail_75 ?_
            refine sj_ild1 dX4_pushTail_78 ?_
            refine sj_iconst dX4_pushTail_79 ?_
            refine sj_iadd dX4_pushTail_80 ?_
            refine sj_bipush dX4_pushTail_81 (by decide) ?_
            refine sj_iastJ (A.length + 1) (by assumption) (by omega) (by omega) (by omega) dX4_pushTail_83 ?_
            refine sj_ald0 dX4_pushTail_84 ?_
            refine sj_ild2 dX4_pushTail_85 ?_
            refine sj_callS (cx0_isPair (by omega)) kc_X4_92 rfl rfl (Nat.le_of_ble_eq_true rfl) dX4_pushTail_86 (fun r_86 σ_86 I_86 hp_86 => ?_)
            obtain ⟨rfl, rfl, rfl⟩ := hp_86
            refine sj_if_eq 103 dX4_pushTail_89 (by decide) (by omega) (fun c_89 => ?_) (fun c_89 => ?_)
            · (exfalso; omega)
            refine sj_ald0 dX4_pushTail_92 ?_
            refine sj_getR fl_X4_15 (by assumption) rfl (rR_1 _) dX4_pushTail_93 ?_
            refine sj_ild1 dX4_pushTail_96 ?_
            refine sj_iconst dX4_pushTail_97 ?_
            refine sj_iadd dX4_pushTail_98 ?_
            refine sj_ialdJ (A.length + 2) (by assumption) (by omega) (by omega) (by omega) dX4_pushTail_99 ?_
            rw [sj_up_row (by omega), sj_up_row (by omega), hend]
            refine sj_goto 106 dX4_pushTail_100 (by decide) ?_
            refine sj_callV (cx4_putTail (A := A ++ (u :: 116 :: B)) (C := S ++ C) hS x0 (by simp) (by simp only [List.length_append, List.length_cons]; omega) (by simp only [List.length_append, List.length_cons]; omega)) kc_X4_95 (by assumption) rfl rfl rfl rfl (Nat.le_of_ble_eq_true rfl) dX4_pushTail_106 (fun r_106 σ_106 I_106 hp_106 => ?_)
            obtain ⟨rfl, rfl, x1, x2⟩ := hp_106
            refine sj_iconst dX4_pushTail_109 ?_
            exact sj_iret dX4_pushTail_110 rfl (by decide) (Nat.le_of_ble_eq_true rfl) (Nat.le_of_ble_eq_true rfl) ⟨rfl, fun q hq => by rw [x1 q (by omega) (by omega), sj_up_row (by omega), sj_up_row (by omega)], by
              have e : (A ++ (u :: 116 :: B)) ++ (116 :: (S ++ C)) = A ++ ((u :: 116 :: (B ++ 116 :: S)) ++ C) := by simp
              rw [e] at x2
              exact Or.inl ⟨x2.2.1, rfl, x2⟩⟩
          · refine sj_iconst dX4_pushTail_65 ?_
            exact sj_iret dX4_pushTail_66 rfl (by decide) (Nat.le_of_ble_eq_true rfl) (Nat.le_of_ble_eq_true rfl) ⟨rfl, fun q hq => rfl, Or.inr ⟨by omega, rfl⟩⟩
        · rw [if_neg d4, if_neg d3] at hM
          by_cases d5 : u = 101 ∨ u = 111
          · rw [if_pos d5] at hM
            cases hM
            have hnl : (A ++ ((u :: 116 :: 116 :: N') ++ C)).length = L.length + 1 := by rw [hll]; simp only [List.length_append, List.length_cons]; omega
            have x0 := h.set2 (A := A) (x := 116) (y := u) (u := u) (w := 116) (C := N' ++ C) (by rw [hL]; simp)
            refine sj_ald0 dX4_pushTail_0 ?_
            refine sj_getR fl_X4_9 (by assumption) rfl (rR_0 _) dX4_pushTail_1 ?_
            refine sj_ild1 dX4_pushTail_4 ?_
            refine sj_iconst dX4_pushTail_5 ?_
            refine sj_iadd dX4_pushTail_6 ?_
            refine sj_ialdJ (A.length + 1) (by assumption) (by omega) (by omega) (by omega) dX4_pushTail_7 ?_
            rw [hcu]
            refine sj_ist2 (by decide) rfl dX4_pushTail_8 ?_
            refine sj_ild2 dX4_pushTail_9 ?_
            refine sj_callS (cx0_isDigit (by omega)) kc_X4_65 rfl rfl (Nat.le_of_ble_eq_true rfl) dX4_pushTail_10 (fun r_10 σ_10 I_10 hp_10 => ?_)
            obtain ⟨rfl, rfl, rfl⟩ := hp_10
            refine sj_if_eq 26 dX4_pushTail_13 (by decide) (by omega) (fun c_13 => ?_) (fun c_13 => ?_)
            rotate_left
            · (exfalso; omega)
            refine sj_ild2 dX4_pushTail_26 ?_
            refine sj_callS (cx0_isFront (by omega)) kc_X4_85 rfl rfl (Nat.le_of_ble_eq_true rfl) dX4_pushTail_27 (fun r_27 σ_27 I_27 hp_27 => ?_)
            obtain ⟨rfl, rfl, rfl⟩ := hp_27
            refine sj_if_eq 43 dX4_pushTail_30 (by decide) (by omega) (fun c_30 => ?_) (fun c_30 => ?_)
            rotate_left
            · (exfalso; omega)
            refine sj_ild2 dX4_pushTail_43 ?_
            refine sj_bipush dX4_pushTail_44 (by decide) ?_
            refine sj_icmp_ne 56 dX4_pushTail_46 (by decide) (by omega) (by omega) (fun c_46 => ?_) (fun c_46 => ?_)
            rotate_left
            · (exfalso; omega)
            refine sj_ald0 dX4_pushTail_56 ?_
            refine sj_getI fl_X4_33 (by assumption) rfl dX4_pushTail_57 ?_
            rw [h1]
            refine sj_bipush dX4_pushTail_60 (by decide) ?_
            refine sj_icmp_lt 67 dX4_pushTail_62 (by decide) (by omega) (by omega) (fun c_62 => ?_) (fun c_62 => ?_)
            · refine sj_ald0 dX4_pushTail_67 ?_
              refine sj_getR fl_X4_9 (by assumption) rfl (rR_0 _) dX4_pushTail_68 ?_
              refine sj_ild1 dX4_pushTail_71 ?_
              refine sj_ild2 dX4_pushTail_72 ?_
              refine sj_iastJ (A.length) (by assumption) (by omega) (by omega) (by omega) dX4_pushTail_73 ?_
              refine sj_ald0 dX4_pushTail_74 ?_
              refine sj_getR fl_X4_9 (by assumption) rfl (rR_0 _) dX4_pushTail_75 ?_
              refine sj_ild1 dX4_pushTail_78 ?_
              refine sj_iconst dX4_pushTail_79 ?_
              refine sj_iadd dX4_pushTail_80 ?_
              refine sj_bipush dX4_pushTail_81 (by decide) ?_
              refine sj_iastJ (A.length + 1) (by assumption) (by omega) (by omega) (by omega) dX4_pushTail_83 ?_
              refine sj_ald0 dX4_pushTail_84 ?_
              refine sj_ild2 dX4_pushTail_85 ?_
              refine sj_callS (cx0_isPair (by omega)) kc_X4_92 rfl rfl (Nat.le_of_ble_eq_true rfl) dX4_pushTail_86 (fun r_86 σ_86 I_86 hp_86 => ?_)
              obtain ⟨rfl, rfl, rfl⟩ := hp_86
              refine sj_if_eq 103 dX4_pushTail_89 (by decide) (by omega) (fun c_89 => ?_) (fun c_89 => ?_)
              rotate_left
              · (exfalso; omega)
              refine sj_ild1 dX4_pushTail_103 ?_
              refine sj_iconst dX4_pushTail_104 ?_
              refine sj_iadd dX4_pushTail_105 ?_
              refine sj_callV (cx4_putTail (A := A ++ [u, 116]) (C := N' ++ C) hS x0 (by simp) (by simp) (by simp only [List.length_append, List.length_cons]; omega)) kc_X4_95 (by assumption) rfl rfl rfl rfl (Nat.le_of_ble_eq_true rfl) dX4_pushTail_106 (fun r_106 σ_106 I_106 hp_106 => ?_)
              obtain ⟨rfl, rfl, x1, x2⟩ := hp_106
              refine sj_iconst dX4_pushTail_109 ?_
              exact sj_iret dX4_pushTail_110 rfl (by decide) (Nat.le_of_ble_eq_true rfl) (Nat.le_of_ble_eq_true rfl) ⟨rfl, fun q hq => by rw [x1 q (by omega) (by omega), sj_up_row (by omega), sj_up_row (by omega)], by
                have e : (A ++ [u, 116]) ++ (116 :: (N' ++ C)) = A ++ ((u :: 116 :: 116 :: N') ++ C) := by simp
                rw [e] at x2
                exact Or.inl ⟨x2.2.1, rfl, x2⟩⟩
            · refine sj_iconst dX4_pushTail_65 ?_
              exact sj_iret dX4_pushTail_66 rfl (by decide) (Nat.le_of_ble_eq_true rfl) (Nat.le_of_ble_eq_true rfl) ⟨rfl, fun q hq => rfl, Or.inr ⟨by omega, rfl⟩⟩
          · rw [if_neg d5, if_neg d1] at hM
            cases hM
theorem cx4_apply {r : Nat} {L A M0 C M : List Int} {p : Int} (hS : rSh σ r) (h : rwl I r L) (he : rwe I r L) (hL : L = A ++ (M0 ++ C)) (hM0 : jOk 1 M0) (hM : jRoot M0 = some M) (hp : p = A.length) : sj_Con l yX4_apply mX4_apply G σ I [.ref r, .int (zI p)] (fun v σ' I' => σ = σ' ∧ rKp r I I' ∧ rOut r I' (A ++ (M ++ C)) v) := by
  obtain ⟨s0, s1, s2, s3⟩ := id hS
  obtain ⟨h1, h2, h3⟩ := id h
  obtain ⟨c, N, rfl, hvc, hN⟩ := jOk_ne hM0
  rw [Nat.zero_add] at hN
  have rc := jVc_rng hvc
  have har := jAr_cases c
  have hcc := h.cd (A := A) (c := c) (C := N ++ C) (by rw [hL]; simp)
  have hll : L.length = A.length + (1 + (N.length + C.length)) := by rw [hL]; simp only [List.length_append, List.length_cons]; omega
  rw [jRoot_cons] at hM
  subst hp
  refine sj_con_of (L0 := [some (.ref r), some (.int (zI (A.length : Int))), none]) (by decide) rfl rfl rfl (Nat.le_of_ble_eq_true rfl) rfl (fun Γ => ?_)
  by_cases c1 : c = 116
  · rw [if_pos c1] at hM
    subst c1
    rw [show jAr 116 = 1 by omega] at hN
    refine sj_ald0 dX4_apply_0 ?_
    refine sj_getR fl_X4_9 (by assumption) rfl (rR_0 _) dX4_apply_1 ?_
    refine sj_ild1 dX4_apply_4 ?_
    refine sj_ialdJ (A.length) (by assumption) (by omega) (by omega) (by omega) dX4_apply_5 ?_
    rw [hcc]
    refine sj_ist2 (by decide) rfl dX4_apply_6 ?_
    refine sj_ild2 dX4_apply_7 ?_
    refine sj_bipush dX4_apply_8 (by decide) ?_
    refine sj_icmp_ne 19 dX4_apply_10 (by decide) (by omega) (by omega) (fun c_10 => ?_) (fun c_10 => ?_)
    · (exfalso; omega)
    refine sj_ald0 dX4_apply_13 ?_
    refine sj_ild1 dX4_apply_14 ?_
    refine sj_callV (cx4_pushTail (A := A) (N := N) (C := C) (M := M) hS h he (by rw [hL]; simp) hN hM rfl) kc_X4_75 (by assumption) rfl rfl rfl rfl (Nat.le_of_ble_eq_true rfl) dX4_apply_15 (fun r_15 σ_15 I_15 hp_15 => ?_)
    obtain ⟨rfl, x1, x2⟩ := hp_15
    rcases x2 with ⟨y1, rfl, y2⟩ | ⟨y1, rfl⟩
    · exact sj_iret dX4_apply_18 rfl (by decide) (Nat.le_of_ble_eq_true rfl) (Nat.le_of_ble_eq_true rfl) ⟨rfl, x1, Or.inl ⟨y1, rfl, y2⟩⟩
    · exact sj_iret dX4_apply_18 rfl (by decide) (Nat.le_of_ble_eq_true rfl) (Nat.le_of_ble_eq_true rfl) ⟨rfl, x1, Or.inr ⟨y1, rfl⟩⟩
  · rw [if_neg c1] at hM
    by_cases c2 : c = 101 ∨ c = 111
    · rw [if_pos c2] at hM
      rw [show jAr c = 1 by omega] at hN
      obtain ⟨u, N', rfl, hvu, hN'⟩ := jOk_ne hN
      rw [Nat.zero_add] at hN'
      have ru := jVc_rng hvu
      have hau := jAr_cases u
      have hcu := h.cd (A := A ++ [c]) (c := u) (C := N' ++ C) (by rw [hL]; simp)
      rw [show (A ++ [c]).length = A.length + 1 by simp] at hcu
      simp only [List.length_cons] at hll
      have b2 := jbs (48 ≤ u ∧ u ≤ 57)
      rw [jRe_cons] at hM
      by_cases d1 : 48 ≤ u ∧ u ≤ 57
      · rw [if_pos d1] at hM
        cases hM
        rw [show jAr u = 0 by omega] at hN'
        have hn : N' = [] := by cases N' with | nil => rfl | cons a b => exact hN'.elim
        subst hn
        refine sj_ald0 dX4_apply_0 ?_
        refine sj_getR fl_X4_9 (by assumption) rfl (rR_0 _) dX4_apply_1 ?_
        refine sj_ild1 dX4_apply_4 ?_
        refine sj_ialdJ (A.length) (by assumption) (by omega) (by omega) (by omega) dX4_apply_5 ?_
        rw [hcc]
        refine sj_ist2 (by decide) rfl dX4_apply_6 ?_
        refine sj_ild2 dX4_apply_7 ?_
        refine sj_bipush dX4_apply_8 (by decide) ?_
        refine sj_icmp_ne 19 dX4_apply_10 (by decide) (by omega) (by omega) (fun c_10 => ?_) (fun c_10 => ?_)
        rotate_left
        · (exfalso; omega)
        refine sj_ild2 dX4_apply_19 ?_
        refine sj_bipush dX4_apply_20 (by decide) ?_
        refine sj_icmp_ne 41 dX4_apply_22 (by decide) (by omega) (by omega) (fun c_22 => ?_) (fun c_22 => ?_)
        rotate_left
        · (exfalso; omega)
        refine sj_ald0 dX4_apply_41 ?_
        refine sj_getR fl_X4_9 (by assumption) rfl (rR_0 _) dX4_apply_42 ?_
        refine sj_ild1 dX4_apply_45 ?_
        refine sj_iconst dX4_apply_46 ?_
        refine sj_iadd dX4_apply_47 ?_
        refine sj_ialdJ (A.length + 1) (by assumption) (by omega) (by omega) (by omega) dX4_apply_48 ?_
        rw [hcu]
        refine sj_callS (cx0_isDigit (by omega)) kc_X4_65 rfl rfl (Nat.le_of_ble_eq_true rfl) dX4_apply_49 (fun r_49 σ_49 I_49 hp_49 => ?_)
        obtain ⟨rfl, rfl, rfl⟩ := hp_49
        refine sj_if_eq 66 dX4_apply_52 (by decide) (by omega) (fun c_52 => ?_) (fun c_52 => ?_)
        · (exfalso; omega)
        refine sj_ald0 dX4_apply_55 ?_
        refine sj_ild1 dX4_apply_56 ?_
        refine sj_ild1 dX4_apply_57 ?_
        refine sj_iconst dX4_apply_58 ?_
        refine sj_iadd dX4_apply_59 ?_
        refine sj_callV (cx4_cut (A := A) (B := [c]) (C := [u] ++ C) hS h (by rw [hL]; simp) rfl rfl) kc_X4_82 (by assumption) rfl rfl rfl rfl (Nat.le_of_ble_eq_true rfl) dX4_apply_60 (fun r_60 σ_60 I_60 hp_60 => ?_)
        obtain ⟨rfl, rfl, x1, x2⟩ := hp_60
        refine sj_goto 101 dX4_apply_63 (by decide) ?_
        refine sj_iconst dX4_apply_101 ?_
        exact sj_iret dX4_apply_102 rfl (by decide) (Nat.le_of_ble_eq_true rfl) (Nat.le_of_ble_eq_true rfl) ⟨rfl, fun q hq => x1 q (by omega) (by omega), Or.inl ⟨x2.2.1, rfl, x2⟩⟩
      · rw [if_neg d1] at hM
        by_cases d2 : u = 122
        · subst d2
          rw [if_pos rfl] at hM
          cases hM
          rw [show jAr 122 = 2 by omega] at hN'
          obtain ⟨B, S, rfl, hb, hs, k1, k2⟩ := jOk_apart hN'
          rw [k1, k2]
          have hend := he.fin (A := A ++ [c, 122]) (M := B) (C := S ++ C) (by rw [hL]; simp) hb
          rw [show (A ++ [c, 122]).length = A.length + 2 by simp] at hend
          have hbl := jOk_len B 1 hb
          simp only [List.length_append] at hll
          by_cases c3 : c = 101
          · rw [if_pos c3]
            refine sj_ald0 dX4_apply_0 ?_
            refine sj_getR fl_X4_9 (by assumption) rfl (rR_0 _) dX4_apply_1 ?_
            refine sj_ild1 dX4_apply_4 ?_
            refine sj_ialdJ (A.length) (by assumption) (by omega) (by omega) (by omega) dX4_apply_5 ?_
            rw [hcc]
            refine sj_ist2 (by decide) rfl dX4_apply_6 ?_
            refine sj_ild2 dX4_apply_7 ?_
            refine sj_bipush dX4_apply_8 (by decide) ?_
            refine sj_icmp_ne 19 dX4_apply_10 (by decide) (by omega) (by omega) (fun c_10 => ?_) (fun c_10 => ?_)
            rotate_left
            · (exfalso; omega)
            refine sj_ild2 dX4_apply_19 ?_
            refine sj_bipush dX4_apply_20 (by decide) ?_
            refine sj_icmp_ne 41 dX4_apply_22 (by decide) (by omega) (by omega) (fun c_22 => ?_) (fun c_22 => ?_)
            rotate_left
            · (exfalso; omega)
            refine sj_ald0 dX4_apply_41 ?_
            refine sj_getR fl_X4_9 (by assumption) rfl (rR_0 _) dX4_apply_42 ?_
            refine sj_ild1 dX4_apply_45 ?_
            refine sj_iconst dX4_apply_46 ?_
            refine sj_iadd dX4_apply_47 ?_
            refine sj_ialdJ (A.length + 1) (by assumption) (by omega) (by omega) (by omega) dX4_apply_48 ?_
            rw [hcu]
            refine sj_callS (cx0_isDigit (by omega)) kc_X4_65 rfl rfl (Nat.le_of_ble_eq_true rfl) dX4_apply_49 (fun r_49 σ_49 I_49 hp_49 => ?_)
            obtain ⟨rfl, rfl, rfl⟩ := hp_49
            refine sj_if_eq 66 dX4_apply_52 (by decide) (by omega) (fun c_52 => ?_) (fun c_52 => ?_)
            rotate_left
            · (exfalso; omega)
            refine sj_ild2 dX4_apply_66 ?_
            refine sj_bipush dX4_apply_67 (by decide) ?_
            refine sj_icmp_ne 88 dX4_apply_69 (by decide) (by omega) (by omega) (fun c_69 => ?_) (fun c_69 => ?_)
            · (exfalso; omega)
            refine sj_ald0 dX4_apply_72 ?_
            refine sj_ild1 dX4_apply_73 ?_
            refine sj_ald0 dX4_apply_74 ?_
            refine sj_getR fl_X4_15 (by assumption) rfl (rR_1 _) dX4_apply_75 ?_
            refine sj_ild1 dX4_apply_78 ?_
            refine sj_iconst dX4_apply_79 ?_
            refine sj_iadd dX4_apply_80 ?_
            refine sj_ialdJ (A.length + 2) (by assumption) (by omega) (by omega) (by omega) dX4_apply_81 ?_
            rw [hend]
            refine sj_callV (cx4_keepFirst (A := A) (x := c) (y := 122) (B := B) (S := S) (C := C) hS h he (by rw [hL]; simp) hs rfl (by omega)) kc_X4_78 (by assumption) rfl rfl rfl rfl (Nat.le_of_ble_eq_true rfl) dX4_apply_82 (fun r_82 σ_82 I_82 hp_82 => ?_)
            obtain ⟨rfl, rfl, x1, x2⟩ := hp_82
            refine sj_goto 101 dX4_apply_85 (by decide) ?_
            refine sj_iconst dX4_apply_101 ?_
            exact sj_iret dX4_apply_102 rfl (by decide) (Nat.le_of_ble_eq_true rfl) (Nat.le_of_ble_eq_true rfl) ⟨rfl, fun q hq => x1 q (by omega) (by omega), Or.inl ⟨x2.2.1, rfl, x2⟩⟩
          · rw [if_neg c3]
            refine sj_ald0 dX4_apply_0 ?_
            refine sj_getR fl_X4_9 (by assumption) rfl (rR_0 _) dX4_apply_1 ?_
            refine sj_ild1 dX4_apply_4 ?_
            refine sj_ialdJ (A.length) (by assumption) (by omega) (by omega) (by omega) dX4_apply_5 ?_
            rw [hcc]
            refine sj_ist2 (by decide) rfl dX4_apply_6 ?_
            refine sj_ild2 dX4_apply_7 ?_
            refine sj_bipush dX4_apply_8 (by decide) ?_
            refine sj_icmp_ne 19 dX4_apply_10 (by decide) (by omega) (by omega) (fun c_10 => ?_) (fun c_10 => ?_)
            rotate_left
            · (exfalso; omega)
            refine sj_ild2 dX4_apply_19 ?_
            refine sj_bipush dX4_apply_20 (by decide) ?_
            refine sj_icmp_ne 41 dX4_apply_22 (by decide) (by omega) (by omega) (fun c_22 => ?_) (fun c_22 => ?_)
            rotate_left
            · (exfalso; omega)
            refine sj_ald0 dX4_apply_41 ?_
            refine sj_getR fl_X4_9 (by assumption) rfl (rR_0 _) dX4_apply_42 ?_
            refine sj_ild1 dX4_apply_45 ?_
            refine sj_iconst dX4_apply_46 ?_
            refine sj_iadd dX4_apply_47 ?_
            refine sj_ialdJ (A.length + 1) (by assumption) (by omega) (by omega) (by omega) dX4_apply_48 ?_
            rw [hcu]
            refine sj_callS (cx0_isDigit (by omega)) kc_X4_65 rfl rfl (Nat.le_of_ble_eq_true rfl) dX4_apply_49 (fun r_49 σ_49 I_49 hp_49 => ?_)
            obtain ⟨rfl, rfl, rfl⟩ := hp_49
            refine sj_if_eq 66 dX4_apply_52 (by decide) (by omega) (fun c_52 => ?_) (fun c_52 => ?_)
            rotate_left
            · (exfalso; omega)
            refine sj_ild2 dX4_apply_66 ?_
            refine sj_bipush dX4_apply_67 (by decide) ?_
            refine sj_icmp_ne 88 dX4_apply_69 (by decide) (by omega) (by omega) (fun c_69 => ?_) (fun c_69 => ?_)
            rotate_left
            · (exfalso; omega)
            refine sj_ald0 dX4_apply_88 ?_
            refine sj_ild1 dX4_apply_89 ?_
            refine sj_ald0 dX4_apply_90 ?_
            refine sj_getR fl_X4_15 (by assumption) rfl (rR_1 _) dX4_apply_91 ?_
            refine sj_ild1 dX4_apply_94 ?_
            refine sj_iconst dX4_apply_95 ?_
            refine sj_iadd dX4_apply_96 ?_
            refine sj_ialdJ (A.length + 2) (by assumption) (by omega) (by omega) (by omega) dX4_apply_97 ?_
            rw [hend]
            refine sj_callV (cx4_cut (A := A) (B := c :: 122 :: B) (C := S ++ C) hS h (by rw [hL]; simp) rfl (by simp only [List.length_cons]; omega)) kc_X4_82 (by assumption) rfl rfl rfl rfl (Nat.le_of_ble_eq_true rfl) dX4_apply_98 (fun r_98 σ_98 I_98 hp_98 => ?_)
            obtain ⟨rfl, rfl, x1, x2⟩ := hp_98
            refine sj_iconst dX4_apply_101 ?_
            exact sj_iret dX4_apply_102 rfl (by decide) (Nat.le_of_ble_eq_true rfl) (Nat.le_of_ble_eq_true rfl) ⟨rfl, fun q hq => x1 q (by omega) (by omega), Or.inl ⟨x2.2.1, rfl, x2⟩⟩
        · rw [if_neg d2] at hM
          cases hM
    · rw [if_neg c2] at hM
      by_cases c3 : c = 122
      · rw [if_pos c3] at hM
        subst c3
        rw [show jAr 122 = 2 by omega] at hN
        obtain ⟨B, S, rfl, hb, hs, k1, k2⟩ := jOk_apart hN
        unfold jRz at hM
        rw [k1, k2] at hM
        obtain ⟨b, B', rfl, hvb, hb2⟩ := jOk_ne hb
        obtain ⟨w, S', rfl, hvs, hs2⟩ := jOk_ne hs
        have hM2 : (if b = 101 ∧ w = 111 ∧ B' = S' then some B' else none) = some M := hM
        split at hM2
        · cases hM2
          have hend := he.fin (A := A ++ [122]) (M := b :: M) (C := (w :: S') ++ C) (by rw [hL]; simp) hb
          rw [show (A ++ ([122] : List Int)).length = A.length + 1 by simp] at hend
          simp only [List.length_append, List.length_cons] at hll hend
          refine sj_ald0 dX4_apply_0 ?_
          refine sj_getR fl_X4_9 (by assumption) rfl (rR_0 _) dX4_apply_1 ?_
          refine sj_ild1 dX4_apply_4 ?_
          refine sj_ialdJ (A.length) (by assumption) (by omega) (by omega) (by omega) dX4_apply_5 ?_
          rw [hcc]
          refine sj_ist2 (by decide) rfl dX4_apply_6 ?_
          refine sj_ild2 dX4_apply_7 ?_
          refine sj_bipush dX4_apply_8 (by decide) ?_
          refine sj_icmp_ne 19 dX4_apply_10 (by decide) (by omega) (by omega) (fun c_10 => ?_) (fun c_10 => ?_)
          rotate_left
          · (exfalso; omega)
          refine sj_ild2 dX4_apply_19 ?_
          refine sj_bipush dX4_apply_20 (by decide) ?_
          refine sj_icmp_ne 41 dX4_apply_22 (by decide) (by omega) (by omega) (fun c_22 => ?_) (fun c_22 => ?_)
          · (exfalso; omega)
          refine sj_ald0 dX4_apply_25 ?_
          refine sj_ild1 dX4_apply_26 ?_
          refine sj_ald0 dX4_apply_27 ?_
          refine sj_getR fl_X4_15 (by assumption) rfl (rR_1 _) dX4_apply_28 ?_
          refine sj_ild1 dX4_apply_31 ?_
          refine sj_iconst dX4_apply_32 ?_
          refine sj_iadd dX4_apply_33 ?_
          refine sj_ialdJ (A.length + 1) (by assumption) (by omega) (by omega) (by omega) dX4_apply_34 ?_
          rw [hend]
          refine sj_callV (cx4_keepFirst (A := A) (x := 122) (y := b) (B := M) (S := w :: S') (C := C) hS h he (by rw [hL]; simp) hs rfl (by omega)) kc_X4_78 (by assumption) rfl rfl rfl rfl (Nat.le_of_ble_eq_true rfl) dX4_apply_35 (fun r_35 σ_35 I_35 hp_35 => ?_)
          obtain ⟨rfl, rfl, x1, x2⟩ := hp_35
          refine sj_goto 101 dX4_apply_38 (by decide) ?_
          refine sj_iconst dX4_apply_101 ?_
          exact sj_iret dX4_apply_102 rfl (by decide) (Nat.le_of_ble_eq_true rfl) (Nat.le_of_ble_eq_true rfl) ⟨rfl, fun q hq => x1 q (by omega) (by omega), Or.inl ⟨x2.2.1, rfl, x2⟩⟩
        · cases hM2
      · rw [if_neg c3] at hM
        cases hM
theorem cx4_firstMatch {r : Nat} {L : List Int} (hS : rSh σ r) (h : rwl I r L) (he : rwe I r L) (hok : jOk 1 L) : sj_Con l yX4_firstMatch mX4_firstMatch G σ I [.ref r] (fun v σ' I' => σ = σ' ∧ I = I' ∧ ((jStep [] L = none ∧ v = some (.int (zI (-1)))) ∨ ∃ A M0 C M, L = A ++ (M0 ++ C) ∧ jOk 1 M0 ∧ jRoot M0 = some M ∧ jStep [] L = some (A ++ (M ++ C)) ∧ v = some (.int (zI A.length)))) := by
  obtain ⟨s0, s1, s2, s3⟩ := id hS
  obtain ⟨h1, h2, h3⟩ := id h
  have hv := jOk_vc L 1 hok
  refine sj_con_of (L0 := [some (.ref r), none]) (by decide) rfl rfl rfl (Nat.le_of_ble_eq_true rfl) rfl (fun Γ => ?_)
  have lp : ∀ (d k : Nat), k + d = L.length → jStep [] L = jStep (L.take k) (L.drop k) → sj_V l Γ mX4_firstMatch G (fun v σ' I' => σ = σ' ∧ I = I' ∧ ((jStep [] L = none ∧ v = some (.int (zI (-1)))) ∨ ∃ A M0 C M, L = A ++ (M0 ++ C) ∧ jOk 1 M0 ∧ jRoot M0 = some M ∧ jStep [] L = some (A ++ (M ++ C)) ∧ v = some (.int (zI A.length)))) σ I 0 0 2 [some (.ref r), some (.int (zI k))] [] := by
    intro d
    induction d with
    | zero =>
      intro k hk hj
      rw [List.drop_eq_nil_of_le (by omega)] at hj
      refine sj_ild1 dX4_firstMatch_2 ?_
      refine sj_ald0 dX4_firstMatch_3 ?_
      refine sj_getI fl_X4_33 (by assumption) rfl dX4_firstMatch_4 ?_
      rw [h1]
      refine sj_icmp_ge 26 dX4_firstMatch_7 (by decide) (by omega) (by omega) (fun c_7 => ?_) (fun c_7 => ?_)
      rotate_left
      · (exfalso; omega)
      refine sj_iconst dX4_firstMatch_26 ?_
      exact sj_iret dX4_firstMatch_27 rfl rfl (Nat.le_of_ble_eq_true rfl) (Nat.le_of_ble_eq_true rfl) ⟨rfl, rfl, Or.inl ⟨hj, rfl⟩⟩
    | succ d ih =>
      intro k hk hj
      obtain ⟨c, N, hd, hc, hd2, hcm⟩ := dropEx (T := L) (k := k) (by omega)
      obtain ⟨m, hm⟩ := jOk_drop k L 1 hok (by omega)
      have hm1 : jOk 1 (jTk 1 (L.drop k)) := by
        cases m with
        | zero => rw [hd] at hm; exact hm.elim
        | succ m => exact (jOk_split (L.drop k) 1 m (by rw [Nat.add_comm 1]; exact hm)).1
      have hsp : L = L.take k ++ (jTk 1 (L.drop k) ++ jDr 1 (L.drop k)) := by rw [jTkDr, List.take_append_drop]
      have hlk : (L.take k).length = k := by rw [List.length_take]; omega
      have bm := jbs ((jRoot (jTk 1 (L.drop k))).isSome = true)
      refine sj_ild1 dX4_firstMatch_2 ?_
      refine sj_ald0 dX4_firstMatch_3 ?_
      refine sj_getI fl_X4_33 (by assumption) rfl dX4_firstMatch_4 ?_
      rw [h1]
      refine sj_icmp_ge 26 dX4_firstMatch_7 (by decide) (by omega) (by omega) (fun c_7 => ?_) (fun c_7 => ?_)
      · (exfalso; omega)
      refine sj_ald0 dX4_firstMatch_10 ?_
      refine sj_ild1 dX4_firstMatch_11 ?_
      refine sj_callV (cx4_matches (A := L.take k) (M := jTk 1 (L.drop k)) (C := jDr 1 (L.drop k)) hS h he hv hsp hm1 (by rw [hlk])) kc_X4_59 (by assumption) rfl rfl rfl rfl (Nat.le_of_ble_eq_true rfl) dX4_firstMatch_12 (fun r_12 σ_12 I_12 hp_12 => ?_)
      obtain ⟨rfl, rfl, rfl⟩ := hp_12
      refine sj_if_eq 20 dX4_firstMatch_15 (by decide) (by omega) (fun c_15 => ?_) (fun c_15 => ?_)
      · refine sj_inc1 (by decide) rfl dX4_firstMatch_20 ?_
        refine sj_goto 2 dX4_firstMatch_23 (by decide) ?_
        exact ih (k + 1) (by omega) (by
          have hnone : jRoot (jTk 1 (c :: N)) = none := by
            rw [← hd]
            cases e : jRoot (jTk 1 (L.drop k)) with
            | none => rfl
            | some M => exact absurd (show (jRoot (jTk 1 (L.drop k))).isSome = true by rw [e]; rfl) (jb0 (by omega))
          rw [hj, hd, jStep_none hnone, hd2, take_one (d := 0) (by omega), hc])
      · refine sj_ild1 dX4_firstMatch_18 ?_
        obtain ⟨M, hM⟩ := Option.isSome_iff_exists.mp (jb1 (P := (jRoot (jTk 1 (L.drop k))).isSome = true) (by omega))
        exact sj_iret dX4_firstMatch_19 rfl rfl (Nat.le_of_ble_eq_true rfl) (Nat.le_of_ble_eq_true rfl) ⟨rfl, rfl, Or.inr ⟨L.take k, jTk 1 (L.drop k), jDr 1 (L.drop k), M, hsp, hm1, hM, by rw [hj, hd, jStep_some (by rw [← hd]; exact hM)], by rw [hlk]⟩⟩
  refine sj_iconst dX4_firstMatch_0 ?_
  refine sj_ist1 (by decide) rfl dX4_firstMatch_1 ?_
  exact lp L.length 0 (by omega) rfl
theorem cx4_applyAll {r : Nat} {T : List Int} (hS : rSh σ r) (h : rwl I r T) (hok : jOk 1 T) : sj_Con l yX4_applyAll mX4_applyAll G σ I [.ref r] (fun v σ' I' => σ = σ' ∧ rKp r I I' ∧ ((jSi 1000000 T = none ∧ v = some (.int (zI (-3)))) ∨ ∃ n U, jSi 1000000 T = some (n, U) ∧ n ≤ 1000000 ∧ v = some (.int (zI n)) ∧ rwl I' r U ∧ jOk 1 U)) := by
  obtain ⟨s0, s1, s2, s3⟩ := id hS
  have hter := jTer_all hok h.2.1
  refine sj_con_of (L0 := [some (.ref r), none, none]) (by decide) rfl rfl rfl (Nat.le_of_ble_eq_true rfl) rfl (fun Γ => ?_)
  have lp : ∀ (d k : Nat) (U : List Int) (J : sjI), k + d = 1000000 → rKp r I J → rwl J r U → jOk 1 U → jTer d U → (jSi 1000000 T = (jSi d U).map (fun q => (q.1 + k, q.2))) → sj_V l Γ mX4_applyAll G (fun v σ' I' => σ = σ' ∧ rKp r I I' ∧ ((jSi 1000000 T = none ∧ v = some (.int (zI (-3)))) ∨ ∃ n U, jSi 1000000 T = some (n, U) ∧ n ≤ 1000000 ∧ v = some (.int (zI n)) ∧ rwl I' r U ∧ jOk 1 U)) σ J 0 0 2 [some (.ref r), some (.int (zI k)), none] [] := by
    intro d
    induction d with
    | zero =>
      intro k U J hk hJ hU hokU ht hsi
      have hsi2 : jSi 1000000 T = some (0 + k, U) := hsi
      refine sj_ild1 dX4_applyAll_2 ?_
      refine sj_ldc kd_X4_44 dX4_applyAll_3 ?_
      refine sj_icmp_ge 51 dX4_applyAll_5 (by decide) (by omega) (by omega) (fun c_5 => ?_) (fun c_5 => ?_)
      rotate_left
      · (exfalso; omega)
      refine sj_ldc kd_X4_44 dX4_applyAll_51 ?_
      exact sj_iret dX4_applyAll_53 rfl rfl (Nat.le_of_ble_eq_true rfl) (Nat.le_of_ble_eq_true rfl) ⟨rfl, hJ, Or.inr ⟨k, U, by rw [hsi2, Nat.zero_add], by omega, by rw [show k = 1000000 by omega]; rfl, hU, hokU⟩⟩
    | succ d ih =>
      intro k U J hk hJ hU hokU ht hsi
      have stop : ∀ K : sjI, rKp r I K → rwl K r U → jStep [] U = none → sj_V l Γ mX4_applyAll G (fun v σ' I' => σ = σ' ∧ rKp r I I' ∧ ((jSi 1000000 T = none ∧ v = some (.int (zI (-3)))) ∨ ∃ n U, jSi 1000000 T = some (n, U) ∧ n ≤ 1000000 ∧ v = some (.int (zI n)) ∧ rwl I' r U ∧ jOk 1 U)) σ K 0 0 27 [some (.ref r), some (.int (zI k)), none] [.int (zI (-1))] := by
        intro K hK hKU hn
        rw [jSi_none hn] at hsi
        have hsi2 : jSi 1000000 T = some (0 + k, U) := hsi
        refine sj_ist2 (by decide) rfl dX4_applyAll_27 ?_
        refine sj_ild2 dX4_applyAll_28 ?_
        refine sj_if_ge 34 dX4_applyAll_29 (by decide) (by omega) (fun c_29 => ?_) (fun c_29 => ?_)
        · (exfalso; omega)
        refine sj_ild1 dX4_applyAll_32 ?_
        exact sj_iret dX4_applyAll_33 rfl rfl (Nat.le_of_ble_eq_true rfl) (Nat.le_of_ble_eq_true rfl) ⟨rfl, hK, Or.inr ⟨k, U, by rw [hsi2, Nat.zero_add], by omega, rfl, hKU, hokU⟩⟩
      have more : ∀ (K : sjI) (A M0 C M : List Int), rKp r I K → rwl K r U → rwe K r U → U = A ++ (M0 ++ C) → jOk 1 M0 → jRoot M0 = some M → jStep [] U = some (A ++ (M ++ C)) → sj_V l Γ mX4_applyAll G (fun v σ' I' => σ = σ' ∧ rKp r I I' ∧ ((jSi 1000000 T = none ∧ v = some (.int (zI (-3)))) ∨ ∃ n U, jSi 1000000 T = some (n, U) ∧ n ≤ 1000000 ∧ v = some (.int (zI n)) ∧ rwl I' r U ∧ jOk 1 U)) σ K 0 0 27 [some (.ref r), some (.int (zI k)), none] [.int (zI A.length)] := by
        intro K A M0 C M hK hKU hKe hsp hM0 hM hst
        have hal : A.length ≤ 120 := by
          have := congrArg List.length hsp
          rw [List.length_append] at this
          have := hKU.2.1
          omega
        refine sj_ist2 (by decide) rfl dX4_applyAll_27 ?_
        refine sj_ild2 dX4_applyAll_28 ?_
        refine sj_if_ge 34 dX4_applyAll_29 (by decide) (by omega) (fun c_29 => ?_) (fun c_29 => ?_)
        rotate_left
        · (exfalso; omega)
        refine sj_ald0 dX4_applyAll_34 ?_
        refine sj_ild2 dX4_applyAll_35 ?_
        refine sj_callV (cx4_apply (A := A) (M0 := M0) (C := C) (M := M) hS hKU hKe hsp hM0 hM rfl) kc_X4_55 (by assumption) rfl rfl rfl rfl (Nat.le_of_ble_eq_true rfl) dX4_applyAll_36 (fun r_36 σ_36 I_36 hp_36 => ?_)
        obtain ⟨rfl, x1, x2⟩ := hp_36
        have hK2 : rKp r I I_36 := fun q hq => by rw [x1 q hq]; exact hK q hq
        rcases x2 with ⟨y1, rfl, y2⟩ | ⟨y1, rfl⟩
        · refine sj_if_ne 45 dX4_applyAll_39 (by decide) (by omega) (fun c_39 => ?_) (fun c_39 => ?_)
          · refine sj_inc1 (by decide) rfl dX4_applyAll_45 ?_
            refine sj_goto 2 dX4_applyAll_48 (by decide) ?_
            obtain ⟨m, hm1, hm2⟩ := jTer_some ht hst
            have hdm : d = m := by omega
            subst hdm
            refine sj_fg2 (ih (k + 1) (A ++ (M ++ C)) I_36 (by omega) hK2 y2 (jStep_ok hokU hst).1 (by rcases hm2 with q | q; omega; exact q) ?_)
            rw [hsi, jSi_some hst (by omega), Option.map_map]
            congr 1
            funext q
            show (q.1 + 1 + k, q.2) = (q.1 + (k + 1), q.2)
            rw [show q.1 + 1 + k = q.1 + (k + 1) by omega]
          · exfalso; omega
        · refine sj_if_ne 45 dX4_applyAll_39 (by decide) (by omega) (fun c_39 => ?_) (fun c_39 => ?_)
          · exfalso; omega
          · refine sj_bipush dX4_applyAll_42 (by decide) ?_
            exact sj_iret dX4_applyAll_44 rfl rfl (Nat.le_of_ble_eq_true rfl) (Nat.le_of_ble_eq_true rfl) ⟨rfl, hK2, Or.inl ⟨by rw [hsi, jSi_full hst y1]; rfl, rfl⟩⟩
      refine sj_ild1 dX4_applyAll_2 ?_
      refine sj_ldc kd_X4_44 dX4_applyAll_3 ?_
      refine sj_icmp_ge 51 dX4_applyAll_5 (by decide) (by omega) (by omega) (fun c_5 => ?_) (fun c_5 => ?_)
      · (exfalso; omega)
      refine sj_ald0 dX4_applyAll_8 ?_
      refine sj_getR fl_X4_9 (by assumption) rfl (rR_0 _) dX4_applyAll_9 ?_
      refine sj_ald0 dX4_applyAll_12 ?_
      refine sj_getI fl_X4_33 (by assumption) rfl dX4_applyAll_13 ?_
      rw [hU.1]
      refine sj_ald0 dX4_applyAll_16 ?_
      refine sj_getR fl_X4_15 (by assumption) rfl (rR_1 _) dX4_applyAll_17 ?_
      refine sj_callS (cx0_findEnds (a := r + 1) (e := r + 2) (n0 := 120) (n1 := 120) (T := U) s1 s2 (by omega) hU.2.2 hokU ⟨hU.2.1, by decide⟩ ⟨hU.2.1, by decide⟩) kc_X4_45 rfl rfl (Nat.le_of_ble_eq_true rfl) dX4_applyAll_20 (fun r_20 σ_20 I_20 hp_20 => ?_)
      obtain ⟨rfl, rfl, x1, x2⟩ := hp_20
      have hU2 : rwl I_20 r U := ⟨by rw [x1 r (by omega)]; exact hU.1, hU.2.1, by rw [x1 (r + 1) (by omega)]; exact hU.2.2⟩
      have hJ2 : rKp r I I_20 := fun q hq => by rw [x1 q (by omega)]; exact hJ q hq
      refine sj_ald0 dX4_applyAll_23 ?_
      refine sj_callV (cx4_firstMatch hS hU2 x2 hokU) kc_X4_51 (by assumption) rfl rfl rfl rfl (Nat.le_of_ble_eq_true rfl) dX4_applyAll_24 (fun r_24 σ_24 I_24 hp_24 => ?_)
      obtain ⟨rfl, rfl, y⟩ := hp_24
      rcases y with ⟨y1, rfl⟩ | ⟨A, M0, C, M, y1, y2, y3, y4, rfl⟩
      · exact stop _ hJ2 hU2 y1
      · exact more _ A M0 C M hJ2 hU2 x2 y1 y2 y3 y4
  refine sj_iconst dX4_applyAll_0 ?_
  refine sj_ist1 (by decide) rfl dX4_applyAll_1 ?_
  exact lp 1000000 0 T I (by omega) (fun q hq => rfl) h hok hter (by
    cases jSi 1000000 T with
    | none => rfl
    | some q => rfl)
end REWRITE3
