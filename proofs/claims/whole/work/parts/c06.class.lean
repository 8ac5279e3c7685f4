/-! rewriting in the class -/
def rρ (r : Nat) : Nat → Option Nat := sj_ru (sj_ru (sj_ru (fun _ => none) 0 (some (r + 1))) 1 (some (r + 2))) 2 (some (r + 3))
theorem rR_0 (r : Nat) : rρ r 0 = some (r + 1) := rfl
theorem rR_1 (r : Nat) : rρ r 1 = some (r + 2) := rfl
theorem rR_2 (r : Nat) : rρ r 2 = some (r + 3) := rfl
def rSh (σ : sjS) (r : Nat) : Prop := σ.2 r = some (3, 0, rρ r) ∧ σ.2 (r + 1) = some (10, 120, fun _ => none) ∧ σ.2 (r + 2) = some (10, 120, fun _ => none) ∧ σ.2 (r + 3) = some (10, 120, fun _ => none)
/-- the codes that are worked on -/
def rwl (I : sjI) (r : Nat) (L : List Int) : Prop := I r 3 = L.length ∧ L.length ≤ 120 ∧ lst (I (r + 1)) 0 L.length = L
theorem jEe_app {A M C : List Int} (h : jOk 1 M) : jEe (A ++ (M ++ C)) A.length = A.length + M.length := by
  unfold jEe
  rw [List.drop_left, (jTk_app M C 1 h).1]
/-- the ends are there -/
def rwe (I : sjI) (r : Nat) (L : List Int) : Prop := ∀ p, p < L.length → I (r + 2) p = (jEe L p : Nat)
theorem rwe.fin {I : sjI} {r : Nat} {L A M C : List Int} (h : rwe I r L) (hL : L = A ++ (M ++ C)) (hM : jOk 1 M) : I (r + 2) A.length = A.length + M.length := by
  have hl := jOk_len M 1 hM
  rw [h A.length (by rw [hL]; simp only [List.length_append]; omega), hL, jEe_app hM]
  omega
theorem rwl.cd {I : sjI} {r : Nat} {L A C : List Int} {c : Int} (h : rwl I r L) (hL : L = A ++ (c :: C)) : I (r + 1) A.length = c := by
  have e := lst_both (A := A) (B := c :: C) (f := I (r + 1)) (k := 0) (by rw [← hL]; exact h.2.2)
  have := (lst_head e.2).1
  rw [Nat.zero_add] at this
  exact this
section REWRITE1
variable {l : Launch} {G : sjG} {σ : sjS} {I : sjI}
theorem cx4_init {r : Nat} (hr : σ.2 r = some (3, 0, fun _ => none)) (hr1 : σ.1 = r + 1) : sj_Con l yX4_init mX4_init G σ I [.ref r] (fun v σ' I' => v = none ∧ σ'.1 = r + 4 ∧ (∀ q, q < r → σ'.2 q = σ.2 q ∧ I' q = I q) ∧ rSh σ' r) := by
  refine sj_con_of (L0 := [some (.ref r)]) (by decide) rfl rfl rfl (Nat.le_of_ble_eq_true rfl) rfl (fun Γ => ?_)
  obtain ⟨s1, f⟩ := σ
  simp only at hr hr1
  subst hr1
  refine sj_ald0 dX4_init_0 ?_
  refine sj_oinit km_X4_3 wo_init.1 wo_init.2 (by decide) (by decide) dX4_init_1 ?_
  refine sj_ald0 dX4_init_4 ?_
  refine sj_bipush dX4_init_5 (by decide) ?_
  refine sj_newI wd_102 dX4_init_7 (by decide) (Nat.le_of_ble_eq_true rfl) (Nat.le_of_ble_eq_true rfl) ?_
  refine sj_putRF fl_X4_9 (by rw [sj_nw_ne (by show r ≠ r + 1; omega)]; exact hr) rfl rfl rfl rfl (fun q h => by cases h; rfl) dX4_init_9 ?_
  refine sj_ald0 dX4_init_12 ?_
  refine sj_bipush dX4_init_13 (by decide) ?_
  refine sj_newI wd_102 dX4_init_15 (by decide) (Nat.le_of_ble_eq_true rfl) (Nat.le_of_ble_eq_true rfl) ?_
  refine sj_putRF fl_X4_15 (by rw [sj_nw_ne (by show r ≠ r + 1 + 1; omega)]; exact sj_us_self _ _ _) rfl rfl rfl rfl (fun q h => by cases h; rfl) dX4_init_17 ?_
  refine sj_ald0 dX4_init_20 ?_
  refine sj_bipush dX4_init_21 (by decide) ?_
  refine sj_newI wd_102 dX4_init_23 (by decide) (Nat.le_of_ble_eq_true rfl) (Nat.le_of_ble_eq_true rfl) ?_
  refine sj_putRF fl_X4_18 (by rw [sj_nw_ne (by show r ≠ r + 1 + 1 + 1; omega)]; exact sj_us_self _ _ _) rfl rfl rfl rfl (fun q h => by cases h; rfl) dX4_init_25 ?_
  exact sj_vret dX4_init_28 rfl (Nat.le_of_ble_eq_true rfl) (Nat.le_of_ble_eq_true rfl) ⟨rfl, rfl, fun q hq => ⟨by simp only [sj_us, sj_nw]; rw [if_neg (by omega), if_neg (by omega), if_neg (by omega), if_neg (by omega), if_neg (by omega), if_neg (by omega)], by rw [sj_ur_ne (by show q ≠ r + 3; omega), sj_ur_ne (by show q ≠ r + 2; omega), sj_ur_ne (by show q ≠ r + 1; omega)]⟩, by simp [sj_nw, sj_us]; rfl, by simp [sj_nw, sj_us], by simp [sj_nw, sj_us], by simp [sj_nw, sj_us]⟩
theorem cx4_load {r t : Nat} {T : List Int} (hS : rSh σ r) (h : tm σ I t T) : sj_Con l yX4_load mX4_load G σ I [.ref r, .ref t] (fun v σ' I' => v = none ∧ σ = σ' ∧ (∀ q, q ≠ r → q ≠ r + 1 → I' q = I q) ∧ rwl I' r T) := by
  obtain ⟨s0, s1, s2, s3⟩ := hS
  obtain ⟨t0, t1, t2, t3⟩ := h.1
  have hn := h.2.2.2.2.2.2
  have n1 : t ≠ r := fun q => by rw [q, s0] at t0; cases t0
  have n2 : t + 1 ≠ r := fun q => by rw [q, s0] at t1; cases t1
  have n3 : t ≠ r + 1 := fun q => by rw [q, s1] at t0; cases t0
  have hmin : min (T.length : Int) 120 = T.length := by omega
  refine sj_con_of (L0 := [some (.ref r), some (.ref t)]) (by decide) rfl rfl rfl (Nat.le_of_ble_eq_true rfl) rfl (fun Γ => ?_)
  refine sj_ald0 dX4_load_0 ?_
  refine sj_ald1 dX4_load_1 ?_
  refine sj_getI fl_X4_21 (by assumption) rfl dX4_load_2 ?_
  rw [h.2.1]
  refine sj_bipush dX4_load_5 (by decide) ?_
  refine sj_min km_X4_27 wo_min.1 wo_min.2.1 wo_min.2.2 (by decide) (Nat.le_of_ble_eq_true rfl) (Nat.le_of_ble_eq_true rfl) (Nat.le_of_ble_eq_true rfl) (by omega) (by omega) dX4_load_7 ?_
  rw [hmin]
  refine sj_putI fl_X4_33 (by assumption) rfl rfl rfl dX4_load_10 ?_
  refine sj_ald1 dX4_load_13 ?_
  refine sj_getR fl_X4_34 (by assumption) rfl (tR_1 _) dX4_load_14 ?_
  refine sj_iconst dX4_load_17 ?_
  refine sj_ald0 dX4_load_18 ?_
  refine sj_getR fl_X4_9 (by assumption) rfl (rR_0 _) dX4_load_19 ?_
  refine sj_iconst dX4_load_22 ?_
  refine sj_ald0 dX4_load_23 ?_
  refine sj_getI fl_X4_33 (by assumption) rfl dX4_load_24 ?_
  rw [sj_up_self]
  refine sj_acopy km_X4_35 wo_acopy.1 wo_acopy.2.1 wo_acopy.2.2 (by assumption) (by assumption) (by omega) (by omega) (by omega) (by decide) (Nat.le_of_ble_eq_true rfl) dX4_load_27 ?_
  exact sj_vret dX4_load_30 rfl (Nat.le_of_ble_eq_true rfl) (Nat.le_of_ble_eq_true rfl) ⟨rfl, rfl, fun q e1 e2 => by rw [sj_ur_ne e2, sj_up_row e1], by rw [sj_ur_ne (by omega), sj_up_self], hn, by
    rw [sj_ur_self, sj_up_row (by omega)]
    exact lst_as h.2.2.1 (fun j hj => cpy_in hj)⟩
theorem cx4_result {r : Nat} {T : List Int} (hS : rSh σ r) (h : rwl I r T) (hok : jOk 1 T) : sj_Con l yX4_result mX4_result G σ I [.ref r] (fun v σ' I' => v = some (.ref σ.1) ∧ σ'.1 = σ.1 + 4 ∧ (∀ q, q < σ.1 → σ'.2 q = σ.2 q ∧ I' q = I q) ∧ tm σ' I' σ.1 T) := by
  obtain ⟨s0, s1, s2, s3⟩ := hS
  refine sj_con_of (L0 := [some (.ref r)]) (by decide) rfl rfl rfl (Nat.le_of_ble_eq_true rfl) rfl (fun Γ => ?_)
  refine sj_wfV (fun hwf => ?_)
  have w0 := hwf _ _ s0
  have w1 := hwf _ _ s1
  have hn := h.2.1
  have q0 : (sj_nw σ (4, 0, fun _ => none)).2 r = some (3, 0, rρ r) := by rw [sj_nw_ne (by omega)]; exact s0
  refine sj_new (κ := 4) rfl kl_X4_22 wi_4 wz_4 dX4_result_0 (Nat.le_of_ble_eq_true rfl) (Nat.le_of_ble_eq_true rfl) ?_
  refine sj_dup dX4_result_3 rfl ?_
  refine sj_ald0 dX4_result_4 ?_
  refine sj_getR fl_X4_9 (by assumption) rfl (rR_0 _) dX4_result_5 ?_
  refine sj_ald0 dX4_result_8 ?_
  refine sj_getI fl_X4_33 (by assumption) rfl dX4_result_9 ?_
  rw [sj_ur_ne (by omega), h.1]
  refine sj_callI (cx5_init (t := σ.1) (a := r + 1) (n0 := 120) (T := T) (sj_nw_self _ _) rfl (by rw [sj_nw_ne (by omega)]; exact s1) (by rw [sj_ur_ne (by omega)]; exact h.2.2) hok (by omega) hn) kc_X4_41 rfl rfl (Nat.le_of_ble_eq_true rfl) dX4_result_12 (fun r_12 σ_12 I_12 hp_12 => ?_)
  obtain ⟨rfl, x1, x2, x3⟩ := hp_12
  exact sj_aret dX4_result_15 rfl (Or.inl ⟨_, rfl⟩) (Or.inr ⟨_, rfl⟩) (Nat.le_of_ble_eq_true rfl) (Nat.le_of_ble_eq_true rfl) ⟨rfl, x1, fun q hq => ⟨by rw [(x2 q hq).1, sj_nw_ne (by omega)], by rw [(x2 q hq).2, sj_ur_ne (by omega)]⟩, x3⟩
theorem cx4_cut {r : Nat} {L A B C : List Int} {f t : Int} (hS : rSh σ r) (h : rwl I r L) (hL : L = A ++ (B ++ C)) (hf : f = A.length) (ht : t = A.length + B.length) : sj_Con l yX4_cut mX4_cut G σ I [.ref r, .int (zI f), .int (zI t)] (fun v σ' I' => v = none ∧ σ = σ' ∧ (∀ q, q ≠ r → q ≠ r + 1 → I' q = I q) ∧ rwl I' r (A ++ C)) := by
  obtain ⟨s0, s1, s2, s3⟩ := hS
  obtain ⟨h1, h2, h3⟩ := h
  have hl : L.length = A.length + (B.length + C.length) := by rw [hL, List.length_append, List.length_append]
  rw [hL] at h3
  obtain ⟨e1, e2⟩ := lst_both h3
  obtain ⟨e3, e4⟩ := lst_both e2
  subst hf ht
  refine sj_con_of (L0 := [some (.ref r), some (.int (zI (A.length : Int))), some (.int (zI ((A.length : Int) + B.length)))]) (by decide) rfl rfl rfl (Nat.le_of_ble_eq_true rfl) rfl (fun Γ => ?_)
  refine sj_ald0 dX4_cut_0 ?_
  refine sj_getR fl_X4_9 (by assumption) rfl (rR_0 _) dX4_cut_1 ?_
  refine sj_ild2 dX4_cut_4 ?_
  refine sj_ald0 dX4_cut_5 ?_
  refine sj_getR fl_X4_9 (by assumption) rfl (rR_0 _) dX4_cut_6 ?_
  refine sj_ild1 dX4_cut_9 ?_
  refine sj_ald0 dX4_cut_10 ?_
  refine sj_getI fl_X4_33 (by assumption) rfl dX4_cut_11 ?_
  rw [h1, show (L.length : Int) = A.length + B.length + C.length by omega]
  refine sj_ild2 dX4_cut_14 ?_
  refine sj_isub dX4_cut_15 ?_
  rw [show ((A.length : Int) + B.length + C.length - (A.length + B.length)) = C.length by omega]
  refine sj_acopy km_X4_35 wo_acopy.1 wo_acopy.2.1 wo_acopy.2.2 (by assumption) (by assumption) (by omega) (by omega) (by omega) (by decide) (Nat.le_of_ble_eq_true rfl) dX4_cut_16 ?_
  refine sj_ald0 dX4_cut_19 ?_
  refine sj_dup dX4_cut_20 rfl ?_
  refine sj_getI fl_X4_33 (by assumption) rfl dX4_cut_21 ?_
  rw [sj_ur_ne (by omega), h1]
  refine sj_ild2 dX4_cut_24 ?_
  refine sj_ild1 dX4_cut_25 ?_
  refine sj_isub dX4_cut_26 ?_
  refine sj_isub dX4_cut_27 ?_
  refine sj_putI fl_X4_33 (by assumption) rfl rfl rfl dX4_cut_28 ?_
  exact sj_vret dX4_cut_31 rfl (Nat.le_of_ble_eq_true rfl) (Nat.le_of_ble_eq_true rfl) ⟨rfl, rfl, fun q q1 q2 => by rw [sj_up_row q1, sj_ur_ne q2], by rw [sj_up_self, List.length_append]; omega, by rw [List.length_append]; omega, by
    rw [sj_up_row (by omega), sj_ur_self]
    refine lst_join ?_ ?_
    · exact lst_as e1 (fun j hj => cpy_out (Or.inl (by rw [Nat.zero_add]; exact hj)))
    · exact lst_as e4 (fun j hj => by
        rw [Nat.zero_add]
        exact cpy_in hj)⟩
theorem cx4_putTail {r : Nat} {L A C : List Int} {p : Int} (hS : rSh σ r) (h : rwl I r L) (hL : L = A ++ C) (hp : p = A.length) (hl : L.length < 120) : sj_Con l yX4_putTail mX4_putTail G σ I [.ref r, .int (zI p)] (fun v σ' I' => v = none ∧ σ = σ' ∧ (∀ q, q ≠ r → q ≠ r + 1 → I' q = I q) ∧ rwl I' r (A ++ (116 :: C))) := by
  obtain ⟨s0, s1, s2, s3⟩ := hS
  obtain ⟨h1, h2, h3⟩ := h
  have hll : L.length = A.length + C.length := by rw [hL, List.length_append]
  rw [hL] at h3
  obtain ⟨e1, e2⟩ := lst_both h3
  subst hp
  refine sj_con_of (L0 := [some (.ref r), some (.int (zI (A.length : Int)))]) (by decide) rfl rfl rfl (Nat.le_of_ble_eq_true rfl) rfl (fun Γ => ?_)
  refine sj_ald0 dX4_putTail_0 ?_
  refine sj_getR fl_X4_9 (by assumption) rfl (rR_0 _) dX4_putTail_1 ?_
  refine sj_ild1 dX4_putTail_4 ?_
  refine sj_ald0 dX4_putTail_5 ?_
  refine sj_getR fl_X4_9 (by assumption) rfl (rR_0 _) dX4_putTail_6 ?_
  refine sj_ild1 dX4_putTail_9 ?_
  refine sj_iconst dX4_putTail_10 ?_
  refine sj_iadd dX4_putTail_11 ?_
  refine sj_ald0 dX4_putTail_12 ?_
  refine sj_getI fl_X4_33 (by assumption) rfl dX4_putTail_13 ?_
  rw [h1, show (L.length : Int) = A.length + C.length by omega]
  refine sj_ild1 dX4_putTail_16 ?_
  refine sj_isub dX4_putTail_17 ?_
  rw [show ((A.length : Int) + C.length - A.length) = C.length by omega]
  refine sj_acopy km_X4_35 wo_acopy.1 wo_acopy.2.1 wo_acopy.2.2 (by assumption) (by assumption) (by omega) (by omega) (by omega) (by decide) (Nat.le_of_ble_eq_true rfl) dX4_putTail_18 ?_
  refine sj_ald0 dX4_putTail_21 ?_
  refine sj_getR fl_X4_9 (by assumption) rfl (rR_0 _) dX4_putTail_22 ?_
  refine sj_ild1 dX4_putTail_25 ?_
  refine sj_bipush dX4_putTail_26 (by decide) ?_
  refine sj_iastJ (A.length) (by assumption) (by omega) (by omega) (by omega) dX4_putTail_28 ?_
  refine sj_ald0 dX4_putTail_29 ?_
  refine sj_dup dX4_putTail_30 rfl ?_
  refine sj_getI fl_X4_33 (by assumption) rfl dX4_putTail_31 ?_
  rw [sj_up_ne (by omega), sj_ur_ne (by omega), h1]
  refine sj_iconst dX4_putTail_34 ?_
  refine sj_iadd dX4_putTail_35 ?_
  refine sj_putI fl_X4_33 (by assumption) rfl rfl rfl dX4_putTail_36 ?_
  exact sj_vret dX4_putTail_39 rfl (Nat.le_of_ble_eq_true rfl) (Nat.le_of_ble_eq_true rfl) ⟨rfl, rfl, fun q q1 q2 => by rw [sj_up_row q1, sj_up_row q2, sj_ur_ne q2], by rw [sj_up_self, List.length_append, List.length_cons]; omega, by rw [List.length_append, List.length_cons]; omega, by
    rw [sj_up_row (by omega)]
    refine lst_join ?_ (lst_con ?_ ?_)
    · exact lst_as e1 (fun j hj => by rw [sj_up_ne (by omega), sj_ur_self]; exact cpy_out (Or.inl (by show 0 + j < A.length + 1; omega)))
    · rw [Nat.zero_add, sj_up_self]
    · exact lst_as e2 (fun j hj => by
        rw [sj_up_ne (by omega), sj_ur_self, Nat.zero_add]
        exact cpy_in hj)⟩
theorem cx4_keepFirst {r : Nat} {L A B S C : List Int} {x y : Int} {p s : Int} (hS : rSh σ r) (h : rwl I r L) (he : rwe I r L) (hL : L = A ++ (x :: y :: (B ++ (S ++ C)))) (hs : jOk 1 S) (hp : p = A.length) (hs2 : s = A.length + 2 + B.length) : sj_Con l yX4_keepFirst mX4_keepFirst G σ I [.ref r, .int (zI p), .int (zI s)] (fun v σ' I' => v = none ∧ σ = σ' ∧ (∀ q, q ≠ r → q ≠ r + 1 → I' q = I q) ∧ rwl I' r (A ++ (B ++ C))) := by
  obtain ⟨s0, s1, s2, s3⟩ := id hS
  have hend := he.fin (A := A ++ (x :: y :: B)) (M := S) (C := C) (by rw [hL]; simp) hs
  have hl := h.2.1
  have hll : L.length = A.length + (2 + (B.length + (S.length + C.length))) := by rw [hL]; simp only [List.length_append, List.length_cons]; omega
  have hal : (A ++ (x :: y :: B)).length = A.length + 2 + B.length := by simp only [List.length_append, List.length_cons]; omega
  rw [hal] at hend
  have hsl := jOk_len S 1 hs
  subst hp hs2
  refine sj_con_of (L0 := [some (.ref r), some (.int (zI (A.length : Int))), some (.int (zI ((A.length : Int) + 2 + B.length)))]) (by decide) rfl rfl rfl (Nat.le_of_ble_eq_true rfl) rfl (fun Γ => ?_)
  refine sj_ald0 dX4_keepFirst_0 ?_
  refine sj_ild2 dX4_keepFirst_1 ?_
  refine sj_ald0 dX4_keepFirst_2 ?_
  refine sj_getR fl_X4_15 (by assumption) rfl (rR_1 _) dX4_keepFirst_3 ?_
  refine sj_ild2 dX4_keepFirst_6 ?_
  refine sj_ialdJ (A.length + 2 + B.length) (by assumption) (by omega) (by omega) (by omega) dX4_keepFirst_7 ?_
  rw [hend]
  refine sj_callV (cx4_cut (A := A ++ (x :: y :: B)) (B := S) (C := C) hS h (by rw [hL]; simp) (by rw [hal]; omega) (by rw [hal])) kc_X4_82 (by assumption) rfl rfl rfl rfl (Nat.le_of_ble_eq_true rfl) dX4_keepFirst_8 (fun r_8 σ_8 I_8 hp_8 => ?_)
  obtain ⟨rfl, rfl, x1, x2⟩ := hp_8
  refine sj_ald0 dX4_keepFirst_11 ?_
  refine sj_ild1 dX4_keepFirst_12 ?_
  refine sj_ild1 dX4_keepFirst_13 ?_
  refine sj_iconst dX4_keepFirst_14 ?_
  refine sj_iadd dX4_keepFirst_15 ?_
  refine sj_callV (cx4_cut (A := A) (B := [x, y]) (C := B ++ C) hS x2 (by simp) rfl rfl) kc_X4_82 (by assumption) rfl rfl rfl rfl (Nat.le_of_ble_eq_true rfl) dX4_keepFirst_16 (fun r_16 σ_16 I_16 hp_16 => ?_)
  obtain ⟨rfl, rfl, y1, y2⟩ := hp_16
  exact sj_vret dX4_keepFirst_19 rfl (Nat.le_of_ble_eq_true rfl) (Nat.le_of_ble_eq_true rfl) ⟨rfl, rfl, fun q q1 q2 => by rw [y1 q q1 q2, x1 q q1 q2], y2⟩
theorem cx4_turnZip {r : Nat} {L A B S C : List Int} {p : Int} (hS : rSh σ r) (h : rwl I r L) (he : rwe I r L) (hL : L = A ++ (116 :: 122 :: (B ++ (S ++ C)))) (hb : jOk 1 B) (hs : jOk 1 S) (hp : p = A.length) : sj_Con l yX4_turnZip mX4_turnZip G σ I [.ref r, .int (zI p)] (fun v σ' I' => v = none ∧ σ = σ' ∧ (∀ q, q ≠ r + 1 → q ≠ r + 3 → I' q = I q) ∧ rwl I' r (A ++ (122 :: (S ++ (116 :: (B ++ C)))))) := by
  obtain ⟨s0, s1, s2, s3⟩ := id hS
  obtain ⟨h1, h2, h3⟩ := h
  have hend1 := he.fin (A := A ++ [116, 122]) (M := B) (C := S ++ C) (by rw [hL]; simp) hb
  have hend2 := he.fin (A := A ++ (116 :: 122 :: B)) (M := S) (C := C) (by rw [hL]; simp) hs
  have hll : L.length = A.length + (2 + (B.length + (S.length + C.length))) := by rw [hL]; simp only [List.length_append, List.length_cons]; omega
  have hal1 : (A ++ [116, 122]).length = A.length + 2 := by simp
  have hal2 : (A ++ (116 :: 122 :: B)).length = A.length + 2 + B.length := by simp only [List.length_append, List.length_cons]; omega
  rw [hal1] at hend1
  rw [hal2] at hend2
  have hsl := jOk_len S 1 hs
  have hbl := jOk_len B 1 hb
  rw [hL] at h3
  obtain ⟨e1, e2⟩ := lst_both h3
  obtain ⟨_, e3⟩ := lst_head e2
  obtain ⟨_, e4⟩ := lst_head e3
  obtain ⟨e5, e6⟩ := lst_both e4
  obtain ⟨e7, e8⟩ := lst_both e6
  subst hp
  refine sj_con_of (L0 := [some (.ref r), some (.int (zI (A.length : Int))), none, none, none, none]) (by decide) rfl rfl rfl (Nat.le_of_ble_eq_true rfl) rfl (fun Γ => ?_)
  refine sj_ild1 dX4_turnZip_0 ?_
  refine sj_iconst dX4_turnZip_1 ?_
  refine sj_iadd dX4_turnZip_2 ?_
  refine sj_ist2 (by decide) rfl dX4_turnZip_3 ?_
  refine sj_ald0 dX4_turnZip_4 ?_
  refine sj_getR fl_X4_15 (by assumption) rfl (rR_1 _) dX4_turnZip_5 ?_
  refine sj_ild2 dX4_turnZip_8 ?_
  refine sj_ialdJ (A.length + 2) (by assumption) (by omega) (by omega) (by omega) dX4_turnZip_9 ?_
  rw [hend1, show (((A.length + 2 : Nat) : Int) + B.length) = ((A.length + 2 + B.length : Nat) : Int) by omega]
  refine sj_ist3 (by decide) rfl dX4_turnZip_10 ?_
  refine sj_ild3 dX4_turnZip_11 ?_
  refine sj_ild2 dX4_turnZip_12 ?_
  refine sj_isub dX4_turnZip_13 ?_
  rw [show (((A.length + 2 + B.length : Nat) : Int) - ((A.length : Int) + 2)) = (B.length : Int) by omega]
  refine sj_ist4 (by decide) rfl dX4_turnZip_14 ?_
  refine sj_ald0 dX4_turnZip_16 ?_
  refine sj_getR fl_X4_15 (by assumption) rfl (rR_1 _) dX4_turnZip_17 ?_
  refine sj_ild3 dX4_turnZip_20 ?_
  refine sj_ialdJ (A.length + 2 + B.length) (by assumption) (by omega) (by omega) (by omega) dX4_turnZip_21 ?_
  rw [hend2]
  refine sj_ild3 dX4_turnZip_22 ?_
  refine sj_isub dX4_turnZip_23 ?_
  rw [show (((A.length + 2 + B.length : Nat) : Int) + S.length - ((A.length + 2 + B.length : Nat) : Int)) = (S.length : Int) by omega]
  refine sj_ist5 (by decide) rfl dX4_turnZip_24 ?_
  refine sj_ald0 dX4_turnZip_26 ?_
  refine sj_getR fl_X4_9 (by assumption) rfl (rR_0 _) dX4_turnZip_27 ?_
  refine sj_ild2 dX4_turnZip_30 ?_
  refine sj_ald0 dX4_turnZip_31 ?_
  refine sj_getR fl_X4_18 (by assumption) rfl (rR_2 _) dX4_turnZip_32 ?_
  refine sj_iconst dX4_turnZip_35 ?_
  refine sj_ild4 dX4_turnZip_36 ?_
  refine sj_acopy km_X4_35 wo_acopy.1 wo_acopy.2.1 wo_acopy.2.2 (by assumption) (by assumption) (by omega) (by omega) (by omega) (by decide) (Nat.le_of_ble_eq_true rfl) dX4_turnZip_38 ?_
  rw [show ((A.length : Int) + 2).toNat = A.length + 2 by omega]
  refine sj_ald0 dX4_turnZip_41 ?_
  refine sj_getR fl_X4_9 (by assumption) rfl (rR_0 _) dX4_turnZip_42 ?_
  refine sj_ild1 dX4_turnZip_45 ?_
  refine sj_bipush dX4_turnZip_46 (by decide) ?_
  refine sj_iastJ (A.length) (by assumption) (by omega) (by omega) (by omega) dX4_turnZip_48 ?_
  refine sj_ald0 dX4_turnZip_49 ?_
  refine sj_getR fl_X4_9 (by assumption) rfl (rR_0 _) dX4_turnZip_50 ?_
  refine sj_ild3 dX4_turnZip_53 ?_
  refine sj_ald0 dX4_turnZip_54 ?_
  refine sj_getR fl_X4_9 (by assumption) rfl (rR_0 _) dX4_turnZip_55 ?_
  refine sj_ild1 dX4_turnZip_58 ?_
  refine sj_iconst dX4_turnZip_59 ?_
  refine sj_iadd dX4_turnZip_60 ?_
  refine sj_ild5 dX4_turnZip_61 ?_
  refine sj_acopy km_X4_35 wo_acopy.1 wo_acopy.2.1 wo_acopy.2.2 (by assumption) (by assumption) (by omega) (by omega) (by omega) (by decide) (Nat.le_of_ble_eq_true rfl) dX4_turnZip_63 ?_
  rw [show ((A.length : Int) + 1).toNat = A.length + 1 by omega]
  refine sj_ald0 dX4_turnZip_66 ?_
  refine sj_getR fl_X4_9 (by assumption) rfl (rR_0 _) dX4_turnZip_67 ?_
  refine sj_ild1 dX4_turnZip_70 ?_
  refine sj_iconst dX4_turnZip_71 ?_
  refine sj_iadd dX4_turnZip_72 ?_
  refine sj_ild5 dX4_turnZip_73 ?_
  refine sj_iadd dX4_turnZip_75 ?_
  refine sj_bipush dX4_turnZip_76 (by decide) ?_
  refine sj_iastJ (A.length + 1 + S.length) (by assumption) (by omega) (by omega) (by omega) dX4_turnZip_78 ?_
  refine sj_ald0 dX4_turnZip_79 ?_
  refine sj_getR fl_X4_18 (by assumption) rfl (rR_2 _) dX4_turnZip_80 ?_
  refine sj_iconst dX4_turnZip_83 ?_
  refine sj_ald0 dX4_turnZip_84 ?_
  refine sj_getR fl_X4_9 (by assumption) rfl (rR_0 _) dX4_turnZip_85 ?_
  refine sj_ild1 dX4_turnZip_88 ?_
  refine sj_iconst dX4_turnZip_89 ?_
  refine sj_iadd dX4_turnZip_90 ?_
  refine sj_ild5 dX4_turnZip_91 ?_
  refine sj_iadd dX4_turnZip_93 ?_
  refine sj_ild4 dX4_turnZip_94 ?_
  refine sj_acopy km_X4_35 wo_acopy.1 wo_acopy.2.1 wo_acopy.2.2 (by assumption) (by assumption) (by omega) (by omega) (by omega) (by decide) (Nat.le_of_ble_eq_true rfl) dX4_turnZip_96 ?_
  rw [show ((A.length : Int) + 2 + S.length).toNat = A.length + 2 + S.length by omega]
  exact sj_vret dX4_turnZip_99 rfl (Nat.le_of_ble_eq_true rfl) (Nat.le_of_ble_eq_true rfl) ⟨rfl, rfl, fun q q1 q2 => by rw [sj_ur_ne q1, sj_up_row q1, sj_ur_ne q1, sj_up_row q1, sj_ur_ne q2], by
    rw [sj_ur_ne (by omega), sj_up_row (by omega), sj_ur_ne (by omega), sj_up_row (by omega), sj_ur_ne (by omega), h1, hll]
    simp only [List.length_append, List.length_cons]
    omega, by simp only [List.length_append, List.length_cons]; omega, by
    rw [sj_ur_self]
    refine lst_join ?_ (lst_con ?_ (lst_join ?_ (lst_con ?_ (lst_join ?_ ?_))))
    · exact lst_as e1 (fun j hj => by
        rw [cpy_out (Or.inl (by show 0 + j < A.length + 2 + S.length; omega)), sj_up_ne (by omega), sj_ur_self, cpy_out (Or.inl (by show 0 + j < A.length + 1; omega)), sj_up_ne (by omega), sj_ur_ne (by omega)])
    · rw [Nat.zero_add, cpy_out (Or.inl (by omega)), sj_up_ne (by omega), sj_ur_self, cpy_out (Or.inl (by omega)), sj_up_self]
    · exact lst_as e7 (fun j hj => by
        rw [cpy_out (Or.inl (by omega)), sj_up_ne (by omega), sj_ur_self, Nat.zero_add]
        refine (cpy_in hj).trans ?_
        rw [sj_up_ne (by show ¬ (r + 1 = r + 1 ∧ (((A.length + 2 + B.length : Nat) : Int).toNat + j) = A.length); omega), sj_ur_ne (by omega)]
        congr 1)
    · rw [cpy_out (Or.inl (by omega)), show 0 + A.length + 1 + S.length = A.length + 1 + S.length by omega, sj_up_self]
    · exact lst_as e5 (fun j hj => by
        rw [show 0 + A.length + 1 + S.length + 1 + j = A.length + 2 + S.length + j by omega]
        refine (cpy_in hj).trans ?_
        rw [sj_up_row (by omega), sj_ur_ne (by omega), sj_up_row (by omega), sj_ur_self]
        refine (cpy_in (dp := 0) hj).trans ?_
        congr 1
        omega)
    · exact lst_as e8 (fun j hj => by
        rw [cpy_out (Or.inr (by show A.length + 2 + S.length + B.length ≤ _; omega)), sj_up_ne (by omega), sj_ur_self, cpy_out (Or.inr (by show A.length + 1 + S.length ≤ _; omega)), sj_up_ne (by omega), sj_ur_ne (by omega)]
        congr 1
        omega)⟩
end REWRITE1
