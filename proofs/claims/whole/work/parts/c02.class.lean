theorem lst_con {f : Nat → Int} {k : Nat} {x : Int} {L : List Int} (h1 : f k = x) (h2 : lst f (k + 1) L.length = L) : lst f k (x :: L).length = x :: L := by
  rw [List.length_cons, lst_cons, h1, h2]
/-- a stretch of another row -/
theorem lst_as {f g : Nat → Int} {s t : Nat} {L : List Int} (h : lst g t L.length = L) (e : ∀ j, j < L.length → f (s + j) = g (t + j)) : lst f s L.length = L := by
  conv => rhs; rw [← h]
  exact lst_congr e
section JDK
variable {l : Launch} {G : sjG} {σ : sjS} {I : sjI}
theorem cJ_fill {a n0 : Nat} {x : Int} (ha : σ.2 a = some (10, n0, fun _ => none)) (hn : n0 ≤ 5000) : sj_Con l yJ7_fill_53178 mJ7_fill_53178 G σ I [.ref a, .int (zI x)] (fun r σ' I' => r = none ∧ σ = σ' ∧ (∀ q, q ≠ a → I' q = I q) ∧ ∀ j, j < n0 → I' a j = x) := by
  refine sj_con_of (L0 := [some (.ref a), some (.int (zI x)), none, none]) (by decide) rfl rfl rfl (Nat.le_of_ble_eq_true rfl) rfl (fun Γ => ?_)
  have lp : ∀ (d k : Nat) (J : sjI), k + d = n0 → (∀ q, q ≠ a → J q = I q) → (∀ j, j < k → J a j = x) → sj_V l Γ mJ7_fill_53178 G (fun r σ' I' => r = none ∧ σ = σ' ∧ (∀ q, q ≠ a → I' q = I q) ∧ ∀ j, j < n0 → I' a j = x) σ J 0 0 5 [some (.ref a), some (.int (zI x)), some (.int (zI k)), some (.int (zI n0))] [] := by
    intro d
    induction d with
    | zero =>
      intro k J hk hJ hE
      refine sj_ild2 dJ7_fill_53178_5 ?_
      refine sj_ild3 dJ7_fill_53178_6 ?_
      refine sj_icmp_ge 20 dJ7_fill_53178_7 (by decide) (by omega) (by omega) (fun c_7 => ?_) (fun c_7 => ?_)
      rotate_left
      · (exfalso; omega)
      exact sj_vret dJ7_fill_53178_20 rfl (Nat.le_of_ble_eq_true rfl) (Nat.le_of_ble_eq_true rfl) ⟨rfl, rfl, hJ, fun j hj => hE j (by omega)⟩
    | succ d ih =>
      intro k J hk hJ hE
      refine sj_ild2 dJ7_fill_53178_5 ?_
      refine sj_ild3 dJ7_fill_53178_6 ?_
      refine sj_icmp_ge 20 dJ7_fill_53178_7 (by decide) (by omega) (by omega) (fun c_7 => ?_) (fun c_7 => ?_)
      · (exfalso; omega)
      refine sj_ald0 dJ7_fill_53178_10 ?_
      refine sj_ild2 dJ7_fill_53178_11 ?_
      refine sj_ild1 dJ7_fill_53178_12 ?_
      refine sj_iastJ (k) (by assumption) (by omega) (by omega) (by omega) dJ7_fill_53178_13 ?_
      refine sj_inc2 (by decide) rfl dJ7_fill_53178_14 ?_
      refine sj_goto 5 dJ7_fill_53178_17 (by decide) ?_
      exact ih (k + 1) _ (by omega) (fun q hq => by rw [sj_up_row hq]; exact hJ q hq) (fun j hj => by
        by_cases e : j = k
        · rw [e, sj_up_self]
        · rw [sj_up_ne (by omega)]; exact hE j (by omega))
  refine sj_iconst dJ7_fill_53178_0 ?_
  refine sj_ist2 (by decide) rfl dJ7_fill_53178_1 ?_
  refine sj_ald0 dJ7_fill_53178_2 ?_
  refine sj_alen (by assumption) (by decide) dJ7_fill_53178_3 ?_
  refine sj_ist3 (by decide) rfl dJ7_fill_53178_4 ?_
  exact lp n0 0 I (by omega) (fun _ _ => rfl) (fun j hj => absurd hj (by omega))
theorem cJ_copyOf {a n0 : Nat} {T : List Int} (ha : σ.2 a = some (10, n0, fun _ => none)) (hT : lst (I a) 0 T.length = T) (hn0 : T.length ≤ n0 ∧ n0 ≤ 200) (hn : T.length ≤ 120) : sj_Con l yJ7_copyOf_59c91 mJ7_copyOf_59c91 G σ I [.ref a, .int (zI T.length)] (fun r σ' I' => r = some (.ref σ.1) ∧ σ' = sj_nw σ (10, T.length, fun _ => none) ∧ (∀ q, q ≠ σ.1 → I' q = I q) ∧ lst (I' σ.1) 0 T.length = T) := by
  refine sj_con_of (L0 := [some (.ref a), some (.int (zI T.length)), none]) (by decide) rfl rfl rfl (Nat.le_of_ble_eq_true rfl) rfl (fun Γ => ?_)
  refine sj_wfV (fun hwf => ?_)
  have hal := hwf a _ ha
  have hmin : min (n0 : Int) (T.length : Int) = (T.length : Int) := by omega
  refine sj_ild1 dJ7_copyOf_59c91_0 ?_
  refine sj_ald0 dJ7_copyOf_59c91_1 ?_
  refine sj_alen (by assumption) (by decide) dJ7_copyOf_59c91_2 ?_
  refine sj_icmp_ne 14 dJ7_copyOf_59c91_3 (by decide) (by omega) (by omega) (fun c_3 => ?_) (fun c_3 => ?_)
  · refine sj_ild1 dJ7_copyOf_59c91_14 ?_
    refine sj_newI wd_102 dJ7_copyOf_59c91_15 (by omega) (Nat.le_of_ble_eq_true rfl) (by show 0 + T.length ≤ 120; omega) ?_
    refine sj_more (k' := 1) (n' := 120) (Nat.le_of_ble_eq_true rfl) (by show 0 + T.length ≤ 120; omega) ?_
    refine sj_ast2 (by decide) rfl dJ7_copyOf_59c91_17 ?_
    refine sj_ald0 dJ7_copyOf_59c91_18 ?_
    refine sj_iconst dJ7_copyOf_59c91_19 ?_
    refine sj_ald2 dJ7_copyOf_59c91_20 ?_
    refine sj_iconst dJ7_copyOf_59c91_21 ?_
    refine sj_ald0 dJ7_copyOf_59c91_22 ?_
    refine sj_alen (by rw [sj_nw_ne (by omega)]; exact ha) (by decide) dJ7_copyOf_59c91_23 ?_
    refine sj_ild1 dJ7_copyOf_59c91_24 ?_
    refine sj_min km_J7_304 wo_min.1 wo_min.2.1 wo_min.2.2 (by decide) (Nat.le_of_ble_eq_true rfl) (Nat.le_of_ble_eq_true rfl) (Nat.le_of_ble_eq_true rfl) (by omega) (by omega) dJ7_copyOf_59c91_25 ?_
    rw [hmin]
    refine sj_acopy km_J7_150 wo_acopy.1 wo_acopy.2.1 wo_acopy.2.2 (by rw [sj_nw_ne (by omega)]; exact ha) (sj_nw_self _ _) (by omega) (by omega) (by omega) (by decide) (Nat.le_of_ble_eq_true rfl) dJ7_copyOf_59c91_28 ?_
    refine sj_ald2 dJ7_copyOf_59c91_31 ?_
    exact sj_aret dJ7_copyOf_59c91_32 rfl (Or.inr ⟨_, rfl⟩) (Or.inr ⟨_, rfl⟩) (Nat.le_of_ble_eq_true rfl) (Nat.le_of_ble_eq_true rfl) ⟨rfl, rfl, fun q hq => by rw [sj_ur_ne hq, sj_ur_ne hq], by
      rw [sj_ur_self, sj_ur_ne (by omega)]
      exact lst_as hT (fun j hj => cpy_in hj)⟩
  · refine sj_ald0 dJ7_copyOf_59c91_6 ?_
    refine sj_clone km_J7_316 wo_clone.1 wo_clone.2.1 wo_clone.2.2.1 wo_clone.2.2.2.1 wo_clone.2.2.2.2 (by assumption) (by decide) (Nat.le_of_ble_eq_true rfl) (Nat.le_of_ble_eq_true rfl) (by show 0 + _ ≤ 120; omega) dJ7_copyOf_59c91_7 ?_
    refine sj_castI kl_J7_317 (sj_nw_self _ _) dJ7_copyOf_59c91_10 ?_
    exact sj_aret dJ7_copyOf_59c91_13 rfl (Or.inr ⟨_, rfl⟩) (Or.inr ⟨_, rfl⟩) (Nat.le_of_ble_eq_true rfl) (by show 0 + _ ≤ 120; omega) ⟨rfl, by rw [show T.length = n0 by omega], fun q hq => sj_ur_ne hq, by rw [sj_ur_self]; exact hT⟩
end JDK
/-- the references of a term at t: its rows stand behind it -/
def tρ (t : Nat) : Nat → Option Nat := sj_ru (sj_ru (sj_ru (fun _ => none) 1 (some (t + 1))) 2 (some (t + 2))) 3 (some (t + 3))
theorem tR_1 (t : Nat) : tρ t 1 = some (t + 1) := rfl
theorem tR_2 (t : Nat) : tρ t 2 = some (t + 2) := rfl
theorem tR_3 (t : Nat) : tρ t 3 = some (t + 3) := rfl
/-- a term at t -/
def tm (σ : sjS) (I : sjI) (t : Nat) (T : List Int) : Prop :=
  (σ.2 t = some (4, 0, tρ t) ∧ σ.2 (t + 1) = some (10, T.length, fun _ => none) ∧ σ.2 (t + 2) = some (10, T.length, fun _ => none) ∧ σ.2 (t + 3) = some (10, (jMs T 0).length, fun _ => none)) ∧ I t 0 = T.length ∧ lst (I (t + 1)) 0 T.length = T ∧ (∀ p, p < T.length → I (t + 2) p = (jEe T p : Nat)) ∧ (∀ j, j < (jMs T 0).length → I (t + 3) j = ((jMs T 0).getD j 0 : Nat)) ∧ jOk 1 T ∧ T.length ≤ 120
theorem tm.keep {σ σ' : sjS} {I I' : sjI} {t : Nat} {T : List Int} (h : tm σ I t T) (hk : ∀ q, t ≤ q → q ≤ t + 3 → σ'.2 q = σ.2 q ∧ I' q = I q) : tm σ' I' t T := by
  obtain ⟨⟨s0, s1, s2, s3⟩, h1, h2, h3, h4, h5⟩ := h
  have k0 := hk t (by omega) (by omega)
  have k1 := hk (t + 1) (by omega) (by omega)
  have k2 := hk (t + 2) (by omega) (by omega)
  have k3 := hk (t + 3) (by omega) (by omega)
  refine ⟨⟨by rw [k0.1]; exact s0, by rw [k1.1]; exact s1, by rw [k2.1]; exact s2, by rw [k3.1]; exact s3⟩, by rw [k0.2]; exact h1, by rw [k1.2]; exact h2, fun p hp => by rw [k2.2]; exact h3 p hp, fun j hj => by rw [k3.2]; exact h4 j hj, h5⟩
theorem tm.cd {σ : sjS} {I : sjI} {t p : Nat} {T : List Int} (h : tm σ I t T) (hp : p < T.length) : I (t + 1) p = T.getD p 0 := by
  have := lst_getD h.2.2.1 hp
  rw [Nat.zero_add] at this
  exact this
theorem tm.vc {σ : sjS} {I : sjI} {t p : Nat} {T : List Int} (h : tm σ I t T) (hp : p < T.length) : jVc (T.getD p 0) := by
  obtain ⟨c, L, _, hc, _, hcm⟩ := dropEx hp
  rw [hc]
  exact jOk_vc T 1 h.2.2.2.2.2.1 c hcm
theorem tm.mn {σ : sjS} {I : sjI} {t j : Nat} {T : List Int} (h : tm σ I t T) (hj : j < (jMs T 0).length) : ∃ p : Nat, (jMs T 0).getD j 0 = p ∧ I (t + 3) j = p ∧ p < T.length ∧ 65 ≤ T.getD p 0 ∧ T.getD p 0 ≤ 72 := by
  refine ⟨(jMs T 0).getD j 0, rfl, h.2.2.2.2.1 j hj, ?_⟩
  have hm : (jMs T 0).getD j 0 ∈ jMs T 0 := by
    rw [List.getD_eq_getElem?_getD, List.getElem?_eq_getElem hj]
    exact List.getElem_mem hj
  obtain ⟨_, h2, h3⟩ := jMs_lt T 0 _ hm
  rw [Nat.sub_zero] at h3
  exact ⟨by omega, h3⟩
section TERM1
variable {l : Launch} {G : sjG} {σ : sjS} {I : sjI}
theorem cx0_endsOf {a n0 : Nat} {T : List Int} (ha : σ.2 a = some (10, n0, fun _ => none)) (hT : lst (I a) 0 T.length = T) (hok : jOk 1 T) (hn0 : T.length ≤ n0 ∧ n0 ≤ 200) (hn : T.length ≤ 120) : sj_Con l yX0_endsOf mX0_endsOf G σ I [.ref a, .int (zI T.length)] (fun r σ' I' => r = some (.ref σ.1) ∧ σ' = sj_nw σ (10, T.length, fun _ => none) ∧ (∀ q, q ≠ σ.1 → I' q = I q) ∧ ∀ p, p < T.length → I' σ.1 p = (jEe T p : Nat)) := by
  refine sj_con_of (L0 := [some (.ref a), some (.int (zI T.length)), none]) (by decide) rfl rfl rfl (Nat.le_of_ble_eq_true rfl) rfl (fun Γ => ?_)
  refine sj_wfV (fun hwf => ?_)
  have hal := hwf a _ ha
  refine sj_ild1 dX0_endsOf_0 ?_
  refine sj_newI wd_102 dX0_endsOf_1 (by omega) (Nat.le_of_ble_eq_true rfl) (by show 0 + T.length ≤ 120; omega) ?_
  refine sj_more (k' := 1) (n' := 120) (Nat.le_of_ble_eq_true rfl) (by show 0 + T.length ≤ 120; omega) ?_
  refine sj_ast2 (by decide) rfl dX0_endsOf_3 ?_
  refine sj_ald0 dX0_endsOf_4 ?_
  refine sj_ild1 dX0_endsOf_5 ?_
  refine sj_ald2 dX0_endsOf_6 ?_
  refine sj_callS (cx0_findEnds (T := T) (a := a) (e := σ.1) (n0 := n0) (n1 := T.length) (by rw [sj_nw_ne (by omega)]; exact ha) (sj_nw_self _ _) (by omega) (by rw [sj_ur_ne (by omega)]; exact hT) hok hn0 (by omega)) kc_X0_24 rfl rfl (Nat.le_of_ble_eq_true rfl) dX0_endsOf_7 (fun r_7 σ_7 I_7 hp_7 => ?_)
  obtain ⟨rfl, rfl, x1, x2⟩ := hp_7
  refine sj_ald2 dX0_endsOf_10 ?_
  exact sj_aret dX0_endsOf_11 rfl (Or.inr ⟨_, rfl⟩) (Or.inr ⟨_, rfl⟩) (Nat.le_of_ble_eq_true rfl) (Nat.le_of_ble_eq_true rfl) ⟨rfl, rfl, fun q hq => by rw [x1 q hq, sj_ur_ne hq], x2⟩
theorem cx5_init {t a n0 : Nat} {T : List Int} (ht : σ.2 t = some (4, 0, fun _ => none)) (ht1 : σ.1 = t + 1) (ha : σ.2 a = some (10, n0, fun _ => none)) (hT : lst (I a) 0 T.length = T) (hok : jOk 1 T) (hn0 : T.length ≤ n0 ∧ n0 ≤ 200) (hn : T.length ≤ 120) : sj_Con l yX5_init mX5_init G σ I [.ref t, .ref a, .int (zI T.length)] (fun r σ' I' => r = none ∧ σ'.1 = t + 4 ∧ (∀ q, q < t → σ'.2 q = σ.2 q ∧ I' q = I q) ∧ tm σ' I' t T) := by
  refine sj_con_of (L0 := [some (.ref t), some (.ref a), some (.int (zI T.length))]) (by decide) rfl rfl rfl (Nat.le_of_ble_eq_true rfl) rfl (fun Γ => ?_)
  refine sj_wfV (fun hwf => ?_)
  have hal := hwf a _ ha
  have hta : a ≠ t := fun e => by rw [e, ht] at ha; cases ha
  obtain ⟨s1, f⟩ := σ
  simp only at ht ht1 ha hal hwf
  subst ht1
  refine sj_ald0 dX5_init_0 ?_
  refine sj_oinit km_X5_3 wo_init.1 wo_init.2 (by decide) (by decide) dX5_init_1 ?_
  refine sj_ald0 dX5_init_4 ?_
  refine sj_ild2 dX5_init_5 ?_
  refine sj_putIF fl_X5_9 (by assumption) rfl rfl rfl rfl (fun q h => by cases h; rfl) dX5_init_6 ?_
  refine sj_ald0 dX5_init_9 ?_
  refine sj_ald1 dX5_init_10 ?_
  refine sj_ild2 dX5_init_11 ?_
  refine sj_callS (cJ_copyOf (T := T) ha (by rw [sj_up_row hta]; exact hT) hn0 hn) kc_X5_15 rfl rfl (Nat.le_of_ble_eq_true rfl) dX5_init_12 (fun r_12 σ_12 I_12 hp_12 => ?_)
  obtain ⟨rfl, rfl, x1, x2⟩ := hp_12
  refine sj_putRF fl_X5_21 (by rw [sj_nw_ne (by show t ≠ t + 1; omega)]; exact ht) rfl rfl rfl rfl (fun q h => by cases h; rfl) dX5_init_15 ?_
  refine sj_ald0 dX5_init_18 ?_
  refine sj_ald1 dX5_init_19 ?_
  refine sj_ild2 dX5_init_20 ?_
  refine sj_callS (cx0_endsOf (T := T) (a := a) (n0 := n0) (by rw [sj_us_ne hta, sj_nw_ne (by show a ≠ t + 1; omega)]; exact ha) (by rw [x1 a (by show a ≠ t + 1; omega), sj_up_row hta]; exact hT) hok hn0 hn) kc_X5_25 rfl rfl (Nat.le_of_ble_eq_true rfl) dX5_init_21 (fun r_21 σ_21 I_21 hp_21 => ?_)
  obtain ⟨rfl, rfl, x3, x4⟩ := hp_21
  refine sj_putRF fl_X5_30 (by rw [sj_nw_ne (by show t ≠ t + 1 + 1; omega)]; exact sj_us_self _ _ _) rfl rfl rfl rfl (fun q h => by cases h; rfl) dX5_init_24 ?_
  refine sj_ald0 dX5_init_27 ?_
  refine sj_ald1 dX5_init_28 ?_
  refine sj_ild2 dX5_init_29 ?_
  refine sj_callS (cx0_findMentions (T := T) (a := a) (n0 := n0) (by rw [sj_us_ne hta, sj_nw_ne (by show a ≠ t + 1 + 1; omega), sj_us_ne hta, sj_nw_ne (by show a ≠ t + 1; omega)]; exact ha) (by rw [x3 a (by show a ≠ t + 1 + 1; omega), x1 a (by show a ≠ t + 1; omega), sj_up_row hta]; exact hT) (jOk_vc T 1 hok) hn0 hn) kc_X5_33 rfl rfl (Nat.le_of_ble_eq_true rfl) dX5_init_30 (fun r_30 σ_30 I_30 hp_30 => ?_)
  obtain ⟨rfl, rfl, x5, x6⟩ := hp_30
  refine sj_putRF fl_X5_36 (by rw [sj_nw_ne (by show t ≠ t + 1 + 1 + 1; omega)]; exact sj_us_self _ _ _) rfl rfl rfl rfl (fun q h => by cases h; rfl) dX5_init_33 ?_
  exact sj_vret dX5_init_36 rfl (Nat.le_of_ble_eq_true rfl) (Nat.le_of_ble_eq_true rfl) ⟨rfl, rfl, fun q hq => ⟨by simp only [sj_us, sj_nw]; rw [if_neg (by omega), if_neg (by omega), if_neg (by omega), if_neg (by omega), if_neg (by omega), if_neg (by omega)], by
    rw [x5 q (by show q ≠ t + 3; omega), x3 q (by show q ≠ t + 2; omega), x1 q (by show q ≠ t + 1; omega), sj_up_row (by omega)]⟩, ⟨⟨by simp [sj_nw, sj_us]; rfl, by simp [sj_nw, sj_us], by simp [sj_nw, sj_us], by simp [sj_nw, sj_us]⟩, by
    rw [x5 t (by show t ≠ t + 3; omega), x3 t (by show t ≠ t + 2; omega), x1 t (by show t ≠ t + 1; omega), sj_up_self], by
    rw [x5 (t + 1) (by show t + 1 ≠ t + 3; omega), x3 (t + 1) (by show t + 1 ≠ t + 2; omega)]; exact x2, fun p hp => by
    rw [x5 (t + 2) (by show t + 2 ≠ t + 3; omega)]; exact x4 p hp, x6, hok, hn⟩⟩
theorem cx5_streamAt {t p : Nat} {T : List Int} (h : tm σ I t T) (hp : p < T.length) : sj_Con l yX5_streamAt mX5_streamAt G σ I [.ref t, .int (zI p)] (fun r σ' I' => r = some (.int (zI (T.getD p 0 - 65))) ∧ σ = σ' ∧ I = I') := by
  obtain ⟨s0, s1, s2, s3⟩ := h.1
  have hn := h.2.2.2.2.2.2
  refine sj_con_of (L0 := [some (.ref t), some (.int (zI p))]) (by decide) rfl rfl rfl (Nat.le_of_ble_eq_true rfl) rfl (fun Γ => ?_)
  refine sj_ald0 dX5_streamAt_0 ?_
  refine sj_getR fl_X5_21 (by assumption) rfl (tR_1 _) dX5_streamAt_1 ?_
  refine sj_ild1 dX5_streamAt_4 ?_
  refine sj_ialdJ (p) (by assumption) (by omega) (by omega) (by omega) dX5_streamAt_5 ?_
  rw [h.cd hp]
  refine sj_bipush dX5_streamAt_6 (by decide) ?_
  refine sj_isub dX5_streamAt_8 ?_
  exact sj_iret dX5_streamAt_9 rfl rfl (Nat.le_of_ble_eq_true rfl) (Nat.le_of_ble_eq_true rfl) ⟨rfl, rfl, rfl⟩
theorem cx5_isPlain {t : Nat} {T : List Int} (h : tm σ I t T) : sj_Con l yX5_isPlain mX5_isPlain G σ I [.ref t] (fun r σ' I' => r = some (.int (zI (if jPb T = true then 1 else 0))) ∧ σ = σ' ∧ I = I') := by
  obtain ⟨s0, s1, s2, s3⟩ := h.1
  have hn := h.2.2.2.2.2.2
  refine sj_con_of (L0 := [some (.ref t), none]) (by decide) rfl rfl rfl (Nat.le_of_ble_eq_true rfl) rfl (fun Γ => ?_)
  have lp : ∀ (d k : Nat), k + d = T.length → jPb (T.take k) = true → sj_V l Γ mX5_isPlain G (fun r σ' I' => r = some (.int (zI (if jPb T = true then 1 else 0))) ∧ σ = σ' ∧ I = I') σ I 0 0 2 [some (.ref t), some (.int (zI k))] [] := by
    intro d
    induction d with
    | zero =>
      intro k hk hpl
      rw [List.take_of_length_le (by omega)] at hpl
      refine sj_ild1 dX5_isPlain_2 ?_
      refine sj_ald0 dX5_isPlain_3 ?_
      refine sj_getI fl_X5_9 (by assumption) rfl dX5_isPlain_4 ?_
      rw [h.2.1]
      refine sj_icmp_ge 30 dX5_isPlain_7 (by decide) (by omega) (by omega) (fun c_7 => ?_) (fun c_7 => ?_)
      rotate_left
      · (exfalso; omega)
      refine sj_iconst dX5_isPlain_30 ?_
      exact sj_iret dX5_isPlain_31 rfl (by decide) (Nat.le_of_ble_eq_true rfl) (Nat.le_of_ble_eq_true rfl) ⟨by rw [if_pos hpl], rfl, rfl⟩
    | succ d ih =>
      intro k hk hpl
      have hv := h.vc (p := k) (by omega)
      obtain ⟨c, L, hd, hc, hd2, hcm⟩ := dropEx (T := T) (k := k) (by omega)
      unfold jVc at hv
      rw [hc] at hv
      have b1 := jbs (c ≠ 122 ∧ c ≠ 101 ∧ c ≠ 111)
      have e : T.take (k + 1) = T.take k ++ [c] := by
        rw [List.take_succ, ← hc, List.getD_eq_getElem?_getD, List.getElem?_eq_getElem (by omega)]; rfl
      refine sj_ild1 dX5_isPlain_2 ?_
      refine sj_ald0 dX5_isPlain_3 ?_
      refine sj_getI fl_X5_9 (by assumption) rfl dX5_isPlain_4 ?_
      rw [h.2.1]
      refine sj_icmp_ge 30 dX5_isPlain_7 (by decide) (by omega) (by omega) (fun c_7 => ?_) (fun c_7 => ?_)
      · (exfalso; omega)
      refine sj_ald0 dX5_isPlain_10 ?_
      refine sj_getR fl_X5_21 (by assumption) rfl (tR_1 _) dX5_isPlain_11 ?_
      refine sj_ild1 dX5_isPlain_14 ?_
      refine sj_ialdJ (k) (by assumption) (by omega) (by omega) (by omega) dX5_isPlain_15 ?_
      rw [h.cd (by omega), hc]
      refine sj_callS (cx0_isPlain (by omega)) kc_X5_47 rfl rfl (Nat.le_of_ble_eq_true rfl) dX5_isPlain_16 (fun r_16 σ_16 I_16 hp_16 => ?_)
      obtain ⟨rfl, rfl, rfl⟩ := hp_16
      refine sj_if_ne 24 dX5_isPlain_19 (by decide) (by omega) (fun c_19 => ?_) (fun c_19 => ?_)
      · refine sj_inc1 (by decide) rfl dX5_isPlain_24 ?_
        refine sj_goto 2 dX5_isPlain_27 (by decide) ?_
        exact ih (k + 1) (by omega) (by rw [e, jPb_all, hpl]; simp only [Bool.true_and]; exact decide_eq_true (by omega))
      · refine sj_iconst dX5_isPlain_22 ?_
        exact sj_iret dX5_isPlain_23 rfl (by decide) (Nat.le_of_ble_eq_true rfl) (Nat.le_of_ble_eq_true rfl) ⟨by
          rw [if_neg]
          intro hp
          have := of_decide_eq_true (List.all_eq_true.mp hp c hcm)
          omega, rfl, rfl⟩
  refine sj_iconst dX5_isPlain_0 ?_
  refine sj_ist1 (by decide) rfl dX5_isPlain_1 ?_
  exact lp T.length 0 (by omega) rfl
theorem cx5_byteAt {t kk : Nat} {T : List Int} (h : tm σ I t T) (hk : (kk : Int) < 2147483648) : sj_Con l yX5_byteAt mX5_byteAt G σ I [.ref t, .int (zI kk)] (fun r σ' I' => r = some (.int (zI (if kk < (jEnc T).length then (jEnc T).getD kk 0 else -9))) ∧ σ = σ' ∧ I = I') := by
  obtain ⟨s0, s1, s2, s3⟩ := h.1
  have hn := h.2.2.2.2.2.2
  refine sj_con_of (L0 := [some (.ref t), some (.int (zI kk)), none, none, none, none]) (by decide) rfl rfl rfl (Nat.le_of_ble_eq_true rfl) rfl (fun Γ => ?_)
  have lp : ∀ (d p : Nat), p + d = T.length → (jEnc (T.take p)).length ≤ kk → sj_V l Γ mX5_byteAt G (fun r σ' I' => r = some (.int (zI (if kk < (jEnc T).length then (jEnc T).getD kk 0 else -9))) ∧ σ = σ' ∧ I = I') σ I 0 0 4 [some (.ref t), some (.int (zI kk)), some (.int (zI (jEnc (T.take p)).length)), some (.int (zI p)), none, none] [] := by
    intro d
    induction d with
    | zero =>
      intro p hp hle
      rw [List.take_of_length_le (by omega)] at hle ⊢
      refine sj_ild3 dX5_byteAt_4 ?_
      refine sj_ald0 dX5_byteAt_5 ?_
      refine sj_getI fl_X5_9 (by assumption) rfl dX5_byteAt_6 ?_
      rw [h.2.1]
      refine sj_icmp_ge 80 dX5_byteAt_9 (by decide) (by omega) (by omega) (fun c_9 => ?_) (fun c_9 => ?_)
      rotate_left
      · (exfalso; omega)
      refine sj_bipush dX5_byteAt_80 (by decide) ?_
      exact sj_iret dX5_byteAt_82 rfl rfl (Nat.le_of_ble_eq_true rfl) (Nat.le_of_ble_eq_true rfl) ⟨by rw [if_neg (by omega)], rfl, rfl⟩
    | succ d ih =>
      intro p hp hle
      have hv := h.vc (p := p) (by omega)
      obtain ⟨c, L, hd, hc, hd2, hcm⟩ := dropEx (T := T) (k := p) (by omega)
      unfold jVc at hv
      rw [hc] at hv
      have b1 := jbs (128 ≤ c)
      have e : T.take (p + 1) = T.take p ++ [c] := by
        rw [List.take_succ, ← hc, List.getD_eq_getElem?_getD, List.getElem?_eq_getElem (by omega)]; rfl
      have hall : jEnc T = jEnc (T.take p) ++ (jE c ++ jEnc L) := by
        rw [← jEnc_cons, ← hd, ← jEnc_app, List.take_append_drop]
      have hnx : (jEnc (T.take (p + 1))).length = (jEnc (T.take p)).length + (jE c).length := by
        rw [e, jEnc_app, List.length_append, jEnc_cons, jEnc_nil, List.append_nil]
      have hjl := jE_len c
      have hl2 := jEnc_len (T.take p)
      rw [List.length_take] at hl2
      have hl3 := congrArg List.length hall
      rw [List.length_append, List.length_append] at hl3
      have g0 : (jEnc (T.take p)).length = kk → (jEnc T).getD kk 0 = if 128 ≤ c then 58 else c := fun hq => by
        rw [hall, List.getD_eq_getElem?_getD, List.getElem?_append_right (by omega), ← hq, Nat.sub_self]
        unfold jE
        split <;> rfl
      have g1 : 128 ≤ c → (jEnc (T.take p)).length + 1 = kk → (jEnc T).getD kk 0 = c - 80 := fun h1 hq => by
        rw [hall, List.getD_eq_getElem?_getD, List.getElem?_append_right (by omega), ← hq, Nat.add_sub_cancel_left, jE_front h1]
        rfl
      by_cases h1 : 128 ≤ c
      · rw [if_pos h1] at hjl g0
        refine sj_ild3 dX5_byteAt_4 ?_
        refine sj_ald0 dX5_byteAt_5 ?_
        refine sj_getI fl_X5_9 (by assumption) rfl dX5_byteAt_6 ?_
        rw [h.2.1]
        refine sj_icmp_ge 80 dX5_byteAt_9 (by decide) (by omega) (by omega) (fun c_9 => ?_) (fun c_9 => ?_)
        · (exfalso; omega)
        refine sj_ald0 dX5_byteAt_12 ?_
        refine sj_getR fl_X5_21 (by assumption) rfl (tR_1 _) dX5_byteAt_13 ?_
        refine sj_ild3 dX5_byteAt_16 ?_
        refine sj_ialdJ (p) (by assumption) (by omega) (by omega) (by omega) dX5_byteAt_17 ?_
        rw [h.cd (by omega), hc]
        refine sj_ist4 (by decide) rfl dX5_byteAt_18 ?_
        refine sj_ild4 dX5_byteAt_20 ?_
        refine sj_callS (cx0_isFront (by omega)) kc_X5_39 rfl rfl (Nat.le_of_ble_eq_true rfl) dX5_byteAt_22 (fun r_22 σ_22 I_22 hp_22 => ?_)
        obtain ⟨rfl, rfl, rfl⟩ := hp_22
        refine sj_ist5 (by decide) rfl dX5_byteAt_25 ?_
        refine sj_ild2 dX5_byteAt_27 ?_
        refine sj_ild1 dX5_byteAt_28 ?_
        refine sj_icmp_ne 45 dX5_byteAt_29 (by decide) (by omega) (by omega) (fun c_29 => ?_) (fun c_29 => ?_)
        · refine sj_inc2 (by decide) rfl dX5_byteAt_45 ?_
          refine sj_ild5 dX5_byteAt_48 ?_
          refine sj_if_ne 56 dX5_byteAt_50 (by decide) (by omega) (fun c_50 => ?_) (fun c_50 => ?_)
          rotate_left
          · (exfalso; omega)
          refine sj_ild2 dX5_byteAt_56 ?_
          refine sj_ild1 dX5_byteAt_57 ?_
          refine sj_icmp_ne 71 dX5_byteAt_58 (by decide) (by omega) (by omega) (fun c_58 => ?_) (fun c_58 => ?_)
          · refine sj_inc2 (by decide) rfl dX5_byteAt_71 ?_
            refine sj_inc3 (by decide) rfl dX5_byteAt_74 ?_
            refine sj_goto 4 dX5_byteAt_77 (by decide) ?_
            have hih := ih (p + 1) (by omega) (by omega)
            rw [hnx, hjl] at hih
            exact sj_fg5 (sj_fg4 hih)
          · refine sj_bipush dX5_byteAt_61 (by decide) ?_
            refine sj_ild4 dX5_byteAt_63 ?_
            refine sj_sipush dX5_byteAt_65 (by decide) ?_
            refine sj_isub dX5_byteAt_68 ?_
            refine sj_iadd dX5_byteAt_69 ?_
            exact sj_iret dX5_byteAt_70 rfl rfl (Nat.le_of_ble_eq_true rfl) (Nat.le_of_ble_eq_true rfl) ⟨by rw [if_pos (by omega)]; rw [g1 h1 (by omega)]; congr 3; omega, rfl, rfl⟩
        · refine sj_ild5 dX5_byteAt_32 ?_
          refine sj_if_eq 42 dX5_byteAt_34 (by decide) (by omega) (fun c_34 => ?_) (fun c_34 => ?_)
          · (exfalso; omega)
          refine sj_bipush dX5_byteAt_37 (by decide) ?_
          refine sj_goto 44 dX5_byteAt_39 (by decide) ?_
          exact sj_iret dX5_byteAt_44 rfl rfl (Nat.le_of_ble_eq_true rfl) (Nat.le_of_ble_eq_true rfl) ⟨by rw [if_pos (by omega)]; rw [g0 (by omega)], rfl, rfl⟩
      · rw [if_neg h1] at hjl g0
        refine sj_ild3 dX5_byteAt_4 ?_
        refine sj_ald0 dX5_byteAt_5 ?_
        refine sj_getI fl_X5_9 (by assumption) rfl dX5_byteAt_6 ?_
        rw [h.2.1]
        refine sj_icmp_ge 80 dX5_byteAt_9 (by decide) (by omega) (by omega) (fun c_9 => ?_) (fun c_9 => ?_)
        · (exfalso; omega)
        refine sj_ald0 dX5_byteAt_12 ?_
        refine sj_getR fl_X5_21 (by assumption) rfl (tR_1 _) dX5_byteAt_13 ?_
        refine sj_ild3 dX5_byteAt_16 ?_
        refine sj_ialdJ (p) (by assumption) (by omega) (by omega) (by omega) dX5_byteAt_17 ?_
        rw [h.cd (by omega), hc]
        refine sj_ist4 (by decide) rfl dX5_byteAt_18 ?_
        refine sj_ild4 dX5_byteAt_20 ?_
        refine sj_callS (cx0_isFront (by omega)) kc_X5_39 rfl rfl (Nat.le_of_ble_eq_true rfl) dX5_byteAt_22 (fun r_22 σ_22 I_22 hp_22 => ?_)
        obtain ⟨rfl, rfl, rfl⟩ := hp_22
        refine sj_ist5 (by decide) rfl dX5_byteAt_25 ?_
        refine sj_ild2 dX5_byteAt_27 ?_
        refine sj_ild1 dX5_byteAt_28 ?_
        refine sj_icmp_ne 45 dX5_byteAt_29 (by decide) (by omega) (by omega) (fun c_29 => ?_) (fun c_29 => ?_)
        · refine sj_inc2 (by decide) rfl dX5_byteAt_45 ?_
          refine sj_ild5 dX5_byteAt_48 ?_
          refine sj_if_ne 56 dX5_byteAt_50 (by decide) (by omega) (fun c_50 => ?_) (fun c_50 => ?_)
          · (exfalso; omega)
          refine sj_goto 74 dX5_byteAt_53 (by decide) ?_
          refine sj_inc3 (by decide) rfl dX5_byteAt_74 ?_
          refine sj_goto 4 dX5_byteAt_77 (by decide) ?_
          have hih := ih (p + 1) (by omega) (by omega)
          rw [hnx, hjl] at hih
          exact sj_fg5 (sj_fg4 hih)
        · refine sj_ild5 dX5_byteAt_32 ?_
          refine sj_if_eq 42 dX5_byteAt_34 (by decide) (by omega) (fun c_34 => ?_) (fun c_34 => ?_)
          rotate_left
          · (exfalso; omega)
          refine sj_ild4 dX5_byteAt_42 ?_
          exact sj_iret dX5_byteAt_44 rfl rfl (Nat.le_of_ble_eq_true rfl) (Nat.le_of_ble_eq_true rfl) ⟨by rw [if_pos (by omega)]; rw [g0 (by omega)], rfl, rfl⟩
  refine sj_iconst dX5_byteAt_0 ?_
  refine sj_ist2 (by decide) rfl dX5_byteAt_1 ?_
  refine sj_iconst dX5_byteAt_2 ?_
  refine sj_ist3 (by decide) rfl dX5_byteAt_3 ?_
  exact lp T.length 0 (by omega) (Nat.zero_le _)
end TERM1
