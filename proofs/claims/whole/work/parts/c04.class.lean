/-! the text of the class -/
def xρ (b : Nat) : Nat → Option Nat := sj_ru (sj_ru (fun _ => none) 0 (some (b + 1))) 1 (some (b + 2))
theorem xR_0 (b : Nat) : xρ b 0 = some (b + 1) := rfl
theorem xR_1 (b : Nat) : xρ b 1 = some (b + 2) := rfl
def tx (σ : sjS) (I : sjI) (b : Nat) (X : List Int) : Prop :=
  (σ.2 b = some (5, 0, xρ b) ∧ σ.2 (b + 1) = some (10, 80, fun _ => none) ∧ σ.2 (b + 2) = some (10, 80, fun _ => none)) ∧ I b 2 = X.length ∧ X.length ≤ 80 ∧ lst (I (b + 1)) 0 X.length = X ∧ ∀ x ∈ X, 32 ≤ x ∧ x ≤ 126
/-- the codes of a text -/
def jCd : List Int → Bool → List Int
  | [], _ => []
  | c :: L, fr => if c = 32 then jCd L fr else if c = 58 then jCd L true else (if fr = true then 128 + (c - 48) else c) :: jCd L false
theorem jCd_len : ∀ (L : List Int) (fr : Bool), (jCd L fr).length ≤ L.length
  | [], _ => Nat.le_refl _
  | c :: L, fr => by
    have h1 := jCd_len L fr
    have h2 := jCd_len L true
    have h3 := jCd_len L false
    simp only [jCd, List.length_cons]
    split
    · omega
    · split
      · omega
      · simp only [List.length_cons]; omega
theorem jPt_ar {c : Int} (h : jPt c ≠ -9) (h2 : c ≠ 58) : jVc c ∧ ((jAr c : Nat) : Int) = jPt c := by
  have hj := jPt_cases c
  have ha := jAr_cases c
  unfold jVc
  exact ⟨by omega, by omega⟩
theorem jNb_cons (c : Int) (L : List Int) : jNb (c :: L) = if c = 32 then jNb L else c :: jNb L := by
  unfold jNb
  by_cases h : c = 32
  · rw [if_pos h, List.filter_cons_of_neg (by simpa using h)]
  · rw [if_neg h, List.filter_cons_of_pos (by simpa using h)]
/-- a text without a fault is a term -/
theorem jCd_ok : ∀ (L : List Int) (q : Nat) (k : Int), 0 ≤ k → (jFl L q false k = -9 → jOk q (jCd L false) ∧ jEnc (jCd L false) = jNb L) ∧ (jFl L q true k = -9 → ∃ (d : Int) (R : List Int), (48 ≤ d ∧ d ≤ 57) ∧ jCd L true = (128 + (d - 48)) :: R ∧ jOk q R ∧ jNb L = d :: jEnc R)
  | [], q, k, hk => by
    constructor
    · intro h
      simp only [jFl] at h
      by_cases e : (0 : Int) < q
      · rw [if_pos (Or.inl e)] at h; omega
      · have : q = 0 := by omega
        subst this
        exact ⟨trivial, rfl⟩
    · intro h
      simp only [jFl] at h
      rw [if_pos (Or.inr True.intro)] at h
      omega
  | c :: L, q, k, hk => by
    obtain ⟨i1, i2⟩ := jCd_ok L q (k + 1) (by omega)
    constructor
    · intro h
      simp only [jFl] at h
      by_cases e : c = 32
      · rw [if_pos e] at h
        rw [jNb_cons, if_pos e]
        simp only [jCd, if_pos e]
        exact i1 h
      · rw [if_neg e] at h
        rw [if_neg (by simp)] at h
        by_cases e2 : (q : Int) = 0 ∨ jPt c = -9
        · rw [if_pos e2] at h; omega
        · rw [if_neg e2] at h
          have hq : ∃ q', q = q' + 1 := ⟨q - 1, by omega⟩
          obtain ⟨q', rfl⟩ := hq
          rw [jNb_cons, if_neg e]
          simp only [jCd, if_neg e]
          by_cases e3 : c = 58
          · subst e3
            have hj := jPt_cases 58
            rw [show (((q' + 1 : Nat) : Int) + jPt 58 - 1) = ((q' + 1 : Nat) : Int) by omega, decide_eq_true rfl] at h
            obtain ⟨d, R, h1, h2, h3, h4⟩ := i2 h
            rw [if_pos rfl, h2, h4]
            have ha := jAr_cases (128 + (d - 48))
            refine ⟨⟨by unfold jVc; omega, by rw [show jAr (128 + (d - 48)) = 1 by omega]; exact h3⟩, ?_⟩
            rw [jEnc_cons, jE_front (by omega)]
            show 58 :: (128 + (d - 48) - 80) :: jEnc R = 58 :: d :: jEnc R
            rw [show (128 + (d - 48) - 80) = d by omega]
          · obtain ⟨v1, v2⟩ := jPt_ar (c := c) (by omega) e3
            rw [show (((q' + 1 : Nat) : Int) + jPt c - 1) = ((q' + jAr c : Nat) : Int) by omega, decide_eq_false e3] at h
            obtain ⟨h1, h2⟩ := (jCd_ok L (q' + jAr c) (k + 1) (by omega)).1 h
            rw [if_neg e3, if_neg (by simp)]
            refine ⟨⟨v1, h1⟩, ?_⟩
            have hv := v1
            unfold jVc at hv
            have hj := jPt_cases c
            rw [jEnc_cons, jE_else (by omega), h2]
            rfl
    · intro h
      simp only [jFl] at h
      by_cases e : c = 32
      · rw [if_pos e] at h
        rw [jNb_cons, if_pos e]
        simp only [jCd, if_pos e]
        exact i2 h
      · rw [if_neg e, if_pos True.intro] at h
        by_cases e2 : 48 ≤ c ∧ c ≤ 57
        · rw [if_pos e2] at h
          obtain ⟨h1, h2⟩ := i1 h
          rw [jNb_cons, if_neg e]
          simp only [jCd, if_neg e]
          rw [if_neg (by omega), if_pos True.intro]
          exact ⟨c, jCd L false, e2, rfl, h1, by rw [h2]⟩
        · rw [if_neg e2] at h; omega
section TEXT
variable {l : Launch} {G : sjG} {σ : sjS} {I : sjI}
theorem cx6_init {b : Nat} (hb : σ.2 b = some (5, 0, fun _ => none)) (hb1 : σ.1 = b + 1) (h0 : I b 2 = 0) : sj_Con l yX6_init mX6_init G σ I [.ref b] (fun r σ' I' => r = none ∧ σ'.1 = b + 3 ∧ (∀ q, q < b → σ'.2 q = σ.2 q ∧ I' q = I q) ∧ tx σ' I' b []) := by
  refine sj_con_of (L0 := [some (.ref b)]) (by decide) rfl rfl rfl (Nat.le_of_ble_eq_true rfl) rfl (fun Γ => ?_)
  obtain ⟨s1, f⟩ := σ
  simp only at hb hb1
  subst hb1
  refine sj_ald0 dX6_init_0 ?_
  refine sj_oinit km_X6_3 wo_init.1 wo_init.2 (by decide) (by decide) dX6_init_1 ?_
  refine sj_ald0 dX6_init_4 ?_
  refine sj_bipush dX6_init_5 (by decide) ?_
  refine sj_newI wd_102 dX6_init_7 (by decide) (Nat.le_of_ble_eq_true rfl) (Nat.le_of_ble_eq_true rfl) ?_
  refine sj_putRF fl_X6_11 (by rw [sj_nw_ne (by show b ≠ b + 1; omega)]; exact hb) rfl rfl rfl rfl (fun q h => by cases h; rfl) dX6_init_9 ?_
  refine sj_ald0 dX6_init_12 ?_
  refine sj_bipush dX6_init_13 (by decide) ?_
  refine sj_newI wd_102 dX6_init_15 (by decide) (Nat.le_of_ble_eq_true rfl) (Nat.le_of_ble_eq_true rfl) ?_
  refine sj_putRF fl_X6_15 (by rw [sj_nw_ne (by show b ≠ b + 1 + 1; omega)]; exact sj_us_self _ _ _) rfl rfl rfl rfl (fun q h => by cases h; rfl) dX6_init_17 ?_
  exact sj_vret dX6_init_20 rfl (Nat.le_of_ble_eq_true rfl) (Nat.le_of_ble_eq_true rfl) ⟨rfl, rfl, fun q hq => ⟨by simp only [sj_us, sj_nw]; rw [if_neg (by omega), if_neg (by omega), if_neg (by omega), if_neg (by omega)], by rw [sj_ur_ne (by show q ≠ b + 2; omega), sj_ur_ne (by show q ≠ b + 1; omega)]⟩, ⟨by simp [sj_nw, sj_us]; rfl, by simp [sj_nw, sj_us], by simp [sj_nw, sj_us]⟩, by rw [sj_ur_ne (by show b ≠ b + 2; omega), sj_ur_ne (by show b ≠ b + 1; omega)]; exact h0, Nat.zero_le _, rfl, fun x hx => by cases hx⟩
theorem cx6_append {b : Nat} {c : Int} {X : List Int} (h : tx σ I b X) (hc : 32 ≤ c ∧ c ≤ 126) : sj_Con l yX6_append mX6_append G σ I [.ref b, .int (zI c)] (fun r σ' I' => σ = σ' ∧ ((X.length = 80 ∧ r = some (.int (zI (-3))) ∧ I = I') ∨ (X.length < 80 ∧ r = some (.int (zI ((X.length : Int) + 1))) ∧ (∀ q, q ≠ b → q ≠ b + 1 → I' q = I q) ∧ tx σ I' b (X ++ [c])))) := by
  obtain ⟨⟨s0, s1, s2⟩, h1, h2, h3, h4⟩ := h
  refine sj_con_of (L0 := [some (.ref b), some (.int (zI c))]) (by decide) rfl rfl rfl (Nat.le_of_ble_eq_true rfl) rfl (fun Γ => ?_)
  refine sj_ald0 dX6_append_0 ?_
  refine sj_getI fl_X6_18 (by assumption) rfl dX6_append_1 ?_
  rw [h1]
  refine sj_bipush dX6_append_4 (by decide) ?_
  refine sj_icmp_lt 12 dX6_append_6 (by decide) (by omega) (by omega) (fun c_6 => ?_) (fun c_6 => ?_)
  · refine sj_ald0 dX6_append_12 ?_
    refine sj_getR fl_X6_11 (by assumption) rfl (xR_0 _) dX6_append_13 ?_
    refine sj_ald0 dX6_append_16 ?_
    refine sj_getI fl_X6_18 (by assumption) rfl dX6_append_17 ?_
    rw [h1]
    refine sj_ild1 dX6_append_20 ?_
    refine sj_iastJ (X.length) (by assumption) (by omega) (by omega) (by omega) dX6_append_21 ?_
    refine sj_ald0 dX6_append_22 ?_
    refine sj_dup dX6_append_23 rfl ?_
    refine sj_getI fl_X6_18 (by assumption) rfl dX6_append_24 ?_
    rw [sj_up_ne (by omega), h1]
    refine sj_iconst dX6_append_27 ?_
    refine sj_iadd dX6_append_28 ?_
    refine sj_putI fl_X6_18 (by assumption) rfl rfl rfl dX6_append_29 ?_
    refine sj_ald0 dX6_append_32 ?_
    refine sj_getI fl_X6_18 (by assumption) rfl dX6_append_33 ?_
    rw [sj_up_self]
    exact sj_iret dX6_append_36 rfl rfl (Nat.le_of_ble_eq_true rfl) (Nat.le_of_ble_eq_true rfl) ⟨rfl, Or.inr ⟨by omega, rfl, fun q e1 e2 => by rw [sj_up_row e1, sj_up_row e2], ⟨s0, s1, s2⟩, by rw [sj_up_self, List.length_append]; rfl, by rw [List.length_append, List.length_singleton]; omega, by
      have e := lst_up_succ (I := I) (a := b + 1) (s := 0) (n := X.length) (v := c)
      rw [Nat.zero_add, h3] at e
      rw [List.length_append, sj_up_row (by omega)]; exact e, fun x hx => by
      rcases List.mem_append.mp hx with hx | hx
      · exact h4 x hx
      · rw [List.mem_singleton.mp hx]; exact hc⟩⟩
  · refine sj_bipush dX6_append_9 (by decide) ?_
    exact sj_iret dX6_append_11 rfl rfl (Nat.le_of_ble_eq_true rfl) (Nat.le_of_ble_eq_true rfl) ⟨rfl, Or.inl ⟨by omega, rfl, rfl⟩⟩
theorem cx6_empty {b : Nat} {X : List Int} (h : tx σ I b X) : sj_Con l yX6_empty mX6_empty G σ I [.ref b] (fun r σ' I' => r = some (.int (zI X.length)) ∧ σ = σ' ∧ (∀ q, q ≠ b → I' q = I q) ∧ tx σ I' b []) := by
  obtain ⟨⟨s0, s1, s2⟩, h1, h2, h3, h4⟩ := h
  refine sj_con_of (L0 := [some (.ref b), none]) (by decide) rfl rfl rfl (Nat.le_of_ble_eq_true rfl) rfl (fun Γ => ?_)
  refine sj_ald0 dX6_empty_0 ?_
  refine sj_getI fl_X6_18 (by assumption) rfl dX6_empty_1 ?_
  rw [h1]
  refine sj_ist1 (by decide) rfl dX6_empty_4 ?_
  refine sj_ald0 dX6_empty_5 ?_
  refine sj_iconst dX6_empty_6 ?_
  refine sj_putI fl_X6_18 (by assumption) rfl rfl rfl dX6_empty_7 ?_
  refine sj_ild1 dX6_empty_10 ?_
  exact sj_iret dX6_empty_11 rfl rfl (Nat.le_of_ble_eq_true rfl) (Nat.le_of_ble_eq_true rfl) ⟨rfl, rfl, fun q hq => sj_up_row hq, ⟨s0, s1, s2⟩, sj_up_self _ _ _ _, Nat.zero_le _, rfl, fun x hx => by cases hx⟩
theorem cx6_firstFault {b : Nat} {X : List Int} (h : tx σ I b X) : sj_Con l yX6_firstFault mX6_firstFault G σ I [.ref b] (fun r σ' I' => r = some (.int (zI (jFl X 1 false 0))) ∧ σ = σ' ∧ I = I') := by
  obtain ⟨⟨s0, s1, s2⟩, h1, h2, h3, h4⟩ := h
  refine sj_con_of (L0 := [some (.ref b), none, none, none, none, none]) (by decide) rfl rfl rfl (Nat.le_of_ble_eq_true rfl) rfl (fun Γ => ?_)
  have lp : ∀ (d k : Nat) (q f : Int) (fr : Bool), k + d = X.length → (0 ≤ q ∧ q ≤ k + 1) → ((fr = true ∧ f = 1 ∧ 1 ≤ q) ∨ (fr = false ∧ f = 0)) → jFl (X.drop k) q fr k = jFl X 1 false 0 → sj_V l Γ mX6_firstFault G (fun r σ' I' => r = some (.int (zI (jFl X 1 false 0))) ∧ σ = σ' ∧ I = I') σ I 0 0 6 [some (.ref b), some (.int (zI q)), some (.int (zI f)), some (.int (zI k)), none, none] [] := by
    intro d
    induction d with
    | zero =>
      intro k q f fr hk hq hf hj
      rw [List.drop_eq_nil_of_le (by omega)] at hj
      simp only [jFl] at hj
      refine sj_ild3 dX6_firstFault_6 ?_
      refine sj_ald0 dX6_firstFault_7 ?_
      refine sj_getI fl_X6_18 (by assumption) rfl dX6_firstFault_8 ?_
      rw [h1]
      refine sj_icmp_ge 95 dX6_firstFault_11 (by decide) (by omega) (by omega) (fun c_11 => ?_) (fun c_11 => ?_)
      rotate_left
      · (exfalso; omega)
      refine sj_ild1 dX6_firstFault_95 ?_
      refine sj_if_le 106 dX6_firstFault_96 (by decide) (by omega) (fun c_96 => ?_) (fun c_96 => ?_)
      · refine sj_bipush dX6_firstFault_106 (by decide) ?_
        exact sj_iret dX6_firstFault_108 rfl rfl (Nat.le_of_ble_eq_true rfl) (Nat.le_of_ble_eq_true rfl) ⟨by first | (rw [if_pos (Or.inl (by omega))] at hj; rw [← hj, show X.length = k by omega]; done) | (rw [if_neg (by rcases hf with ⟨_, _, _⟩ | ⟨rfl, _⟩; omega; simp; omega)] at hj; rw [← hj]), rfl, rfl⟩
      · refine sj_ald0 dX6_firstFault_99 ?_
        refine sj_getI fl_X6_18 (by assumption) rfl dX6_firstFault_100 ?_
        rw [h1]
        refine sj_goto 108 dX6_firstFault_103 (by decide) ?_
        exact sj_iret dX6_firstFault_108 rfl rfl (Nat.le_of_ble_eq_true rfl) (Nat.le_of_ble_eq_true rfl) ⟨by first | (rw [if_pos (Or.inl (by omega))] at hj; rw [← hj, show X.length = k by omega]; done) | (rw [if_neg (by rcases hf with ⟨_, _, _⟩ | ⟨rfl, _⟩; omega; simp; omega)] at hj; rw [← hj]), rfl, rfl⟩
    | succ d ih =>
      intro k q f fr hk hq hf hj
      obtain ⟨c, L, hd, hc, hd2, hcm⟩ := dropEx (T := X) (k := k) (by omega)
      have hcr := h4 c hcm
      rw [hd] at hj
      simp only [jFl] at hj
      have hbk : I (b + 1) k = c := by have := lst_getD h3 (j := k) (by omega); rw [Nat.zero_add] at this; rw [this, hc]
      have b1 := jbs (48 ≤ c ∧ c ≤ 57)
      have hp := jPt_cases c
      have hop : (jPt c = -9 ∧ (if jPt c = -9 then (-1 : Int) else jPt c) = -1) ∨ (jPt c ≠ -9 ∧ (if jPt c = -9 then (-1 : Int) else jPt c) = jPt c) := by
        by_cases e : jPt c = -9
        · rw [if_pos e]; exact Or.inl ⟨e, rfl⟩
        · rw [if_neg e]; exact Or.inr ⟨e, rfl⟩
      generalize (if jPt c = -9 then (-1 : Int) else jPt c) = w at hop
      rcases hf with ⟨rfl, rfl, hq1⟩ | ⟨rfl, rfl⟩
      · rw [if_pos (rfl : true = true)] at hj
        refine sj_ild3 dX6_firstFault_6 ?_
        refine sj_ald0 dX6_firstFault_7 ?_
        refine sj_getI fl_X6_18 (by assumption) rfl dX6_firstFault_8 ?_
        rw [h1]
        refine sj_icmp_ge 95 dX6_firstFault_11 (by decide) (by omega) (by omega) (fun c_11 => ?_) (fun c_11 => ?_)
        · (exfalso; omega)
        refine sj_ald0 dX6_firstFault_14 ?_
        refine sj_getR fl_X6_11 (by assumption) rfl (xR_0 _) dX6_firstFault_15 ?_
        refine sj_ild3 dX6_firstFault_18 ?_
        refine sj_ialdJ (k) (by assumption) (by omega) (by omega) (by omega) dX6_firstFault_19 ?_
        rw [hbk]
        refine sj_ist4 (by decide) rfl dX6_firstFault_20 ?_
        refine sj_ild4 dX6_firstFault_22 ?_
        refine sj_bipush dX6_firstFault_24 (by decide) ?_
        refine sj_icmp_ne 32 dX6_firstFault_26 (by decide) (by omega) (by omega) (fun c_26 => ?_) (fun c_26 => ?_)
        · refine sj_ild2 dX6_firstFault_32 ?_
          refine sj_if_eq 51 dX6_firstFault_33 (by decide) (by omega) (fun c_33 => ?_) (fun c_33 => ?_)
          · (exfalso; omega)
          refine sj_ild4 dX6_firstFault_36 ?_
          refine sj_callS (cx0_isDigit (by omega)) kc_X6_22 rfl rfl (Nat.le_of_ble_eq_true rfl) dX6_firstFault_38 (fun r_38 σ_38 I_38 hp_38 => ?_)
          obtain ⟨rfl, rfl, rfl⟩ := hp_38
          refine sj_if_ne 46 dX6_firstFault_41 (by decide) (by omega) (fun c_41 => ?_) (fun c_41 => ?_)
          · refine sj_iconst dX6_firstFault_46 ?_
            refine sj_ist2 (by decide) rfl dX6_firstFault_47 ?_
            refine sj_goto 89 dX6_firstFault_48 (by decide) ?_
            refine sj_inc3 (by decide) rfl dX6_firstFault_89 ?_
            refine sj_goto 6 dX6_firstFault_92 (by decide) ?_
            refine sj_fg4 ?_
            first
             | exact ih (k + 1) q 1 true (by omega) (by omega) (Or.inl ⟨rfl, rfl, hq1⟩) (by rw [if_pos (by omega)] at hj; rw [hd2]; exact hj)
             | exact ih (k + 1) q 0 false (by omega) (by omega) (Or.inr ⟨rfl, rfl⟩) (by rw [if_neg (by omega), if_pos (by omega)] at hj; rw [hd2]; exact hj)
          · refine sj_ild3 dX6_firstFault_44 ?_
            exact sj_iret dX6_firstFault_45 rfl rfl (Nat.le_of_ble_eq_true rfl) (Nat.le_of_ble_eq_true rfl) ⟨by rw [if_neg (by omega), if_neg (by omega)] at hj; rw [← hj], rfl, rfl⟩
        · refine sj_goto 89 dX6_firstFault_29 (by decide) ?_
          refine sj_inc3 (by decide) rfl dX6_firstFault_89 ?_
          refine sj_goto 6 dX6_firstFault_92 (by decide) ?_
          refine sj_fg4 ?_
          first
           | exact ih (k + 1) q 1 true (by omega) (by omega) (Or.inl ⟨rfl, rfl, hq1⟩) (by rw [if_pos (by omega)] at hj; rw [hd2]; exact hj)
           | exact ih (k + 1) q 0 false (by omega) (by omega) (Or.inr ⟨rfl, rfl⟩) (by rw [if_neg (by omega), if_pos (by omega)] at hj; rw [hd2]; exact hj)
      · simp only [Bool.false_eq_true, if_false] at hj
        have hop' := cx0_operands (l := l) (G := G) (σ := σ) (I := I) (c := c) (by omega)
        refine sj_ild3 dX6_firstFault_6 ?_
        refine sj_ald0 dX6_firstFault_7 ?_
        refine sj_getI fl_X6_18 (by assumption) rfl dX6_firstFault_8 ?_
        rw [h1]
        refine sj_icmp_ge 95 dX6_firstFault_11 (by decide) (by omega) (by omega) (fun c_11 => ?_) (fun c_11 => ?_)
        · (exfalso; omega)
        refine sj_ald0 dX6_firstFault_14 ?_
        refine sj_getR fl_X6_11 (by assumption) rfl (xR_0 _) dX6_firstFault_15 ?_
        refine sj_ild3 dX6_firstFault_18 ?_
        refine sj_ialdJ (k) (by assumption) (by omega) (by omega) (by omega) dX6_firstFault_19 ?_
        rw [hbk]
        refine sj_ist4 (by decide) rfl dX6_firstFault_20 ?_
        refine sj_ild4 dX6_firstFault_22 ?_
        refine sj_bipush dX6_firstFault_24 (by decide) ?_
        refine sj_icmp_ne 32 dX6_firstFault_26 (by decide) (by omega) (by omega) (fun c_26 => ?_) (fun c_26 => ?_)
        · refine sj_ild2 dX6_firstFault_32 ?_
          refine sj_if_eq 51 dX6_firstFault_33 (by decide) (by omega) (fun c_33 => ?_) (fun c_33 => ?_)
          rotate_left
          · (exfalso; omega)
          refine sj_ild4 dX6_firstFault_51 ?_
          refine sj_callS (cx0_operands (by omega)) kc_X6_28 rfl rfl (Nat.le_of_ble_eq_true rfl) dX6_firstFault_53 (fun r_53 σ_53 I_53 hp_53 => ?_)
          obtain ⟨rfl, rfl, rfl⟩ := hp_53
          obtain ⟨w, hw, hww⟩ : ∃ w : Int, (if jPt c = -9 then (-1 : Int) else jPt c) = w ∧ ((jPt c = -9 ∧ w = -1) ∨ (jPt c ≠ -9 ∧ w = jPt c)) := by
            by_cases e : jPt c = -9
            · rw [if_pos e]; exact ⟨_, rfl, Or.inl ⟨e, rfl⟩⟩
            · rw [if_neg e]; exact ⟨_, rfl, Or.inr ⟨e, rfl⟩⟩
          rw [hw]
          refine sj_ist5 (by decide) rfl dX6_firstFault_56 ?_
          refine sj_ild1 dX6_firstFault_58 ?_
          refine sj_if_eq 67 dX6_firstFault_59 (by decide) (by omega) (fun c_59 => ?_) (fun c_59 => ?_)
          · refine sj_ild3 dX6_firstFault_67 ?_
            exact sj_iret dX6_firstFault_68 rfl rfl (Nat.le_of_ble_eq_true rfl) (Nat.le_of_ble_eq_true rfl) ⟨by rw [if_neg (by omega), if_pos (by omega)] at hj; rw [← hj], rfl, rfl⟩
          · refine sj_ild5 dX6_firstFault_62 ?_
            refine sj_if_ge 69 dX6_firstFault_64 (by decide) (by omega) (fun c_64 => ?_) (fun c_64 => ?_)
            · refine sj_ild1 dX6_firstFault_69 ?_
              refine sj_ild5 dX6_firstFault_70 ?_
              refine sj_iconst dX6_firstFault_72 ?_
              refine sj_isub dX6_firstFault_73 ?_
              refine sj_iadd dX6_firstFault_74 ?_
              refine sj_ist1 (by decide) rfl dX6_firstFault_75 ?_
              refine sj_ild4 dX6_firstFault_76 ?_
              refine sj_bipush dX6_firstFault_78 (by decide) ?_
              refine sj_icmp_ne 87 dX6_firstFault_80 (by decide) (by omega) (by omega) (fun c_80 => ?_) (fun c_80 => ?_)
              · refine sj_iconst dX6_firstFault_87 ?_
                refine sj_ist2 (by decide) rfl dX6_firstFault_88 ?_
                refine sj_inc3 (by decide) rfl dX6_firstFault_89 ?_
                refine sj_goto 6 dX6_firstFault_92 (by decide) ?_
                refine sj_fg5 (sj_fg4 ?_)
                first
                 | exact ih (k + 1) q 0 false (by omega) (by omega) (Or.inr ⟨rfl, rfl⟩) (by rw [if_pos (by omega)] at hj; rw [hd2]; exact hj)
                 | exact ih (k + 1) _ 1 true (by omega) (by omega) (Or.inl ⟨rfl, rfl, by omega⟩) (by
                    rw [if_neg (by omega), if_neg (by omega), decide_eq_true (by omega)] at hj
                    rw [hd2, show q + (w - 1) = q + jPt c - 1 by omega]; exact hj)
                 | exact ih (k + 1) _ 0 false (by omega) (by omega) (Or.inr ⟨rfl, rfl⟩) (by
                    rw [if_neg (by omega), if_neg (by omega), decide_eq_false (by omega)] at hj
                    rw [hd2, show q + (w - 1) = q + jPt c - 1 by omega]; exact hj)
              · refine sj_iconst dX6_firstFault_83 ?_
                refine sj_goto 88 dX6_firstFault_84 (by decide) ?_
                refine sj_ist2 (by decide) rfl dX6_firstFault_88 ?_
                refine sj_inc3 (by decide) rfl dX6_firstFault_89 ?_
                refine sj_goto 6 dX6_firstFault_92 (by decide) ?_
                refine sj_fg5 (sj_fg4 ?_)
                first
                 | exact ih (k + 1) q 0 false (by omega) (by omega) (Or.inr ⟨rfl, rfl⟩) (by rw [if_pos (by omega)] at hj; rw [hd2]; exact hj)
                 | exact ih (k + 1) _ 1 true (by omega) (by omega) (Or.inl ⟨rfl, rfl, by omega⟩) (by
                    rw [if_neg (by omega), if_neg (by omega), decide_eq_true (by omega)] at hj
                    rw [hd2, show q + (w - 1) = q + jPt c - 1 by omega]; exact hj)
                 | exact ih (k + 1) _ 0 false (by omega) (by omega) (Or.inr ⟨rfl, rfl⟩) (by
                    rw [if_neg (by omega), if_neg (by omega), decide_eq_false (by omega)] at hj
                    rw [hd2, show q + (w - 1) = q + jPt c - 1 by omega]; exact hj)
            · refine sj_ild3 dX6_firstFault_67 ?_
              exact sj_iret dX6_firstFault_68 rfl rfl (Nat.le_of_ble_eq_true rfl) (Nat.le_of_ble_eq_true rfl) ⟨by rw [if_neg (by omega), if_pos (by omega)] at hj; rw [← hj], rfl, rfl⟩
        · refine sj_goto 89 dX6_firstFault_29 (by decide) ?_
          refine sj_inc3 (by decide) rfl dX6_firstFault_89 ?_
          refine sj_goto 6 dX6_firstFault_92 (by decide) ?_
          refine sj_fg5 (sj_fg4 ?_)
          first
           | exact ih (k + 1) q 0 false (by omega) (by omega) (Or.inr ⟨rfl, rfl⟩) (by rw [if_pos (by omega)] at hj; rw [hd2]; exact hj)
           | exact ih (k + 1) _ 1 true (by omega) (by omega) (Or.inl ⟨rfl, rfl, by omega⟩) (by
              rw [if_neg (by omega), if_neg (by omega), decide_eq_true (by omega)] at hj
              rw [hd2, show q + (w - 1) = q + jPt c - 1 by omega]; exact hj)
           | exact ih (k + 1) _ 0 false (by omega) (by omega) (Or.inr ⟨rfl, rfl⟩) (by
              rw [if_neg (by omega), if_neg (by omega), decide_eq_false (by omega)] at hj
              rw [hd2, show q + (w - 1) = q + jPt c - 1 by omega]; exact hj)
  refine sj_iconst dX6_firstFault_0 ?_
  refine sj_ist1 (by decide) rfl dX6_firstFault_1 ?_
  refine sj_iconst dX6_firstFault_2 ?_
  refine sj_ist2 (by decide) rfl dX6_firstFault_3 ?_
  refine sj_iconst dX6_firstFault_4 ?_
  refine sj_ist3 (by decide) rfl dX6_firstFault_5 ?_
  exact lp X.length 0 1 0 false (by omega) (by omega) (Or.inr ⟨rfl, rfl⟩) rfl
theorem cx6_read {b : Nat} {X : List Int} (h : tx σ I b X) (hok : jOk 1 (jCd X false)) : sj_Con l yX6_read mX6_read G σ I [.ref b] (fun r σ' I' => r = some (.ref σ.1) ∧ σ'.1 = σ.1 + 4 ∧ (∀ q, q < σ.1 → σ'.2 q = σ.2 q ∧ (q ≠ b + 2 → I' q = I q)) ∧ tm σ' I' σ.1 (jCd X false)) := by
  obtain ⟨⟨s0, s1, s2⟩, h1, h2, h3, h4⟩ := h
  refine sj_con_of (L0 := [some (.ref b), none, none, none, none]) (by decide) rfl rfl rfl (Nat.le_of_ble_eq_true rfl) rfl (fun Γ => ?_)
  refine sj_wfV (fun hwf => ?_)
  have w2 := hwf _ _ s2
  have hlen := jCd_len X false
  have lp : ∀ (d k : Nat) (P : List Int) (f : Int) (fr : Bool) (J : sjI), k + d = X.length → ((fr = true ∧ f = 1) ∨ (fr = false ∧ f = 0)) → (∀ q, q ≠ b + 2 → J q = I q) → lst (J (b + 2)) 0 P.length = P → P.length ≤ k → jCd X false = P ++ jCd (X.drop k) fr → sj_V l Γ mX6_read G (fun r σ' I' => r = some (.ref σ.1) ∧ σ'.1 = σ.1 + 4 ∧ (∀ q, q < σ.1 → σ'.2 q = σ.2 q ∧ (q ≠ b + 2 → I' q = I q)) ∧ tm σ' I' σ.1 (jCd X false)) σ J 0 0 6 [some (.ref b), some (.int (zI P.length)), some (.int (zI f)), some (.int (zI k)), none] [] := by
    intro d
    induction d with
    | zero =>
      intro k P f fr J hk hf hJ hP hPl hj
      rw [List.drop_eq_nil_of_le (by omega)] at hj
      simp only [jCd, List.append_nil] at hj
      have hJb : J b 2 = X.length := by rw [hJ b (by omega)]; exact h1
      refine sj_ild3 dX6_read_6 ?_
      refine sj_ald0 dX6_read_7 ?_
      refine sj_getI fl_X6_18 (by assumption) rfl dX6_read_8 ?_
      rw [hJb]
      refine sj_icmp_ge 79 dX6_read_11 (by decide) (by omega) (by omega) (fun c_11 => ?_) (fun c_11 => ?_)
      rotate_left
      · (exfalso; omega)
      refine sj_new (κ := 4) rfl kl_X6_32 wi_4 wz_4 dX6_read_79 (Nat.le_of_ble_eq_true rfl) (Nat.le_of_ble_eq_true rfl) ?_
      refine sj_dup dX6_read_82 rfl ?_
      refine sj_ald0 dX6_read_83 ?_
      refine sj_getR fl_X6_15 (by rw [sj_nw_ne (by omega)]; exact s0) rfl (xR_1 _) dX6_read_84 ?_
      refine sj_ild1 dX6_read_87 ?_
      refine sj_callI (cx5_init (t := σ.1) (a := b + 2) (n0 := 80) (T := P) (sj_nw_self _ _) rfl (by rw [sj_nw_ne (by omega)]; exact s2) (by rw [sj_ur_ne (by omega)]; exact hP) (by rw [← hj]; exact hok) (by omega) (by omega)) kc_X6_34 rfl rfl (Nat.le_of_ble_eq_true rfl) dX6_read_88 (fun r_88 σ_88 I_88 hp_88 => ?_)
      obtain ⟨rfl, x1, x2, x3⟩ := hp_88
      exact sj_aret dX6_read_91 rfl (Or.inl ⟨_, rfl⟩) (Or.inr ⟨_, rfl⟩) (Nat.le_of_ble_eq_true rfl) (Nat.le_of_ble_eq_true rfl) ⟨rfl, x1, fun q hq => ⟨by rw [(x2 q hq).1, sj_nw_ne (by omega)], fun e => by rw [(x2 q hq).2, sj_ur_ne (by omega), hJ q e]⟩, by rw [hj]; exact x3⟩
    | succ d ih =>
      intro k P f fr J hk hf hJ hP hPl hj
      obtain ⟨c, L, hd, hc, hd2, hcm⟩ := dropEx (T := X) (k := k) (by omega)
      have hcr := h4 c hcm
      rw [hd] at hj
      simp only [jCd] at hj
      have hbk : J (b + 1) k = c := by have := lst_getD h3 (j := k) (by omega); rw [Nat.zero_add] at this; rw [hJ (b + 1) (by omega), this, hc]
      have hJb : J b 2 = X.length := by rw [hJ b (by omega)]; exact h1
      have put : ∀ v : Int, jCd X false = P ++ v :: jCd L false → sj_V l Γ mX6_read G (fun r σ' I' => r = some (.ref σ.1) ∧ σ'.1 = σ.1 + 4 ∧ (∀ q, q < σ.1 → σ'.2 q = σ.2 q ∧ (q ≠ b + 2 → I' q = I q)) ∧ tm σ' I' σ.1 (jCd X false)) σ (sj_up J (b + 2) P.length v) 0 0 6 [some (.ref b), some (.int (zI ((P.length : Int) + 1))), some (.int (zI 0)), some (.int (zI ((k : Int) + 1))), none] [] := fun v hv => by
        have hih := ih (k + 1) (P ++ [v]) 0 false (sj_up J (b + 2) P.length v) (by omega) (Or.inr ⟨rfl, rfl⟩) (fun q hq => by rw [sj_up_row hq]; exact hJ q hq) (by
          have e := lst_up_succ (I := J) (a := b + 2) (s := 0) (n := P.length) (v := v)
          rw [Nat.zero_add, hP] at e
          rw [List.length_append]; exact e) (by rw [List.length_append, List.length_singleton]; omega) (by rw [hd2, hv, List.append_assoc]; rfl)
        rw [List.length_append] at hih
        exact hih
      refine sj_ild3 dX6_read_6 ?_
      refine sj_ald0 dX6_read_7 ?_
      refine sj_getI fl_X6_18 (by assumption) rfl dX6_read_8 ?_
      rw [hJb]
      refine sj_icmp_ge 79 dX6_read_11 (by decide) (by omega) (by omega) (fun c_11 => ?_) (fun c_11 => ?_)
      · (exfalso; omega)
      refine sj_ald0 dX6_read_14 ?_
      refine sj_getR fl_X6_11 (by assumption) rfl (xR_0 _) dX6_read_15 ?_
      refine sj_ild3 dX6_read_18 ?_
      refine sj_ialdJ (k) (by assumption) (by omega) (by omega) (by omega) dX6_read_19 ?_
      rw [hbk]
      refine sj_ist4 (by decide) rfl dX6_read_20 ?_
      refine sj_ild4 dX6_read_22 ?_
      refine sj_bipush dX6_read_24 (by decide) ?_
      refine sj_icmp_ne 32 dX6_read_26 (by decide) (by omega) (by omega) (fun c_26 => ?_) (fun c_26 => ?_)
      · refine sj_ild4 dX6_read_32 ?_
        refine sj_bipush dX6_read_34 (by decide) ?_
        refine sj_icmp_ne 44 dX6_read_36 (by decide) (by omega) (by omega) (fun c_36 => ?_) (fun c_36 => ?_)
        · refine sj_ald0 dX6_read_44 ?_
          refine sj_getR fl_X6_15 (by assumption) rfl (xR_1 _) dX6_read_45 ?_
          refine sj_ild1 dX6_read_48 ?_
          refine sj_ild2 dX6_read_49 ?_
          refine sj_if_eq 65 dX6_read_50 (by decide) (by omega) (fun c_50 => ?_) (fun c_50 => ?_)
          · refine sj_ild4 dX6_read_65 ?_
            refine sj_iastJ (P.length) (by assumption) (by omega) (by omega) (by omega) dX6_read_67 ?_
            refine sj_inc1 (by decide) rfl dX6_read_68 ?_
            refine sj_iconst dX6_read_71 ?_
            refine sj_ist2 (by decide) rfl dX6_read_72 ?_
            refine sj_inc3 (by decide) rfl dX6_read_73 ?_
            refine sj_goto 6 dX6_read_76 (by decide) ?_
            refine sj_fg4 ?_
            first
             | (rw [if_pos (by omega)] at hj
                exact ih (k + 1) P f fr J (by omega) hf hJ hP (by omega) (by rw [hd2]; exact hj))
             | (rw [if_neg (by omega), if_pos (by omega)] at hj
                exact ih (k + 1) P 1 true J (by omega) (Or.inl ⟨rfl, rfl⟩) hJ hP (by omega) (by rw [hd2]; exact hj))
             | (rw [if_neg (by omega), if_neg (by omega)] at hj
                refine put _ ?_
                rw [hj]
                rcases hf with ⟨rfl, rfl⟩ | ⟨rfl, rfl⟩
                · first | rfl | omega
                · first | rfl | omega)
          · refine sj_sipush dX6_read_53 (by decide) ?_
            refine sj_ild4 dX6_read_56 ?_
            refine sj_bipush dX6_read_58 (by decide) ?_
            refine sj_isub dX6_read_60 ?_
            refine sj_iadd dX6_read_61 ?_
            refine sj_goto 67 dX6_read_62 (by decide) ?_
            refine sj_iastJ (P.length) (by assumption) (by omega) (by omega) (by omega) dX6_read_67 ?_
            refine sj_inc1 (by decide) rfl dX6_read_68 ?_
            refine sj_iconst dX6_read_71 ?_
            refine sj_ist2 (by decide) rfl dX6_read_72 ?_
            refine sj_inc3 (by decide) rfl dX6_read_73 ?_
            refine sj_goto 6 dX6_read_76 (by decide) ?_
            refine sj_fg4 ?_
            first
             | (rw [if_pos (by omega)] at hj
                exact ih (k + 1) P f fr J (by omega) hf hJ hP (by omega) (by rw [hd2]; exact hj))
             | (rw [if_neg (by omega), if_pos (by omega)] at hj
                exact ih (k + 1) P 1 true J (by omega) (Or.inl ⟨rfl, rfl⟩) hJ hP (by omega) (by rw [hd2]; exact hj))
             | (rw [if_neg (by omega), if_neg (by omega)] at hj
                refine put _ ?_
                rw [hj]
                rcases hf with ⟨rfl, rfl⟩ | ⟨rfl, rfl⟩
                · first | rfl | omega
                · first | rfl | omega)
        · refine sj_iconst dX6_read_39 ?_
          refine sj_ist2 (by decide) rfl dX6_read_40 ?_
          refine sj_goto 73 dX6_read_41 (by decide) ?_
          refine sj_inc3 (by decide) rfl dX6_read_73 ?_
          refine sj_goto 6 dX6_read_76 (by decide) ?_
          refine sj_fg4 ?_
          first
           | (rw [if_pos (by omega)] at hj
              exact ih (k + 1) P f fr J (by omega) hf hJ hP (by omega) (by rw [hd2]; exact hj))
           | (rw [if_neg (by omega), if_pos (by omega)] at hj
              exact ih (k + 1) P 1 true J (by omega) (Or.inl ⟨rfl, rfl⟩) hJ hP (by omega) (by rw [hd2]; exact hj))
           | (rw [if_neg (by omega), if_neg (by omega)] at hj
              refine put _ ?_
              rw [hj]
              rcases hf with ⟨rfl, rfl⟩ | ⟨rfl, rfl⟩
              · first | rfl | omega
              · first | rfl | omega)
      · refine sj_goto 73 dX6_read_29 (by decide) ?_
        refine sj_inc3 (by decide) rfl dX6_read_73 ?_
        refine sj_goto 6 dX6_read_76 (by decide) ?_
        refine sj_fg4 ?_
        first
         | (rw [if_pos (by omega)] at hj
            exact ih (k + 1) P f fr J (by omega) hf hJ hP (by omega) (by rw [hd2]; exact hj))
         | (rw [if_neg (by omega), if_pos (by omega)] at hj
            exact ih (k + 1) P 1 true J (by omega) (Or.inl ⟨rfl, rfl⟩) hJ hP (by omega) (by rw [hd2]; exact hj))
         | (rw [if_neg (by omega), if_neg (by omega)] at hj
            refine put _ ?_
            rw [hj]
            rcases hf with ⟨rfl, rfl⟩ | ⟨rfl, rfl⟩
            · first | rfl | omega
            · first | rfl | omega)
  refine sj_iconst dX6_read_0 ?_
  refine sj_ist1 (by decide) rfl dX6_read_1 ?_
  refine sj_iconst dX6_read_2 ?_
  refine sj_ist2 (by decide) rfl dX6_read_3 ?_
  refine sj_iconst dX6_read_4 ?_
  refine sj_ist3 (by decide) rfl dX6_read_5 ?_
  exact lp X.length 0 [] 0 false I (by omega) (Or.inr ⟨rfl, rfl⟩) (fun _ _ => rfl) rfl (Nat.le_refl _) rfl
end TEXT
