/-! equations of the class -/
def eρ (e : Nat) : Nat → Option Nat := sj_ru (fun _ => none) 1 (some (e + 1))
theorem eR_1 (e : Nat) : eρ e 1 = some (e + 1) := rfl
/-- the terms that a row of references names -/
def tk (σ : sjS) (τ : Nat → Option Nat) : Prop := ∀ a t, a < 8 → τ a = some t → σ.2 t = some (4, 0, tρ t)
def eqn (σ : sjS) (I : sjI) (e : Nat) (M : Int) (τ : Nat → Option Nat) : Prop := σ.2 e = some (1, 0, eρ e) ∧ σ.2 (e + 1) = some (13, 8, τ) ∧ I e 0 = M
def te (σ : sjS) (I : sjI) (τ : Nat → Option Nat) (E : Nat → Option (List Int)) : Prop := (∀ a, 8 ≤ a → E a = none) ∧ ∀ a, a < 8 → (τ a = none ∧ E a = none) ∨ ∃ t T, τ a = some t ∧ E a = some T ∧ tm σ I t T
theorem te.tk {σ : sjS} {I : sjI} {τ : Nat → Option Nat} {E : Nat → Option (List Int)} (h : te σ I τ E) : tk σ τ := by
  intro a t ha ht
  rcases h.2 a ha with ⟨e1, _⟩ | ⟨u, T, e1, _, e3⟩
  · rw [e1] at ht; cases ht
  · rw [e1] at ht; cases ht; exact e3.1.1
theorem sj_us_us (σ : sjS) (a : Nat) (x y : sjSh) : sj_us (sj_us σ a x) a y = sj_us σ a y := by
  refine Prod.ext rfl ?_
  funext q
  by_cases c : q = a
  · subst c; rw [sj_us_self, sj_us_self]
  · rw [sj_us_ne c, sj_us_ne c, sj_us_ne c]
theorem sj_us_fst (σ : sjS) (a : Nat) (x : sjSh) : (sj_us σ a x).1 = σ.1 := rfl
theorem sj_ru_self (ρ : Nat → Option Nat) (k : Nat) (b : Option Nat) : sj_ru ρ k b k = b := by simp [sj_ru]
theorem sj_ru_ne {ρ : Nat → Option Nat} {k j : Nat} {b : Option Nat} (h : j ≠ k) : sj_ru ρ k b j = ρ j := by simp [sj_ru, h]
theorem optEx (x : Option Nat) : x = none ∨ ∃ s, x = some s := by
  cases x with
  | none => exact Or.inl rfl
  | some s => exact Or.inr ⟨s, rfl⟩
def jCe (E : Nat → Option (List Int)) : Nat → Int
  | 0 => 0
  | n + 1 => jCe E n + (if E n = none then 0 else 1)
theorem jCe_le (E : Nat → Option (List Int)) : ∀ n : Nat, 0 ≤ jCe E n ∧ jCe E n ≤ n
  | 0 => by simp [jCe]
  | n + 1 => by
    have := jCe_le E n
    simp only [jCe]
    split <;> omega
def jTe (E : Nat → Option (List Int)) : Nat → Int
  | 0 => 0
  | n + 1 => jTe E n + ((E n).getD []).length
def jPe (E : Nat → Option (List Int)) : Nat → Bool
  | 0 => true
  | n + 1 => jPe E n && jPb ((E n).getD [])
theorem jPe_mono {E : Nat → Option (List Int)} {n m : Nat} (h : jPe E m = true) (hn : n ≤ m) : jPe E n = true := by
  induction m with
  | zero => rw [show n = 0 by omega]; rfl
  | succ m ih =>
    by_cases e : n = m + 1
    · rw [e]; exact h
    · have h2 : (jPe E m && jPb ((E m).getD [])) = true := h
      rw [Bool.and_eq_true] at h2
      exact ih h2.1 (by omega)
section EQNS
variable {l : Launch} {G : sjG} {σ : sjS} {I : sjI}
theorem cx2_init {e : Nat} (he : σ.2 e = some (1, 0, fun _ => none)) (he1 : σ.1 = e + 1) : sj_Con l yX2_init mX2_init G σ I [.ref e] (fun r σ' I' => r = none ∧ σ'.1 = e + 2 ∧ (∀ q, q < e → σ'.2 q = σ.2 q ∧ I' q = I q) ∧ eqn σ' I' e 2 (fun _ => none)) := by
  refine sj_con_of (L0 := [some (.ref e)]) (by decide) rfl rfl rfl (Nat.le_of_ble_eq_true rfl) rfl (fun Γ => ?_)
  obtain ⟨s1, f⟩ := σ
  simp only at he he1
  subst he1
  refine sj_ald0 dX2_init_0 ?_
  refine sj_oinit km_X2_3 wo_init.1 wo_init.2 (by decide) (by decide) dX2_init_1 ?_
  refine sj_ald0 dX2_init_4 ?_
  refine sj_iconst dX2_init_5 ?_
  refine sj_putI fl_X2_9 (by assumption) rfl rfl rfl dX2_init_6 ?_
  refine sj_ald0 dX2_init_9 ?_
  refine sj_bipush dX2_init_10 (by decide) ?_
  refine sj_newQ (κ := 13) rfl kl_X2_15 wo_4 dX2_init_12 (by decide) (Nat.le_of_ble_eq_true rfl) (Nat.le_of_ble_eq_true rfl) ?_
  refine sj_putRF fl_X2_17 (by rw [sj_nw_ne (by show e ≠ e + 1; omega)]; exact he) rfl rfl rfl rfl (fun q h => by cases h; rfl) dX2_init_15 ?_
  exact sj_vret dX2_init_18 rfl (Nat.le_of_ble_eq_true rfl) (Nat.le_of_ble_eq_true rfl) ⟨rfl, rfl, fun q hq => ⟨by simp only [sj_us, sj_nw]; rw [if_neg (by omega), if_neg (by omega)], by rw [sj_ur_ne (by show q ≠ e + 1; omega), sj_up_row (by omega)]⟩, by simp [sj_nw, sj_us]; rfl, by simp [sj_nw, sj_us], by rw [sj_ur_ne (by show e ≠ e + 1; omega), sj_up_self]⟩
theorem cx2_copyFrom {e e' : Nat} {M M' : Int} {τ τ' : Nat → Option Nat} (h : eqn σ I e M τ) (h' : eqn σ I e' M' τ') (ht : tk σ τ') (hne : e ≠ e') : sj_Con l yX2_copyFrom mX2_copyFrom G σ I [.ref e, .ref e'] (fun r σ' I' => r = none ∧ I' = sj_up I e 0 M' ∧ ∃ ρ, (∀ a, a < 8 → ρ a = τ' a) ∧ σ' = sj_us σ (e + 1) (13, 8, ρ)) := by
  obtain ⟨a1, a2, a3⟩ := h
  obtain ⟨b1, b2, b3⟩ := h'
  have n1 : e' ≠ e + 1 := fun q => by rw [q, a2] at b1; cases b1
  have n2 : e ≠ e' + 1 := fun q => by rw [q, b2] at a1; cases a1
  refine sj_con_of (L0 := [some (.ref e), some (.ref e'), none]) (by decide) rfl rfl rfl (Nat.le_of_ble_eq_true rfl) rfl (fun Γ => ?_)
  have lp : ∀ (d k : Nat) (ρ : Nat → Option Nat), k + d = 8 → (∀ a, a < k → ρ a = τ' a) → sj_V l Γ mX2_copyFrom G (fun r σ' I' => r = none ∧ I' = sj_up I e 0 M' ∧ ∃ ρ, (∀ a, a < 8 → ρ a = τ' a) ∧ σ' = sj_us σ (e + 1) (13, 8, ρ)) (sj_us σ (e + 1) (13, 8, ρ)) (sj_up I e 0 M') 0 0 10 [some (.ref e), some (.ref e'), some (.int (zI k))] [] := by
    intro d
    induction d with
    | zero =>
      intro k ρ hk hρ
      refine sj_ild2 dX2_copyFrom_10 ?_
      refine sj_bipush dX2_copyFrom_11 (by decide) ?_
      refine sj_icmp_ge 34 dX2_copyFrom_13 (by decide) (by omega) (by omega) (fun c_13 => ?_) (fun c_13 => ?_)
      rotate_left
      · (exfalso; omega)
      exact sj_vret dX2_copyFrom_34 rfl (Nat.le_of_ble_eq_true rfl) (Nat.le_of_ble_eq_true rfl) ⟨rfl, rfl, ρ, fun a ha => hρ a (by omega), rfl⟩
    | succ d ih =>
      intro k ρ hk hρ
      have c1 : (sj_us σ (e + 1) (13, 8, ρ)).2 e = some (1, 0, eρ e) := by rw [sj_us_ne (by omega)]; exact a1
      have c2 : (sj_us σ (e + 1) (13, 8, ρ)).2 (e + 1) = some (13, 8, ρ) := sj_us_self _ _ _
      have c3 : (sj_us σ (e + 1) (13, 8, ρ)).2 e' = some (1, 0, eρ e') := by rw [sj_us_ne n1]; exact b1
      have c4 : (sj_us σ (e + 1) (13, 8, ρ)).2 (e' + 1) = some (13, 8, τ') := by rw [sj_us_ne (by omega)]; exact b2
      have step : ∀ v, τ' k = v → ∀ a, a < k + 1 → sj_ru ρ k v a = τ' a := fun v hv a ha => by
        by_cases q : a = k
        · rw [q, sj_ru_self, hv]
        · rw [sj_ru_ne q]; exact hρ a (by omega)
      cases hv : τ' k with
      | none =>
        refine sj_ild2 dX2_copyFrom_10 ?_
        refine sj_bipush dX2_copyFrom_11 (by decide) ?_
        refine sj_icmp_ge 34 dX2_copyFrom_13 (by decide) (by omega) (by omega) (fun c_13 => ?_) (fun c_13 => ?_)
        · (exfalso; omega)
        refine sj_ald0 dX2_copyFrom_16 ?_
        refine sj_getR fl_X2_17 (by assumption) rfl (eR_1 _) dX2_copyFrom_17 ?_
        refine sj_ild2 dX2_copyFrom_20 ?_
        refine sj_ald1 dX2_copyFrom_21 ?_
        refine sj_getR fl_X2_17 (by assumption) rfl (eR_1 _) dX2_copyFrom_22 ?_
        refine sj_ild2 dX2_copyFrom_25 ?_
        refine sj_aaldN rfl (by assumption) (by omega) (by decide) hv dX2_copyFrom_26 ?_
        refine sj_aastN rfl (by assumption) (by omega) (by omega) dX2_copyFrom_27 ?_
        rw [sj_us_us]
        refine sj_inc2 (by decide) rfl dX2_copyFrom_28 ?_
        refine sj_goto 10 dX2_copyFrom_31 (by decide) ?_
        exact ih (k + 1) _ (by omega) (step none hv)
      | some t =>
        have ht1 : (sj_us σ (e + 1) (13, 8, ρ)).2 t = some (4, 0, tρ t) := by
          rw [sj_us_ne]
          · exact ht k t (by omega) hv
          · intro q
            have := ht k t (by omega) hv
            rw [q, a2] at this
            cases this
        refine sj_ild2 dX2_copyFrom_10 ?_
        refine sj_bipush dX2_copyFrom_11 (by decide) ?_
        refine sj_icmp_ge 34 dX2_copyFrom_13 (by decide) (by omega) (by omega) (fun c_13 => ?_) (fun c_13 => ?_)
        · (exfalso; omega)
        refine sj_ald0 dX2_copyFrom_16 ?_
        refine sj_getR fl_X2_17 (by assumption) rfl (eR_1 _) dX2_copyFrom_17 ?_
        refine sj_ild2 dX2_copyFrom_20 ?_
        refine sj_ald1 dX2_copyFrom_21 ?_
        refine sj_getR fl_X2_17 (by assumption) rfl (eR_1 _) dX2_copyFrom_22 ?_
        refine sj_ild2 dX2_copyFrom_25 ?_
        refine sj_aald rfl (by assumption) (by omega) (by decide) hv dX2_copyFrom_26 ?_
        refine sj_aast rfl (by assumption) (by assumption) (by omega) (by decide) dX2_copyFrom_27 ?_
        rw [sj_us_us]
        refine sj_inc2 (by decide) rfl dX2_copyFrom_28 ?_
        refine sj_goto 10 dX2_copyFrom_31 (by decide) ?_
        exact ih (k + 1) _ (by omega) (step (some t) hv)
  have h0 := lp 8 0 τ (by omega) (fun a ha => absurd ha (by omega))
  rw [sj_us_same a2] at h0
  refine sj_ald0 dX2_copyFrom_0 ?_
  refine sj_ald1 dX2_copyFrom_1 ?_
  refine sj_getI fl_X2_9 (by assumption) rfl dX2_copyFrom_2 ?_
  rw [b3]
  refine sj_putI fl_X2_9 (by assumption) rfl rfl rfl dX2_copyFrom_5 ?_
  refine sj_iconst dX2_copyFrom_8 ?_
  refine sj_ist2 (by decide) rfl dX2_copyFrom_9 ?_
  exact h0
theorem cx2_count {e : Nat} {M : Int} {τ : Nat → Option Nat} {E : Nat → Option (List Int)} (h : eqn σ I e M τ) (hn : ∀ a, a < 8 → (τ a = none ↔ E a = none)) : sj_Con l yX2_count mX2_count G σ I [.ref e] (fun r σ' I' => r = some (.int (zI (jCe E 8))) ∧ σ = σ' ∧ I = I') := by
  obtain ⟨a1, a2, a3⟩ := h
  refine sj_con_of (L0 := [some (.ref e), none, none]) (by decide) rfl rfl rfl (Nat.le_of_ble_eq_true rfl) rfl (fun Γ => ?_)
  have lp : ∀ (d k : Nat), k + d = 8 → sj_V l Γ mX2_count G (fun r σ' I' => r = some (.int (zI (jCe E 8))) ∧ σ = σ' ∧ I = I') σ I 0 0 4 [some (.ref e), some (.int (zI (jCe E k))), some (.int (zI k))] [] := by
    intro d
    induction d with
    | zero =>
      intro k hk
      have hk1 : k = 8 := by omega
      subst hk1
      refine sj_ild2 dX2_count_4 ?_
      refine sj_bipush dX2_count_5 (by decide) ?_
      refine sj_icmp_ge 28 dX2_count_7 (by decide) (by omega) (by omega) (fun c_7 => ?_) (fun c_7 => ?_)
      rotate_left
      · (exfalso; omega)
      refine sj_ild1 dX2_count_28 ?_
      exact sj_iret dX2_count_29 rfl rfl (Nat.le_of_ble_eq_true rfl) (Nat.le_of_ble_eq_true rfl) ⟨rfl, rfl, rfl⟩
    | succ d ih =>
      intro k hk
      have hih := ih (k + 1) (by omega)
      cases hv : τ k with
      | none =>
        rw [show jCe E (k + 1) = jCe E k by simp only [jCe]; rw [if_pos ((hn k (by omega)).mp hv)]; omega] at hih
        refine sj_ild2 dX2_count_4 ?_
        refine sj_bipush dX2_count_5 (by decide) ?_
        refine sj_icmp_ge 28 dX2_count_7 (by decide) (by omega) (by omega) (fun c_7 => ?_) (fun c_7 => ?_)
        · (exfalso; omega)
        refine sj_ald0 dX2_count_10 ?_
        refine sj_getR fl_X2_17 (by assumption) rfl (eR_1 _) dX2_count_11 ?_
        refine sj_ild2 dX2_count_14 ?_
        refine sj_aaldN rfl (by assumption) (by omega) (by decide) hv dX2_count_15 ?_
        refine sj_ifnullN 22 dX2_count_16 (by decide) ?_
        refine sj_inc2 (by decide) rfl dX2_count_22 ?_
        refine sj_goto 4 dX2_count_25 (by decide) ?_
        exact hih
      | some t =>
        rw [show jCe E (k + 1) = jCe E k + 1 by simp only [jCe]; rw [if_neg (fun q => by rw [(hn k (by omega)).mpr q] at hv; cases hv)]] at hih
        refine sj_ild2 dX2_count_4 ?_
        refine sj_bipush dX2_count_5 (by decide) ?_
        refine sj_icmp_ge 28 dX2_count_7 (by decide) (by omega) (by omega) (fun c_7 => ?_) (fun c_7 => ?_)
        · (exfalso; omega)
        refine sj_ald0 dX2_count_10 ?_
        refine sj_getR fl_X2_17 (by assumption) rfl (eR_1 _) dX2_count_11 ?_
        refine sj_ild2 dX2_count_14 ?_
        refine sj_aald rfl (by assumption) (by omega) (by decide) hv dX2_count_15 ?_
        refine sj_ifnull dX2_count_16 ?_
        refine sj_inc1 (by decide) rfl dX2_count_19 ?_
        refine sj_inc2 (by decide) rfl dX2_count_22 ?_
        refine sj_goto 4 dX2_count_25 (by decide) ?_
        exact hih
  refine sj_iconst dX2_count_0 ?_
  refine sj_ist1 (by decide) rfl dX2_count_1 ?_
  refine sj_iconst dX2_count_2 ?_
  refine sj_ist2 (by decide) rfl dX2_count_3 ?_
  exact lp 8 0 (by omega)
theorem cx2_totalSize {e : Nat} {M : Int} {τ : Nat → Option Nat} {E : Nat → Option (List Int)} (h : eqn σ I e M τ) (ht : te σ I τ E) : sj_Con l yX2_totalSize mX2_totalSize G σ I [.ref e] (fun r σ' I' => r = some (.int (zI (jTe E 8))) ∧ σ = σ' ∧ I = I') := by
  obtain ⟨a1, a2, a3⟩ := h
  refine sj_con_of (L0 := [some (.ref e), none, none]) (by decide) rfl rfl rfl (Nat.le_of_ble_eq_true rfl) rfl (fun Γ => ?_)
  have lp : ∀ (d k : Nat), k + d = 8 → sj_V l Γ mX2_totalSize G (fun r σ' I' => r = some (.int (zI (jTe E 8))) ∧ σ = σ' ∧ I = I') σ I 0 0 4 [some (.ref e), some (.int (zI (jTe E k))), some (.int (zI k))] [] := by
    intro d
    induction d with
    | zero =>
      intro k hk
      have hk1 : k = 8 := by omega
      subst hk1
      refine sj_ild2 dX2_totalSize_4 ?_
      refine sj_bipush dX2_totalSize_5 (by decide) ?_
      refine sj_icmp_ge 37 dX2_totalSize_7 (by decide) (by omega) (by omega) (fun c_7 => ?_) (fun c_7 => ?_)
      rotate_left
      · (exfalso; omega)
      refine sj_ild1 dX2_totalSize_37 ?_
      exact sj_iret dX2_totalSize_38 rfl rfl (Nat.le_of_ble_eq_true rfl) (Nat.le_of_ble_eq_true rfl) ⟨rfl, rfl, rfl⟩
    | succ d ih =>
      intro k hk
      have hih := ih (k + 1) (by omega)
      rcases ht.2 k (by omega) with ⟨hv, hE⟩ | ⟨t, T, hv, hE, htm⟩
      · rw [show jTe E (k + 1) = jTe E k by simp only [jTe, hE]; simp] at hih
        refine sj_ild2 dX2_totalSize_4 ?_
        refine sj_bipush dX2_totalSize_5 (by decide) ?_
        refine sj_icmp_ge 37 dX2_totalSize_7 (by decide) (by omega) (by omega) (fun c_7 => ?_) (fun c_7 => ?_)
        · (exfalso; omega)
        refine sj_ald0 dX2_totalSize_10 ?_
        refine sj_getR fl_X2_17 (by assumption) rfl (eR_1 _) dX2_totalSize_11 ?_
        refine sj_ild2 dX2_totalSize_14 ?_
        refine sj_aaldN rfl (by assumption) (by omega) (by decide) hv dX2_totalSize_15 ?_
        refine sj_ifnullN 31 dX2_totalSize_16 (by decide) ?_
        refine sj_inc2 (by decide) rfl dX2_totalSize_31 ?_
        refine sj_goto 4 dX2_totalSize_34 (by decide) ?_
        exact hih
      · rw [show jTe E (k + 1) = jTe E k + T.length by simp only [jTe, hE]; rfl] at hih
        have ht0 := htm.1.1
        refine sj_ild2 dX2_totalSize_4 ?_
        refine sj_bipush dX2_totalSize_5 (by decide) ?_
        refine sj_icmp_ge 37 dX2_totalSize_7 (by decide) (by omega) (by omega) (fun c_7 => ?_) (fun c_7 => ?_)
        · (exfalso; omega)
        refine sj_ald0 dX2_totalSize_10 ?_
        refine sj_getR fl_X2_17 (by assumption) rfl (eR_1 _) dX2_totalSize_11 ?_
        refine sj_ild2 dX2_totalSize_14 ?_
        refine sj_aald rfl (by assumption) (by omega) (by decide) hv dX2_totalSize_15 ?_
        refine sj_ifnull dX2_totalSize_16 ?_
        refine sj_ild1 dX2_totalSize_19 ?_
        refine sj_ald0 dX2_totalSize_20 ?_
        refine sj_getR fl_X2_17 (by assumption) rfl (eR_1 _) dX2_totalSize_21 ?_
        refine sj_ild2 dX2_totalSize_24 ?_
        refine sj_aald rfl (by assumption) (by omega) (by decide) hv dX2_totalSize_25 ?_
        refine sj_getI fl_X2_21 (by assumption) rfl dX2_totalSize_26 ?_
        rw [htm.2.1]
        refine sj_iadd dX2_totalSize_29 ?_
        refine sj_ist1 (by decide) rfl dX2_totalSize_30 ?_
        refine sj_inc2 (by decide) rfl dX2_totalSize_31 ?_
        refine sj_goto 4 dX2_totalSize_34 (by decide) ?_
        exact hih
  refine sj_iconst dX2_totalSize_0 ?_
  refine sj_ist1 (by decide) rfl dX2_totalSize_1 ?_
  refine sj_iconst dX2_totalSize_2 ?_
  refine sj_ist2 (by decide) rfl dX2_totalSize_3 ?_
  exact lp 8 0 (by omega)
theorem cx2_isPlain {e : Nat} {M : Int} {τ : Nat → Option Nat} {E : Nat → Option (List Int)} (h : eqn σ I e M τ) (ht : te σ I τ E) : sj_Con l yX2_isPlain mX2_isPlain G σ I [.ref e] (fun r σ' I' => r = some (.int (zI (if jPe E 8 = true then 1 else 0))) ∧ σ = σ' ∧ I = I') := by
  obtain ⟨a1, a2, a3⟩ := h
  refine sj_con_of (L0 := [some (.ref e), none]) (by decide) rfl rfl rfl (Nat.le_of_ble_eq_true rfl) rfl (fun Γ => ?_)
  have lp : ∀ (d k : Nat), k + d = 8 → jPe E k = true → sj_V l Γ mX2_isPlain G (fun r σ' I' => r = some (.int (zI (if jPe E 8 = true then 1 else 0))) ∧ σ = σ' ∧ I = I') σ I 0 0 2 [some (.ref e), some (.int (zI k))] [] := by
    intro d
    induction d with
    | zero =>
      intro k hk hp
      have hk1 : k = 8 := by omega
      subst hk1
      refine sj_ild1 dX2_isPlain_2 ?_
      refine sj_bipush dX2_isPlain_3 (by decide) ?_
      refine sj_icmp_ge 37 dX2_isPlain_5 (by decide) (by omega) (by omega) (fun c_5 => ?_) (fun c_5 => ?_)
      rotate_left
      · (exfalso; omega)
      refine sj_iconst dX2_isPlain_37 ?_
      exact sj_iret dX2_isPlain_38 rfl (by decide) (Nat.le_of_ble_eq_true rfl) (Nat.le_of_ble_eq_true rfl) ⟨by rw [if_pos hp], rfl, rfl⟩
    | succ d ih =>
      intro k hk hp
      rcases ht.2 k (by omega) with ⟨hv, hE⟩ | ⟨t, T, hv, hE, htm⟩
      · refine sj_ild1 dX2_isPlain_2 ?_
        refine sj_bipush dX2_isPlain_3 (by decide) ?_
        refine sj_icmp_ge 37 dX2_isPlain_5 (by decide) (by omega) (by omega) (fun c_5 => ?_) (fun c_5 => ?_)
        · (exfalso; omega)
        refine sj_ald0 dX2_isPlain_8 ?_
        refine sj_getR fl_X2_17 (by assumption) rfl (eR_1 _) dX2_isPlain_9 ?_
        refine sj_ild1 dX2_isPlain_12 ?_
        refine sj_aaldN rfl (by assumption) (by omega) (by decide) hv dX2_isPlain_13 ?_
        refine sj_ifnullN 31 dX2_isPlain_14 (by decide) ?_
        refine sj_inc1 (by decide) rfl dX2_isPlain_31 ?_
        refine sj_goto 2 dX2_isPlain_34 (by decide) ?_
        exact ih (k + 1) (by omega) (by simp only [jPe, hE, hp]; rfl)
      · have ht0 := htm.1.1
        have b1 := jbs (jPb T = true)
        refine sj_ild1 dX2_isPlain_2 ?_
        refine sj_bipush dX2_isPlain_3 (by decide) ?_
        refine sj_icmp_ge 37 dX2_isPlain_5 (by decide) (by omega) (by omega) (fun c_5 => ?_) (fun c_5 => ?_)
        · (exfalso; omega)
        refine sj_ald0 dX2_isPlain_8 ?_
        refine sj_getR fl_X2_17 (by assumption) rfl (eR_1 _) dX2_isPlain_9 ?_
        refine sj_ild1 dX2_isPlain_12 ?_
        refine sj_aald rfl (by assumption) (by omega) (by decide) hv dX2_isPlain_13 ?_
        refine sj_ifnull dX2_isPlain_14 ?_
        refine sj_ald0 dX2_isPlain_17 ?_
        refine sj_getR fl_X2_17 (by assumption) rfl (eR_1 _) dX2_isPlain_18 ?_
        refine sj_ild1 dX2_isPlain_21 ?_
        refine sj_aald rfl (by assumption) (by omega) (by decide) hv dX2_isPlain_22 ?_
        refine sj_callV (cx5_isPlain htm) kc_X2_24 (by assumption) rfl rfl rfl rfl (Nat.le_of_ble_eq_true rfl) dX2_isPlain_23 (fun r_23 σ_23 I_23 hp_23 => ?_)
        obtain ⟨rfl, rfl, rfl⟩ := hp_23
        refine sj_if_ne 31 dX2_isPlain_26 (by decide) (by omega) (fun c_26 => ?_) (fun c_26 => ?_)
        · refine sj_inc1 (by decide) rfl dX2_isPlain_31 ?_
          refine sj_goto 2 dX2_isPlain_34 (by decide) ?_
          exact ih (k + 1) (by omega) (by simp only [jPe, hE, hp, Bool.true_and, Option.getD_some]; exact jb1 (by omega))
        · refine sj_iconst dX2_isPlain_29 ?_
          exact sj_iret dX2_isPlain_30 rfl (by decide) (Nat.le_of_ble_eq_true rfl) (Nat.le_of_ble_eq_true rfl) ⟨by
            rw [if_neg]
            intro q
            have q2 := jPe_mono q (n := k + 1) (by omega)
            simp only [jPe, hE, hp, Bool.true_and, Option.getD_some] at q2
            exact jb0 (by omega) q2, rfl, rfl⟩
  refine sj_iconst dX2_isPlain_0 ?_
  refine sj_ist1 (by decide) rfl dX2_isPlain_1 ?_
  exact lp 8 0 (by omega) rfl
end EQNS
/-! the history -/
def hρ (h : Nat) : Nat → Option Nat := sj_ru (fun _ => none) 0 (some (h + 1))
theorem hR_0 (h : Nat) : hρ h 0 = some (h + 1) := rfl
def his (σ : sjS) (I : sjI) (h : Nat) (η : Nat → Option Nat) (od ct : Nat) : Prop := σ.2 h = some (2, 0, hρ h) ∧ σ.2 (h + 1) = some (14, 8, η) ∧ I h 1 = od ∧ I h 2 = ct ∧ od < 8 ∧ ct ≤ 8
section HISTORY
variable {l : Launch} {G : sjG} {σ : sjS} {I : sjI}
theorem cx3_init {h : Nat} (hh : σ.2 h = some (2, 0, fun _ => none)) (hh1 : σ.1 = h + 1) (h0 : I h 1 = 0 ∧ I h 2 = 0) : sj_Con l yX3_init mX3_init G σ I [.ref h] (fun r σ' I' => r = none ∧ σ'.1 = h + 2 ∧ (∀ q, q < h → σ'.2 q = σ.2 q ∧ I' q = I q) ∧ his σ' I' h (fun _ => none) 0 0) := by
  refine sj_con_of (L0 := [some (.ref h)]) (by decide) rfl rfl rfl (Nat.le_of_ble_eq_true rfl) rfl (fun Γ => ?_)
  obtain ⟨s1, f⟩ := σ
  simp only at hh hh1
  subst hh1
  refine sj_ald0 dX3_init_0 ?_
  refine sj_oinit km_X3_1 wo_init.1 wo_init.2 (by decide) (by decide) dX3_init_1 ?_
  refine sj_ald0 dX3_init_4 ?_
  refine sj_bipush dX3_init_5 (by decide) ?_
  refine sj_newQ (κ := 14) rfl kl_X3_9 wo_1 dX3_init_7 (by decide) (Nat.le_of_ble_eq_true rfl) (Nat.le_of_ble_eq_true rfl) ?_
  refine sj_putRF fl_X3_11 (by rw [sj_nw_ne (by show h ≠ h + 1; omega)]; exact hh) rfl rfl rfl rfl (fun q h => by cases h; rfl) dX3_init_10 ?_
  exact sj_vret dX3_init_13 rfl (Nat.le_of_ble_eq_true rfl) (Nat.le_of_ble_eq_true rfl) ⟨rfl, rfl, fun q hq => ⟨by simp only [sj_us, sj_nw]; rw [if_neg (by omega), if_neg (by omega)], by rw [sj_ur_ne (by show q ≠ h + 1; omega)]⟩, by simp [sj_nw, sj_us]; rfl, by simp [sj_nw, sj_us], by rw [sj_ur_ne (by show h ≠ h + 1; omega)]; exact h0.1, by rw [sj_ur_ne (by show h ≠ h + 1; omega)]; exact h0.2, by decide, by decide⟩
theorem cx3_record {h e od ct : Nat} {M : Int} {η τ : Nat → Option Nat} (hh : his σ I h η od ct) (he : eqn σ I e M τ) (ht : tk σ τ) (hs : ∀ s, η ((od + ct) % 8) = some s → s ≠ e ∧ ∃ Ms τs, eqn σ I s Ms τs) : sj_Con l yX3_record mX3_record G σ I [.ref h, .ref e] (fun r σ' I' => r = none ∧ ∃ (s : Nat) (η' ρ : Nat → Option Nat), (η ((od + ct) % 8) = some s ∨ (η ((od + ct) % 8) = none ∧ s = σ.1)) ∧ η' ((od + ct) % 8) = some s ∧ (∀ j, j ≠ (od + ct) % 8 → η' j = η j) ∧ (∀ a, a < 8 → ρ a = τ a) ∧ σ.1 ≤ σ'.1 ∧ (∀ q, q < σ.1 → q ≠ h + 1 → q ≠ s + 1 → σ'.2 q = σ.2 q) ∧ (∀ q, q < σ.1 → q ≠ h → q ≠ s → I' q = I q) ∧ eqn σ' I' s M ρ ∧ his σ' I' h η' (if ct < 8 then od else (od + 1) % 8) (if ct < 8 then ct + 1 else ct)) := by
  obtain ⟨a1, a2, a3, a4, a5, a6⟩ := hh
  obtain ⟨b1, b2, b3⟩ := id he
  refine sj_con_of (L0 := [some (.ref h), some (.ref e), none, none]) (by decide) rfl rfl rfl (Nat.le_of_ble_eq_true rfl) rfl (fun Γ => ?_)
  refine sj_wfV (fun hwf => ?_)
  have w1 := hwf _ _ a1
  have w2 := hwf _ _ a2
  have w3 := hwf _ _ b1
  have w4 := hwf _ _ b2
  have nhe : h ≠ e := fun q => by rw [q, b1] at a1; cases a1
  have nhe1 : h + 1 ≠ e := fun q => by rw [q, b1] at a2; cases a2
  have nhe2 : h ≠ e + 1 := fun q => by rw [q, b2] at a1; cases a1
  have fin : ∀ (s : Nat) (η' ρ : Nat → Option Nat) (σ' : sjS) (J : sjI), (η ((od + ct) % 8) = some s ∨ (η ((od + ct) % 8) = none ∧ s = σ.1)) → η' ((od + ct) % 8) = some s → (∀ j, j ≠ (od + ct) % 8 → η' j = η j) → (∀ a, a < 8 → ρ a = τ a) → σ.1 ≤ σ'.1 → (∀ q, q < σ.1 → q ≠ h + 1 → q ≠ s + 1 → σ'.2 q = σ.2 q) → (∀ q, q < σ.1 → q ≠ s → J q = I q) → s ≠ h → σ'.2 s = some (1, 0, eρ s) → σ'.2 (s + 1) = some (13, 8, ρ) → J s 0 = M → σ'.2 h = some (2, 0, hρ h) → σ'.2 (h + 1) = some (14, 8, η') → J h 1 = od → J h 2 = ct → sj_V l Γ mX3_record G (fun r σ' I' => r = none ∧ ∃ (s : Nat) (η' ρ : Nat → Option Nat), (η ((od + ct) % 8) = some s ∨ (η ((od + ct) % 8) = none ∧ s = σ.1)) ∧ η' ((od + ct) % 8) = some s ∧ (∀ j, j ≠ (od + ct) % 8 → η' j = η j) ∧ (∀ a, a < 8 → ρ a = τ a) ∧ σ.1 ≤ σ'.1 ∧ (∀ q, q < σ.1 → q ≠ h + 1 → q ≠ s + 1 → σ'.2 q = σ.2 q) ∧ (∀ q, q < σ.1 → q ≠ h → q ≠ s → I' q = I q) ∧ eqn σ' I' s M ρ ∧ his σ' I' h η' (if ct < 8 then od else (od + 1) % 8) (if ct < 8 then ct + 1 else ct)) σ' J 2 10 44 [some (.ref h), some (.ref e), some (.int (zI ((od + ct) % 8 : Nat))), some (.ref s)] [] := by
    intro s η' ρ σ' J h1 h2 h3 h4 h5 h6 h7 h8 g1 g2 g3 g4 g5 g6 g7
    refine sj_ald0 dX3_record_44 ?_
    refine sj_getI fl_X3_19 (by assumption) rfl dX3_record_45 ?_
    rw [g7]
    refine sj_bipush dX3_record_48 (by decide) ?_
    refine sj_icmp_ge 66 dX3_record_50 (by decide) (by omega) (by omega) (fun c_50 => ?_) (fun c_50 => ?_)
    · refine sj_ald0 dX3_record_66 ?_
      refine sj_ald0 dX3_record_67 ?_
      refine sj_getI fl_X3_15 (by assumption) rfl dX3_record_68 ?_
      rw [g6]
      refine sj_iconst dX3_record_71 ?_
      refine sj_iadd dX3_record_72 ?_
      refine sj_bipush dX3_record_73 (by decide) ?_
      refine sj_irem dX3_record_75 (by omega) (by omega) ?_
      refine sj_putI fl_X3_15 (by assumption) rfl rfl rfl dX3_record_76 ?_
      exact sj_vret dX3_record_79 rfl (Nat.le_of_ble_eq_true rfl) (Nat.le_of_ble_eq_true rfl) (by first
       | exact ⟨rfl, s, η', ρ, h1, h2, h3, h4, h5, h6, fun q e1 e2 e3 => by rw [sj_up_row e2]; exact h7 q e1 e3, ⟨g1, g2, by rw [sj_up_ne (by omega)]; exact g3⟩, ⟨g4, g5, by rw [sj_up_ne (by omega), if_pos (by omega)]; exact g6, by rw [sj_up_self, if_pos (by omega)]; rfl, by rw [if_pos (by omega)]; exact a5, by rw [if_pos (by omega)]; omega⟩⟩
       | exact ⟨rfl, s, η', ρ, h1, h2, h3, h4, h5, h6, fun q e1 e2 e3 => by rw [sj_up_row e2]; exact h7 q e1 e3, ⟨g1, g2, by rw [sj_up_ne (by omega)]; exact g3⟩, ⟨g4, g5, by rw [sj_up_self, if_neg (by omega)]; rfl, by rw [sj_up_ne (by omega), if_neg (by omega)]; exact g7, by rw [if_neg (by omega)]; omega, by rw [if_neg (by omega)]; omega⟩⟩)
    · refine sj_ald0 dX3_record_53 ?_
      refine sj_dup dX3_record_54 rfl ?_
      refine sj_getI fl_X3_19 (by assumption) rfl dX3_record_55 ?_
      rw [g7]
      refine sj_iconst dX3_record_58 ?_
      refine sj_iadd dX3_record_59 ?_
      refine sj_putI fl_X3_19 (by assumption) rfl rfl rfl dX3_record_60 ?_
      refine sj_goto 79 dX3_record_63 (by decide) ?_
      exact sj_vret dX3_record_79 rfl (Nat.le_of_ble_eq_true rfl) (Nat.le_of_ble_eq_true rfl) (by first
       | exact ⟨rfl, s, η', ρ, h1, h2, h3, h4, h5, h6, fun q e1 e2 e3 => by rw [sj_up_row e2]; exact h7 q e1 e3, ⟨g1, g2, by rw [sj_up_ne (by omega)]; exact g3⟩, ⟨g4, g5, by rw [sj_up_ne (by omega), if_pos (by omega)]; exact g6, by rw [sj_up_self, if_pos (by omega)]; rfl, by rw [if_pos (by omega)]; exact a5, by rw [if_pos (by omega)]; omega⟩⟩
       | exact ⟨rfl, s, η', ρ, h1, h2, h3, h4, h5, h6, fun q e1 e2 e3 => by rw [sj_up_row e2]; exact h7 q e1 e3, ⟨g1, g2, by rw [sj_up_ne (by omega)]; exact g3⟩, ⟨g4, g5, by rw [sj_up_self, if_neg (by omega)]; rfl, by rw [sj_up_ne (by omega), if_neg (by omega)]; exact g7, by rw [if_neg (by omega)]; omega, by rw [if_neg (by omega)]; omega⟩⟩)
  have hrem : ((od : Int) + ct) % 8 = ((od + ct) % 8 : Nat) := by omega
  rcases optEx (η ((od + ct) % 8)) with hv | ⟨s, hv⟩
  · refine sj_ald0 dX3_record_0 ?_
    refine sj_getI fl_X3_15 (by assumption) rfl dX3_record_1 ?_
    rw [a3]
    refine sj_ald0 dX3_record_4 ?_
    refine sj_getI fl_X3_19 (by assumption) rfl dX3_record_5 ?_
    rw [a4]
    refine sj_iadd dX3_record_8 ?_
    refine sj_bipush dX3_record_9 (by decide) ?_
    refine sj_irem dX3_record_11 (by omega) (by omega) ?_
    rw [hrem]
    refine sj_ist2 (by decide) rfl dX3_record_12 ?_
    refine sj_ald0 dX3_record_13 ?_
    refine sj_getR fl_X3_11 (by assumption) rfl (hR_0 _) dX3_record_14 ?_
    refine sj_ild2 dX3_record_17 ?_
    refine sj_aaldN rfl (by assumption) (by omega) (by decide) hv dX3_record_18 ?_
    refine sj_astN3 (by decide) rfl dX3_record_19 ?_
    refine sj_aldN3 dX3_record_20 ?_
    refine sj_ifnonnullN dX3_record_21 ?_
    refine sj_new (κ := 1) rfl kl_X3_9 wi_1 wz_1 dX3_record_24 (Nat.le_of_ble_eq_true rfl) (Nat.le_of_ble_eq_true rfl) ?_
    refine sj_dup dX3_record_27 rfl ?_
    refine sj_callIN (cx2_init (e := σ.1) (sj_nw_self _ _) rfl) kc_X3_22 rfl rfl (Nat.le_of_ble_eq_true rfl) dX3_record_28 (fun r_28 σ_28 I_28 hp_28 => ?_)
    obtain ⟨rfl, x1, x2, x3⟩ := hp_28
    have hE : σ_28.2 e = some (1, 0, eρ e) := by rw [(x2 e w3).1, sj_nw_ne (by omega)]; exact b1
    have hE1 : σ_28.2 (e + 1) = some (13, 8, τ) := by rw [(x2 (e + 1) w4).1, sj_nw_ne (by omega)]; exact b2
    have hEM : I_28 e 0 = M := by rw [(x2 e w3).2, sj_ur_ne (by omega)]; exact b3
    have hH : σ_28.2 h = some (2, 0, hρ h) := by rw [(x2 h w1).1, sj_nw_ne (by omega)]; exact a1
    have hH1 : σ_28.2 (h + 1) = some (14, 8, η) := by rw [(x2 (h + 1) w2).1, sj_nw_ne (by omega)]; exact a2
    have hS0 := x3.1
    refine sj_ast3 (by decide) rfl dX3_record_31 ?_
    refine sj_ald0 dX3_record_32 ?_
    refine sj_getR fl_X3_11 (by assumption) rfl (hR_0 _) dX3_record_33 ?_
    refine sj_ild2 dX3_record_36 ?_
    refine sj_ald3 dX3_record_37 ?_
    refine sj_aast rfl hH1 hS0 (by omega) (by decide) dX3_record_38 ?_
    refine sj_ald3 dX3_record_39 ?_
    refine sj_ald1 dX3_record_40 ?_
    refine sj_callV (cx2_copyFrom (e := σ.1) (e' := e) (M := 2) (M' := M) (τ := fun _ => none) (τ' := τ) ⟨by rw [sj_us_ne (by omega)]; exact x3.1, by rw [sj_us_ne (by omega)]; exact x3.2.1, x3.2.2⟩ ⟨by rw [sj_us_ne (by omega)]; exact hE, by rw [sj_us_ne (by omega)]; exact hE1, hEM⟩ (fun a t ha hta => by
      have q := ht a t ha hta
      have wt := hwf _ _ q
      rw [sj_us_ne (fun z => by rw [z, a2] at q; cases q), (x2 t wt).1, sj_nw_ne (by omega)]; exact q) (by omega)) kc_X3_23 (by rw [sj_us_ne (by omega)]; exact hS0) rfl rfl rfl rfl (Nat.le_of_ble_eq_true rfl) dX3_record_41 (fun r_41 σ_41 I_41 hp_41 => ?_)
    obtain ⟨rfl, rfl, ρ, hρ1, rfl⟩ := hp_41
    exact fin σ.1 (sj_ru η ((od + ct) % 8) (some σ.1)) ρ (sj_us (sj_us σ_28 (h + 1) (14, 8, sj_ru η ((od + ct) % 8) (some σ.1))) (σ.1 + 1) (13, 8, ρ)) (sj_up I_28 σ.1 0 M) (Or.inr ⟨hv, rfl⟩) (sj_ru_self _ _ _) (fun j hj => sj_ru_ne hj) hρ1 (by show σ.1 ≤ σ_28.1; omega) (fun q e1 e2 e3 => by rw [sj_us_ne (by omega), sj_us_ne e2, (x2 q e1).1, sj_nw_ne (by omega)]) (fun q e1 e2 => by rw [sj_up_row (by omega), (x2 q e1).2, sj_ur_ne (by omega)]) (by omega) (by rw [sj_us_ne (by omega), sj_us_ne (by omega)]; exact x3.1) (sj_us_self _ _ _) (sj_up_self _ _ _ _) (by rw [sj_us_ne (by omega), sj_us_ne (by omega)]; exact hH) (by rw [sj_us_ne (by omega), sj_us_self]) (by rw [sj_up_ne (by omega), (x2 h w1).2, sj_ur_ne (by omega)]; exact a3) (by rw [sj_up_ne (by omega), (x2 h w1).2, sj_ur_ne (by omega)]; exact a4)
  · obtain ⟨hse, Ms, τs, hs1, hs2, hs3⟩ := hs s hv
    have nsh : s ≠ h := fun q => by rw [q, a1] at hs1; cases hs1
    have nsh1 : s ≠ h + 1 := fun q => by rw [q, a2] at hs1; cases hs1
    have nsh2 : s + 1 ≠ h := fun q => by rw [q, a1] at hs2; cases hs2
    have nse1 : s ≠ e + 1 := fun q => by rw [q, b2] at hs1; cases hs1
    have nse2 : s + 1 ≠ e := fun q => by rw [q, b1] at hs2; cases hs2
    refine sj_ald0 dX3_record_0 ?_
    refine sj_getI fl_X3_15 (by assumption) rfl dX3_record_1 ?_
    rw [a3]
    refine sj_ald0 dX3_record_4 ?_
    refine sj_getI fl_X3_19 (by assumption) rfl dX3_record_5 ?_
    rw [a4]
    refine sj_iadd dX3_record_8 ?_
    refine sj_bipush dX3_record_9 (by decide) ?_
    refine sj_irem dX3_record_11 (by omega) (by omega) ?_
    rw [hrem]
    refine sj_ist2 (by decide) rfl dX3_record_12 ?_
    refine sj_ald0 dX3_record_13 ?_
    refine sj_getR fl_X3_11 (by assumption) rfl (hR_0 _) dX3_record_14 ?_
    refine sj_ild2 dX3_record_17 ?_
    refine sj_aald rfl (by assumption) (by omega) (by decide) hv dX3_record_18 ?_
    refine sj_ast3 (by decide) rfl dX3_record_19 ?_
    refine sj_ald3 dX3_record_20 ?_
    refine sj_ifnonnull 39 dX3_record_21 (by decide) ?_
    refine sj_ald3 dX3_record_39 ?_
    refine sj_ald1 dX3_record_40 ?_
    refine sj_callV (cx2_copyFrom (e := s) (e' := e) (M := Ms) (M' := M) (τ := τs) (τ' := τ) ⟨hs1, hs2, hs3⟩ he ht hse) kc_X3_23 (by assumption) rfl rfl rfl rfl (Nat.le_of_ble_eq_true rfl) dX3_record_41 (fun r_41 σ_41 I_41 hp_41 => ?_)
    obtain ⟨rfl, rfl, ρ, hρ1, rfl⟩ := hp_41
    refine sj_more (k' := 2) (n' := 10) (Nat.le_of_ble_eq_true rfl) (Nat.le_of_ble_eq_true rfl) ?_
    exact fin s η ρ (sj_us σ (s + 1) (13, 8, ρ)) (sj_up I s 0 M) (Or.inl hv) hv (fun j hj => rfl) hρ1 (Nat.le_refl _) (fun q e1 e2 e3 => by rw [sj_us_ne e3]) (fun q e1 e2 => by rw [sj_up_row e2]) nsh (by rw [sj_us_ne (by omega)]; exact hs1) (sj_us_self _ _ _) (sj_up_self _ _ _ _) (by rw [sj_us_ne (by omega)]; exact a1) (by rw [sj_us_ne (by omega)]; exact a2) (by rw [sj_up_ne (by omega)]; exact a3) (by rw [sj_up_ne (by omega)]; exact a4)
theorem cx3_restore {h e s od ct : Nat} {M Ms : Int} {η τ τs : Nat → Option Nat} (hh : his σ I h η od (ct + 1)) (he : eqn σ I e M τ) (hv : η ((od + ct) % 8) = some s) (hs : eqn σ I s Ms τs) (ht : tk σ τs) (hse : e ≠ s) : sj_Con l yX3_restore mX3_restore G σ I [.ref h, .ref e] (fun r σ' I' => r = none ∧ I' = sj_up (sj_up I h 2 ct) e 0 Ms ∧ ∃ ρ, (∀ a, a < 8 → ρ a = τs a) ∧ σ' = sj_us σ (e + 1) (13, 8, ρ)) := by
  obtain ⟨a1, a2, a3, a4, a5, a6⟩ := hh
  obtain ⟨b1, b2, b3⟩ := id he
  obtain ⟨c1, c2, c3⟩ := id hs
  have nhe : h ≠ e := fun q => by rw [q, b1] at a1; cases a1
  have nhs : h ≠ s := fun q => by rw [q, c1] at a1; cases a1
  have hrem : ((od : Int) + ct) % 8 = ((od + ct) % 8 : Nat) := by omega
  have h4 : I h 2 + -1 = (ct : Int) := by omega
  refine sj_con_of (L0 := [some (.ref h), some (.ref e), none]) (by decide) rfl rfl rfl (Nat.le_of_ble_eq_true rfl) rfl (fun Γ => ?_)
  refine sj_ald0 dX3_restore_0 ?_
  refine sj_getI fl_X3_19 (by assumption) rfl dX3_restore_1 ?_
  rw [a4]
  refine sj_if_ne 8 dX3_restore_4 (by decide) (by omega) (fun c_4 => ?_) (fun c_4 => ?_)
  rotate_left
  · (exfalso; omega)
  refine sj_ald0 dX3_restore_8 ?_
  refine sj_dup dX3_restore_9 rfl ?_
  refine sj_getI fl_X3_19 (by assumption) rfl dX3_restore_10 ?_
  rw [a4]
  refine sj_iconst dX3_restore_13 ?_
  refine sj_isub dX3_restore_14 ?_
  rw [show (((ct + 1 : Nat) : Int) - 1) = (ct : Int) by omega]
  refine sj_putI fl_X3_19 (by assumption) rfl rfl rfl dX3_restore_15 ?_
  refine sj_ald0 dX3_restore_18 ?_
  refine sj_getR fl_X3_11 (by assumption) rfl (hR_0 _) dX3_restore_19 ?_
  refine sj_ald0 dX3_restore_22 ?_
  refine sj_getI fl_X3_15 (by assumption) rfl dX3_restore_23 ?_
  rw [sj_up_ne (by omega), a3]
  refine sj_ald0 dX3_restore_26 ?_
  refine sj_getI fl_X3_19 (by assumption) rfl dX3_restore_27 ?_
  rw [sj_up_self]
  refine sj_iadd dX3_restore_30 ?_
  refine sj_bipush dX3_restore_31 (by decide) ?_
  refine sj_irem dX3_restore_33 (by omega) (by omega) ?_
  rw [hrem]
  refine sj_aald rfl (by assumption) (by omega) (by decide) hv dX3_restore_34 ?_
  refine sj_ast2 (by decide) rfl dX3_restore_35 ?_
  refine sj_ald2 dX3_restore_36 ?_
  refine sj_ifnull dX3_restore_37 ?_
  refine sj_ald1 dX3_restore_40 ?_
  refine sj_ald2 dX3_restore_41 ?_
  refine sj_callV (cx2_copyFrom (e := e) (e' := s) (M := M) (M' := Ms) (τ := τ) (τ' := τs) ⟨b1, b2, by rw [sj_up_ne (by omega)]; exact b3⟩ ⟨c1, c2, by rw [sj_up_ne (by omega)]; exact c3⟩ ht hse) kc_X3_23 (by assumption) rfl rfl rfl rfl (Nat.le_of_ble_eq_true rfl) dX3_restore_42 (fun r_42 σ_42 I_42 hp_42 => ?_)
  obtain ⟨rfl, rfl, ρ, hρ1, rfl⟩ := hp_42
  exact sj_vret dX3_restore_45 rfl (Nat.le_of_ble_eq_true rfl) (Nat.le_of_ble_eq_true rfl) ⟨rfl, rfl, ρ, hρ1, rfl⟩
end HISTORY
