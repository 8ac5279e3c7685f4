/-! how great ranks can be -/
def jCs (M : Int) (E : Nat → Option (List Int)) (n : Nat) : Nat → Nat
  | 0 => 0
  | j + 1 => jCs M E n j + (if (jStg M E n j).isSome = true then 1 else 0)
theorem jCs_le (M : Int) (E : Nat → Option (List Int)) (n : Nat) : ∀ j, jCs M E n j ≤ j
  | 0 => Nat.le_refl _
  | j + 1 => by
    have := jCs_le M E n j
    simp only [jCs]
    split <;> omega
theorem jCs_mono (M : Int) (E : Nat → Option (List Int)) (n : Nat) : ∀ j, jCs M E n j ≤ jCs M E (n + 1) j
  | 0 => Nat.le_refl _
  | j + 1 => by
    have ih := jCs_mono M E n j
    simp only [jCs]
    by_cases h : (jStg M E n j).isSome = true
    · obtain ⟨z, hz⟩ := Option.isSome_iff_exists.mp h
      rw [if_pos h, if_pos (by rw [jStg_mono n j z hz]; rfl)]
      omega
    · rw [if_neg h]
      omega
theorem jCs_new {M : Int} {E : Nat → Option (List Int)} {n k : Nat} (h1 : jKs M E (n + 1) k) (h2 : ¬ jKs M E n k) : ∀ j, k < j → jCs M E n j + 1 ≤ jCs M E (n + 1) j
  | 0, h => absurd h (by omega)
  | j + 1, h => by
    simp only [jCs]
    by_cases e : k = j
    · subst e
      have hm := jCs_mono M E n k
      obtain ⟨z, hz⟩ := h1
      rw [if_pos (show (jStg M E (n + 1) k).isSome = true by rw [hz]; rfl), if_neg (fun q => h2 (Option.isSome_iff_exists.mp q))]
      omega
    · have ih := jCs_new h1 h2 j (by omega)
      by_cases q : (jStg M E n j).isSome = true
      · obtain ⟨z, hz⟩ := Option.isSome_iff_exists.mp q
        rw [if_pos q, if_pos (by rw [jStg_mono n j z hz]; rfl)]
        omega
      · rw [if_neg q]
        omega
theorem jStg_stage {M : Int} {E : Nat → Option (List Int)} : ∀ (n k : Nat), k < 3200 → jKs M E (n + 1) k → ¬ jKs M E n k → n + 1 ≤ jCs M E (n + 1) 3200
  | 0, k, hk, h1, h2 => by
    have := jCs_new h1 h2 3200 hk
    omega
  | n + 1, k, hk, h1, h2 => by
    have h3 := jCs_new h1 h2 3200 hk
    obtain ⟨z, hz⟩ := h1
    obtain ⟨T, nd, x, e1, e2, rfl⟩ := jStg_some hz
    have e3 := (jEv_more (w := fun q => ((jStg M E (n + 1) q).map Prod.fst).getD (-9)) e2 (fun _ _ _ => rfl)).2
    by_cases hall : ∀ q ∈ nd, jKs M E n q
    · exfalso
      apply h2
      refine ⟨_, jStg_mk (n := n) (w := fun q => ((jStg M E (n + 1) q).map Prod.fst).getD (-9)) (ρ := fun q => ((jStg M E (n + 1) q).map Prod.snd).getD 0) e1 e2 (fun q hq => ?_)⟩
      obtain ⟨u, hu⟩ := hall q hq
      rw [jStg_mono n q u hu, hu]
      rfl
    · have hex : ∃ q ∈ nd, ¬ jKs M E n q := Classical.byContradiction fun hno => hall fun q hq => Classical.byContradiction fun hq2 => hno ⟨q, hq, hq2⟩
      obtain ⟨q, hq, hq2⟩ := hex
      have ih := jStg_stage n q (e3 q hq).2 (jStg_v (e3 q hq).1) hq2
      omega
theorem jStg_rank {M : Int} {E : Nat → Option (List Int)} : ∀ (n k : Nat) (z : Int × Int), jStg M E n k = some z → 0 ≤ z.2 ∧ z.2 < n
  | 0, k, z, h => by cases h
  | n + 1, k, z, h => by
    obtain ⟨T, nd, x, e1, e2, rfl⟩ := jStg_some h
    have e3 := (jEv_more (w := fun q => ((jStg M E n q).map Prod.fst).getD (-9)) e2 (fun _ _ _ => rfl)).2
    have h1 : ∀ q ∈ nd, 0 ≤ (fun q => ((jStg M E n q).map Prod.snd).getD 0) q ∧ (fun q => ((jStg M E n q).map Prod.snd).getD 0) q ≤ (n : Int) - 1 := fun q hq => by
      obtain ⟨u, hu⟩ := jStg_v (e3 q hq).1
      have := jStg_rank n q u hu
      show 0 ≤ ((jStg M E n q).map Prod.snd).getD 0 ∧ ((jStg M E n q).map Prod.snd).getD 0 ≤ (n : Int) - 1
      rw [hu]
      show 0 ≤ u.2 ∧ u.2 ≤ (n : Int) - 1
      omega
    have h2 := jRk_le nd 0 h1 (by omega)
    show 0 ≤ jRk _ 0 nd ∧ jRk _ 0 nd < ((n + 1 : Nat) : Int)
    omega
theorem jStg_small {M : Int} {E : Nat → Option (List Int)} {n k : Nat} {z : Int × Int} (hk : k < 3200) (h : jStg M E n k = some z) : 0 ≤ z.2 ∧ z.2 < 3200 := by
  obtain ⟨s, h1, h2⟩ := jKs_least n ⟨z, h⟩
  have h3 := jStg_stage s k hk h1 h2
  have h4 := jCs_le M E (s + 1) 3200
  obtain ⟨u, hu⟩ := h1
  have h5 := jStg_rank (s + 1) k u hu
  rw [jStg_uniq h hu]
  omega
/-! Values: cells -/
/-- where the row of the values stands: behind a workspace that was made in between -/
def vCl (v w : Nat) : Nat := if w = v + 1 then v + 6 else v + 1
theorem vCl_cs (v w : Nat) : (w = v + 1 ∧ vCl v w = v + 6) ∨ (w ≠ v + 1 ∧ vCl v w = v + 1) := by
  unfold vCl
  by_cases h : w = v + 1
  · exact Or.inl ⟨h, if_pos h⟩
  · exact Or.inr ⟨h, if_neg h⟩
def vρ (v e w : Nat) : Nat → Option Nat := sj_ru (sj_ru (sj_ru (fun _ => none) 2 (some (vCl v w))) 0 (some e)) 1 (some w)
theorem vR_0 (v e w : Nat) : vρ v e w 0 = some e := rfl
theorem vR_1 (v e w : Nat) : vρ v e w 1 = some w := rfl
theorem vR_2 (v e w : Nat) : vρ v e w 2 = some (vCl v w) := rfl
def vSh (σ : sjS) (v e w : Nat) : Prop := σ.2 v = some (6, 0, vρ v e w) ∧ σ.2 (vCl v w) = some (10, 3200, fun _ => none)
/-- a known cell -/
def cK (M : Int) (E : Nat → Option (List Int)) (f : Nat → Int) (k : Nat) : Prop := ∃ n z, jStg M E n k = some z ∧ f k = 16 * (z.2 + 1) + z.1
/-- cells, some of them open -/
def cP (M : Int) (E : Nat → Option (List Int)) (f : Nat → Int) : Prop := ∀ k, k < 3200 → f k = 0 ∨ f k = 1 ∨ (f k = 2 ∧ ¬ jKn M E k) ∨ cK M E f k
theorem cK.rng {M : Int} (hM : 2 ≤ M ∧ M ≤ 10) {E : Nat → Option (List Int)} {f : Nat → Int} {k : Nat} (hk : k < 3200) (h : cK M E f k) : 16 ≤ f k ∧ f k < 60000 ∧ 0 ≤ f k % 16 ∧ f k % 16 < M ∧ ∃ n, jStg M E n k = some (f k % 16, f k / 16 - 1) := by
  obtain ⟨n, z, h1, h2⟩ := h
  have r1 := jStg_rng hM.1 n k z h1
  have r2 := jStg_small hk h1
  have m1 : f k % 16 = z.1 := by omega
  have m2 : f k / 16 - 1 = z.2 := by omega
  refine ⟨by omega, by omega, by omega, by omega, n, ?_⟩
  rw [m1, m2]
  exact h1
theorem cP.rng {M : Int} (hM : 2 ≤ M ∧ M ≤ 10) {E : Nat → Option (List Int)} {f : Nat → Int} (h : cP M E f) {k : Nat} (hk : k < 3200) : 0 ≤ f k ∧ f k < 60000 := by
  rcases h k hk with h1 | h1 | h1 | h1
  · omega
  · omega
  · omega
  · have := h1.rng hM hk; omega
theorem jKn_s {M : Int} {E : Nat → Option (List Int)} {k : Nat} : jKn M E k ↔ ∃ n, jKs M E n k := Iff.rfl
/-- to know a one must know b before -/
def jNeed (M : Int) (E : Nat → Option (List Int)) (a b : Nat) : Prop := ∀ n, jKs M E (n + 1) a → jKs M E n b
theorem jNeed.kn {M : Int} {E : Nat → Option (List Int)} {a b : Nat} (h : jNeed M E a b) (hb : ¬ jKn M E b) : ¬ jKn M E a := by
  rintro ⟨n, z, hz⟩
  cases n with
  | zero => cases hz
  | succ n => obtain ⟨u, hu⟩ := h n ⟨z, hz⟩; exact hb ⟨n, u, hu⟩
theorem jKn_nd {M : Int} {E : Nat → Option (List Int)} {k n : Nat} {T : List Int} (hE : E (k / 400) = some T) (h : jKs M E (n + 1) k) : ∃ nd, jN T (k % 400) = some nd ∧ ∀ q ∈ nd, jKs M E n q := by
  obtain ⟨z, hz⟩ := h
  obtain ⟨T', nd, x, e1, e2, rfl⟩ := jStg_some hz
  rw [hE] at e1
  cases e1
  have e3 := (jEv_more (w := fun q => ((jStg M E n q).map Prod.fst).getD (-9)) e2 (fun _ _ _ => rfl)).2
  exact ⟨nd, jEv_nd e2, fun q hq => jStg_v (e3 q hq).1⟩
/-- a letter that is needed -/
theorem jNeed_of {M : Int} {E : Nat → Option (List Int)} {k : Nat} {T : List Int} {c s : Int} (hE : E (k / 400) = some T) (hcl : jN T (k % 400) = jCl (jZl T (jGx chI T [((k % 400 : Nat) : Int)]))) (hm : (c, s) ∈ jZl T (jGx chI T [((k % 400 : Nat) : Int)])) (hs : s ≠ -1) : (¬ s < 400 → ¬ jKn M E k) ∧ jNeed M E k (400 * (c - 65).toNat + s.toNat) := by
  constructor
  · intro h4
    rintro ⟨n, z, hz⟩
    cases n with
    | zero => cases hz
    | succ n =>
      obtain ⟨nd, h1, _⟩ := jKn_nd hE ⟨z, hz⟩
      rw [hcl] at h1
      exact h4 (jCl_mem _ nd h1 _ hm hs).1
  · intro n h
    obtain ⟨nd, h1, h2⟩ := jKn_nd hE h
    rw [hcl] at h1
    exact h2 _ (jCl_mem _ nd h1 _ hm hs).2
theorem jRk_app (ρ : Nat → Int) : ∀ (l : List Nat) (r : Int) (q : Nat), jRk ρ r (l ++ [q]) = max (jRk ρ r l) (ρ q + 1)
  | [], r, q => rfl
  | x :: l, r, q => jRk_app ρ l _ q
theorem ne_kind' {σ : sjS} {a b κ κ' : Nat} {x y : Nat × (Nat → Option Nat)} (h : σ.2 a = some (κ, x)) (h' : σ.2 b = some (κ', y)) (hk : κ ≠ κ') : a ≠ b := by
  intro e
  rw [e, h'] at h
  cases h
  exact hk rfl
section VALUES1
variable {l : Launch} {G : sjG} {σ : sjS} {I : sjI}
theorem cx7_init {v e w n1 n2 : Nat} {ρ1 ρ2 : Nat → Option Nat} (hv : σ.2 v = some (6, 0, fun _ => none)) (hv1 : σ.1 = vCl v w) (h0 : I v 3 = 0) (he : σ.2 e = some (1, n1, ρ1)) (hw : σ.2 w = some (7, n2, ρ2)) : sj_Con l yX7_init mX7_init G σ I [.ref v, .ref e, .ref w] (fun r σ' I' => r = none ∧ σ'.1 = vCl v w + 1 ∧ (∀ q, q < vCl v w → q ≠ v → σ'.2 q = σ.2 q) ∧ (∀ q, q < vCl v w → I' q = I q) ∧ vSh σ' v e w ∧ ∀ j, I' (vCl v w) j = 0) := by
  refine sj_con_of (L0 := [some (.ref v), some (.ref e), some (.ref w)]) (by decide) rfl rfl rfl (Nat.le_of_ble_eq_true rfl) rfl (fun Γ => ?_)
  refine sj_wfV (fun hwf => ?_)
  have l1 := hwf _ _ hv
  have l2 := hwf _ _ he
  have l3 := hwf _ _ hw
  have he2 : (sj_nw σ (10, 3200, fun _ => none)).2 e = some (1, n1, ρ1) := by rw [sj_nw_ne (by omega)]; exact he
  have nev : e ≠ v := ne_kind' he hv (by decide)
  have nwv : w ≠ v := ne_kind' hw hv (by decide)
  obtain ⟨s1, f⟩ := σ
  simp only at hv hv1 he hw l1 l2 l3
  subst hv1
  refine sj_ald0 dX7_init_0 ?_
  refine sj_oinit km_X7_3 wo_init.1 wo_init.2 (by decide) (by decide) dX7_init_1 ?_
  refine sj_ald0 dX7_init_4 ?_
  refine sj_sipush dX7_init_5 (by decide) ?_
  refine sj_newI wd_102 dX7_init_8 (by decide) (Nat.le_of_ble_eq_true rfl) (Nat.le_of_ble_eq_true rfl) ?_
  refine sj_putRF fl_X7_9 (by rw [sj_nw_ne (by show v ≠ vCl v w; omega)]; exact hv) rfl rfl rfl rfl (fun q h => by cases h; rfl) dX7_init_10 ?_
  refine sj_ald0 dX7_init_13 ?_
  refine sj_ald1 dX7_init_14 ?_
  refine sj_putRF fl_X7_15 (sj_us_self _ _ _) rfl rfl rfl rfl (fun q h => by cases h; rfl) dX7_init_15 ?_
  refine sj_ald0 dX7_init_18 ?_
  refine sj_ald2 dX7_init_19 ?_
  refine sj_putRF fl_X7_19 (sj_us_self _ _ _) rfl rfl rfl rfl (fun q h => by cases h; rfl) dX7_init_20 ?_
  exact sj_vret dX7_init_23 rfl (Nat.le_of_ble_eq_true rfl) (Nat.le_of_ble_eq_true rfl) ⟨rfl, rfl, fun q hq hq2 => (by rw [sj_us_ne hq2, sj_us_ne hq2, sj_us_ne hq2, sj_nw_ne (by show q ≠ vCl v w; omega)]), fun q hq => (by rw [sj_ur_ne (by show q ≠ vCl v w; omega)]), ⟨sj_us_self _ _ _, by rw [sj_us_ne (by omega), sj_us_ne (by omega), sj_us_ne (by omega)]; simp [sj_nw]⟩, fun j => by rw [show vCl v w = (vCl v w, f).1 from rfl, sj_ur_self]⟩
theorem cx7_rankIn {x : Int} (hx : 0 ≤ x ∧ x < 2147483648) : sj_Con l yX7_rankIn mX7_rankIn G σ I [.int (zI x)] (fun r σ' I' => r = some (.int (zI (x / 16 - 1))) ∧ σ = σ' ∧ I = I') := by
  refine sj_con_of (L0 := [some (.int (zI x))]) (by decide) rfl rfl rfl (Nat.le_of_ble_eq_true rfl) rfl (fun Γ => ?_)
  refine sj_ild0 dX7_rankIn_0 ?_
  refine sj_bipush dX7_rankIn_1 (by decide) ?_
  refine sj_idiv dX7_rankIn_3 (by omega) (by omega) ?_
  refine sj_iconst dX7_rankIn_4 ?_
  refine sj_isub dX7_rankIn_5 ?_
  exact sj_iret dX7_rankIn_6 rfl rfl (Nat.le_of_ble_eq_true rfl) (Nat.le_of_ble_eq_true rfl) ⟨rfl, rfl, rfl⟩
theorem cx7_forget {v e w : Nat} (hS : vSh σ v e w) (hb : I v 3 = 0 ∨ I v 3 = 1) : sj_Con l yX7_forget mX7_forget G σ I [.ref v] (fun r σ' I' => r = none ∧ σ = σ' ∧ (∀ q, q ≠ v → q ≠ vCl v w → I' q = I q) ∧ I' v 3 = 0 ∧ ((I v 3 = 0 ∧ I' = I) ∨ ∀ j, j < 3200 → I' (vCl v w) j = 0)) := by
  obtain ⟨s0, s1⟩ := hS
  refine sj_con_of (L0 := [some (.ref v)]) (by decide) rfl rfl rfl (Nat.le_of_ble_eq_true rfl) rfl (fun Γ => ?_)
  refine sj_ald0 dX7_forget_0 ?_
  refine sj_getI fl_X7_23 (by assumption) rfl dX7_forget_1 ?_
  refine sj_if_eq 20 dX7_forget_4 (by decide) (by omega) (fun c_4 => ?_) (fun c_4 => ?_)
  · exact sj_vret dX7_forget_20 rfl (Nat.le_of_ble_eq_true rfl) (Nat.le_of_ble_eq_true rfl) (by first
      | exact ⟨rfl, rfl, fun q q1 q2 => by rw [sj_up_row q1, x1 q q2], sj_up_self _ _ _ _, Or.inr (fun j hj => by rw [sj_up_row (by have := vCl_cs v w; omega)]; exact x2 j hj)⟩
      | exact ⟨rfl, rfl, fun _ _ _ => rfl, by omega, Or.inl ⟨by omega, rfl⟩⟩)
  · refine sj_ald0 dX7_forget_7 ?_
    refine sj_getR fl_X7_9 (by assumption) rfl (vR_2 _ _ _) dX7_forget_8 ?_
    refine sj_iconst dX7_forget_11 ?_
    refine sj_callS (cJ_fill s1 (by decide)) kc_X7_27 rfl rfl (Nat.le_of_ble_eq_true rfl) dX7_forget_12 (fun r_12 σ_12 I_12 hp_12 => ?_)
    obtain ⟨rfl, rfl, x1, x2⟩ := hp_12
    refine sj_ald0 dX7_forget_15 ?_
    refine sj_iconst dX7_forget_16 ?_
    refine sj_putI fl_X7_23 (by assumption) rfl (by decide) rfl dX7_forget_17 ?_
    exact sj_vret dX7_forget_20 rfl (Nat.le_of_ble_eq_true rfl) (Nat.le_of_ble_eq_true rfl) (by first
      | exact ⟨rfl, rfl, fun q q1 q2 => by rw [sj_up_row q1, x1 q q2], sj_up_self _ _ _ _, Or.inr (fun j hj => by rw [sj_up_row (by have := vCl_cs v w; omega)]; exact x2 j hj)⟩
      | exact ⟨rfl, rfl, fun _ _ _ => rfl, by omega, Or.inl ⟨by omega, rfl⟩⟩)
theorem cx7_at {v e w a i : Nat} (hS : vSh σ v e w) (ha : a < 8) (hi : i < 400) (hr : 0 ≤ I (vCl v w) (400 * a + i) ∧ I (vCl v w) (400 * a + i) < 60000) : sj_Con l yX7_at mX7_at G σ I [.ref v, .int (zI a), .int (zI i)] (fun r σ' I' => r = some (.int (zI (if I (vCl v w) (400 * a + i) < 16 then -9 else I (vCl v w) (400 * a + i) % 16))) ∧ σ = σ' ∧ I = I') := by
  obtain ⟨s0, s1⟩ := hS
  refine sj_con_of (L0 := [some (.ref v), some (.int (zI a)), some (.int (zI i)), none]) (by decide) rfl rfl rfl (Nat.le_of_ble_eq_true rfl) rfl (fun Γ => ?_)
  refine sj_ald0 dX7_at_0 ?_
  refine sj_getR fl_X7_9 (by assumption) rfl (vR_2 _ _ _) dX7_at_1 ?_
  refine sj_ild1 dX7_at_4 ?_
  refine sj_sipush dX7_at_5 (by decide) ?_
  refine sj_imul dX7_at_8 ?_
  refine sj_ild2 dX7_at_9 ?_
  refine sj_iadd dX7_at_10 ?_
  refine sj_ialdJ (400 * a + i) (by assumption) (by omega) (by omega) (by omega) dX7_at_11 ?_
  refine sj_ist3 (by decide) rfl dX7_at_12 ?_
  refine sj_ild3 dX7_at_13 ?_
  refine sj_bipush dX7_at_14 (by decide) ?_
  refine sj_icmp_ge 24 dX7_at_16 (by decide) (by omega) (by omega) (fun c_16 => ?_) (fun c_16 => ?_)
  · refine sj_ild3 dX7_at_24 ?_
    refine sj_bipush dX7_at_25 (by decide) ?_
    refine sj_irem dX7_at_27 (by omega) (by omega) ?_
    exact sj_iret dX7_at_28 rfl rfl (Nat.le_of_ble_eq_true rfl) (Nat.le_of_ble_eq_true rfl) ⟨by first | rw [if_pos (by omega)] | rw [if_neg (by omega)], rfl, rfl⟩
  · refine sj_bipush dX7_at_19 (by decide) ?_
    refine sj_goto 28 dX7_at_21 (by decide) ?_
    exact sj_iret dX7_at_28 rfl rfl (Nat.le_of_ble_eq_true rfl) (Nat.le_of_ble_eq_true rfl) ⟨by first | rw [if_pos (by omega)] | rw [if_neg (by omega)], rfl, rfl⟩
theorem cx7_rank {v e w a i : Nat} (hS : vSh σ v e w) (ha : a < 8) (hi : i < 400) (hr : 0 ≤ I (vCl v w) (400 * a + i) ∧ I (vCl v w) (400 * a + i) < 60000) : sj_Con l yX7_rank mX7_rank G σ I [.ref v, .int (zI a), .int (zI i)] (fun r σ' I' => r = some (.int (zI (I (vCl v w) (400 * a + i) / 16 - 1))) ∧ σ = σ' ∧ I = I') := by
  obtain ⟨s0, s1⟩ := hS
  refine sj_con_of (L0 := [some (.ref v), some (.int (zI a)), some (.int (zI i))]) (by decide) rfl rfl rfl (Nat.le_of_ble_eq_true rfl) rfl (fun Γ => ?_)
  refine sj_ald0 dX7_rank_0 ?_
  refine sj_getR fl_X7_9 (by assumption) rfl (vR_2 _ _ _) dX7_rank_1 ?_
  refine sj_ild1 dX7_rank_4 ?_
  refine sj_sipush dX7_rank_5 (by decide) ?_
  refine sj_imul dX7_rank_8 ?_
  refine sj_ild2 dX7_rank_9 ?_
  refine sj_iadd dX7_rank_10 ?_
  refine sj_ialdJ (400 * a + i) (by assumption) (by omega) (by omega) (by omega) dX7_rank_11 ?_
  refine sj_callS (cx7_rankIn (by omega)) kc_X7_37 rfl rfl (Nat.le_of_ble_eq_true rfl) dX7_rank_12 (fun r_12 σ_12 I_12 hp_12 => ?_)
  obtain ⟨rfl, rfl, rfl⟩ := hp_12
  exact sj_iret dX7_rank_15 rfl rfl (Nat.le_of_ble_eq_true rfl) (Nat.le_of_ble_eq_true rfl) ⟨rfl, rfl, rfl⟩
theorem cx7_neededCell {v e w t p : Nat} {s : Int} {T : List Int} (hS : vSh σ v e w) (hW : wSh σ w) (h : tm σ I t T) (hp : p < T.length) (hc : 65 ≤ T.getD p 0 ∧ T.getD p 0 ≤ 72) (hs : I (w + 1) p = s) (hr : 0 ≤ s ∧ s ≤ 1000000000) : sj_Con l yX7_neededCell mX7_neededCell G σ I [.ref v, .ref t, .int (zI p)] (fun r σ' I' => r = some (.int (zI (if s < 400 then ((400 * (T.getD p 0 - 65).toNat + s.toNat : Nat) : Int) else -1))) ∧ σ = σ' ∧ I = I') := by
  obtain ⟨s0, s1⟩ := hS
  obtain ⟨w0, w1, w2, w3, w4⟩ := hW
  have t0 := h.1.1
  have hn := h.2.2.2.2.2.2
  refine sj_con_of (L0 := [some (.ref v), some (.ref t), some (.int (zI p)), none]) (by decide) rfl rfl rfl (Nat.le_of_ble_eq_true rfl) rfl (fun Γ => ?_)
  refine sj_ald0 dX7_neededCell_0 ?_
  refine sj_getR fl_X7_19 (by assumption) rfl (vR_1 _ _ _) dX7_neededCell_1 ?_
  refine sj_getRN fl_X7_86 (by assumption) rfl (wR_0 _) dX7_neededCell_4 ?_
  refine sj_ild2 dX7_neededCell_7 ?_
  refine sj_ialdJ (p) (by assumption) (by omega) (by omega) (by omega) dX7_neededCell_8 ?_
  rw [hs]
  refine sj_ist3 (by decide) rfl dX7_neededCell_9 ?_
  refine sj_ild3 dX7_neededCell_10 ?_
  refine sj_sipush dX7_neededCell_11 (by decide) ?_
  refine sj_icmp_ge 31 dX7_neededCell_14 (by decide) (by omega) (by omega) (fun c_14 => ?_) (fun c_14 => ?_)
  · refine sj_iconst dX7_neededCell_31 ?_
    exact sj_iret dX7_neededCell_32 rfl rfl (Nat.le_of_ble_eq_true rfl) (Nat.le_of_ble_eq_true rfl) ⟨by first
      | (rw [if_neg (by omega)]; done)
      | (rw [if_pos (by omega), show ((400 * (T.getD p 0 - 65).toNat + s.toNat : Nat) : Int) = (T.getD p 0 - 65) * 400 + s by omega]; done), rfl, rfl⟩
  · refine sj_ald1 dX7_neededCell_17 ?_
    refine sj_ild2 dX7_neededCell_18 ?_
    refine sj_callV (cx5_streamAt h hp) kc_X7_89 (by assumption) rfl rfl rfl rfl (Nat.le_of_ble_eq_true rfl) dX7_neededCell_19 (fun r_19 σ_19 I_19 hp_19 => ?_)
    obtain ⟨rfl, rfl, rfl⟩ := hp_19
    refine sj_sipush dX7_neededCell_22 (by decide) ?_
    refine sj_imul dX7_neededCell_25 ?_
    refine sj_ild3 dX7_neededCell_26 ?_
    refine sj_iadd dX7_neededCell_27 ?_
    refine sj_goto 32 dX7_neededCell_28 (by decide) ?_
    exact sj_iret dX7_neededCell_32 rfl rfl (Nat.le_of_ble_eq_true rfl) (Nat.le_of_ble_eq_true rfl) ⟨by first
      | (rw [if_neg (by omega)]; done)
      | (rw [if_pos (by omega), show ((400 * (T.getD p 0 - 65).toNat + s.toNat : Nat) : Int) = (T.getD p 0 - 65) * 400 + s by omega]; done), rfl, rfl⟩
end VALUES1
