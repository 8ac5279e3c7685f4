/-! long rows: which cells were seen -/
theorem zL_toBV (n : Nat) : (zL (n : Int)).toBitVec = BitVec.ofNat 64 n := by
  unfold zL
  rw [Int64.toBitVec_ofInt]
  exact BitVec.ofInt_natCast 64 n
theorem zL_or (a b : Nat) : zL (a : Int) ||| zL (b : Int) = zL ((a ||| b : Nat) : Int) := by
  apply Int64.toBitVec_inj.mp
  rw [Int64.toBitVec_or, zL_toBV, zL_toBV, zL_toBV]
  apply BitVec.eq_of_toNat_eq
  rw [BitVec.toNat_or, BitVec.toNat_ofNat, BitVec.toNat_ofNat, BitVec.toNat_ofNat, Nat.or_mod_two_pow]
theorem zL_and (a b : Nat) : zL (a : Int) &&& zL (b : Int) = zL ((a &&& b : Nat) : Int) := by
  apply Int64.toBitVec_inj.mp
  rw [Int64.toBitVec_and, zL_toBV, zL_toBV, zL_toBV]
  apply BitVec.eq_of_toNat_eq
  rw [BitVec.toNat_and, BitVec.toNat_ofNat, BitVec.toNat_ofNat, BitVec.toNat_ofNat, Nat.and_mod_two_pow]
theorem zL_shl1 : ∀ b : Nat, b < 64 → zL 1 <<< ((zI (b : Int)).toInt64 &&& 63) = zL ((2 ^ b : Nat) : Int) := by decide +kernel
theorem zL_zero {a : Nat} (h : a < 2 ^ 64) : zL (a : Int) = zL 0 ↔ a = 0 := by
  constructor
  · intro e
    have e2 : (zL (a : Int)).toBitVec.toNat = (zL 0).toBitVec.toNat := by rw [e]
    rw [zL_toBV, show (zL 0).toBitVec = BitVec.ofNat 64 0 from zL_toBV 0, BitVec.toNat_ofNat, BitVec.toNat_ofNat, Nat.mod_eq_of_lt h] at e2
    exact e2
  · rintro rfl; rfl
theorem cmp_zero (x : Int64) : (lg_cmp x (zL 0)).toInt = 0 ↔ x = zL 0 := by
  unfold lg_cmp
  split
  · rename_i h
    constructor
    · intro q; exact absurd q (by decide)
    · intro q; rw [q] at h; exact absurd h (by decide)
  · split
    · rename_i h
      exact ⟨fun _ => h, fun _ => by decide⟩
    · rename_i h
      constructor
      · intro q; exact absurd q (by decide)
      · intro q; exact absurd q h
theorem and2 (m b : Nat) : m &&& 2 ^ b = if m.testBit b = true then 2 ^ b else 0 := by
  apply Nat.eq_of_testBit_eq
  intro i
  rw [Nat.testBit_and, Nat.testBit_two_pow]
  by_cases h : m.testBit b = true
  · rw [if_pos h, Nat.testBit_two_pow]
    by_cases e : b = i
    · subst e; simp [h]
    · simp [e]
  · rw [if_neg h, Nat.zero_testBit]
    by_cases e : b = i
    · subst e; simp [h]
    · simp [e]
/-- the set of seen cells -/
def sIn (I : sjI) (w : Nat) (P : Nat → Prop) : Prop := ∃ m : Nat → Nat, (∀ j, j < 50 → I (w + 4) j = m j ∧ m j < 2 ^ 64) ∧ ∀ q, q < 3200 → ((m (q / 64)).testBit (q % 64) = true ↔ P q)
section LONGS
variable {l : Launch} {G : sjG} {σ : sjS} {I : sjI}
theorem cJ_fillL {a n0 : Nat} {x : Int} (ha : σ.2 a = some (11, n0, fun _ => none)) (hn : n0 ≤ 5000) : sj_Con l yJ7_fill_d0a16 mJ7_fill_d0a16 G σ I [.ref a, .long (zL x)] (fun r σ' I' => r = none ∧ σ = σ' ∧ (∀ q, q ≠ a → I' q = I q) ∧ ∀ j, j < n0 → I' a j = x) := by
  refine sj_con_of' (L0 := [some (.ref a), some (.long (zL x)), none, none, none]) (by decide) rfl rfl (Nat.le_of_ble_eq_true rfl) (fun ls hl => ⟨hl.1, hl.2.1, fun i v hv => ?_⟩) (fun Γ => ?_)
  · match i, hv with
    | 0, hv => cases hv; exact hl.2.2 (0, Value.ref a) List.mem_cons_self
    | 1, hv => cases hv; exact hl.2.2 (1, Value.long (zL x)) (List.mem_cons_of_mem _ List.mem_cons_self)
    | 2, hv => cases hv
    | 3, hv => cases hv
    | 4, hv => cases hv
    | i + 5, hv => simp at hv
  have lp : ∀ (d k : Nat) (J : sjI), k + d = n0 → (∀ q, q ≠ a → J q = I q) → (∀ j, j < k → J a j = x) → sj_V l Γ mJ7_fill_d0a16 G (fun r σ' I' => r = none ∧ σ = σ' ∧ (∀ q, q ≠ a → I' q = I q) ∧ ∀ j, j < n0 → I' a j = x) σ J 0 0 6 [some (.ref a), some (.long (zL x)), none, some (.int (zI k)), some (.int (zI n0))] [] := by
    intro d
    induction d with
    | zero =>
      intro k J hk hJ hE
      refine sj_ild3 dJ7_fill_d0a16_6 ?_
      refine sj_ild4 dJ7_fill_d0a16_7 ?_
      refine sj_icmp_ge 22 dJ7_fill_d0a16_9 (by decide) (by omega) (by omega) (fun c_9 => ?_) (fun c_9 => ?_)
      rotate_left
      · (exfalso; omega)
      exact sj_vret dJ7_fill_d0a16_22 rfl (Nat.le_of_ble_eq_true rfl) (Nat.le_of_ble_eq_true rfl) ⟨rfl, rfl, hJ, fun j hj => hE j (by omega)⟩
    | succ d ih =>
      intro k J hk hJ hE
      refine sj_ild3 dJ7_fill_d0a16_6 ?_
      refine sj_ild4 dJ7_fill_d0a16_7 ?_
      refine sj_icmp_ge 22 dJ7_fill_d0a16_9 (by decide) (by omega) (by omega) (fun c_9 => ?_) (fun c_9 => ?_)
      · (exfalso; omega)
      refine sj_ald0 dJ7_fill_d0a16_12 ?_
      refine sj_ild3 dJ7_fill_d0a16_13 ?_
      refine sj_lld1 dJ7_fill_d0a16_14 ?_
      refine sj_last (by assumption) (by omega) (by omega) dJ7_fill_d0a16_15 ?_
      refine sj_inc3 (by decide) rfl dJ7_fill_d0a16_16 ?_
      refine sj_goto 6 dJ7_fill_d0a16_19 (by decide) ?_
      exact ih (k + 1) _ (by omega) (fun q hq => by rw [sj_up_row hq]; exact hJ q hq) (fun j hj => by
        by_cases e : j = k
        · rw [e]; exact sj_up_self _ _ _ _
        · rw [sj_up_ne (by show ¬ (a = a ∧ j = (k : Int).toNat); omega)]; exact hE j (by omega))
  refine sj_iconst dJ7_fill_d0a16_0 ?_
  refine sj_ist3 (by decide) rfl dJ7_fill_d0a16_1 ?_
  refine sj_ald0 dJ7_fill_d0a16_2 ?_
  refine sj_alen (by assumption) (by decide) dJ7_fill_d0a16_3 ?_
  refine sj_ist4 (by decide) rfl dJ7_fill_d0a16_4 ?_
  exact lp n0 0 I (by omega) (fun _ _ => rfl) (fun j hj => absurd hj (by omega))
theorem cx8_clearSeen {w : Nat} (hS : wSh σ w) : sj_Con l yX8_clearSeen mX8_clearSeen G σ I [.ref w] (fun v σ' I' => v = none ∧ σ = σ' ∧ (∀ q, q ≠ w + 4 → I' q = I q) ∧ sIn I' w (fun _ => False)) := by
  obtain ⟨s0, s1, s2, s3, s4⟩ := id hS
  refine sj_con_of (L0 := [some (.ref w)]) (by decide) rfl rfl rfl (Nat.le_of_ble_eq_true rfl) rfl (fun Γ => ?_)
  refine sj_ald0 dX8_clearSeen_0 ?_
  refine sj_getR fl_X8_21 (by assumption) rfl (wR_3 _) dX8_clearSeen_1 ?_
  refine sj_lconst (x := 0) dX8_clearSeen_4 (by decide) ?_
  refine sj_callS (cJ_fillL s4 (by decide)) kc_X8_50 rfl rfl (Nat.le_of_ble_eq_true rfl) dX8_clearSeen_5 (fun r_5 σ_5 I_5 hp_5 => ?_)
  obtain ⟨rfl, rfl, x1, x2⟩ := hp_5
  exact sj_vret dX8_clearSeen_8 rfl (Nat.le_of_ble_eq_true rfl) (Nat.le_of_ble_eq_true rfl) ⟨rfl, rfl, x1, fun _ => 0, fun j hj => ⟨x2 j hj, by show 0 < 2 ^ 64; decide⟩, fun q hq => by rw [Nat.zero_testBit]; simp⟩
theorem cx8_see {w q : Nat} {P : Nat → Prop} (hS : wSh σ w) (h : sIn I w P) (hq : q < 3200) : sj_Con l yX8_see mX8_see G σ I [.ref w, .int (zI q)] (fun v σ' I' => σ = σ' ∧ ((P q ∧ v = some (.int (zI 0)) ∧ I = I') ∨ (¬ P q ∧ v = some (.int (zI 1)) ∧ (∀ b, b ≠ w + 4 → I' b = I b) ∧ sIn I' w (fun x => P x ∨ x = q)))) := by
  obtain ⟨s0, s1, s2, s3, s4⟩ := id hS
  obtain ⟨m, hm, hb⟩ := h
  obtain ⟨hm1, hm2⟩ := hm (q / 64) (by omega)
  have hPq := hb q hq
  have hrem : ((q : Int) % 64) = ((q % 64 : Nat) : Int) := by omega
  have hdiv : ((q : Int) / 64) = ((q / 64 : Nat) : Int) := by omega
  have hand := and2 (m (q / 64)) (q % 64)
  have hp0 : 0 < 2 ^ (q % 64) := Nat.two_pow_pos _
  have hp1 : 2 ^ (q % 64) < 2 ^ 64 := Nat.pow_lt_pow_right (by decide) (by omega)
  have hal : m (q / 64) &&& 2 ^ (q % 64) < 2 ^ 64 := Nat.lt_of_le_of_lt (Nat.and_le_right) hp1
  have hz := cmp_zero (zL ((m (q / 64) &&& 2 ^ (q % 64) : Nat) : Int))
  rw [zL_zero hal] at hz
  obtain ⟨r, hr⟩ : ∃ r, (lg_cmp (zL ((m (q / 64) &&& 2 ^ (q % 64) : Nat) : Int)) (zL 0)).toInt = r := ⟨_, rfl⟩
  have hrr : -2147483648 ≤ r ∧ r < 2147483648 := by rw [← hr]; exact ⟨Int32.le_toInt _, Int32.toInt_lt _⟩
  have hrz : zI r = lg_cmp (zL ((m (q / 64) &&& 2 ^ (q % 64) : Nat) : Int)) (zL 0) := by rw [← hr]; exact zI_of _
  rw [hr] at hz
  refine sj_con_of (L0 := [some (.ref w), some (.int (zI q)), none, none]) (by decide) rfl rfl rfl (Nat.le_of_ble_eq_true rfl) rfl (fun Γ => ?_)
  refine sj_lconst (x := 1) dX8_see_0 (by decide) ?_
  refine sj_ild1 dX8_see_1 ?_
  refine sj_bipush dX8_see_2 (by decide) ?_
  refine sj_irem dX8_see_4 (by omega) (by omega) ?_
  rw [hrem]
  refine sj_lshl dX8_see_5 (zL_shl1 (q % 64) (by omega)) ?_
  refine sj_lst2 rfl rfl dX8_see_6 ?_
  refine sj_ald0 dX8_see_7 ?_
  refine sj_getR fl_X8_21 (by assumption) rfl (wR_3 _) dX8_see_8 ?_
  refine sj_ild1 dX8_see_11 ?_
  refine sj_bipush dX8_see_12 (by decide) ?_
  refine sj_idiv dX8_see_14 (by omega) (by omega) ?_
  rw [hdiv]
  refine sj_lald (by assumption) (by omega) (by omega) dX8_see_15 ?_
  refine sj_top (u := .long (zL ((m (q / 64) : Nat) : Int))) (by show Value.long (zL (I (w + 4) (q / 64))) = _; rw [hm1]) ?_
  refine sj_lld2 dX8_see_16 ?_
  refine sj_land dX8_see_17 (zL_and _ _) ?_
  refine sj_lconst (x := 0) dX8_see_18 (by decide) ?_
  refine sj_lcmp dX8_see_19 hrz.symm ?_
  refine sj_if_eq 25 dX8_see_20 (by decide) (by omega) (fun c_20 => ?_) (fun c_20 => ?_)
  · refine sj_ald0 dX8_see_25 ?_
    refine sj_getR fl_X8_21 (by assumption) rfl (wR_3 _) dX8_see_26 ?_
    refine sj_ild1 dX8_see_29 ?_
    refine sj_bipush dX8_see_30 (by decide) ?_
    refine sj_idiv dX8_see_32 (by omega) (by omega) ?_
    rw [hdiv]
    refine sj_dup2 dX8_see_33 rfl rfl ?_
    refine sj_lald (by assumption) (by omega) (by omega) dX8_see_34 ?_
    refine sj_top (u := .long (zL ((m (q / 64) : Nat) : Int))) (by show Value.long (zL (I (w + 4) (q / 64))) = _; rw [hm1]) ?_
    refine sj_lld2 dX8_see_35 ?_
    refine sj_lor dX8_see_36 (zL_or _ _) ?_
    refine sj_last (by assumption) (by omega) (by omega) dX8_see_37 ?_
    refine sj_iconst dX8_see_38 ?_
    have hzero : m (q / 64) &&& 2 ^ (q % 64) = 0 := hz.mp (by assumption)
    have hbf : ¬ (m (q / 64)).testBit (q % 64) = true := fun z => by rw [if_pos z] at hand; rw [hand] at hzero; omega
    exact sj_iret dX8_see_39 rfl (by decide) (Nat.le_of_ble_eq_true rfl) (Nat.le_of_ble_eq_true rfl) ⟨rfl, Or.inr ⟨fun z => hbf (hPq.mpr z), rfl, fun b hb => sj_up_row hb, fun j => if j = q / 64 then m j ||| 2 ^ (q % 64) else m j, fun j hj => by
      show _ = (((if j = q / 64 then m j ||| 2 ^ (q % 64) else m j) : Nat) : Int) ∧ (if j = q / 64 then m j ||| 2 ^ (q % 64) else m j) < 2 ^ 64
      by_cases e : j = q / 64
      · subst e
        rw [if_pos rfl]
        exact ⟨sj_up_self _ _ _ _, Nat.or_lt_two_pow hm2 hp1⟩
      · rw [if_neg e, sj_up_ne (by show ¬ (w + 4 = w + 4 ∧ j = q / 64); omega)]
        exact hm j hj, fun x hx => by
      show (if x / 64 = q / 64 then m (x / 64) ||| 2 ^ (q % 64) else m (x / 64)).testBit (x % 64) = true ↔ (P x ∨ x = q)
      by_cases e : x / 64 = q / 64
      · rw [if_pos e, Nat.testBit_or, Nat.testBit_two_pow, Bool.or_eq_true, hb x hx, decide_eq_true_iff]
        exact ⟨fun z => by rcases z with z | z; exact Or.inl z; exact Or.inr (by omega), fun z => by rcases z with z | z; exact Or.inl z; exact Or.inr (by omega)⟩
      · rw [if_neg e, hb x hx]
        exact ⟨fun z => Or.inl z, fun z => by rcases z with z | z; exact z; exact absurd (by rw [z]) e⟩⟩⟩
  · refine sj_iconst dX8_see_23 ?_
    exact sj_iret dX8_see_24 rfl (by decide) (Nat.le_of_ble_eq_true rfl) (Nat.le_of_ble_eq_true rfl) ⟨rfl, Or.inl ⟨hPq.mp (by
      cases hbt : (m (q / 64)).testBit (q % 64) with
      | true => rfl
      | false => rw [hbt, if_neg (by simp)] at hand; exact absurd (hz.mpr hand) (by assumption)), rfl, rfl⟩⟩
end LONGS
