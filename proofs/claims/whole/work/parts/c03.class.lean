/-! the letters of a term -/
def jLt (L : List Int) : List Int := L.filter (fun c => decide (65 ≤ c ∧ c ≤ 72))
theorem jMs_map : ∀ (L A : List Int), (jMs L A.length).map (fun p => (A ++ L).getD p 0) = jLt L
  | [], A => rfl
  | c :: L, A => by
    have ih := jMs_map L (A ++ [c])
    rw [List.append_assoc, List.length_append] at ih
    have ih2 : (jMs L (A.length + 1)).map (fun p => (A ++ c :: L).getD p 0) = jLt L := ih
    have h0 : (A ++ c :: L).getD A.length 0 = c := by rw [List.getD_eq_getElem?_getD, List.getElem?_append_right (Nat.le_refl _), Nat.sub_self]; rfl
    unfold jLt at ih2 ⊢
    simp only [jMs]
    by_cases h : 65 ≤ c ∧ c ≤ 72
    · rw [if_pos h, List.map_cons, ih2, h0, List.filter_cons_of_pos (by simpa using h)]
    · rw [if_neg h, ih2, List.filter_cons_of_neg (by simpa using h)]
theorem jMs_lt' (T : List Int) : (jMs T 0).map (fun p => T.getD p 0) = jLt T := jMs_map T []
theorem jLt_len (T : List Int) : (jLt T).length = (jMs T 0).length := by rw [← jMs_lt', List.length_map]
theorem jLt_at {T : List Int} {j : Nat} (h : j < (jMs T 0).length) : (jLt T).getD j 0 = T.getD ((jMs T 0).getD j 0) 0 := by
  rw [← jMs_lt', List.getD_eq_getElem?_getD, List.getElem?_map, List.getElem?_eq_getElem h, List.getD_eq_getElem?_getD (l := jMs T 0), List.getElem?_eq_getElem h]
  rfl
theorem jOc_app (b : Int) : ∀ (A B : List Int), jOc b (A ++ B) = jOc b A + jOc b B
  | [], B => by simp [jOc]
  | c :: A, B => by
    have := jOc_app b A B
    simp only [List.cons_append, jOc, this]
    omega
theorem jOc_lt {b : Int} (hb : 65 ≤ b ∧ b ≤ 72) : ∀ L : List Int, jOc b (jLt L) = jOc b L
  | [] => rfl
  | c :: L => by
    have ih := jOc_lt hb L
    unfold jLt at ih ⊢
    by_cases h : 65 ≤ c ∧ c ≤ 72
    · rw [List.filter_cons_of_pos (by simpa using h), jOc, jOc, ih]
    · rw [List.filter_cons_of_neg (by simpa using h), ih, jOc, if_neg (by omega)]
      omega
theorem take_one {α : Type} {L : List α} {j : Nat} {d : α} (h : j < L.length) : L.take (j + 1) = L.take j ++ [L.getD j d] := by
  rw [List.take_succ, List.getD_eq_getElem?_getD, List.getElem?_eq_getElem h]; rfl
theorem jOc_pos {b : Int} : ∀ L : List Int, 0 < jOc b L ↔ b ∈ L
  | [] => by simp [jOc]
  | c :: L => by
    have ih := jOc_pos (b := b) L
    have h0 := jOc_le b L
    simp only [jOc, List.mem_cons]
    by_cases h : c = b
    · rw [if_pos h]
      exact ⟨fun _ => Or.inl h.symm, fun _ => by omega⟩
    · rw [if_neg h, ← ih]
      exact ⟨fun q => Or.inr (by omega), fun q => by rcases q with q | q; exact absurd q.symm h; omega⟩
/-- the set of letters -/
def jFo (s : Nat) (L : List Int) : Nat := L.foldl (fun s c => s ||| 2 ^ (c - 65).toNat) s
theorem jFo_bit (i : Nat) : ∀ (L : List Int) (s : Nat), (jFo s L).testBit i = (s.testBit i || L.any (fun c => decide ((c - 65).toNat = i)))
  | [], s => by simp [jFo]
  | c :: L, s => by
    have ih := jFo_bit i L (s ||| 2 ^ (c - 65).toNat)
    show (jFo (s ||| 2 ^ (c - 65).toNat) L).testBit i = _
    rw [ih, Nat.testBit_or, Nat.testBit_two_pow, List.any_cons, Bool.or_assoc]
theorem jUs_bit (L : List Int) (i : Nat) : ∀ n : Nat, (jUs L n).testBit i = decide (i < n ∧ 0 < jOc (65 + i) L)
  | 0 => by simp [jUs]
  | n + 1 => by
    have ih := jUs_bit L i n
    show (jUs L n ||| (if 0 < jOc (65 + n) L then 2 ^ n else 0)).testBit i = _
    rw [Nat.testBit_or, ih]
    by_cases h : 0 < jOc (65 + n) L
    · rw [if_pos h, Nat.testBit_two_pow]
      by_cases e : n = i
      · subst e; simp [h]
      · simp only [e, decide_false, Bool.or_false]
        congr 1
        exact propext ⟨fun q => ⟨by omega, q.2⟩, fun q => ⟨by omega, q.2⟩⟩
    · rw [if_neg h, Nat.zero_testBit, Bool.or_false]
      congr 1
      exact propext ⟨fun q => ⟨by omega, q.2⟩, fun q => ⟨by
        have h1 := q.1
        by_cases e : i = n
        · subst e; exact absurd q.2 h
        · omega, q.2⟩⟩
theorem jEnc_letter {T : List Int} (hv : ∀ c ∈ T, jVc c) {b : Int} (hb : 65 ≤ b ∧ b ≤ 72) : b ∈ jEnc T ↔ b ∈ T := by
  constructor
  · intro h
    obtain ⟨c, hc, hx⟩ := List.mem_flatMap.mp h
    have := hv c hc
    unfold jVc at this
    unfold jE at hx
    split at hx
    · rcases List.mem_cons.mp hx with e | hx
      · omega
      · have := List.mem_singleton.mp hx; omega
    · rw [List.mem_singleton.mp hx]; exact hc
  · intro h
    exact List.mem_flatMap.mpr ⟨b, h, by rw [jE_else (by omega)]; exact List.mem_singleton.mpr rfl⟩
theorem jFo_us {T : List Int} (hv : ∀ c ∈ T, jVc c) : jFo 0 (jLt T) = jUs (jEnc T) 8 := by
  apply Nat.eq_of_testBit_eq
  intro i
  rw [jFo_bit, jUs_bit, Nat.zero_testBit, Bool.false_or]
  rw [Bool.eq_iff_iff, List.any_eq_true, decide_eq_true_iff, jOc_pos]
  constructor
  · rintro ⟨c, hc, h⟩
    have h1 := of_decide_eq_true h
    obtain ⟨h2, h3⟩ := List.mem_filter.mp hc
    have h4 := of_decide_eq_true h3
    exact ⟨by omega, (jEnc_letter hv (by omega)).mpr (by rw [show (65 + i : Int) = c by omega]; exact h2)⟩
  · rintro ⟨h1, h2⟩
    have h3 := (jEnc_letter hv (by omega)).mp h2
    exact ⟨65 + i, List.mem_filter.mpr ⟨h3, decide_eq_true (by omega)⟩, decide_eq_true (by omega)⟩
theorem jFo_lt : ∀ (L : List Int) (s : Nat), (∀ c ∈ L, 65 ≤ c ∧ c ≤ 72) → s < 256 → jFo s L < 256
  | [], s, _, h => h
  | c :: L, s, hL, h => by
    have hc := hL c List.mem_cons_self
    exact jFo_lt L _ (fun x hx => hL x (List.mem_cons_of_mem _ hx)) (or_lt8 s h (c - 65).toNat (by omega))
theorem jIns_len (b : Int) (U : List Int) : ∀ T : List Int, ((jIns b U T).length : Int) = T.length + jOc b T * ((U.length : Int) - 1)
  | [] => by simp [jIns, jOc]
  | c :: T => by
    have ih := jIns_len b U T
    rw [jIns_cons, List.length_append, jOc, List.length_cons]
    by_cases h : c = b
    · rw [if_pos h, if_pos h, Int.add_mul]
      omega
    · rw [if_neg h, if_neg h, Int.zero_add, List.length_singleton]
      omega
theorem jIns_ok {b : Int} (hb : 65 ≤ b ∧ b ≤ 72) {U : List Int} (hU : jOk 1 U) : ∀ (T : List Int) (n : Nat), jOk n T → jOk n (jIns b U T)
  | [], n, h => h
  | c :: T, 0, h => h.elim
  | c :: T, n + 1, h => by
    have ih := jIns_ok hb hU T _ h.2
    rw [jIns_cons]
    by_cases e : c = b
    · rw [if_pos e]
      have har := jAr_cases c
      rw [show jAr c = 0 by omega] at ih
      rw [Nat.add_comm n 1]
      exact jOk_app U _ 1 n hU ih
    · rw [if_neg e]
      exact ⟨h.1, ih⟩
section TERM2
variable {l : Launch} {G : sjG} {σ : sjS} {I : sjI}
theorem cx5_streamSet {t : Nat} {T : List Int} (h : tm σ I t T) : sj_Con l yX5_streamSet mX5_streamSet G σ I [.ref t] (fun r σ' I' => r = some (.int (zI (jUs (jEnc T) 8 : Nat))) ∧ σ = σ' ∧ I = I') := by
  obtain ⟨s0, s1, s2, s3⟩ := h.1
  have hn := h.2.2.2.2.2.2
  have hml := jMs_len T 0
  refine sj_con_of (L0 := [some (.ref t), none, none, none, none, none]) (by decide) rfl rfl rfl (Nat.le_of_ble_eq_true rfl) rfl (fun Γ => ?_)
  have lp : ∀ (d j : Nat), j + d = (jMs T 0).length → sj_V l Γ mX5_streamSet G (fun r σ' I' => r = some (.int (zI (jUs (jEnc T) 8 : Nat))) ∧ σ = σ' ∧ I = I') σ I 0 0 13 [some (.ref t), some (.int (zI (jFo 0 ((jLt T).take j) : Nat))), some (.ref (t + 3)), some (.int (zI (jMs T 0).length)), some (.int (zI j)), none] [] := by
    intro d
    induction d with
    | zero =>
      intro j hj
      rw [List.take_of_length_le (by rw [jLt_len]; omega), jFo_us (jOk_vc T 1 h.2.2.2.2.2.1)]
      refine sj_ild4 dX5_streamSet_13 ?_
      refine sj_ild3 dX5_streamSet_15 ?_
      refine sj_icmp_ge 42 dX5_streamSet_16 (by decide) (by omega) (by omega) (fun c_16 => ?_) (fun c_16 => ?_)
      rotate_left
      · (exfalso; omega)
      refine sj_ild1 dX5_streamSet_42 ?_
      exact sj_iret dX5_streamSet_43 rfl rfl (Nat.le_of_ble_eq_true rfl) (Nat.le_of_ble_eq_true rfl) ⟨rfl, rfl, rfl⟩
    | succ d ih =>
      intro j hj
      obtain ⟨p, hp1, hp2, hp3, hp4⟩ := h.mn (j := j) (by omega)
      have hlt := jFo_lt ((jLt T).take j) 0 (fun c hc => by have := of_decide_eq_true (List.mem_filter.mp (List.mem_of_mem_take hc)).2; exact this) (by decide)
      have hst : jFo 0 ((jLt T).take (j + 1)) = jFo 0 ((jLt T).take j) ||| 2 ^ (T.getD p 0 - 65).toNat := by
        rw [take_one (d := 0) (by rw [jLt_len]; omega), jLt_at (by omega), hp1]
        unfold jFo
        rw [List.foldl_append]
        rfl
      refine sj_ild4 dX5_streamSet_13 ?_
      refine sj_ild3 dX5_streamSet_15 ?_
      refine sj_icmp_ge 42 dX5_streamSet_16 (by decide) (by omega) (by omega) (fun c_16 => ?_) (fun c_16 => ?_)
      · (exfalso; omega)
      refine sj_ald2 dX5_streamSet_19 ?_
      refine sj_ild4 dX5_streamSet_20 ?_
      refine sj_ialdJ (j) (by assumption) (by omega) (by omega) (by omega) dX5_streamSet_22 ?_
      rw [hp2]
      refine sj_ist5 (by decide) rfl dX5_streamSet_23 ?_
      refine sj_ild1 dX5_streamSet_25 ?_
      refine sj_iconst dX5_streamSet_26 ?_
      refine sj_ald0 dX5_streamSet_27 ?_
      refine sj_ild5 dX5_streamSet_28 ?_
      refine sj_callV (cx5_streamAt h hp3) kc_X5_43 (by assumption) rfl rfl rfl rfl (Nat.le_of_ble_eq_true rfl) dX5_streamSet_30 (fun r_30 σ_30 I_30 hp_30 => ?_)
      obtain ⟨rfl, rfl, rfl⟩ := hp_30
      obtain ⟨q, hq⟩ := jNat (a := T.getD p 0 - 65) (by omega)
      rw [hq]
      refine sj_ishl dX5_streamSet_33 (zI_shl1 q (by omega)) ?_
      refine sj_ior dX5_streamSet_34 (zI_or1 _ (by omega) q (by omega)) ?_
      refine sj_ist1 (by decide) rfl dX5_streamSet_35 ?_
      refine sj_inc4 (by decide) rfl dX5_streamSet_36 ?_
      refine sj_goto 13 dX5_streamSet_39 (by decide) ?_
      have hih := ih (j + 1) (by omega)
      rw [hst, hq] at hih
      exact sj_fg5 hih
  refine sj_iconst dX5_streamSet_0 ?_
  refine sj_ist1 (by decide) rfl dX5_streamSet_1 ?_
  refine sj_ald0 dX5_streamSet_2 ?_
  refine sj_getR fl_X5_36 (by assumption) rfl (tR_3 _) dX5_streamSet_3 ?_
  refine sj_ast2 (by decide) rfl dX5_streamSet_6 ?_
  refine sj_ald2 dX5_streamSet_7 ?_
  refine sj_alen (by assumption) (by decide) dX5_streamSet_8 ?_
  refine sj_ist3 (by decide) rfl dX5_streamSet_9 ?_
  refine sj_iconst dX5_streamSet_10 ?_
  refine sj_ist4 (by decide) rfl dX5_streamSet_11 ?_
  exact lp (jMs T 0).length 0 (by omega)
theorem cx5_sizeWith {t u b : Nat} {T U : List Int} (h : tm σ I t T) (hu : tm σ I u U) (hb : b < 8) : sj_Con l yX5_sizeWith mX5_sizeWith G σ I [.ref t, .int (zI b), .ref u] (fun r σ' I' => r = some (.int (zI (T.length + jOc (65 + b) T * ((U.length : Int) - 1)))) ∧ σ = σ' ∧ I = I') := by
  obtain ⟨s0, s1, s2, s3⟩ := h.1
  have hn := h.2.2.2.2.2.2
  have hml := jMs_len T 0
  have hu0 := hu.1.1
  have hun := hu.2.2.2.2.2.2
  refine sj_con_of (L0 := [some (.ref t), some (.int (zI b)), some (.ref u), none, none, none, none, none]) (by decide) rfl rfl rfl (Nat.le_of_ble_eq_true rfl) rfl (fun Γ => ?_)
  have lp : ∀ (d j : Nat), j + d = (jMs T 0).length → sj_V l Γ mX5_sizeWith G (fun r σ' I' => r = some (.int (zI (T.length + jOc (65 + b) T * ((U.length : Int) - 1)))) ∧ σ = σ' ∧ I = I') σ I 0 0 19 [some (.ref t), some (.int (zI b)), some (.ref u), some (.int (zI (T.length + jOc (65 + b) ((jLt T).take j) * ((U.length : Int) - 1)))), some (.ref (t + 3)), some (.int (zI (jMs T 0).length)), some (.int (zI j)), none] [] := by
    intro d
    induction d with
    | zero =>
      intro j hj
      rw [List.take_of_length_le (by rw [jLt_len]; omega), jOc_lt (by omega)]
      refine sj_ild6 dX5_sizeWith_19 ?_
      refine sj_ild5 dX5_sizeWith_21 ?_
      refine sj_icmp_ge 58 dX5_sizeWith_23 (by decide) (by omega) (by omega) (fun c_23 => ?_) (fun c_23 => ?_)
      rotate_left
      · (exfalso; omega)
      refine sj_ild3 dX5_sizeWith_58 ?_
      exact sj_iret dX5_sizeWith_59 rfl rfl (Nat.le_of_ble_eq_true rfl) (Nat.le_of_ble_eq_true rfl) ⟨rfl, rfl, rfl⟩
    | succ d ih =>
      intro j hj
      obtain ⟨p, hp1, hp2, hp3, hp4⟩ := h.mn (j := j) (by omega)
      have hst : jOc (65 + b) ((jLt T).take (j + 1)) = jOc (65 + b) ((jLt T).take j) + (if T.getD p 0 = 65 + b then 1 else 0) := by
        rw [take_one (d := 0) (by rw [jLt_len]; omega), jLt_at (by omega), hp1, jOc_app]
        simp only [jOc]
        omega
      refine sj_ild6 dX5_sizeWith_19 ?_
      refine sj_ild5 dX5_sizeWith_21 ?_
      refine sj_icmp_ge 58 dX5_sizeWith_23 (by decide) (by omega) (by omega) (fun c_23 => ?_) (fun c_23 => ?_)
      · (exfalso; omega)
      refine sj_ald4 dX5_sizeWith_26 ?_
      refine sj_ild6 dX5_sizeWith_28 ?_
      refine sj_ialdJ (j) (by assumption) (by omega) (by omega) (by omega) dX5_sizeWith_30 ?_
      rw [hp2]
      refine sj_ist7 (by decide) rfl dX5_sizeWith_31 ?_
      refine sj_ald0 dX5_sizeWith_33 ?_
      refine sj_ild7 dX5_sizeWith_34 ?_
      refine sj_callV (cx5_streamAt h hp3) kc_X5_43 (by assumption) rfl rfl rfl rfl (Nat.le_of_ble_eq_true rfl) dX5_sizeWith_36 (fun r_36 σ_36 I_36 hp_36 => ?_)
      obtain ⟨rfl, rfl, rfl⟩ := hp_36
      refine sj_ild1 dX5_sizeWith_39 ?_
      refine sj_icmp_ne 52 dX5_sizeWith_40 (by decide) (by omega) (by omega) (fun c_40 => ?_) (fun c_40 => ?_)
      · refine sj_inc6 (by decide) rfl dX5_sizeWith_52 ?_
        refine sj_goto 19 dX5_sizeWith_55 (by decide) ?_
        have hih := ih (j + 1) (by omega)
        first
         | (rw [hst, if_pos (by omega), Int.add_mul, Int.one_mul, ← Int.add_assoc] at hih
            exact sj_fg7 hih)
         | (rw [hst, if_neg (by omega), Int.add_zero] at hih
            exact sj_fg7 hih)
      · refine sj_ild3 dX5_sizeWith_43 ?_
        refine sj_ald2 dX5_sizeWith_44 ?_
        refine sj_getI fl_X5_9 (by assumption) rfl dX5_sizeWith_45 ?_
        rw [hu.2.1]
        refine sj_iconst dX5_sizeWith_48 ?_
        refine sj_isub dX5_sizeWith_49 ?_
        refine sj_iadd dX5_sizeWith_50 ?_
        refine sj_ist3 (by decide) rfl dX5_sizeWith_51 ?_
        refine sj_inc6 (by decide) rfl dX5_sizeWith_52 ?_
        refine sj_goto 19 dX5_sizeWith_55 (by decide) ?_
        have hih := ih (j + 1) (by omega)
        first
         | (rw [hst, if_pos (by omega), Int.add_mul, Int.one_mul, ← Int.add_assoc] at hih
            exact sj_fg7 hih)
         | (rw [hst, if_neg (by omega), Int.add_zero] at hih
            exact sj_fg7 hih)
  refine sj_ald0 dX5_sizeWith_0 ?_
  refine sj_getI fl_X5_9 (by assumption) rfl dX5_sizeWith_1 ?_
  rw [h.2.1]
  refine sj_ist3 (by decide) rfl dX5_sizeWith_4 ?_
  refine sj_ald0 dX5_sizeWith_5 ?_
  refine sj_getR fl_X5_36 (by assumption) rfl (tR_3 _) dX5_sizeWith_6 ?_
  refine sj_ast4 (by decide) rfl dX5_sizeWith_9 ?_
  refine sj_ald4 dX5_sizeWith_11 ?_
  refine sj_alen (by assumption) (by decide) dX5_sizeWith_13 ?_
  refine sj_ist5 (by decide) rfl dX5_sizeWith_14 ?_
  refine sj_iconst dX5_sizeWith_16 ?_
  refine sj_ist6 (by decide) rfl dX5_sizeWith_17 ?_
  have hlp := lp (jMs T 0).length 0 (by omega)
  rw [List.take_zero, show jOc (65 + (b : Int)) [] = 0 from rfl, Int.zero_mul, Int.add_zero] at hlp
  exact hlp
theorem cx5_with {t u b : Nat} {T U : List Int} (h : tm σ I t T) (hu : tm σ I u U) (hb : b < 8) (hs : (jIns (65 + b) U T).length ≤ 120) : sj_Con l yX5_with mX5_with G σ I [.ref t, .int (zI b), .ref u] (fun r σ' I' => r = some (.ref (σ.1 + 1)) ∧ σ'.1 = σ.1 + 5 ∧ (∀ q, q < σ.1 → σ'.2 q = σ.2 q ∧ I' q = I q) ∧ tm σ' I' (σ.1 + 1) (jIns (65 + b) U T)) := by
  obtain ⟨s0, s1, s2, s3⟩ := h.1
  have hn := h.2.2.2.2.2.2
  obtain ⟨r0, r1, r2, r3⟩ := hu.1
  have hun := hu.2.2.2.2.2.2
  have hlen := jIns_len (65 + b) U T
  have hok := jIns_ok (b := 65 + b) (by omega) hu.2.2.2.2.2.1 T 1 h.2.2.2.2.2.1
  refine sj_con_of (L0 := [some (.ref t), some (.int (zI b)), some (.ref u), none, none, none]) (by decide) rfl rfl rfl (Nat.le_of_ble_eq_true rfl) rfl (fun Γ => ?_)
  refine sj_wfV (fun hwf => ?_)
  have w1 := hwf _ _ s0
  have w2 := hwf _ _ s1
  have w3 := hwf _ _ r0
  have w4 := hwf _ _ r1
  have n1 : (sj_nw σ (10, (jIns (65 + b) U T).length, fun _ => none)).2 (t + 1) = some (10, T.length, fun _ => none) := by rw [sj_nw_ne (by omega)]; exact s1
  have n0 : (sj_nw σ (10, (jIns (65 + b) U T).length, fun _ => none)).2 t = some (4, 0, tρ t) := by rw [sj_nw_ne (by omega)]; exact s0
  have m0 : (sj_nw σ (10, (jIns (65 + b) U T).length, fun _ => none)).2 u = some (4, 0, tρ u) := by rw [sj_nw_ne (by omega)]; exact r0
  have m1 : (sj_nw σ (10, (jIns (65 + b) U T).length, fun _ => none)).2 (u + 1) = some (10, U.length, fun _ => none) := by rw [sj_nw_ne (by omega)]; exact r1
  have nj : (sj_nw σ (10, (jIns (65 + b) U T).length, fun _ => none)).2 σ.1 = some (10, (jIns (65 + b) U T).length, fun _ => none) := sj_nw_self _ _
  have lp : ∀ (d p : Nat) (J : sjI), p + d = T.length → (∀ q, q ≠ σ.1 → J q = I q) → lst (J σ.1) 0 (jIns (65 + b) U (T.take p)).length = jIns (65 + b) U (T.take p) → sj_V l Γ mX5_with G (fun r σ' I' => r = some (.ref (σ.1 + 1)) ∧ σ'.1 = σ.1 + 5 ∧ (∀ q, q < σ.1 → σ'.2 q = σ.2 q ∧ I' q = I q) ∧ tm σ' I' (σ.1 + 1) (jIns (65 + b) U T)) (sj_nw σ (10, (jIns (65 + b) U T).length, fun _ => none)) J 1 120 15 [some (.ref t), some (.int (zI b)), some (.ref u), some (.ref σ.1), some (.int (zI (jIns (65 + b) U (T.take p)).length)), some (.int (zI p))] [] := by
    intro d
    induction d with
    | zero =>
      intro p J hp hJ hE
      rw [List.take_of_length_le (by omega)] at hE ⊢
      have hJt : J t 0 = T.length := by rw [hJ t (by omega)]; exact h.2.1
      refine sj_ild5 dX5_with_15 ?_
      refine sj_ald0 dX5_with_17 ?_
      refine sj_getI fl_X5_9 (by assumption) rfl dX5_with_18 ?_
      rw [hJt]
      refine sj_icmp_ge 85 dX5_with_21 (by decide) (by omega) (by omega) (fun c_21 => ?_) (fun c_21 => ?_)
      rotate_left
      · (exfalso; omega)
      refine sj_new (κ := 4) rfl kl_X5_10 wi_4 wz_4 dX5_with_85 (Nat.le_of_ble_eq_true rfl) (Nat.le_of_ble_eq_true rfl) ?_
      refine sj_dup dX5_with_88 rfl ?_
      refine sj_ald3 dX5_with_89 ?_
      refine sj_ild4 dX5_with_90 ?_
      refine sj_callI (cx5_init (t := σ.1 + 1) (a := σ.1) (n0 := (jIns (65 + b) U T).length) (T := jIns (65 + b) U T) (sj_nw_self _ _) rfl (by rw [sj_nw_ne (by show σ.1 ≠ σ.1 + 1; omega)]; exact nj) (by rw [sj_ur_ne (by show σ.1 ≠ σ.1 + 1; omega)]; exact hE) hok (by omega) hs) kc_X5_60 rfl rfl (Nat.le_of_ble_eq_true rfl) dX5_with_92 (fun r_92 σ_92 I_92 hp_92 => ?_)
      obtain ⟨rfl, x1, x2, x3⟩ := hp_92
      exact sj_aret dX5_with_95 rfl (Or.inl ⟨_, rfl⟩) (Or.inr ⟨_, rfl⟩) (Nat.le_of_ble_eq_true rfl) (Nat.le_of_ble_eq_true rfl) ⟨rfl, x1, fun q hq => by
        obtain ⟨y1, y2⟩ := x2 q (by omega)
        exact ⟨by rw [y1, sj_nw_ne (by show q ≠ σ.1 + 1; omega), sj_nw_ne (by omega)], by rw [y2, sj_ur_ne (by show q ≠ σ.1 + 1; omega), hJ q (by omega)]⟩, x3⟩
    | succ d ih =>
      intro p J hp hJ hE
      obtain ⟨c, L, hd, hc, hd2, hcm⟩ := dropEx (T := T) (k := p) (by omega)
      have hv := h.vc (p := p) (by omega)
      rw [hc] at hv
      unfold jVc at hv
      have hJt : J t 0 = T.length := by rw [hJ t (by omega)]; exact h.2.1
      have hJc : J (t + 1) p = c := by rw [hJ (t + 1) (by omega), h.cd (by omega), hc]
      have hJu : J u 0 = U.length := by rw [hJ u (by omega)]; exact hu.2.1
      have hst : jIns (65 + b) U (T.take (p + 1)) = jIns (65 + b) U (T.take p) ++ (if c = 65 + b then U else [c]) := by
        rw [take_one (d := 0) (by omega), hc, jIns_app, jIns_one]
      have hfit : (jIns (65 + b) U (T.take (p + 1))).length ≤ (jIns (65 + b) U T).length := by
        conv => rhs; rw [← List.take_append_drop (p + 1) T, jIns_app, List.length_append]
        omega
      rw [hst, List.length_append] at hfit
      have hsr : lst (J (u + 1)) 0 U.length = U := by rw [hJ (u + 1) (by omega)]; exact hu.2.2.1
      have yes : c = 65 + b → jIns (65 + b) U (T.take (p + 1)) = jIns (65 + b) U (T.take p) ++ U := fun e => by rw [hst, if_pos e]
      have no : ¬ c = 65 + b → jIns (65 + b) U (T.take (p + 1)) = jIns (65 + b) U (T.take p) ++ [c] := fun e => by rw [hst, if_neg e]
      by_cases e1 : c = 65 + b
      · rw [if_pos e1] at hfit
        refine sj_ild5 dX5_with_15 ?_
        refine sj_ald0 dX5_with_17 ?_
        refine sj_getI fl_X5_9 (by assumption) rfl dX5_with_18 ?_
        rw [hJt]
        refine sj_icmp_ge 85 dX5_with_21 (by decide) (by omega) (by omega) (fun c_21 => ?_) (fun c_21 => ?_)
        · (exfalso; omega)
        refine sj_ald0 dX5_with_24 ?_
        refine sj_getR fl_X5_21 (by assumption) rfl (tR_1 _) dX5_with_25 ?_
        refine sj_ild5 dX5_with_28 ?_
        refine sj_ialdJ (p) (by assumption) (by omega) (by omega) (by omega) dX5_with_30 ?_
        rw [hJc]
        refine sj_bipush dX5_with_31 (by decide) ?_
        refine sj_ild1 dX5_with_33 ?_
        refine sj_iadd dX5_with_34 ?_
        refine sj_icmp_ne 65 dX5_with_35 (by decide) (by omega) (by omega) (fun c_35 => ?_) (fun c_35 => ?_)
        · (exfalso; omega)
        refine sj_ald2 dX5_with_38 ?_
        refine sj_getR fl_X5_21 (by assumption) rfl (tR_1 _) dX5_with_39 ?_
        refine sj_iconst dX5_with_42 ?_
        refine sj_ald3 dX5_with_43 ?_
        refine sj_ild4 dX5_with_44 ?_
        refine sj_ald2 dX5_with_46 ?_
        refine sj_getI fl_X5_9 (by assumption) rfl dX5_with_47 ?_
        rw [hJu]
        refine sj_acopy km_X5_54 wo_acopy.1 wo_acopy.2.1 wo_acopy.2.2 m1 nj (by omega) (by omega) (by omega) (by decide) (Nat.le_of_ble_eq_true rfl) dX5_with_50 ?_
        refine sj_ild4 dX5_with_53 ?_
        refine sj_ald2 dX5_with_55 ?_
        refine sj_getI fl_X5_9 (by assumption) rfl dX5_with_56 ?_
        rw [sj_ur_ne (by omega), hJu]
        refine sj_iadd dX5_with_59 ?_
        refine sj_ist4 (by decide) rfl dX5_with_60 ?_
        refine sj_goto 79 dX5_with_62 (by decide) ?_
        refine sj_inc5 (by decide) rfl dX5_with_79 ?_
        refine sj_goto 15 dX5_with_82 (by decide) ?_
        have hih := ih (p + 1) (sj_ur J σ.1 (va_cpy (J (u + 1)) (J σ.1) 0 (jIns (65 + b) U (T.take p)).length U.length)) (by omega) (fun q hq => by rw [sj_ur_ne hq]; exact hJ q hq) (by
          rw [yes e1, sj_ur_self]
          refine lst_join ?_ ?_
          · conv => rhs; rw [← hE]
            exact lst_congr (fun j hj => cpy_out (Or.inl (by rw [Nat.zero_add]; exact hj)))
          · conv => rhs; rw [← hsr]
            exact lst_congr (fun j hj => by rw [Nat.zero_add, cpy_in hj]))
        rw [yes e1, List.length_append] at hih
        exact hih
      · rw [if_neg e1, List.length_singleton] at hfit
        refine sj_ild5 dX5_with_15 ?_
        refine sj_ald0 dX5_with_17 ?_
        refine sj_getI fl_X5_9 (by assumption) rfl dX5_with_18 ?_
        rw [hJt]
        refine sj_icmp_ge 85 dX5_with_21 (by decide) (by omega) (by omega) (fun c_21 => ?_) (fun c_21 => ?_)
        · (exfalso; omega)
        refine sj_ald0 dX5_with_24 ?_
        refine sj_getR fl_X5_21 (by assumption) rfl (tR_1 _) dX5_with_25 ?_
        refine sj_ild5 dX5_with_28 ?_
        refine sj_ialdJ (p) (by assumption) (by omega) (by omega) (by omega) dX5_with_30 ?_
        rw [hJc]
        refine sj_bipush dX5_with_31 (by decide) ?_
        refine sj_ild1 dX5_with_33 ?_
        refine sj_iadd dX5_with_34 ?_
        refine sj_icmp_ne 65 dX5_with_35 (by decide) (by omega) (by omega) (fun c_35 => ?_) (fun c_35 => ?_)
        rotate_left
        · (exfalso; omega)
        refine sj_ald3 dX5_with_65 ?_
        refine sj_ild4 dX5_with_66 ?_
        refine sj_ald0 dX5_with_68 ?_
        refine sj_getR fl_X5_21 (by assumption) rfl (tR_1 _) dX5_with_69 ?_
        refine sj_ild5 dX5_with_72 ?_
        refine sj_ialdJ (p) (by assumption) (by omega) (by omega) (by omega) dX5_with_74 ?_
        rw [hJc]
        refine sj_iastJ ((jIns (65 + b) U (T.take p)).length) (by assumption) (by omega) (by omega) (by omega) dX5_with_75 ?_
        refine sj_inc4 (by decide) rfl dX5_with_76 ?_
        refine sj_inc5 (by decide) rfl dX5_with_79 ?_
        refine sj_goto 15 dX5_with_82 (by decide) ?_
        have hih := ih (p + 1) (sj_up J σ.1 (jIns (65 + b) U (T.take p)).length c) (by omega) (fun q hq => by rw [sj_up_row hq]; exact hJ q hq) (by
          rw [no e1, List.length_append]
          have := lst_up_succ (I := J) (a := σ.1) (s := 0) (n := (jIns (65 + b) U (T.take p)).length) (v := c)
          rw [Nat.zero_add, hE] at this
          exact this)
        rw [no e1, List.length_append] at hih
        exact hih
  refine sj_ald0 dX5_with_0 ?_
  refine sj_ild1 dX5_with_1 ?_
  refine sj_ald2 dX5_with_2 ?_
  refine sj_callV (cx5_sizeWith h hu hb) kc_X5_50 (by assumption) rfl rfl rfl rfl (Nat.le_of_ble_eq_true rfl) dX5_with_3 (fun r_3 σ_3 I_3 hp_3 => ?_)
  obtain ⟨rfl, rfl, rfl⟩ := hp_3
  rw [← hlen]
  refine sj_newI wd_102 dX5_with_6 (by omega) (Nat.le_of_ble_eq_true rfl) (by show 0 + (jIns (65 + b) U T).length ≤ 484; omega) ?_
  refine sj_more (k' := 1) (n' := 120) (Nat.le_of_ble_eq_true rfl) (by show 0 + (jIns (65 + b) U T).length ≤ 120; omega) ?_
  refine sj_ast3 (by decide) rfl dX5_with_8 ?_
  refine sj_iconst dX5_with_9 ?_
  refine sj_ist4 (by decide) rfl dX5_with_10 ?_
  refine sj_iconst dX5_with_12 ?_
  refine sj_ist5 (by decide) rfl dX5_with_13 ?_
  exact lp T.length 0 _ (by omega) (fun q hq => sj_ur_ne hq) rfl
end TERM2
