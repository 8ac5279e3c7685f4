/-! walks over a term: each part hands numbers to its operands -/
def jGx (ch : Int → Int → List Int) : List Int → List Int → List Int
  | [], _ => []
  | _ :: _, [] => []
  | c :: L, s :: S => s :: jGx ch L (ch c s ++ S)
/-- a row has the numbers of the terms that wait -/
def pSt (f : Nat → Int) (T : List Int) : List Int → Nat → Prop
  | [], _ => True
  | s :: S, p => f p = s ∧ pSt f T S (jEe T p)
theorem jEe_ge (T : List Int) (p : Nat) : p ≤ jEe T p := Nat.le_add_right _ _
theorem pSt.keep {f g : Nat → Int} {T : List Int} : ∀ {S : List Int} {p : Nat}, pSt f T S p → (∀ j, p ≤ j → g j = f j) → pSt g T S p
  | [], _, _, _ => trivial
  | s :: S, p, h, e => ⟨by rw [e p (Nat.le_refl _)]; exact h.1, pSt.keep h.2 (fun j hj => e j (Nat.le_trans (jEe_ge T p) hj))⟩
theorem jGx_len {ch : Int → Int → List Int} (hch : ∀ c s, jVc c → (ch c s).length = jAr c) : ∀ (L S : List Int), jOk S.length L → (jGx ch L S).length = L.length
  | [], S, _ => by cases S <;> rfl
  | c :: L, [], h => h.elim
  | c :: L, s :: S, h => by
    have h2 : jVc c ∧ jOk (S.length + jAr c) L := h
    have := jGx_len hch L (ch c s ++ S) (by rw [List.length_append, hch c s h2.1, Nat.add_comm]; exact h2.2)
    show (jGx ch L (ch c s ++ S)).length + 1 = L.length + 1
    rw [this]
def gInv (ch : Int → Int → List Int) (T : List Int) (s0 : Int) (f : Nat → Int) (p : Nat) (S : List Int) : Prop :=
  (∀ q, q < p → f q = (jGx ch T [s0]).getD q 0) ∧ pSt f T S p ∧ (jGx ch T [s0]).drop p = jGx ch (T.drop p) S ∧ jOk S.length (T.drop p)
theorem gInv.init {ch : Int → Int → List Int} {T : List Int} {s0 : Int} {f : Nat → Int} (hok : jOk 1 T) (h : f 0 = s0) : gInv ch T s0 f 0 [s0] :=
  ⟨fun q hq => absurd hq (by omega), ⟨h, trivial⟩, rfl, hok⟩
theorem gInv.step {ch : Int → Int → List Int} (hch : ∀ c s, jVc c → (ch c s).length = jAr c) {T L S : List Int} {s0 c : Int} {f : Nat → Int} {p : Nat} (hok : jOk 1 T) (h : gInv ch T s0 f p S) (hd : T.drop p = c :: L) : ∃ s S', S = s :: S' ∧ f p = s ∧ (jGx ch T [s0]).getD p 0 = s ∧ ∀ g : Nat → Int, (∀ j, j ≤ p → g j = f j) → (1 ≤ jAr c → g (p + 1) = (ch c s).getD 0 0) → (jAr c = 2 → g (jEe T (p + 1)) = (ch c s).getD 1 0) → (∀ j, jEe T p ≤ j → g j = f j) → gInv ch T s0 g (p + 1) (ch c s ++ S') := by
  obtain ⟨h1, h2, h3, h4⟩ := h
  rw [hd] at h3 h4
  cases S with
  | nil => exact h4.elim
  | cons s S' =>
    obtain ⟨hv, h5⟩ : jVc c ∧ jOk (S'.length + jAr c) L := h4
    obtain ⟨f0, f1, f2, f3, f4⟩ := jEe_facts hok hd
    have hkl : p < T.length := by omega
    have hL : T.drop (p + 1) = L := by rw [← List.drop_drop, hd]; rfl
    have h3' : (jGx ch T [s0]).drop p = s :: jGx ch L (ch c s ++ S') := h3
    have hgp : (jGx ch T [s0]).getD p 0 = s := by
      have e : (jGx ch T [s0])[p]? = some s := by
        have := congrArg (fun l => l[0]?) h3'
        simpa using this
      rw [List.getD_eq_getElem?_getD, e]; rfl
    have hlen := hch c s hv
    refine ⟨s, S', rfl, h2.1, hgp, fun g g1 g2 g3 g4 => ⟨fun q hq => ?_, ?_, ?_, ?_⟩⟩
    · by_cases e : q = p
      · rw [e, g1 p (Nat.le_refl _), h2.1, hgp]
      · rw [g1 q (by omega)]; exact h1 q (by omega)
    · have har := jAr_cases c
      have hS' := h2.2
      by_cases a0 : jAr c = 0
      · rw [a0] at hlen
        rw [List.length_eq_zero_iff.mp hlen, List.nil_append, ← f0 a0]
        exact hS'.keep g4
      · by_cases a1 : jAr c = 1
        · rw [a1] at hlen
          obtain ⟨x, hx⟩ := List.length_eq_one_iff.mp hlen
          have e1 := g2 (by omega)
          rw [hx] at e1 ⊢
          refine ⟨e1, ?_⟩
          rw [← (f1 a1).2]
          exact hS'.keep g4
        · have a2 : jAr c = 2 := by omega
          rw [a2] at hlen
          have e1 := g2 (by omega)
          have e2 := g3 a2
          match hx : ch c s, hlen with
          | [x, y], _ =>
            rw [hx] at e1 e2
            refine ⟨e1, e2, ?_⟩
            rw [← (f2 a2).2.2.2]
            exact hS'.keep g4
    · rw [← List.drop_drop, h3', hL]
      rfl
    · rw [hL, List.length_append, hlen, Nat.add_comm]
      exact h5
/-- the letters with their numbers -/
def jZl : List Int → List Int → List (Int × Int)
  | c :: L, g :: G => if 65 ≤ c ∧ c ≤ 72 then (c, g) :: jZl L G else jZl L G
  | _, _ => []
theorem jZl_map : ∀ (L G A B : List Int), A.length = B.length → L.length = G.length → (jMs L A.length).map (fun p => ((A ++ L).getD p 0, (B ++ G).getD p 0)) = jZl L G
  | [], [], A, B, _, _ => rfl
  | [], _ :: _, A, B, _, h => by cases h
  | _ :: _, [], A, B, _, h => by cases h
  | c :: L, g :: G, A, B, hab, h => by
    have ih := jZl_map L G (A ++ [c]) (B ++ [g]) (by simp [hab]) (by simpa using h)
    rw [List.append_assoc, List.append_assoc, List.length_append] at ih
    have ih2 : (jMs L (A.length + 1)).map (fun p => ((A ++ c :: L).getD p 0, (B ++ g :: G).getD p 0)) = jZl L G := ih
    have h0 : (A ++ c :: L).getD A.length 0 = c := by rw [List.getD_eq_getElem?_getD, List.getElem?_append_right (Nat.le_refl _), Nat.sub_self]; rfl
    have h1 : (B ++ g :: G).getD A.length 0 = g := by rw [hab, List.getD_eq_getElem?_getD, List.getElem?_append_right (Nat.le_refl _), Nat.sub_self]; rfl
    simp only [jMs, jZl]
    by_cases q : 65 ≤ c ∧ c ≤ 72
    · rw [if_pos q, if_pos q, List.map_cons, ih2, h0, h1]
    · rw [if_neg q, if_neg q, ih2]
theorem jZl_ms {T G : List Int} (h : G.length = T.length) : (jMs T 0).map (fun p => (T.getD p 0, G.getD p 0)) = jZl T G := jZl_map T G [] [] rfl h.symm
theorem jZl_len {T G : List Int} (h : G.length = T.length) : (jZl T G).length = (jMs T 0).length := by rw [← jZl_ms h, List.length_map]
theorem jZl_at {T G : List Int} (h : G.length = T.length) {j : Nat} (hj : j < (jMs T 0).length) : (jZl T G)[j]? = some (T.getD ((jMs T 0).getD j 0) 0, G.getD ((jMs T 0).getD j 0) 0) := by
  rw [← jZl_ms h, List.getElem?_map, List.getElem?_eq_getElem hj, List.getD_eq_getElem?_getD (l := jMs T 0), List.getElem?_eq_getElem hj]
  rfl
theorem take_some {α : Type} {L : List α} {j : Nat} {x : α} (h : L[j]? = some x) : L.take (j + 1) = L.take j ++ [x] := by
  rw [List.take_succ, h]; rfl
theorem jFd_app (a : Nat) : ∀ (l m : List (Int × Int)) (f : Nat → Int), jFd a (l ++ m) f = jFd a m (jFd a l f)
  | [], m, f => rfl
  | p :: l, m, f => jFd_app a l m _
/-- shifts -/
def chS (c s : Int) : List Int := if (48 ≤ c ∧ c ≤ 57) ∨ (65 ≤ c ∧ c ≤ 72) then [] else if c = 43 ∨ c = 42 ∨ c = 122 then [s, s] else [if c = 116 then s + 1 else s - 1]
theorem chS_len (c s : Int) (_ : jVc c) : (chS c s).length = jAr c := by
  have h := jAr_cases c
  unfold chS
  by_cases h1 : (48 ≤ c ∧ c ≤ 57) ∨ (65 ≤ c ∧ c ≤ 72)
  · rw [if_pos h1, show jAr c = 0 by omega]; rfl
  · rw [if_neg h1]
    by_cases h2 : c = 43 ∨ c = 42 ∨ c = 122
    · rw [if_pos h2, show jAr c = 2 by omega]; rfl
    · rw [if_neg h2, show jAr c = 1 by omega]; rfl
theorem jMn_zl : ∀ (L S : List Int), jOk S.length L → (∀ c ∈ L, c ≠ 122 ∧ c ≠ 101 ∧ c ≠ 111) → jMn L S = jZl L (jGx chS L S)
  | [], S, _, _ => by cases S <;> rfl
  | c :: L, [], h, _ => h.elim
  | c :: L, s :: S, h, hp => by
    obtain ⟨hv, h2⟩ : jVc c ∧ jOk (S.length + jAr c) L := h
    have hc := hp c List.mem_cons_self
    have ih := jMn_zl L (chS c s ++ S) (by rw [List.length_append, chS_len c s hv, Nat.add_comm]; exact h2) (fun x hx => hp x (List.mem_cons_of_mem _ hx))
    have har := jAr_cases c
    unfold jVc at hv
    show jMn (c :: L) (s :: S) = if 65 ≤ c ∧ c ≤ 72 then (c, s) :: jZl L (jGx chS L (chS c s ++ S)) else jZl L (jGx chS L (chS c s ++ S))
    rw [← ih]
    unfold chS
    by_cases q1 : 65 ≤ c ∧ c ≤ 72
    · rw [if_pos q1, if_pos (Or.inr q1), jMn_let q1]; rfl
    · rw [if_neg q1]
      by_cases q2 : 48 ≤ c ∧ c ≤ 57
      · rw [if_pos (Or.inl q2), jMn_dig q2]; rfl
      · rw [if_neg (by omega)]
        by_cases q3 : c = 43 ∨ c = 42
        · rw [if_pos (by omega), jMn_pair q3]; rfl
        · rw [if_neg (by omega)]
          by_cases q4 : c = 116
          · rw [if_pos q4, jMn_t q4]; rfl
          · rw [if_neg q4, jMn_front (by omega)]; rfl
/-! Cycles -/
def yρ (y : Nat) : Nat → Option Nat := sj_ru (sj_ru (sj_ru (fun _ => none) 0 (some (y + 1))) 1 (some (y + 2))) 2 (some (y + 3))
theorem yR_0 (y : Nat) : yρ y 0 = some (y + 1) := rfl
theorem yR_1 (y : Nat) : yρ y 1 = some (y + 2) := rfl
theorem yR_2 (y : Nat) : yρ y 2 = some (y + 3) := rfl
def ySh (σ : sjS) (y : Nat) : Prop := σ.2 y = some (0, 0, yρ y) ∧ σ.2 (y + 1) = some (10, 120, fun _ => none) ∧ σ.2 (y + 2) = some (10, 64, fun _ => none) ∧ σ.2 (y + 3) = some (10, 2048, fun _ => none)
/-- a term and the rows of another object are apart -/
theorem tm.off {σ : sjS} {I : sjI} {t : Nat} {T : List Int} (h : tm σ I t T) {q n : Nat} (h0 : ∃ κ x, σ.2 q = some (κ, x) ∧ κ < 10 ∧ κ ≠ 4) (hr : ∀ j, 1 ≤ j → j ≤ n → ∃ κ x, σ.2 (q + j) = some (κ, x) ∧ 10 ≤ κ) : t + 3 < q ∨ q + n < t := by
  obtain ⟨s0, s1, s2, s3⟩ := h.1
  obtain ⟨κ, x, h1, h2, h3⟩ := h0
  by_cases e : t + 3 < q ∨ q + n < t
  · exact e
  · exfalso
    by_cases c : t ≤ q
    · rcases (show q = t ∨ q = t + 1 ∨ q = t + 2 ∨ q = t + 3 by omega) with rfl | rfl | rfl | rfl
      · rw [s0] at h1; cases h1; exact h3 rfl
      · rw [s1] at h1; cases h1; omega
      · rw [s2] at h1; cases h1; omega
      · rw [s3] at h1; cases h1; omega
    · obtain ⟨κ', x', h4, h5⟩ := hr (t - q) (by omega) (by omega)
      rw [show q + (t - q) = t by omega, s0] at h4
      cases h4
      omega
theorem tm.offY {σ : sjS} {I : sjI} {t y : Nat} {T : List Int} (h : tm σ I t T) (hS : ySh σ y) : t + 3 < y ∨ y + 3 < t := by
  refine h.off (n := 3) ⟨_, _, hS.1, by decide, by decide⟩ (fun j h1 h2 => ?_)
  rcases (show j = 1 ∨ j = 2 ∨ j = 3 by omega) with rfl | rfl | rfl
  · exact ⟨_, _, hS.2.1, by decide⟩
  · exact ⟨_, _, hS.2.2.1, by decide⟩
  · exact ⟨_, _, hS.2.2.2, by decide⟩
section CYCLES
variable {l : Launch} {G : sjG} {σ : sjS} {I : sjI}
theorem cx1_init {y : Nat} (hy : σ.2 y = some (0, 0, fun _ => none)) (hy1 : σ.1 = y + 1) : sj_Con l yX1_init mX1_init G σ I [.ref y] (fun v σ' I' => v = none ∧ σ'.1 = y + 4 ∧ (∀ q, q < y → σ'.2 q = σ.2 q ∧ I' q = I q) ∧ ySh σ' y) := by
  refine sj_con_of (L0 := [some (.ref y)]) (by decide) rfl rfl rfl (Nat.le_of_ble_eq_true rfl) rfl (fun Γ => ?_)
  obtain ⟨s1, f⟩ := σ
  simp only at hy hy1
  subst hy1
  refine sj_ald0 dX1_init_0 ?_
  refine sj_oinit km_X1_3 wo_init.1 wo_init.2 (by decide) (by decide) dX1_init_1 ?_
  refine sj_ald0 dX1_init_4 ?_
  refine sj_bipush dX1_init_5 (by decide) ?_
  refine sj_newI wd_102 dX1_init_7 (by decide) (Nat.le_of_ble_eq_true rfl) (Nat.le_of_ble_eq_true rfl) ?_
  refine sj_putRF fl_X1_9 (by rw [sj_nw_ne (by show y ≠ y + 1; omega)]; exact hy) rfl rfl rfl rfl (fun q h => by cases h; rfl) dX1_init_9 ?_
  refine sj_ald0 dX1_init_12 ?_
  refine sj_bipush dX1_init_13 (by decide) ?_
  refine sj_newI wd_102 dX1_init_15 (by decide) (Nat.le_of_ble_eq_true rfl) (Nat.le_of_ble_eq_true rfl) ?_
  refine sj_putRF fl_X1_15 (by rw [sj_nw_ne (by show y ≠ y + 1 + 1; omega)]; exact sj_us_self _ _ _) rfl rfl rfl rfl (fun q h => by cases h; rfl) dX1_init_17 ?_
  refine sj_ald0 dX1_init_20 ?_
  refine sj_sipush dX1_init_21 (by decide) ?_
  refine sj_newI wd_102 dX1_init_24 (by decide) (Nat.le_of_ble_eq_true rfl) (Nat.le_of_ble_eq_true rfl) ?_
  refine sj_putRF fl_X1_18 (by rw [sj_nw_ne (by show y ≠ y + 1 + 1 + 1; omega)]; exact sj_us_self _ _ _) rfl rfl rfl rfl (fun q h => by cases h; rfl) dX1_init_26 ?_
  exact sj_vret dX1_init_29 rfl (Nat.le_of_ble_eq_true rfl) (Nat.le_of_ble_eq_true rfl) ⟨rfl, rfl, fun q hq => ⟨by simp only [sj_us, sj_nw]; rw [if_neg (by omega), if_neg (by omega), if_neg (by omega), if_neg (by omega), if_neg (by omega), if_neg (by omega)], by rw [sj_ur_ne (by show q ≠ y + 3; omega), sj_ur_ne (by show q ≠ y + 2; omega), sj_ur_ne (by show q ≠ y + 1; omega)]⟩, by simp [sj_nw, sj_us]; rfl, by simp [sj_nw, sj_us], by simp [sj_nw, sj_us], by simp [sj_nw, sj_us]⟩
theorem cx1_findShifts {y t : Nat} {T : List Int} (hS : ySh σ y) (h : tm σ I t T) : sj_Con l yX1_findShifts mX1_findShifts G σ I [.ref y, .ref t] (fun v σ' I' => v = none ∧ σ = σ' ∧ (∀ q, q ≠ y + 1 → I' q = I q) ∧ ∀ p, p < T.length → I' (y + 1) p = (jGx chS T [0]).getD p 0) := by
  obtain ⟨s0, s1, s2, s3⟩ := id hS
  obtain ⟨t0, t1, t2, t3⟩ := h.1
  have hok := h.2.2.2.2.2.1
  have hn := h.2.2.2.2.2.2
  have hoff := h.offY hS
  refine sj_con_of (L0 := [some (.ref y), some (.ref t), none, none]) (by decide) rfl rfl rfl (Nat.le_of_ble_eq_true rfl) rfl (fun Γ => ?_)
  have lp : ∀ (d p : Nat) (J : sjI) (S : List Int), p + d = T.length → (∀ q, q ≠ y + 1 → J q = I q) → gInv chS T 0 (J (y + 1)) p S → sj_V l Γ mX1_findShifts G (fun v σ' I' => v = none ∧ σ = σ' ∧ (∀ q, q ≠ y + 1 → I' q = I q) ∧ ∀ p, p < T.length → I' (y + 1) p = (jGx chS T [0]).getD p 0) σ J 0 0 9 [some (.ref y), some (.ref t), some (.int (zI p)), none] [] := by
    intro d
    induction d with
    | zero =>
      intro p J S hp hJ hG
      have hJt : J t 0 = T.length := by rw [hJ t (by omega)]; exact h.2.1
      refine sj_ild2 dX1_findShifts_9 ?_
      refine sj_ald1 dX1_findShifts_10 ?_
      refine sj_getI fl_X1_61 (by assumption) rfl dX1_findShifts_11 ?_
      rw [hJt]
      refine sj_icmp_ge 109 dX1_findShifts_14 (by decide) (by omega) (by omega) (fun c_14 => ?_) (fun c_14 => ?_)
      rotate_left
      · (exfalso; omega)
      exact sj_vret dX1_findShifts_109 rfl (Nat.le_of_ble_eq_true rfl) (Nat.le_of_ble_eq_true rfl) ⟨rfl, rfl, hJ, fun q hq => hG.1 q (by omega)⟩
    | succ d ih =>
      intro p J S hp hJ hG
      have hJt : J t 0 = T.length := by rw [hJ t (by omega)]; exact h.2.1
      obtain ⟨c, L, hd, hc, hd2, hcm⟩ := dropEx (T := T) (k := p) (by omega)
      have hv := jOk_vc T 1 hok c hcm
      have rc := jVc_rng hv
      have hJc : J (t + 1) p = c := by rw [hJ (t + 1) (by omega), h.cd (by omega), hc]
      have har := jAr_cases c
      obtain ⟨f0, f1, f2, f3, f4⟩ := jEe_facts hok hd
      obtain ⟨s, S', rfl, hs1, hs2, hst⟩ := hG.step chS_len hok hd
      have b1 := jbs ((48 ≤ c ∧ c ≤ 57) ∨ (65 ≤ c ∧ c ≤ 72))
      have b2 := jbs (c = 43 ∨ c = 42 ∨ c = 122)
      rcases (show (jAr c = 0 ∧ ((48 ≤ c ∧ c ≤ 57) ∨ (65 ≤ c ∧ c ≤ 72))) ∨ (jAr c = 1 ∧ ¬ (c = 43 ∨ c = 42 ∨ c = 122) ∧ ¬ ((48 ≤ c ∧ c ≤ 57) ∨ (65 ≤ c ∧ c ≤ 72))) ∨ (jAr c = 2 ∧ (c = 43 ∨ c = 42 ∨ c = 122) ∧ ¬ ((48 ≤ c ∧ c ≤ 57) ∨ (65 ≤ c ∧ c ≤ 72))) by omega) with ⟨a0, hl⟩ | ⟨a1, hp1, hl⟩ | ⟨a2, hp1, hl⟩
      · rw [if_pos hl] at b1
        clear har b2 f1 f2
        refine sj_ild2 dX1_findShifts_9 ?_
        refine sj_ald1 dX1_findShifts_10 ?_
        refine sj_getI fl_X1_61 (by assumption) rfl dX1_findShifts_11 ?_
        rw [hJt]
        refine sj_icmp_ge 109 dX1_findShifts_14 (by decide) (by omega) (by omega) (fun c_14 => ?_) (fun c_14 => ?_)
        · (exfalso; omega)
        refine sj_ald1 dX1_findShifts_17 ?_
        refine sj_getR fl_X1_65 (by assumption) rfl (tR_1 _) dX1_findShifts_18 ?_
        refine sj_ild2 dX1_findShifts_21 ?_
        refine sj_ialdJ (p) (by assumption) (by omega) (by omega) (by omega) dX1_findShifts_22 ?_
        rw [hJc]
        refine sj_ist3 (by decide) rfl dX1_findShifts_23 ?_
        refine sj_ild3 dX1_findShifts_24 ?_
        refine sj_callS (cx0_isLeaf (by omega)) kc_X1_68 rfl rfl (Nat.le_of_ble_eq_true rfl) dX1_findShifts_25 (fun r_25 σ_25 I_25 hp_25 => ?_)
        obtain ⟨rfl, rfl, rfl⟩ := hp_25
        rw [if_pos hl]
        refine sj_if_eq 34 dX1_findShifts_28 (by decide) (by omega) (fun c_28 => ?_) (fun c_28 => ?_)
        · (exfalso; omega)
        refine sj_goto 103 dX1_findShifts_31 (by decide) ?_
        refine sj_inc2 (by decide) rfl dX1_findShifts_103 ?_
        refine sj_goto 9 dX1_findShifts_106 (by decide) ?_
        refine sj_fg3 ?_
        exact ih (p + 1) _ _ (by omega) hJ (hst _ (fun j _ => rfl) (fun q => absurd q (by omega)) (fun q => absurd q (by omega)) (fun j _ => rfl))
      · have g1 := f1 a1
        have hee := (jEe_facts (k := p + 1) hok (L := T.drop (p + 2)) (c := T.getD (p + 1) 0) (by obtain ⟨c', L', q1, q2, q3, _⟩ := dropEx (T := T) (k := p + 1) g1.1; rw [q1, q2, q3])).2.2.2.1
        clear har b1 b2 f0 f1 f2
        have go : ∀ x, x = (if c = 116 then s + 1 else s - 1) → sj_V l Γ mX1_findShifts G (fun v σ' I' => v = none ∧ σ = σ' ∧ (∀ q, q ≠ y + 1 → I' q = I q) ∧ ∀ p, p < T.length → I' (y + 1) p = (jGx chS T [0]).getD p 0) σ (sj_up J (y + 1) (p + 1) x) 0 0 9 [some (.ref y), some (.ref t), some (.int (zI ((p : Int) + 1))), none] [] := fun x hx => by
          have hc1 : chS c s = [x] := by unfold chS; rw [if_neg hl, if_neg hp1, hx]
          exact ih (p + 1) _ _ (by omega) (fun q hq => by rw [sj_up_row hq]; exact hJ q hq) (hst _ (fun j hj => by rw [sj_up_ne (by omega)]) (fun _ => by rw [hc1, sj_up_self]; rfl) (fun q => absurd q (by omega)) (fun j hj => by rw [sj_up_ne (by omega)]))
        refine sj_ild2 dX1_findShifts_9 ?_
        refine sj_ald1 dX1_findShifts_10 ?_
        refine sj_getI fl_X1_61 (by assumption) rfl dX1_findShifts_11 ?_
        rw [hJt]
        refine sj_icmp_ge 109 dX1_findShifts_14 (by decide) (by omega) (by omega) (fun c_14 => ?_) (fun c_14 => ?_)
        · (exfalso; omega)
        refine sj_ald1 dX1_findShifts_17 ?_
        refine sj_getR fl_X1_65 (by assumption) rfl (tR_1 _) dX1_findShifts_18 ?_
        refine sj_ild2 dX1_findShifts_21 ?_
        refine sj_ialdJ (p) (by assumption) (by omega) (by omega) (by omega) dX1_findShifts_22 ?_
        rw [hJc]
        refine sj_ist3 (by decide) rfl dX1_findShifts_23 ?_
        refine sj_ild3 dX1_findShifts_24 ?_
        refine sj_callS (cx0_isLeaf (by omega)) kc_X1_68 rfl rfl (Nat.le_of_ble_eq_true rfl) dX1_findShifts_25 (fun r_25 σ_25 I_25 hp_25 => ?_)
        obtain ⟨rfl, rfl, rfl⟩ := hp_25
        rw [if_neg hl]
        refine sj_if_eq 34 dX1_findShifts_28 (by decide) (by omega) (fun c_28 => ?_) (fun c_28 => ?_)
        rotate_left
        · (exfalso; omega)
        refine sj_ild3 dX1_findShifts_34 ?_
        refine sj_callS (cx0_isPair (by omega)) kc_X1_74 rfl rfl (Nat.le_of_ble_eq_true rfl) dX1_findShifts_35 (fun r_35 σ_35 I_35 hp_35 => ?_)
        obtain ⟨rfl, rfl, rfl⟩ := hp_35
        rw [if_neg hp1]
        refine sj_if_eq 77 dX1_findShifts_38 (by decide) (by omega) (fun c_38 => ?_) (fun c_38 => ?_)
        rotate_left
        · (exfalso; omega)
        refine sj_ald0 dX1_findShifts_77 ?_
        refine sj_getR fl_X1_9 (by assumption) rfl (yR_0 _) dX1_findShifts_78 ?_
        refine sj_ild2 dX1_findShifts_81 ?_
        refine sj_iconst dX1_findShifts_82 ?_
        refine sj_iadd dX1_findShifts_83 ?_
        refine sj_ald0 dX1_findShifts_84 ?_
        refine sj_getR fl_X1_9 (by assumption) rfl (yR_0 _) dX1_findShifts_85 ?_
        refine sj_ild2 dX1_findShifts_88 ?_
        refine sj_ialdJ (p) (by assumption) (by omega) (by omega) (by omega) dX1_findShifts_89 ?_
        rw [hs1]
        refine sj_ild3 dX1_findShifts_90 ?_
        refine sj_bipush dX1_findShifts_91 (by decide) ?_
        refine sj_icmp_ne 100 dX1_findShifts_93 (by decide) (by omega) (by omega) (fun c_93 => ?_) (fun c_93 => ?_)
        · refine sj_iconst dX1_findShifts_100 ?_
          refine sj_iadd dX1_findShifts_101 ?_
          refine sj_iastJ (p + 1) (by assumption) (by omega) (by omega) (by omega) dX1_findShifts_102 ?_
          refine sj_inc2 (by decide) rfl dX1_findShifts_103 ?_
          refine sj_goto 9 dX1_findShifts_106 (by decide) ?_
          refine sj_fg3 (go _ ?_)
          first
           | (rw [if_pos (by omega)]; done)
           | (rw [if_neg (by omega)]; rfl)
        · refine sj_iconst dX1_findShifts_96 ?_
          refine sj_goto 101 dX1_findShifts_97 (by decide) ?_
          refine sj_iadd dX1_findShifts_101 ?_
          refine sj_iastJ (p + 1) (by assumption) (by omega) (by omega) (by omega) dX1_findShifts_102 ?_
          refine sj_inc2 (by decide) rfl dX1_findShifts_103 ?_
          refine sj_goto 9 dX1_findShifts_106 (by decide) ?_
          refine sj_fg3 (go _ ?_)
          first
           | (rw [if_pos (by omega)]; done)
           | (rw [if_neg (by omega)]; rfl)
      · have g2 := f2 a2
        have hJe : J (t + 2) (p + 1) = (jEe T (p + 1) : Nat) := by rw [hJ (t + 2) (by omega)]; exact h.2.2.2.1 (p + 1) g2.1
        have hc1 : chS c s = [s, s] := by unfold chS; rw [if_neg hl, if_pos hp1]
        have hee := (jEe_facts (k := jEe T (p + 1)) hok (L := T.drop (jEe T (p + 1) + 1)) (c := T.getD (jEe T (p + 1)) 0) (by obtain ⟨c', L', q1, q2, q3, _⟩ := dropEx (T := T) (k := jEe T (p + 1)) g2.2.1; rw [q1, q2, q3])).2.2.2.1
        clear har b1 b2 f0 f1 f2
        refine sj_ild2 dX1_findShifts_9 ?_
        refine sj_ald1 dX1_findShifts_10 ?_
        refine sj_getI fl_X1_61 (by assumption) rfl dX1_findShifts_11 ?_
        rw [hJt]
        refine sj_icmp_ge 109 dX1_findShifts_14 (by decide) (by omega) (by omega) (fun c_14 => ?_) (fun c_14 => ?_)
        · (exfalso; omega)
        refine sj_ald1 dX1_findShifts_17 ?_
        refine sj_getR fl_X1_65 (by assumption) rfl (tR_1 _) dX1_findShifts_18 ?_
        refine sj_ild2 dX1_findShifts_21 ?_
        refine sj_ialdJ (p) (by assumption) (by omega) (by omega) (by omega) dX1_findShifts_22 ?_
        rw [hJc]
        refine sj_ist3 (by decide) rfl dX1_findShifts_23 ?_
        refine sj_ild3 dX1_findShifts_24 ?_
        refine sj_callS (cx0_isLeaf (by omega)) kc_X1_68 rfl rfl (Nat.le_of_ble_eq_true rfl) dX1_findShifts_25 (fun r_25 σ_25 I_25 hp_25 => ?_)
        obtain ⟨rfl, rfl, rfl⟩ := hp_25
        rw [if_neg hl]
        refine sj_if_eq 34 dX1_findShifts_28 (by decide) (by omega) (fun c_28 => ?_) (fun c_28 => ?_)
        rotate_left
        · (exfalso; omega)
        refine sj_ild3 dX1_findShifts_34 ?_
        refine sj_callS (cx0_isPair (by omega)) kc_X1_74 rfl rfl (Nat.le_of_ble_eq_true rfl) dX1_findShifts_35 (fun r_35 σ_35 I_35 hp_35 => ?_)
        obtain ⟨rfl, rfl, rfl⟩ := hp_35
        rw [if_pos hp1]
        refine sj_if_eq 77 dX1_findShifts_38 (by decide) (by omega) (fun c_38 => ?_) (fun c_38 => ?_)
        · (exfalso; omega)
        refine sj_ald0 dX1_findShifts_41 ?_
        refine sj_getR fl_X1_9 (by assumption) rfl (yR_0 _) dX1_findShifts_42 ?_
        refine sj_ild2 dX1_findShifts_45 ?_
        refine sj_iconst dX1_findShifts_46 ?_
        refine sj_iadd dX1_findShifts_47 ?_
        refine sj_ald0 dX1_findShifts_48 ?_
        refine sj_getR fl_X1_9 (by assumption) rfl (yR_0 _) dX1_findShifts_49 ?_
        refine sj_ild2 dX1_findShifts_52 ?_
        refine sj_ialdJ (p) (by assumption) (by omega) (by omega) (by omega) dX1_findShifts_53 ?_
        rw [hs1]
        refine sj_iastJ (p + 1) (by assumption) (by omega) (by omega) (by omega) dX1_findShifts_54 ?_
        refine sj_ald0 dX1_findShifts_55 ?_
        refine sj_getR fl_X1_9 (by assumption) rfl (yR_0 _) dX1_findShifts_56 ?_
        refine sj_ald1 dX1_findShifts_59 ?_
        refine sj_getR fl_X1_77 (by assumption) rfl (tR_2 _) dX1_findShifts_60 ?_
        refine sj_ild2 dX1_findShifts_63 ?_
        refine sj_iconst dX1_findShifts_64 ?_
        refine sj_iadd dX1_findShifts_65 ?_
        refine sj_ialdJ (p + 1) (by assumption) (by omega) (by omega) (by omega) dX1_findShifts_66 ?_
        rw [sj_up_row (by omega), hJe]
        refine sj_ald0 dX1_findShifts_67 ?_
        refine sj_getR fl_X1_9 (by assumption) rfl (yR_0 _) dX1_findShifts_68 ?_
        refine sj_ild2 dX1_findShifts_71 ?_
        refine sj_ialdJ (p) (by assumption) (by omega) (by omega) (by omega) dX1_findShifts_72 ?_
        rw [sj_up_ne (by omega), hs1]
        refine sj_iastJ (jEe T (p + 1)) (by assumption) (by omega) (by omega) (by omega) dX1_findShifts_73 ?_
        refine sj_goto 103 dX1_findShifts_74 (by decide) ?_
        refine sj_inc2 (by decide) rfl dX1_findShifts_103 ?_
        refine sj_goto 9 dX1_findShifts_106 (by decide) ?_
        refine sj_fg3 ?_
        exact ih (p + 1) _ _ (by omega) (fun q hq => by rw [sj_up_row hq, sj_up_row hq]; exact hJ q hq) (hst _ (fun j hj => by rw [sj_up_ne (by omega), sj_up_ne (by omega)]) (fun _ => by rw [hc1, sj_up_ne (by omega), sj_up_self]; rfl) (fun _ => by rw [hc1, sj_up_self]; rfl) (fun j hj => by rw [sj_up_ne (by omega), sj_up_ne (by omega)]))
  refine sj_ald0 dX1_findShifts_0 ?_
  refine sj_getR fl_X1_9 (by assumption) rfl (yR_0 _) dX1_findShifts_1 ?_
  refine sj_iconst dX1_findShifts_4 ?_
  refine sj_iconst dX1_findShifts_5 ?_
  refine sj_iastJ (0) s1 (by have := jOk_len T 1 hok; omega) (by omega) (by omega) dX1_findShifts_6 ?_
  refine sj_iconst dX1_findShifts_7 ?_
  refine sj_ist2 (by decide) rfl dX1_findShifts_8 ?_
  exact lp T.length 0 _ _ (by omega) (fun q hq => sj_up_row hq) (gInv.init hok (sj_up_self _ _ _ _))
end CYCLES
