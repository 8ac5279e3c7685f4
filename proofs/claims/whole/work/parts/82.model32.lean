/-! the greatest cycle: sums of ways over sets of streams -/
def jSo (F : Nat → Int) (z : Int) (b c : Nat) : Option Int := if F (8 * b + c) = z then none else some (F (8 * b + c))
def jOx (st : Nat → Nat → Option Int) (set b : Nat) (sum : Int) (c : Nat) (B : Nat → Int) : Nat → Int := match st b c with
  | none => B
  | some s => if set / 2 ^ c % 2 = 0 then jSu B (8 * (set ||| 2 ^ c) + c) (sum + s) else B
def jOxs (st : Nat → Nat → Option Int) (set b : Nat) (sum : Int) : Nat → (Nat → Int) → (Nat → Int)
  | 0, B => B
  | n + 1, B => jOx st set b sum n (jOxs st set b sum n B)
def jB1 (st : Nat → Nat → Option Int) (a set b : Nat) (P : (Nat → Int) × Int) : (Nat → Int) × Int := if P.1 (8 * set + b) = -1000000 then P else (jOxs st set b (P.1 (8 * set + b)) 8 P.1, match st b a with
  | none => P.2
  | some s => if P.2 < P.1 (8 * set + b) + s then P.1 (8 * set + b) + s else P.2)
def jB2 (st : Nat → Nat → Option Int) (a set : Nat) : Nat → (Nat → Int) × Int → (Nat → Int) × Int
  | 0, P => P
  | n + 1, P => jB1 st a set n (jB2 st a set n P)
def jB3 (st : Nat → Nat → Option Int) (a : Nat) : Nat → (Nat → Int) × Int → (Nat → Int) × Int
  | 0, P => P
  | n + 1, P => jB2 st a n 8 (jB3 st a n P)
def jB0 (a : Nat) : Nat → Int := fun j => if j = 8 * 2 ^ a + a then 0 else -1000000
def jCn (st : Nat → Nat → Option Int) (a n : Nat) : Int := (jB3 st a n (jB0 a, -1000000)).2
def jCy (st : Nat → Nat → Option Int) (a : Nat) : Int := jCn st a 256
/-- the sums are small -/
def jBd (B : Nat → Int) : Prop := ∀ set c : Nat, set < 256 → c < 8 → B (8 * set + c) = -1000000 ∨ (-(120 * (set : Int)) ≤ B (8 * set + c) ∧ B (8 * set + c) ≤ 120 * (set : Int))
def jSr (st : Nat → Nat → Option Int) : Prop := ∀ b c s, b < 8 → c < 8 → st b c = some s → -120 ≤ s ∧ s ≤ 120
theorem or_add8 : ∀ set : Nat, set < 256 → ∀ c : Nat, c < 8 → set / 2 ^ c % 2 = 0 → set ||| 2 ^ c = set + 2 ^ c ∧ 1 ≤ 2 ^ c := by decide +kernel
theorem jSu_bd {B : Nat → Int} {set c : Nat} {s : Int} (h : jBd B) (hs : -(120 * (set : Int)) ≤ s ∧ s ≤ 120 * (set : Int)) (hc : c < 8) : jBd (jSu B (8 * set + c) s) := by
  intro set' c' h1 h2
  by_cases e : 8 * set' + c' = 8 * set + c
  · have e1 : set' = set := by omega
    have e2 : c' = c := by omega
    subst e1 e2
    by_cases e3 : B (8 * set' + c') < s
    · rw [jSu_lt e3]; exact Or.inr hs
    · rw [jSu_ge e3]; exact h set' c' h1 h2
  · rw [jSu_ne e]; exact h set' c' h1 h2
theorem jOx_bd {st : Nat → Nat → Option Int} {set b c : Nat} {sum : Int} {B : Nat → Int} (hst : jSr st) (h : jBd B) (hset : set < 256) (hb : b < 8) (hc : c < 8) (hs : -(120 * (set : Int)) ≤ sum ∧ sum ≤ 120 * (set : Int)) : jBd (jOx st set b sum c B) := by
  unfold jOx
  cases e : st b c with
  | none => exact h
  | some s =>
    have := hst b c s hb hc e
    simp only
    split
    · rename_i h0
      obtain ⟨o1, o2⟩ := or_add8 set hset c hc h0
      have h3 : set ||| 2 ^ c ≥ set + 1 := by omega
      exact jSu_bd h (by omega) hc
    · exact h
theorem jOxs_bd {st : Nat → Nat → Option Int} {set b : Nat} {sum : Int} {B : Nat → Int} (hst : jSr st) (h : jBd B) (hset : set < 256) (hb : b < 8) (hs : -(120 * (set : Int)) ≤ sum ∧ sum ≤ 120 * (set : Int)) : ∀ n, n ≤ 8 → jBd (jOxs st set b sum n B)
  | 0, _ => h
  | n + 1, hn => jOx_bd hst (jOxs_bd hst h hset hb hs n (by omega)) hset hb (by omega) hs
def jPd2 (P : (Nat → Int) × Int) : Prop := jBd P.1 ∧ (P.2 = -1000000 ∨ (-31000 ≤ P.2 ∧ P.2 ≤ 31000))
theorem jB1_bd {st : Nat → Nat → Option Int} {a set b : Nat} {P : (Nat → Int) × Int} (hst : jSr st) (h : jPd2 P) (ha : a < 8) (hset : set < 256) (hb : b < 8) : jPd2 (jB1 st a set b P) := by
  unfold jB1
  have h1 := h.1 set b hset hb
  have h2 := h.2
  split
  · exact h
  · refine ⟨jOxs_bd hst h.1 hset hb (by omega) 8 (Nat.le_refl _), ?_⟩
    cases e : st b a with
    | none => exact h2
    | some s =>
      have := hst b a s hb ha e
      simp only
      split <;> omega
theorem jB2_bd {st : Nat → Nat → Option Int} {a set : Nat} {P : (Nat → Int) × Int} (hst : jSr st) (h : jPd2 P) (ha : a < 8) (hset : set < 256) : ∀ n, n ≤ 8 → jPd2 (jB2 st a set n P)
  | 0, _ => h
  | n + 1, hn => jB1_bd hst (jB2_bd hst h ha hset n (by omega)) ha hset (by omega)
theorem jB3_bd {st : Nat → Nat → Option Int} {a : Nat} {P : (Nat → Int) × Int} (hst : jSr st) (h : jPd2 P) (ha : a < 8) : ∀ n, n ≤ 256 → jPd2 (jB3 st a n P)
  | 0, _ => h
  | n + 1, hn => jB2_bd hst (jB3_bd hst h ha n (by omega)) ha (by omega) 8 (Nat.le_refl _)
theorem jB0_bd {a : Nat} (ha : a < 8) : jPd2 (jB0 a, -1000000) := by
  refine ⟨fun set c h1 h2 => ?_, Or.inl rfl⟩
  show jB0 a (8 * set + c) = -1000000 ∨ (-(120 * (set : Int)) ≤ jB0 a (8 * set + c) ∧ jB0 a (8 * set + c) ≤ 120 * (set : Int))
  unfold jB0
  split
  · right; omega
  · left; rfl
/-- the shifts of all streams -/
def jFs (E : Nat → Option (List Int)) : Nat → (Nat → Int) → (Nat → Int)
  | 0, f => f
  | n + 1, f => jFd n (jMn ((E n).getD []) [0]) (jFs E n f)
theorem jMn_rng : ∀ (L S : List Int), (∀ s ∈ S, s + L.length ≤ 120 ∧ L.length ≤ s + 120) → ∀ p ∈ jMn L S, (65 ≤ p.1 ∧ p.1 ≤ 72) ∧ -120 ≤ p.2 ∧ p.2 ≤ 120
  | [], S, _, p, hp => by cases S <;> cases hp
  | c :: L, [], _, p, hp => by cases hp
  | c :: L, s :: S, h, p, hp => by
    have hs := h s List.mem_cons_self
    simp only [List.length_cons] at hs h
    have hS : ∀ x ∈ S, x + L.length ≤ 120 ∧ L.length ≤ x + 120 := fun x hx => by have := h x (List.mem_cons_of_mem _ hx); omega
    have hc1 : ∀ (y : Int), (y + L.length ≤ 120 ∧ L.length ≤ y + 120) → ∀ x ∈ y :: S, x + L.length ≤ 120 ∧ L.length ≤ x + 120 := fun y hy x hx => by
      rcases List.mem_cons.mp hx with rfl | hx
      · exact hy
      · exact hS x hx
    rw [jMn] at hp
    split at hp
    · rcases List.mem_cons.mp hp with rfl | hp
      · exact ⟨by assumption, by show -120 ≤ s ∧ s ≤ 120; omega⟩
      · exact jMn_rng L S hS p hp
    · split at hp
      · exact jMn_rng L S hS p hp
      · split at hp
        · exact jMn_rng L (s :: s :: S) (fun x hx => by
            rcases List.mem_cons.mp hx with rfl | hx
            · omega
            · exact hc1 s (by omega) x hx) p hp
        · split at hp
          · exact jMn_rng L _ (hc1 (s + 1) (by omega)) p hp
          · exact jMn_rng L _ (hc1 (s - 1) (by omega)) p hp
/-- the same shifts with another number for none -/
def jRel (z : Int) (f : Nat → Int) (j : Nat) : Prop := f j = z ∨ (-120 ≤ f j ∧ f j ≤ 120)
theorem jFd_rel {z : Int} (hz : z < -120) {a j : Nat} : ∀ (l : List (Int × Int)) (f : Nat → Int), (∀ p ∈ l, -120 ≤ p.2 ∧ p.2 ≤ 120) → jRel z f j → jRel z (jFd a l f) j
  | [], f, _, h => h
  | p :: l, f, hp, h => by
    refine jFd_rel hz l _ (fun x hx => hp x (List.mem_cons_of_mem _ hx)) ?_
    have := hp p List.mem_cons_self
    unfold jRel jSu at *
    split
    · right; omega
    · exact h
theorem jFd_two {z y : Int} (hz : z < -120) (hy : y < -120) {a j : Nat} : ∀ (l : List (Int × Int)) (f g : Nat → Int), (∀ p ∈ l, -120 ≤ p.2 ∧ p.2 ≤ 120) → ((f j = z ∧ g j = y) ∨ (f j = g j ∧ -120 ≤ f j)) → ((jFd a l f j = z ∧ jFd a l g j = y) ∨ (jFd a l f j = jFd a l g j ∧ -120 ≤ jFd a l f j))
  | [], f, g, _, h => h
  | p :: l, f, g, hp, h => by
    refine jFd_two hz hy l _ _ (fun x hx => hp x (List.mem_cons_of_mem _ hx)) ?_
    have hpp := hp p List.mem_cons_self
    unfold jSu
    by_cases e : j = 8 * a + (p.1 - 65).toNat
    · by_cases e1 : f j < p.2
      · rw [if_pos ⟨e, e1⟩, if_pos ⟨e, by omega⟩]; right; omega
      · rw [if_neg (fun q => e1 q.2), if_neg (fun q => e1 (by omega))]; exact h
    · rw [if_neg (fun q => e q.1), if_neg (fun q => e q.1)]; exact h
def jEl (E : Nat → Option (List Int)) : Prop := ∀ a T, E a = some T → T.length ≤ 120
theorem jEl_mn {E : Nat → Option (List Int)} (h : jEl E) (n : Nat) : ∀ p ∈ jMn ((E n).getD []) [0], (65 ≤ p.1 ∧ p.1 ≤ 72) ∧ -120 ≤ p.2 ∧ p.2 ≤ 120 := by
  refine jMn_rng _ _ (fun s hs => ?_)
  rw [List.mem_singleton.mp hs]
  cases e : E n with
  | none => simp
  | some T => have := h n T e; simp only [Option.getD_some]; omega
theorem jFs_rel {E : Nat → Option (List Int)} (h : jEl E) {z : Int} (hz : z < -120) {j : Nat} {f : Nat → Int} (hf : jRel z f j) : ∀ n, jRel z (jFs E n f) j
  | 0 => hf
  | n + 1 => jFd_rel hz _ _ (fun p hp => (jEl_mn h n p hp).2) (jFs_rel h hz hf n)
theorem jFs_two {E : Nat → Option (List Int)} (h : jEl E) {z y : Int} (hz : z < -120) (hy : y < -120) {j : Nat} {f g : Nat → Int} (hf : f j = z ∧ g j = y) : ∀ n, (jFs E n f j = z ∧ jFs E n g j = y) ∨ (jFs E n f j = jFs E n g j ∧ -120 ≤ jFs E n f j)
  | 0 => Or.inl hf
  | n + 1 => jFd_two hz hy _ _ _ (fun p hp => (jEl_mn h n p hp).2) (jFs_two h hz hy hf n)
/-- the steps between streams -/
def jSt (E : Nat → Option (List Int)) : Nat → Nat → Option Int := jSo (jFs E 8 (fun _ => -1000)) (-1000)
theorem jSt_r {E : Nat → Option (List Int)} (h : jEl E) : jSr (jSt E) := by
  intro b c s _ _ hs
  have h2 := jFs_rel h (z := -1000) (by omega) (j := 8 * b + c) (f := fun _ => -1000) (Or.inl rfl) 8
  unfold jSt jSo at hs
  unfold jRel at h2
  split at hs
  · cases hs
  · cases hs; omega
section MODEL32
variable {l : Launch} {G : sjG} {σ : sjS} {I : sjI}
theorem cm_extend {o set b : Nat} {sum : Int} {F B : Nat → Int} (hS : mSh σ o) (hset : set < 256) (hb : b < 8) (hs : -(120 * (set : Int)) ≤ sum ∧ sum ≤ 120 * (set : Int)) (hF : ∀ j, j < 64 → I (o + 15) j = F j) (hFr : ∀ j, j < 64 → F j = -1000 ∨ (-120 ≤ F j ∧ F j ≤ 120)) (hB : ∀ j, j < 2048 → I (o + 17) j = B j) (hBd : jBd B) : sj_Con l yX10_extend mX10_extend G σ I [.ref o, .int (zI set), .int (zI b), .int (zI sum)] (fun r σ' I' => r = none ∧ σ = σ' ∧ (∀ q, q ≠ o + 17 → I' q = I q) ∧ ∀ j, j < 2048 → I' (o + 17) j = jOxs (jSo F (-1000)) set b sum 8 B j) := by
  obtain ⟨h_o, h_w, h_past, h_images, h_text, h_read, h_made, h_old, h_values, h_ranks, h_operator, h_indexAt, h_second, h_first, h_needed, h_shifts, h_around, h_best, h_isNeeded, h_toSee, h_held, h_there⟩ := id hS
  refine sj_con_of (L0 := [some (.ref o), some (.int (zI set)), some (.int (zI b)), some (.int (zI sum)), none, none, none]) (by decide) rfl rfl rfl (Nat.le_of_ble_eq_true rfl) rfl (fun Γ => ?_)
  have hsr : jSr (jSo F (-1000)) := by
    intro b c s hb hc e
    unfold jSo at e
    split at e
    · cases e
    · cases e; have := hFr (8 * b + c) (by omega); omega
  have lp : ∀ (d c : Nat) (J : sjI), c + d = 8 → (∀ q, q ≠ o + 17 → J q = I q) → (∀ j, j < 2048 → J (o + 17) j = jOxs (jSo F (-1000)) set b sum c B j) → sj_V l Γ mX10_extend G (fun r σ' I' => r = none ∧ σ = σ' ∧ (∀ q, q ≠ o + 17 → I' q = I q) ∧ ∀ j, j < 2048 → I' (o + 17) j = jOxs (jSo F (-1000)) set b sum 8 B j) σ J 0 0 3 [some (.ref o), some (.int (zI set)), some (.int (zI b)), some (.int (zI sum)), some (.int (zI c)), none, none] [] := by
    intro d
    induction d with
    | zero =>
      intro c J hc hJ hJB
      have hc1 : c = 8 := by omega
      subst hc1
      refine sj_ild4 dX10_extend_3 ?_
      refine sj_bipush dX10_extend_5 (by decide) ?_
      refine sj_icmp_ge 96 dX10_extend_7 (by decide) (by omega) (by omega) (fun c_7 => ?_) (fun c_7 => ?_)
      rotate_left
      · exact absurd (by omega) c_7
      exact sj_vret dX10_extend_96 rfl (Nat.le_of_ble_eq_true rfl) (Nat.le_of_ble_eq_true rfl) ⟨rfl, rfl, hJ, hJB⟩
    | succ d ih =>
      intro c J hc hJ hJB
      have hfr := hFr (8 * b + c) (by omega)
      have hbd := jOxs_bd hsr hBd hset hb hs c (by omega)
      have hpw : 2 ^ c < 256 := Nat.pow_lt_pow_right (a := 2) (n := 8) (by decide) (by omega)
      have hq : set / 2 ^ c ≤ set := Nat.div_le_self _ _
      have hm2 : set / 2 ^ c % 2 < 2 := Nat.mod_lt _ (by decide)
      have hor := or_lt8 set hset c (by omega)
      have hbk := hbd (set ||| 2 ^ c) c hor (by omega)
      have hstep : jOxs (jSo F (-1000)) set b sum (c + 1) B = jOx (jSo F (-1000)) set b sum c (jOxs (jSo F (-1000)) set b sum c B) := rfl
      have no : F (8 * b + c) = -1000 ∨ ¬ set / 2 ^ c % 2 = 0 → jOxs (jSo F (-1000)) set b sum (c + 1) B = jOxs (jSo F (-1000)) set b sum c B := by
        intro h
        rw [hstep]
        unfold jOx jSo
        by_cases e : F (8 * b + c) = -1000
        · rw [if_pos e]
        · rw [if_neg e]
          simp only
          rw [if_neg (by omega)]
      have yes : F (8 * b + c) ≠ -1000 → set / 2 ^ c % 2 = 0 → jOxs (jSo F (-1000)) set b sum (c + 1) B = jSu (jOxs (jSo F (-1000)) set b sum c B) (8 * (set ||| 2 ^ c) + c) (sum + F (8 * b + c)) := by
        intro h h2
        rw [hstep]
        unfold jOx jSo
        rw [if_neg h]
        simp only
        rw [if_pos h2]
      have hJk := hJB (8 * (set ||| 2 ^ c) + c) (by omega)
      refine sj_ild4 dX10_extend_3 ?_
      refine sj_bipush dX10_extend_5 (by decide) ?_
      refine sj_icmp_ge 96 dX10_extend_7 (by decide) (by omega) (by omega) (fun c_7 => ?_) (fun c_7 => ?_)
      · exact absurd c_7 (by omega)
      refine sj_ald0 dX10_extend_10 ?_
      refine sj_getR fl_X10_52 (by assumption) rfl (mr_24 _) dX10_extend_11 ?_
      refine sj_bipush dX10_extend_14 (by decide) ?_
      refine sj_ild2 dX10_extend_16 ?_
      refine sj_imul dX10_extend_17 ?_
      refine sj_ild4 dX10_extend_18 ?_
      refine sj_iadd dX10_extend_20 ?_
      refine sj_ialdJ (8 * b + c) (by assumption) (by omega) (by omega) (by omega) dX10_extend_21 ?_
      rw [hJ (o + 15) (by omega), hF _ (by omega)]
      refine sj_ist5 (by decide) rfl dX10_extend_22 ?_
      refine sj_ild1 dX10_extend_24 ?_
      refine sj_ild4 dX10_extend_25 ?_
      refine sj_ishr dX10_extend_27 (zI_shr1 set (by omega) c (by omega)) ?_
      refine sj_iconst dX10_extend_28 ?_
      refine sj_iand dX10_extend_29 (zI_and1 (set / 2 ^ c) (by omega)) ?_
      refine sj_if_ne 90 dX10_extend_30 (by decide) (by omega) (fun c_30 => ?_) (fun c_30 => ?_)
      · refine sj_inc4 (by decide) rfl dX10_extend_90 ?_
        refine sj_goto 3 dX10_extend_93 (by decide) ?_
        refine sj_fg6 (sj_fg5 ?_)
        first
         | exact ih (c + 1) _ (by omega) hJ (by rw [no (by omega)]; exact hJB)
         | (have hlt : jOxs (jSo F (-1000)) set b sum c B (8 * (set ||| 2 ^ c) + c) < sum + F (8 * b + c) := by omega
            exact ih (c + 1) _ (by omega) (fun q hq => by rw [sj_up_row hq]; exact hJ q hq) (fun j hj => by
              rw [yes (by omega) (by omega)]
              by_cases e : j = 8 * (set ||| 2 ^ c) + c
              · subst e; rw [sj_up_self, jSu_lt hlt]
              · rw [sj_up_ne (by omega), jSu_ne e]; exact hJB j hj))
         | exact ih (c + 1) _ (by omega) (fun q hq => by rw [sj_up_row hq]; exact hJ q hq) (fun j hj => by
            rw [yes (by omega) (by omega), jSu_ge (by omega)]
            by_cases e : j = 8 * (set ||| 2 ^ c) + c
            · subst e; rw [sj_up_self]
            · rw [sj_up_ne (by omega)]; exact hJB j hj)
      · refine sj_ild5 dX10_extend_33 ?_
        refine sj_sipush dX10_extend_35 (by decide) ?_
        refine sj_icmp_le 90 dX10_extend_38 (by decide) (by omega) (by omega) (fun c_38 => ?_) (fun c_38 => ?_)
        · refine sj_inc4 (by decide) rfl dX10_extend_90 ?_
          refine sj_goto 3 dX10_extend_93 (by decide) ?_
          refine sj_fg6 (sj_fg5 ?_)
          first
           | exact ih (c + 1) _ (by omega) hJ (by rw [no (by omega)]; exact hJB)
           | (have hlt : jOxs (jSo F (-1000)) set b sum c B (8 * (set ||| 2 ^ c) + c) < sum + F (8 * b + c) := by omega
              exact ih (c + 1) _ (by omega) (fun q hq => by rw [sj_up_row hq]; exact hJ q hq) (fun j hj => by
                rw [yes (by omega) (by omega)]
                by_cases e : j = 8 * (set ||| 2 ^ c) + c
                · subst e; rw [sj_up_self, jSu_lt hlt]
                · rw [sj_up_ne (by omega), jSu_ne e]; exact hJB j hj))
           | exact ih (c + 1) _ (by omega) (fun q hq => by rw [sj_up_row hq]; exact hJ q hq) (fun j hj => by
              rw [yes (by omega) (by omega), jSu_ge (by omega)]
              by_cases e : j = 8 * (set ||| 2 ^ c) + c
              · subst e; rw [sj_up_self]
              · rw [sj_up_ne (by omega)]; exact hJB j hj)
        · refine sj_bipush dX10_extend_41 (by decide) ?_
          refine sj_ild1 dX10_extend_43 ?_
          refine sj_iconst dX10_extend_44 ?_
          refine sj_ild4 dX10_extend_45 ?_
          refine sj_ishl dX10_extend_47 (zI_shl1 c (by omega)) ?_
          refine sj_ior dX10_extend_48 (zI_or1 set (by omega) c (by omega)) ?_
          refine sj_imul dX10_extend_49 ?_
          refine sj_ild4 dX10_extend_50 ?_
          refine sj_iadd dX10_extend_52 ?_
          refine sj_ist6 (by decide) rfl dX10_extend_53 ?_
          refine sj_ald0 dX10_extend_55 ?_
          refine sj_getR fl_X10_58 (by assumption) rfl (mr_26 _) dX10_extend_56 ?_
          refine sj_ild6 dX10_extend_59 ?_
          refine sj_ild3 dX10_extend_61 ?_
          refine sj_ild5 dX10_extend_62 ?_
          refine sj_iadd dX10_extend_64 ?_
          refine sj_ald0 dX10_extend_65 ?_
          refine sj_getR fl_X10_58 (by assumption) rfl (mr_26 _) dX10_extend_66 ?_
          refine sj_ild6 dX10_extend_69 ?_
          refine sj_ialdJ (8 * (set ||| 2 ^ c) + c) (by assumption) (by omega) (by omega) (by omega) dX10_extend_71 ?_
          rw [hJk]
          refine sj_icmp_le 82 dX10_extend_72 (by decide) (by omega) (by omega) (fun c_72 => ?_) (fun c_72 => ?_)
          · refine sj_ald0 dX10_extend_82 ?_
            refine sj_getR fl_X10_58 (by assumption) rfl (mr_26 _) dX10_extend_83 ?_
            refine sj_ild6 dX10_extend_86 ?_
            refine sj_ialdJ (8 * (set ||| 2 ^ c) + c) (by assumption) (by omega) (by omega) (by omega) dX10_extend_88 ?_
            rw [hJk]
            refine sj_iastJ (8 * (set ||| 2 ^ c) + c) (by assumption) (by omega) (by omega) (by omega) dX10_extend_89 ?_
            refine sj_inc4 (by decide) rfl dX10_extend_90 ?_
            refine sj_goto 3 dX10_extend_93 (by decide) ?_
            refine sj_fg6 (sj_fg5 ?_)
            first
             | exact ih (c + 1) _ (by omega) hJ (by rw [no (by omega)]; exact hJB)
             | (have hlt : jOxs (jSo F (-1000)) set b sum c B (8 * (set ||| 2 ^ c) + c) < sum + F (8 * b + c) := by omega
                exact ih (c + 1) _ (by omega) (fun q hq => by rw [sj_up_row hq]; exact hJ q hq) (fun j hj => by
                  rw [yes (by omega) (by omega)]
                  by_cases e : j = 8 * (set ||| 2 ^ c) + c
                  · subst e; rw [sj_up_self, jSu_lt hlt]
                  · rw [sj_up_ne (by omega), jSu_ne e]; exact hJB j hj))
             | exact ih (c + 1) _ (by omega) (fun q hq => by rw [sj_up_row hq]; exact hJ q hq) (fun j hj => by
                rw [yes (by omega) (by omega), jSu_ge (by omega)]
                by_cases e : j = 8 * (set ||| 2 ^ c) + c
                · subst e; rw [sj_up_self]
                · rw [sj_up_ne (by omega)]; exact hJB j hj)
          · refine sj_ild3 dX10_extend_75 ?_
            refine sj_ild5 dX10_extend_76 ?_
            refine sj_iadd dX10_extend_78 ?_
            refine sj_goto 89 dX10_extend_79 (by decide) ?_
            refine sj_iastJ (8 * (set ||| 2 ^ c) + c) (by assumption) (by omega) (by omega) (by omega) dX10_extend_89 ?_
            refine sj_inc4 (by decide) rfl dX10_extend_90 ?_
            refine sj_goto 3 dX10_extend_93 (by decide) ?_
            refine sj_fg6 (sj_fg5 ?_)
            first
             | exact ih (c + 1) _ (by omega) hJ (by rw [no (by omega)]; exact hJB)
             | (have hlt : jOxs (jSo F (-1000)) set b sum c B (8 * (set ||| 2 ^ c) + c) < sum + F (8 * b + c) := by omega
                exact ih (c + 1) _ (by omega) (fun q hq => by rw [sj_up_row hq]; exact hJ q hq) (fun j hj => by
                  rw [yes (by omega) (by omega)]
                  by_cases e : j = 8 * (set ||| 2 ^ c) + c
                  · subst e; rw [sj_up_self, jSu_lt hlt]
                  · rw [sj_up_ne (by omega), jSu_ne e]; exact hJB j hj))
             | exact ih (c + 1) _ (by omega) (fun q hq => by rw [sj_up_row hq]; exact hJ q hq) (fun j hj => by
                rw [yes (by omega) (by omega), jSu_ge (by omega)]
                by_cases e : j = 8 * (set ||| 2 ^ c) + c
                · subst e; rw [sj_up_self]
                · rw [sj_up_ne (by omega)]; exact hJB j hj)
  refine sj_iconst dX10_extend_0 ?_
  refine sj_ist4 (by decide) rfl dX10_extend_1 ?_
  exact lp 8 0 I (by omega) (fun _ _ => rfl) hB
end MODEL32
