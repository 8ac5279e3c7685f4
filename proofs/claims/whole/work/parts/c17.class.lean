/-! solving: a stack of open cells, the top first -/
def sCh (M : Int) (E : Nat → Option (List Int)) : List Nat → Prop
  | [] => True
  | [_] => True
  | a :: b :: R => jNeed M E b a ∧ sCh M E (b :: R)
def sQ (g : Nat → Int) : List Nat → Prop
  | [] => True
  | a :: R => g R.length = (a : Nat) ∧ sQ g R
theorem sQ.up {I : sjI} {a j : Nat} {x : Int} : ∀ {S : List Nat}, sQ (I a) S → S.length ≤ j → sQ (sj_up I a j x a) S
  | [], _, _ => trivial
  | b :: R, h, hl => by
    simp only [List.length_cons] at hl
    exact ⟨by rw [sj_up_ne (by omega)]; exact h.1, sQ.up h.2 (by omega)⟩
theorem sCh_down {M : Int} {E : Nat → Option (List Int)} : ∀ (R : List Nat) (a q n : Nat), sCh M E (a :: R) → q ∈ a :: R → jKs M E n q → ∃ m, m ≤ n ∧ jKs M E m a
  | [], a, q, n, _, hq, hk => by
    rcases List.mem_cons.mp hq with rfl | hq
    · exact ⟨n, Nat.le_refl _, hk⟩
    · cases hq
  | b :: R, a, q, n, h, hq, hk => by
    rcases List.mem_cons.mp hq with rfl | hq
    · exact ⟨n, Nat.le_refl _, hk⟩
    · obtain ⟨m, h1, h2⟩ := sCh_down R b q n h.2 hq hk
      cases m with
      | zero => exact absurd h2 jKs_zero
      | succ m => exact ⟨m, by omega, h.1 m h2⟩
theorem sCh_stuck {M : Int} {E : Nat → Option (List Int)} {R : List Nat} {a q : Nat} (h : sCh M E (a :: R)) (hq : q ∈ a :: R) (hn : jNeed M E a q) : ¬ jKn M E a := by
  rintro ⟨n, z, hz⟩
  obtain ⟨s, h1, h2⟩ := jKs_least n ⟨z, hz⟩
  obtain ⟨m, h3, h4⟩ := sCh_down R a q s h hq (hn s h1)
  exact h2 (jKs_le h4 h3)
/-- cells, none of them open -/
def cO (M : Int) (E : Nat → Option (List Int)) (f : Nat → Int) : Prop := ∀ k, k < 3200 → f k = 0 ∨ (f k = 2 ∧ ¬ jKn M E k) ∨ cK M E f k
theorem cO.p {M : Int} {E : Nat → Option (List Int)} {f : Nat → Int} (h : cO M E f) : cP M E f := fun k hk => by
  rcases h k hk with a | a | a
  · exact Or.inl a
  · exact Or.inr (Or.inr (Or.inl a))
  · exact Or.inr (Or.inr (Or.inr a))
/-- how many cells are untouched -/
def jZc (f : Nat → Int) : Nat := jUn (fun k => if f k = 0 then -9 else 0) 3200
theorem jZc_le (f : Nat → Int) : jZc f ≤ 3200 := jUn_le _ _
theorem jZc_same {f g : Nat → Int} (h : ∀ k, k < 3200 → (f k = 0 ↔ g k = 0)) : jZc f = jZc g := by
  refine jUn_congr 3200 (fun k hk => ?_)
  by_cases e : f k = 0
  · rw [if_pos e, if_pos ((h k hk).mp e)]
  · rw [if_neg e, if_neg (fun q => e ((h k hk).mpr q))]
theorem jZc_less {f g : Nat → Int} {k : Nat} (hk : k < 3200) (h0 : f k = 0) (h1 : g k ≠ 0) (h : ∀ j, j ≠ k → g j = f j) : jZc g + 1 = jZc f := by
  refine jUn_set (k := k) ?_ ?_ (fun j hj => ?_) 3200 hk
  · show (if f k = 0 then (-9 : Int) else 0) = -9
    rw [if_pos h0]
  · show (if g k = 0 then (-9 : Int) else 0) ≠ -9
    rw [if_neg h1]; decide
  · show (if g j = 0 then (-9 : Int) else 0) = if f j = 0 then (-9 : Int) else 0
    rw [h j hj]
/-- the state of solving -/
def sS (M : Int) (E : Nat → Option (List Int)) (f0 : Nat → Int) (v w : Nat) (J : sjI) (S : List Nat) : Prop :=
  cP M E (J (vCl v w)) ∧ (S.Nodup ∧ ∀ q ∈ S, q < 3200) ∧ (∀ q, q < 3200 → (J (vCl v w) q = 1 ↔ q ∈ S)) ∧ sCh M E S ∧ sQ (J (w + 3)) S ∧ ∀ q, q < 3200 → f0 q ≠ 0 → J (vCl v w) q = f0 q
theorem sS.pop {M : Int} {E : Nat → Option (List Int)} {f0 : Nat → Int} {v w a : Nat} {J K : sjI} {R : List Nat} {x : Int} (h : sS M E f0 v w J (a :: R)) (h0 : f0 a = 0) (hq : K (w + 3) = J (w + 3)) (hK : ∀ j, K (vCl v w) j = if j = a then x else J (vCl v w) j) (hx : (x = 2 ∧ ¬ jKn M E a) ∨ ∃ n z, jStg M E n a = some z ∧ x = 16 * (z.2 + 1) + z.1) (hM : 2 ≤ M ∧ M ≤ 10) : sS M E f0 v w K R ∧ jZc (K (vCl v w)) = jZc (J (vCl v w)) ∧ K (vCl v w) a ≠ 0 := by
  obtain ⟨h1, ⟨h2, h2b⟩, h3, h4, h5, h6⟩ := h
  have ha := h2b a List.mem_cons_self
  have hnd := List.nodup_cons.mp h2
  have hKa : K (vCl v w) a = x := by rw [hK a, if_pos rfl]
  have hx2 : x = 2 ∨ (16 ≤ x) := by
    rcases hx with hx | ⟨n, z, e1, e2⟩
    · exact Or.inl hx.1
    · right
      have r1 := jStg_rng hM.1 n a z e1
      have r2 := jStg_small ha e1
      omega
  have hJa := (h3 a ha).mpr List.mem_cons_self
  refine ⟨⟨fun q hq => ?_, ⟨hnd.2, fun q hq => h2b q (List.mem_cons_of_mem _ hq)⟩, fun q hq => ?_, ?_, by rw [hq]; exact h5.2, fun q hq hf => ?_⟩, jZc_same (fun q hq => ?_), by omega⟩
  · by_cases e : q = a
    · subst e
      rw [hKa]
      rcases hx with hx | ⟨n, z, e1, e2⟩
      · exact Or.inr (Or.inr (Or.inl hx))
      · exact Or.inr (Or.inr (Or.inr ⟨n, z, e1, by rw [hKa]; exact e2⟩))
    · have hKq : K (vCl v w) q = J (vCl v w) q := by rw [hK q, if_neg e]
      rw [hKq]
      rcases h1 q hq with b | b | b | ⟨n, z, e1, e2⟩
      · exact Or.inl b
      · exact Or.inr (Or.inl b)
      · exact Or.inr (Or.inr (Or.inl b))
      · exact Or.inr (Or.inr (Or.inr ⟨n, z, e1, by rw [hKq]; exact e2⟩))
  · by_cases e : q = a
    · subst e
      rw [hKa]
      exact ⟨fun z => by omega, fun z => absurd z hnd.1⟩
    · rw [hK q, if_neg e, h3 q hq]
      exact ⟨fun z => by rcases List.mem_cons.mp z with z | z; exact absurd z e; exact z, fun z => List.mem_cons_of_mem _ z⟩
  · cases R with
    | nil => trivial
    | cons b R => exact h4.2
  · rw [hK q, if_neg (fun e => hf (by rw [e]; exact h0))]
    exact h6 q hq hf
  · by_cases e : q = a
    · subst e
      rw [hKa, hJa]
      exact ⟨fun z => by omega, fun z => by omega⟩
    · rw [hK q, if_neg e]
theorem sS.push {M : Int} {E : Nat → Option (List Int)} {f0 : Nat → Int} {v w a q : Nat} {J : sjI} {R : List Nat} (h : sS M E f0 v w J (a :: R)) (hq : q < 3200) (hz : J (vCl v w) q = 0) (hn : jNeed M E a q) (hvw : vCl v w ≠ w + 3) : sS M E f0 v w (sj_up (sj_up J (vCl v w) q 1) (w + 3) (a :: R).length (q : Nat)) (q :: a :: R) ∧ jZc (sj_up (sj_up J (vCl v w) q 1) (w + 3) (a :: R).length (q : Nat) (vCl v w)) + 1 = jZc (J (vCl v w)) ∧ (a :: R).length < 3200 := by
  obtain ⟨h1, ⟨h2, h2b⟩, h3, h4, h5, h6⟩ := h
  have hqS : q ∉ a :: R := fun e => by have := (h3 q hq).mpr e; omega
  have hnd : (q :: a :: R).Nodup := List.nodup_cons.mpr ⟨hqS, h2⟩
  have hall : ∀ x ∈ q :: a :: R, x < 3200 := fun x hx => by
    rcases List.mem_cons.mp hx with rfl | hx
    · exact hq
    · exact h2b x hx
  have hlen := jNd_le 3200 (q :: a :: R) hnd hall
  have hv : ∀ j, sj_up (sj_up J (vCl v w) q 1) (w + 3) (a :: R).length (q : Nat) (vCl v w) j = if j = q then 1 else J (vCl v w) j := fun j => by
    rw [sj_up_row hvw]
    by_cases e : j = q
    · rw [if_pos e, e, sj_up_self]
    · rw [if_neg e, sj_up_ne (by omega)]
  refine ⟨⟨fun x hx => ?_, ⟨hnd, hall⟩, fun x hx => ?_, ⟨hn, h4⟩, ⟨sj_up_self _ _ _ _, ?_⟩, fun x hx hf => ?_⟩, jZc_less hq hz (by rw [hv q, if_pos rfl]; decide) (fun j hj => by rw [hv j, if_neg hj]), by simp only [List.length_cons] at hlen ⊢; omega⟩
  · by_cases e : x = q
    · exact Or.inr (Or.inl (by rw [hv x, if_pos e]))
    · have hKx : sj_up (sj_up J (vCl v w) q 1) (w + 3) (a :: R).length (q : Nat) (vCl v w) x = J (vCl v w) x := by rw [hv x, if_neg e]
      rw [hKx]
      rcases h1 x hx with b | b | b | ⟨n, z, e1, e2⟩
      · exact Or.inl b
      · exact Or.inr (Or.inl b)
      · exact Or.inr (Or.inr (Or.inl b))
      · exact Or.inr (Or.inr (Or.inr ⟨n, z, e1, by rw [hKx]; exact e2⟩))
  · rw [hv x]
    by_cases e : x = q
    · rw [if_pos e]; exact ⟨fun _ => by rw [e]; exact List.mem_cons_self, fun _ => rfl⟩
    · rw [if_neg e, h3 x hx]
      exact ⟨fun z => List.mem_cons_of_mem _ z, fun z => by rcases List.mem_cons.mp z with z | z; exact absurd z e; exact z⟩
  · have := sQ.up (I := sj_up J (vCl v w) q 1) (a := w + 3) (j := (a :: R).length) (x := (q : Nat)) (S := a :: R) (by rw [sj_up_row (by omega)]; exact h5) (Nat.le_refl _)
    exact this
  · rw [hv x, if_neg (fun e => hf (by have := h6 x hx hf; rw [e, hz] at this; rw [e]; exact this.symm))]
    exact h6 x hx hf
section VALUES3
variable {l : Launch} {G : sjG} {σ : sjS} {I : sjI}
theorem cx7_solve {v e w k : Nat} {M : Int} {τ : Nat → Option Nat} {E : Nat → Option (List Int)} (hS : vSh σ v e w) (hW : wSh σ w) (he : eqn σ I e M τ) (ht : te σ I τ E) (hM : 2 ≤ M ∧ M ≤ 10) (hk : k < 3200) (hC : cO M E (I (vCl v w))) (hk0 : I (vCl v w) k = 0) : sj_Con l yX7_solve mX7_solve G σ I [.ref v, .int (zI k)] (fun r σ' I' => r = none ∧ σ = σ' ∧ (∀ q, q ≠ w + 1 → q ≠ w + 2 → q ≠ w + 3 → q ≠ vCl v w → q ≠ v → I' q = I q) ∧ I' v 3 = 1 ∧ cO M E (I' (vCl v w)) ∧ (∀ q, q < 3200 → I (vCl v w) q ≠ 0 → I' (vCl v w) q = I (vCl v w) q) ∧ I' (vCl v w) k ≠ 0) := by
  obtain ⟨s0, s1⟩ := id hS
  obtain ⟨w0, w1, w2, w3, w4⟩ := id hW
  have hvw := hS.off hW
  have n1 := ne_kind he.1 w1 (by decide)
  have n2 := ne_kind he.1 w2 (by decide)
  have n3 := ne_kind he.1 w3 (by decide)
  have n4 := ne_kind he.1 s1 (by decide)
  have n5 := ne_kind he.1 s0 (by decide)
  have hkeep : ∀ J : sjI, (∀ q, q ≠ w + 1 → q ≠ w + 2 → q ≠ w + 3 → q ≠ vCl v w → q ≠ v → J q = I q) → te σ J τ E ∧ eqn σ J e M τ := fun J hJ => ⟨ht.keep (fun t T htm => htm.keep (fun q q1 q2 => by
    have o1 := htm.offW hW
    have o2 := htm.offV hS hW
    exact ⟨rfl, hJ q (by omega) (by omega) (by omega) (by omega) (by omega)⟩)), he.1, he.2.1, by rw [hJ e n1 n2 n3 n4 n5]; exact he.2.2⟩
  refine sj_con_of (L0 := [some (.ref v), some (.int (zI k)), none, none, none, none]) (by decide) rfl rfl rfl (Nat.le_of_ble_eq_true rfl) rfl (fun Γ => ?_)
  have lp : ∀ (d tn : Nat) (J : sjI) (S : List Nat), tn + d = 6400 → tn + 2 * jZc (J (vCl v w)) + S.length ≤ 6400 → (∀ q, q ≠ w + 1 → q ≠ w + 2 → q ≠ w + 3 → q ≠ vCl v w → q ≠ v → J q = I q) → J v 3 = 1 → sS M E (I (vCl v w)) v w J S → J (vCl v w) k ≠ 0 → sj_V l Γ mX7_solve G (fun r σ' I' => r = none ∧ σ = σ' ∧ (∀ q, q ≠ w + 1 → q ≠ w + 2 → q ≠ w + 3 → q ≠ vCl v w → q ≠ v → I' q = I q) ∧ I' v 3 = 1 ∧ cO M E (I' (vCl v w)) ∧ (∀ q, q < 3200 → I (vCl v w) q ≠ 0 → I' (vCl v w) q = I (vCl v w) q) ∧ I' (vCl v w) k ≠ 0) σ J 0 0 29 [some (.ref v), some (.int (zI k)), some (.ref (w + 3)), some (.int (zI S.length)), some (.int (zI tn)), none] [] := by
    intro d
    induction d with
    | zero =>
      intro tn J S htn hpot hJ hJ3 hsS hJk
      have hS0 : S = [] := List.length_eq_zero_iff.mp (by omega)
      subst hS0
      have hfin : cO M E (J (vCl v w)) := fun q hq => by
        rcases hsS.1 q hq with a | a | a | a
        · exact Or.inl a
        · exact absurd ((hsS.2.2.1 q hq).mp a) (by simp)
        · exact Or.inr (Or.inl a)
        · exact Or.inr (Or.inr a)
      refine sj_ild4 dX7_solve_29 ?_
      refine sj_sipush dX7_solve_31 (by decide) ?_
      refine sj_icmp_ge 93 dX7_solve_34 (by decide) (by omega) (by omega) (fun c_34 => ?_) (fun c_34 => ?_)
      rotate_left
      · (exfalso; omega)
      exact sj_vret dX7_solve_93 rfl (Nat.le_of_ble_eq_true rfl) (Nat.le_of_ble_eq_true rfl) ⟨rfl, rfl, hJ, hJ3, hfin, hsS.2.2.2.2.2, hJk⟩
    | succ d ih =>
      intro tn J S htn hpot hJ hJ3 hsS hJk
      cases S with
      | nil =>
        have hfin : cO M E (J (vCl v w)) := fun q hq => by
          rcases hsS.1 q hq with a | a | a | a
          · exact Or.inl a
          · exact absurd ((hsS.2.2.1 q hq).mp a) (by simp)
          · exact Or.inr (Or.inl a)
          · exact Or.inr (Or.inr a)
        refine sj_ild4 dX7_solve_29 ?_
        refine sj_sipush dX7_solve_31 (by decide) ?_
        refine sj_icmp_ge 93 dX7_solve_34 (by decide) (by omega) (by omega) (fun c_34 => ?_) (fun c_34 => ?_)
        · (exfalso; omega)
        refine sj_ild3 dX7_solve_37 ?_
        refine sj_if_le 93 dX7_solve_38 (by decide) (by simp only [List.length_nil]; omega) (fun c_38 => ?_) (fun c_38 => ?_)
        rotate_left
        · (exfalso; simp only [List.length_nil] at c_38; omega)
        exact sj_vret dX7_solve_93 rfl (Nat.le_of_ble_eq_true rfl) (Nat.le_of_ble_eq_true rfl) ⟨rfl, rfl, hJ, hJ3, hfin, hsS.2.2.2.2.2, hJk⟩
      | cons a R =>
        have ha := hsS.2.1.2 a List.mem_cons_self
        have hlen := jNd_le 3200 (a :: R) hsS.2.1.1 hsS.2.1.2
        have hqa := hsS.2.2.2.2.1.1
        have hf0 : I (vCl v w) a = 0 := by
          by_cases e : I (vCl v w) a = 0
          · exact e
          · have e1 := hsS.2.2.2.2.2 a ha e
            have e2 := (hsS.2.2.1 a ha).mpr List.mem_cons_self
            rw [e1] at e2
            rcases hC a ha with b | b | b
            · omega
            · omega
            · have := b.rng hM ha; omega
        obtain ⟨ht2, he2⟩ := hkeep J hJ
        simp only [List.length_cons] at hlen hpot ⊢
        have done1 : ∀ (K : sjI) (x : Int), (∀ q, q ≠ w + 1 → q ≠ w + 2 → q ≠ vCl v w → K q = J q) → (∀ j, K (vCl v w) j = if j = a then x else J (vCl v w) j) → ((x = 2 ∧ ¬ jKn M E a) ∨ ∃ n z, jStg M E n a = some z ∧ x = 16 * (z.2 + 1) + z.1) → sj_V l Γ mX7_solve G (fun r σ' I' => r = none ∧ σ = σ' ∧ (∀ q, q ≠ w + 1 → q ≠ w + 2 → q ≠ w + 3 → q ≠ vCl v w → q ≠ v → I' q = I q) ∧ I' v 3 = 1 ∧ cO M E (I' (vCl v w)) ∧ (∀ q, q < 3200 → I (vCl v w) q ≠ 0 → I' (vCl v w) q = I (vCl v w) q) ∧ I' (vCl v w) k ≠ 0) σ K 0 0 50 [some (.ref v), some (.int (zI k)), some (.ref (w + 3)), some (.int (zI ((R.length + 1 : Nat) : Int))), some (.int (zI tn)), none] [.int (zI (-1))] := by
          intro K x hK hKx hx
          obtain ⟨p1, p2, p3⟩ := hsS.pop hf0 (hK (w + 3) (by omega) (by omega) (by omega)) hKx hx hM
          clear hx
          refine sj_ist5 (by decide) rfl dX7_solve_50 ?_
          refine sj_ild5 dX7_solve_52 ?_
          refine sj_iconst dX7_solve_54 ?_
          refine sj_icmp_eq 65 dX7_solve_55 (by decide) (by omega) (by omega) (fun c_55 => ?_) (fun c_55 => ?_)
          rotate_left
          · (exfalso; omega)
          refine sj_inc3 (by decide) rfl dX7_solve_65 ?_
          refine sj_goto 87 dX7_solve_68 (by decide) ?_
          refine sj_inc4 (by decide) rfl dX7_solve_87 ?_
          refine sj_goto 29 dX7_solve_90 (by decide) ?_
          have h := ih (tn + 1) K R (by omega) (by omega) (fun q q1 q2 q3 q4 q5 => by rw [hK q q1 q2 q4]; exact hJ q q1 q2 q3 q4 q5) (by rw [hK v (by omega) (by omega) (by omega)]; exact hJ3) p1 (by
            by_cases e : k = a
            · rw [e]; exact p3
            · rw [hKx k, if_neg e]; exact hJk)
          rw [show (((R.length + 1 : Nat) : Int) + -1) = (R.length : Int) by omega]
          exact sj_fg5 h
        have done2 : ∀ (K : sjI) (q : Nat), (∀ b, b ≠ w + 1 → b ≠ w + 2 → b ≠ vCl v w → K b = J b) → K (vCl v w) = J (vCl v w) → q < 3200 → J (vCl v w) q = 0 → jNeed M E a q → sj_V l Γ mX7_solve G (fun r σ' I' => r = none ∧ σ = σ' ∧ (∀ q, q ≠ w + 1 → q ≠ w + 2 → q ≠ w + 3 → q ≠ vCl v w → q ≠ v → I' q = I q) ∧ I' v 3 = 1 ∧ cO M E (I' (vCl v w)) ∧ (∀ q, q < 3200 → I (vCl v w) q ≠ 0 → I' (vCl v w) q = I (vCl v w) q) ∧ I' (vCl v w) k ≠ 0) σ K 0 0 50 [some (.ref v), some (.int (zI k)), some (.ref (w + 3)), some (.int (zI ((R.length + 1 : Nat) : Int))), some (.int (zI tn)), none] [.int (zI (q : Nat))] := by
          intro K q hK hKv hq hz hn
          have hsK : sS M E (I (vCl v w)) v w K (a :: R) := by
            unfold sS
            rw [hKv, hK (w + 3) (by omega) (by omega) (by omega)]
            exact hsS
          obtain ⟨p1, p2, p3⟩ := hsK.push hq (by rw [hKv]; exact hz) hn (by omega)
          simp only [List.length_cons] at p1 p2 p3
          rw [hKv] at p2
          refine sj_ist5 (by decide) rfl dX7_solve_50 ?_
          refine sj_ild5 dX7_solve_52 ?_
          refine sj_iconst dX7_solve_54 ?_
          refine sj_icmp_eq 65 dX7_solve_55 (by decide) (by omega) (by omega) (fun c_55 => ?_) (fun c_55 => ?_)
          · (exfalso; omega)
          refine sj_ild3 dX7_solve_58 ?_
          refine sj_sipush dX7_solve_59 (by decide) ?_
          refine sj_icmp_lt 71 dX7_solve_62 (by decide) (by omega) (by omega) (fun c_62 => ?_) (fun c_62 => ?_)
          rotate_left
          · (exfalso; omega)
          refine sj_ald0 dX7_solve_71 ?_
          refine sj_getR fl_X7_9 (by assumption) rfl (vR_2 _ _ _) dX7_solve_72 ?_
          refine sj_ild5 dX7_solve_75 ?_
          refine sj_iconst dX7_solve_77 ?_
          refine sj_iastJ (q) (by assumption) (by omega) (by omega) (by omega) dX7_solve_78 ?_
          refine sj_ald2 dX7_solve_79 ?_
          refine sj_ild3 dX7_solve_80 ?_
          refine sj_ild5 dX7_solve_81 ?_
          refine sj_iastJ (R.length + 1) (by assumption) (by omega) (by omega) (by omega) dX7_solve_83 ?_
          refine sj_inc3 (by decide) rfl dX7_solve_84 ?_
          refine sj_inc4 (by decide) rfl dX7_solve_87 ?_
          refine sj_goto 29 dX7_solve_90 (by decide) ?_
          refine sj_fg5 ?_
          exact ih (tn + 1) _ (q :: a :: R) (by omega) (by simp only [List.length_cons]; omega) (fun b q1 q2 q3 q4 q5 => by rw [sj_up_row q3, sj_up_row q4, hK b q1 q2 q4]; exact hJ b q1 q2 q3 q4 q5) (by rw [sj_up_row (by omega), sj_up_row (by omega), hK v (by omega) (by omega) (by omega)]; exact hJ3) p1 (by
            rw [sj_up_row (by omega)]
            by_cases e : k = q
            · rw [e, sj_up_self]; decide
            · rw [sj_up_ne (by omega), hKv]; exact hJk)
        refine sj_ild4 dX7_solve_29 ?_
        refine sj_sipush dX7_solve_31 (by decide) ?_
        refine sj_icmp_ge 93 dX7_solve_34 (by decide) (by omega) (by omega) (fun c_34 => ?_) (fun c_34 => ?_)
        · (exfalso; omega)
        refine sj_ild3 dX7_solve_37 ?_
        refine sj_if_le 93 dX7_solve_38 (by decide) (by omega) (fun c_38 => ?_) (fun c_38 => ?_)
        · (exfalso; omega)
        refine sj_ald0 dX7_solve_41 ?_
        refine sj_ald2 dX7_solve_42 ?_
        refine sj_ild3 dX7_solve_43 ?_
        refine sj_iconst dX7_solve_44 ?_
        refine sj_isub dX7_solve_45 ?_
        refine sj_ialdJ (R.length) (by assumption) (by omega) (by omega) (by omega) dX7_solve_46 ?_
        rw [hqa]
        refine sj_callV (cx7_settle hS hW he2 ht2 hM ha hsS.1 (fun q hq h1 hn => sCh_stuck hsS.2.2.2.1 ((hsS.2.2.1 q hq).mp h1) hn)) kc_X7_46 (by assumption) rfl rfl rfl rfl (Nat.le_of_ble_eq_true rfl) dX7_solve_47 (fun r_47 σ_47 I_47 hp_47 => ?_)
        obtain ⟨rfl, x1, x2⟩ := hp_47
        rcases x2 with ⟨rfl, x, x3, x4⟩ | ⟨q, x3, rfl, x4, x5, x6⟩
        · exact done1 _ x x1 x3 x4
        · exact done2 _ q x1 x5 x3 x4 x6
  have hini : sS M E (I (vCl v w)) v w (sj_up (sj_up (sj_up I v 3 1) (w + 3) 0 (k : Nat)) (vCl v w) k 1) [k] := by
    have hv : ∀ j, sj_up (sj_up (sj_up I v 3 1) (w + 3) 0 (k : Nat)) (vCl v w) k 1 (vCl v w) j = if j = k then 1 else I (vCl v w) j := fun j => by
      by_cases e : j = k
      · rw [if_pos e, e, sj_up_self]
      · rw [if_neg e, sj_up_ne (by omega), sj_up_row (by omega), sj_up_row (by omega)]
    refine ⟨fun q hq => ?_, ⟨List.nodup_cons.mpr ⟨by simp, List.nodup_nil⟩, fun q hq => by rw [List.mem_singleton.mp hq]; exact hk⟩, fun q hq => ?_, trivial, ⟨by rw [sj_up_row (by omega)]; exact sj_up_self _ _ _ _, trivial⟩, fun q hq hf => ?_⟩
    · by_cases e : q = k
      · exact Or.inr (Or.inl (by rw [hv q, if_pos e]))
      · have hKq := hv q
        rw [if_neg e] at hKq
        rw [hKq]
        rcases hC q hq with b | b | ⟨n, z, e1, e2⟩
        · exact Or.inl b
        · exact Or.inr (Or.inr (Or.inl b))
        · exact Or.inr (Or.inr (Or.inr ⟨n, z, e1, by rw [hKq]; exact e2⟩))
    · rw [hv q, List.mem_singleton]
      by_cases e : q = k
      · rw [if_pos e]; exact ⟨fun _ => e, fun _ => rfl⟩
      · rw [if_neg e]
        refine ⟨fun z => ?_, fun z => absurd z e⟩
        exfalso
        rcases hC q hq with b | b | b
        · omega
        · omega
        · have := b.rng hM hq; omega
    · rw [hv q, if_neg (fun e => hf (by rw [e]; exact hk0))]
  have hzc : jZc (sj_up (sj_up (sj_up I v 3 1) (w + 3) 0 (k : Nat)) (vCl v w) k 1 (vCl v w)) + 1 = jZc (I (vCl v w)) := jZc_less hk hk0 (by rw [sj_up_self]; decide) (fun j hj => by rw [sj_up_ne (by omega), sj_up_row (by omega), sj_up_row (by omega)])
  have hzl := jZc_le (I (vCl v w))
  refine sj_ald0 dX7_solve_0 ?_
  refine sj_iconst dX7_solve_1 ?_
  refine sj_putI fl_X7_23 (by assumption) rfl (by decide) rfl dX7_solve_2 ?_
  refine sj_ald0 dX7_solve_5 ?_
  refine sj_getR fl_X7_19 (by assumption) rfl (vR_1 _ _ _) dX7_solve_6 ?_
  refine sj_getRN fl_X7_41 (by assumption) rfl (wR_2 _) dX7_solve_9 ?_
  refine sj_ast2 (by decide) rfl dX7_solve_12 ?_
  refine sj_ald2 dX7_solve_13 ?_
  refine sj_iconst dX7_solve_14 ?_
  refine sj_ild1 dX7_solve_15 ?_
  refine sj_iastJ (0) (by assumption) (by omega) (by omega) (by omega) dX7_solve_16 ?_
  refine sj_ald0 dX7_solve_17 ?_
  refine sj_getR fl_X7_9 (by assumption) rfl (vR_2 _ _ _) dX7_solve_18 ?_
  refine sj_ild1 dX7_solve_21 ?_
  refine sj_iconst dX7_solve_22 ?_
  refine sj_iastJ (k) (by assumption) (by omega) (by omega) (by omega) dX7_solve_23 ?_
  refine sj_iconst dX7_solve_24 ?_
  refine sj_ist3 (by decide) rfl dX7_solve_25 ?_
  refine sj_iconst dX7_solve_26 ?_
  refine sj_ist4 (by decide) rfl dX7_solve_27 ?_
  exact lp 6400 0 _ [k] (by omega) (by simp only [List.length_singleton]; omega) (fun q q1 q2 q3 q4 q5 => by rw [sj_up_row q4, sj_up_row q3, sj_up_row q5]) (by rw [sj_up_row (by omega), sj_up_row (by omega), sj_up_self]) hini (by rw [sj_up_self]; decide)
end VALUES3
