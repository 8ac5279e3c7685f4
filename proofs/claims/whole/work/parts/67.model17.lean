/-- the rank that follows from the ranks of what is needed -/
def jRk (ρ : Nat → Int) : Int → List Nat → Int
  | r, [] => r
  | r, q :: l => jRk ρ (max r (ρ q + 1)) l
theorem jRk_congr {ρ ρ' : Nat → Int} : ∀ (l : List Nat) (r : Int), (∀ q ∈ l, ρ q = ρ' q) → jRk ρ r l = jRk ρ' r l
  | [], r, _ => rfl
  | q :: l, r, h => by
    unfold jRk
    rw [h q List.mem_cons_self]
    exact jRk_congr l _ (fun x hx => h x (List.mem_cons_of_mem _ hx))
theorem jRk_le {ρ : Nat → Int} {B : Int} : ∀ (l : List Nat) (r : Int), (∀ q ∈ l, 0 ≤ ρ q ∧ ρ q ≤ B) → (0 ≤ r ∧ r ≤ B + 1) → 0 ≤ jRk ρ r l ∧ jRk ρ r l ≤ B + 1
  | [], r, _, h => h
  | q :: l, r, h, h2 => by
    unfold jRk
    have := h q List.mem_cons_self
    exact jRk_le l _ (fun x hx => h x (List.mem_cons_of_mem _ hx)) (by omega)
theorem jN_lt : ∀ (n : Nat) (L : List Int) (i : Nat) (l : List Nat), L.length ≤ n → jN L i = some l → ∀ q ∈ l, q < 3200
  | n, [], i, l, _, h => by cases h
  | 0, c :: L, i, l, hn, h => absurd hn (by simp)
  | n + 1, c :: L, i, l, hn, h => by
    have hl : L.length ≤ n := by simpa using hn
    have hd := jDr_len L 1
    rw [jN_cons] at h
    have ih := fun j l' => jN_lt n L j l' hl
    have ih2 := fun j l' => jN_lt n (jDr 1 L) j l' (by omega)
    split at h
    · cases h
    · split at h
      · split at h
        · cases h
          intro q hq
          rw [List.mem_singleton] at hq
          omega
        · cases h
      · split at h
        · cases h; intro q hq; cases hq
        · split at h
          · split at h
            · cases h; intro q hq; cases hq
            · exact ih _ _ h
          · split at h
            · exact ih _ _ h
            · split at h
              · exact ih _ _ h
              · split at h
                · exact ih _ _ h
                · split at h
                  · split at h
                    · exact ih _ _ h
                    · exact ih2 _ _ h
                  · cases e1 : jN L i with
                    | none => rw [e1] at h; cases h
                    | some a =>
                      cases e2 : jN (jDr 1 L) i with
                      | none => rw [e1, e2] at h; cases h
                      | some b =>
                        rw [e1, e2] at h
                        cases h
                        intro q hq
                        rcases List.mem_append.mp hq with h1 | h1
                        · exact ih _ _ e1 q h1
                        · exact ih2 _ _ e2 q h1
theorem jV_congr (M : Int) (v w : Nat → Int) : ∀ (n : Nat) (L : List Int) (i : Nat) (l : List Nat), L.length ≤ n → jN L i = some l → (∀ q ∈ l, v q = w q) → jV M v L i = jV M w L i
  | n, [], i, l, _, h, _ => by cases h
  | 0, c :: L, i, l, hn, h, _ => absurd hn (by simp)
  | n + 1, c :: L, i, l, hn, h, hq => by
    have hl : L.length ≤ n := by simpa using hn
    have hd := jDr_len L 1
    rw [jN_cons] at h
    rw [jV_cons, jV_cons]
    have ih := fun j l' h1 h2 => jV_congr M v w n L j l' hl h1 h2
    have ih2 := fun j l' h1 h2 => jV_congr M v w n (jDr 1 L) j l' (by omega) h1 h2
    split at h
    · cases h
    · split at h
      · rename_i hc
        rw [if_pos hc, if_pos hc]
        split at h
        · cases h
          exact hq _ (List.mem_singleton.mpr rfl)
        · cases h
      · rename_i hc
        rw [if_neg hc, if_neg hc]
        split at h
        · rename_i hc; rw [if_pos hc, if_pos hc]
        · rename_i hc
          rw [if_neg hc, if_neg hc]
          split at h
          · rename_i hc
            rw [if_pos hc, if_pos hc]
            split at h
            · rename_i h0; rw [if_pos h0, if_pos h0]
            · rename_i h0; rw [if_neg h0, if_neg h0]; exact ih _ _ h hq
          · rename_i hc
            rw [if_neg hc, if_neg hc]
            split at h
            · rename_i hc; rw [if_pos hc, if_pos hc]; exact ih _ _ h hq
            · rename_i hc
              rw [if_neg hc, if_neg hc]
              split at h
              · rename_i hc; rw [if_pos hc, if_pos hc]; exact ih _ _ h hq
              · rename_i hc
                rw [if_neg hc, if_neg hc]
                split at h
                · rename_i hc; rw [if_pos hc, if_pos hc]; exact ih _ _ h hq
                · rename_i hc
                  rw [if_neg hc, if_neg hc]
                  split at h
                  · rename_i hc
                    rw [if_pos hc, if_pos hc]
                    split at h
                    · rename_i h0; rw [if_pos h0, if_pos h0]; exact ih _ _ h hq
                    · rename_i h0; rw [if_neg h0, if_neg h0]; exact ih2 _ _ h hq
                  · rename_i hc
                    rw [if_neg hc, if_neg hc]
                    cases e1 : jN L i with
                    | none => rw [e1] at h; cases h
                    | some a =>
                      cases e2 : jN (jDr 1 L) i with
                      | none => rw [e1, e2] at h; cases h
                      | some b =>
                        rw [e1, e2] at h
                        cases h
                        rw [ih _ _ e1 (fun q h1 => hq q (List.mem_append_left _ h1)), ih2 _ _ e2 (fun q h1 => hq q (List.mem_append_right _ h1))]
/-- more known values change nothing of what could be computed -/
theorem jEv_more {M : Int} {v w : Nat → Int} {L : List Int} {i : Nat} {z : List Nat × Int} (h : jEv M v L i = some z) (hw : ∀ q, q < 3200 → v q ≠ -9 → w q = v q) : jEv M w L i = some z ∧ ∀ q ∈ z.1, v q ≠ -9 ∧ q < 3200 := by
  unfold jEv at h ⊢
  cases e : jN L i with
  | none => rw [e] at h; cases h
  | some l =>
    rw [e] at h
    simp only at h ⊢
    split at h
    · rename_i ha
      cases h
      have hk : ∀ q ∈ l, v q ≠ -9 := fun q hq => of_decide_eq_true (List.all_eq_true.mp ha q hq)
      have hlt := jN_lt L.length L i l (Nat.le_refl _) e
      refine ⟨?_, fun q hq => ⟨hk q hq, hlt q hq⟩⟩
      rw [if_pos (List.all_eq_true.mpr fun q hq => decide_eq_true (by rw [hw q (hlt q hq) (hk q hq)]; exact hk q hq)), jV_congr M v w L.length L i l (Nat.le_refl _) e (fun q hq => (hw q (hlt q hq) (hk q hq)).symm)]
    · cases h
/-! stages: what is known after n rounds: (value, rank) -/
def jStg (M : Int) (E : Nat → Option (List Int)) : Nat → Nat → Option (Int × Int)
  | 0, _ => none
  | n + 1, k => match E (k / 400) with
    | none => none
    | some T => (jEv M (fun q => ((jStg M E n q).map Prod.fst).getD (-9)) T (k % 400)).map (fun z => (z.2, jRk (fun q => ((jStg M E n q).map Prod.snd).getD 0) 0 z.1))
theorem jStg_succ (M : Int) (E : Nat → Option (List Int)) (n k : Nat) : jStg M E (n + 1) k = match E (k / 400) with
    | none => none
    | some T => (jEv M (fun q => ((jStg M E n q).map Prod.fst).getD (-9)) T (k % 400)).map (fun z => (z.2, jRk (fun q => ((jStg M E n q).map Prod.snd).getD 0) 0 z.1)) := rfl
theorem jStg_some {M : Int} {E : Nat → Option (List Int)} {n k : Nat} {z : Int × Int} (h : jStg M E (n + 1) k = some z) : ∃ T nd x, E (k / 400) = some T ∧ jEv M (fun q => ((jStg M E n q).map Prod.fst).getD (-9)) T (k % 400) = some (nd, x) ∧ z = (x, jRk (fun q => ((jStg M E n q).map Prod.snd).getD 0) 0 nd) := by
  rw [jStg_succ] at h
  cases e : E (k / 400) with
  | none => rw [e] at h; cases h
  | some T =>
    rw [e] at h
    simp only at h
    cases e2 : jEv M (fun q => ((jStg M E n q).map Prod.fst).getD (-9)) T (k % 400) with
    | none => rw [e2] at h; cases h
    | some w =>
      rw [e2] at h
      cases h
      exact ⟨T, w.1, w.2, rfl, e2, rfl⟩
theorem jStg_v {M : Int} {E : Nat → Option (List Int)} {n q : Nat} (h : ((jStg M E n q).map Prod.fst).getD (-9) ≠ -9) : ∃ z, jStg M E n q = some z := by
  cases e : jStg M E n q with
  | none => rw [e] at h; exact absurd rfl h
  | some z => exact ⟨z, rfl⟩
/-- the values w and ranks ρ that are known give what a stage gives -/
theorem jStg_of {M : Int} {E : Nat → Option (List Int)} {n k : Nat} {w ρ : Nat → Int} {z : Int × Int} (h : jStg M E (n + 1) k = some z) (hw : ∀ q u, q < 3200 → jStg M E n q = some u → w q = u.1 ∧ ρ q = u.2) : ∃ T nd, E (k / 400) = some T ∧ jEv M w T (k % 400) = some (nd, z.1) ∧ z.2 = jRk ρ 0 nd := by
  obtain ⟨T, nd, x, e1, e2, rfl⟩ := jStg_some h
  obtain ⟨e3, e4⟩ := jEv_more (w := w) e2 (fun q hq hv => by
    obtain ⟨u, hu⟩ := jStg_v hv
    rw [(hw q u hq hu).1, hu]
    rfl)
  refine ⟨T, nd, e1, e3, ?_⟩
  apply jRk_congr
  intro q hq
  obtain ⟨e5, e6⟩ := e4 q hq
  obtain ⟨u, hu⟩ := jStg_v e5
  rw [(hw q u e6 hu).2, hu]
  rfl
theorem jStg_mk {M : Int} {E : Nat → Option (List Int)} {n k : Nat} {w ρ : Nat → Int} {T : List Int} {nd : List Nat} {x : Int} (hE : E (k / 400) = some T) (h : jEv M w T (k % 400) = some (nd, x)) (hw : ∀ q ∈ nd, jStg M E n q = some (w q, ρ q)) : jStg M E (n + 1) k = some (x, jRk ρ 0 nd) := by
  have hn : jN T (k % 400) = some nd ∧ (∀ q ∈ nd, w q ≠ -9) ∧ x = jV M w T (k % 400) := by
    unfold jEv at h
    cases e : jN T (k % 400) with
    | none => rw [e] at h; cases h
    | some l =>
      rw [e] at h
      simp only at h
      split at h
      · rename_i ha
        cases h
        exact ⟨rfl, fun q hq => of_decide_eq_true (List.all_eq_true.mp ha q hq), rfl⟩
      · cases h
  obtain ⟨n1, n2, n3⟩ := hn
  have hv : ∀ q ∈ nd, ((jStg M E n q).map Prod.fst).getD (-9) = w q := fun q hq => by rw [hw q hq]; rfl
  have he : jEv M (fun q => ((jStg M E n q).map Prod.fst).getD (-9)) T (k % 400) = some (nd, x) := by
    unfold jEv
    rw [n1]
    simp only
    rw [if_pos (List.all_eq_true.mpr fun q hq => decide_eq_true (by rw [hv q hq]; exact n2 q hq)), jV_congr M _ w T.length T _ nd (Nat.le_refl _) n1 hv, n3]
  rw [jStg_succ, hE]
  simp only
  rw [he]
  show some (x, jRk _ 0 nd) = _
  rw [jRk_congr (ρ' := ρ) nd 0 (fun q hq => by rw [hw q hq]; rfl)]
theorem jStg_mono {M : Int} {E : Nat → Option (List Int)} : ∀ (n k : Nat) (z : Int × Int), jStg M E n k = some z → jStg M E (n + 1) k = some z
  | 0, k, z, h => by cases h
  | n + 1, k, z, h => by
    obtain ⟨T, nd, x, e1, e2, rfl⟩ := jStg_some h
    have e3 := jEv_more (w := fun q => ((jStg M E n q).map Prod.fst).getD (-9)) e2 (fun _ _ _ => rfl)
    refine (jStg_mk (n := n + 1) (w := fun q => ((jStg M E n q).map Prod.fst).getD (-9)) (ρ := fun q => ((jStg M E n q).map Prod.snd).getD 0) e1 e2 (fun q hq => ?_))
    obtain ⟨u, hu⟩ := jStg_v (e3.2 q hq).1
    rw [jStg_mono n q u hu, hu]
    rfl
theorem jStg_le {M : Int} {E : Nat → Option (List Int)} {n m k : Nat} {z : Int × Int} (h : jStg M E n k = some z) (hm : n ≤ m) : jStg M E m k = some z := by
  induction m with
  | zero => rw [show n = 0 by omega] at h; exact h
  | succ m ih =>
    by_cases e : n = m + 1
    · rw [← e]; exact h
    · exact jStg_mono m k z (ih (by omega))
theorem jStg_uniq {M : Int} {E : Nat → Option (List Int)} {n m k : Nat} {z y : Int × Int} (h : jStg M E n k = some z) (h2 : jStg M E m k = some y) : z = y := by
  have a := jStg_le h (Nat.le_max_left n m)
  have b := jStg_le h2 (Nat.le_max_right n m)
  exact Option.some.inj (a.symm.trans b)
/-- a common stage for a list -/
theorem jStg_all {M : Int} {E : Nat → Option (List Int)} {w ρ : Nat → Int} : ∀ (l : List Nat), (∀ q ∈ l, ∃ n, jStg M E n q = some (w q, ρ q)) → ∃ n, ∀ q ∈ l, jStg M E n q = some (w q, ρ q)
  | [], _ => ⟨0, fun q hq => by cases hq⟩
  | q :: l, h => by
    obtain ⟨n, hn⟩ := jStg_all l (fun x hx => h x (List.mem_cons_of_mem _ hx))
    obtain ⟨m, hm⟩ := h q List.mem_cons_self
    refine ⟨max n m, fun x hx => ?_⟩
    rcases List.mem_cons.mp hx with rfl | hx
    · exact jStg_le hm (Nat.le_max_right _ _)
    · exact jStg_le (hn x hx) (Nat.le_max_left _ _)
/-- nothing more can be computed: then all stages are there -/
theorem jStg_full {M : Int} {E : Nat → Option (List Int)} {w ρ : Nat → Int} (hE : ∀ a, 8 ≤ a → E a = none) (hA : ∀ k, k < 3200 → w k ≠ -9 → ∃ n, jStg M E n k = some (w k, ρ k)) (hB : ∀ k T, k < 3200 → w k = -9 → E (k / 400) = some T → jEv M w T (k % 400) = none) : ∀ (n k : Nat) (z : Int × Int), k < 3200 → jStg M E n k = some z → w k = z.1 ∧ ρ k = z.2
  | 0, k, z, _, h => by cases h
  | n + 1, k, z, hk, h => by
    obtain ⟨T, nd, e1, e2, e3⟩ := jStg_of (w := w) (ρ := ρ) h (fun q u hq hu => jStg_full hE hA hB n q u hq hu)
    by_cases h9 : w k = -9
    · rw [hB k T hk h9 e1] at e2
      cases e2
    · obtain ⟨m, hm⟩ := hA k hk h9
      have := jStg_uniq hm h
      rw [← this]
      exact ⟨rfl, rfl⟩
section MODEL17
variable {l : Launch} {G : sjG} {σ : sjS} {I : sjI}
theorem cm_find {o k : Nat} {M : Int} {T : List Int} (hS : mSh σ o) (hW : mW (I (o + 1))) (hk : k < 3200) (hM : I (o + 1) 0 = M) (hM2 : 2 ≤ M ∧ M ≤ 10) (hT : 0 < I (o + 1) (1 + 250 * (k / 400)) → mB (I (o + 1)) (k / 400) = jEnc T ∧ jOk 1 T ∧ T.length ≤ 120) (hv : ∀ k, k < 3200 → I (o + 8) k = -9 ∨ (0 ≤ I (o + 8) k ∧ I (o + 8) k < M)) (hr : ∀ k, k < 3200 → 0 ≤ I (o + 9) k ∧ I (o + 9) k < 1000000) : sj_Con l yX10_find mX10_find G σ I [.ref o, .int (zI k)] (fun r σ' I' => σ = σ' ∧ ((r = some (.int (zI 0)) ∧ mCp o I I' ∧ (I (o + 8) k ≠ -9 ∨ ¬ 0 < I (o + 1) (1 + 250 * (k / 400)) ∨ jEv M (I (o + 8)) T (k % 400) = none)) ∨ ∃ (nd : List Nat) (x : Int), I (o + 8) k = -9 ∧ 0 < I (o + 1) (1 + 250 * (k / 400)) ∧ jEv M (I (o + 8)) T (k % 400) = some (nd, x) ∧ (0 ≤ x ∧ x < M) ∧ r = some (.int (zI 1)) ∧ mCp o (sj_up (sj_up I (o + 8) k x) (o + 9) k (jRk (I (o + 9)) 0 nd)) I')) := by
  obtain ⟨h_o, h_w, h_past, h_images, h_text, h_read, h_made, h_old, h_values, h_ranks, h_operator, h_indexAt, h_second, h_first, h_needed, h_shifts, h_around, h_best, h_isNeeded, h_toSee, h_held, h_there⟩ := id hS
  refine sj_con_of (L0 := [some (.ref o), some (.int (zI k)), none, none, none]) (by decide) rfl rfl rfl (Nat.le_of_ble_eq_true rfl) rfl (fun Γ => ?_)
  have hvk := hv k hk
  have lp : ∀ (nd : List Nat) (x : Int) (J : sjI), I (o + 8) k = -9 → 0 < I (o + 1) (1 + 250 * (k / 400)) → jEv M (I (o + 8)) T (k % 400) = some (nd, x) → (0 ≤ x ∧ x < M) → mCp o I J → mAcc o J nd → nd.length ≤ 120 → (∀ q ∈ nd, q < 3200) → ∀ (rest pre : List Nat) (rk : Int), pre ++ rest = nd → (0 ≤ rk ∧ rk ≤ 1000000) → jRk (I (o + 9)) rk rest = jRk (I (o + 9)) 0 nd → sj_V l Γ mX10_find G (fun r σ' I' => σ = σ' ∧ ((r = some (.int (zI 0)) ∧ mCp o I I' ∧ (I (o + 8) k ≠ -9 ∨ ¬ 0 < I (o + 1) (1 + 250 * (k / 400)) ∨ jEv M (I (o + 8)) T (k % 400) = none)) ∨ ∃ (nd : List Nat) (x : Int), I (o + 8) k = -9 ∧ 0 < I (o + 1) (1 + 250 * (k / 400)) ∧ jEv M (I (o + 8)) T (k % 400) = some (nd, x) ∧ (0 ≤ x ∧ x < M) ∧ r = some (.int (zI 1)) ∧ mCp o (sj_up (sj_up I (o + 8) k x) (o + 9) k (jRk (I (o + 9)) 0 nd)) I')) σ J 0 0 41 [some (.ref o), some (.int (zI k)), some (.int (zI x)), some (.int (zI rk)), some (.int (zI (pre.length : Nat)))] [] := by
    intro nd x J h9 hpos hev hx hcp hacc hl hlt rest
    have hj9 : J (o + 9) = I (o + 9) := hcp.1 (o + 9) (by omega) (by omega)
    induction rest with
    | nil =>
      intro pre rk hpre hrk hj
      rw [List.append_nil] at hpre
      subst hpre
      refine sj_ild4 dX10_find_41 ?_
      refine sj_ald0 dX10_find_43 ?_
      refine sj_getI fl_X10_178 (by assumption) rfl dX10_find_44 ?_
      rw [hacc.1]
      refine sj_icmp_ge 93 dX10_find_47 (by decide) (by omega) (by omega) (fun c_47 => ?_) (fun c_47 => ?_)
      rotate_left
      · exact absurd (by omega) c_47
      refine sj_ald0 dX10_find_93 ?_
      refine sj_getR fl_X10_31 (by assumption) rfl (mr_13 _) dX10_find_94 ?_
      refine sj_ild1 dX10_find_97 ?_
      refine sj_ild2 dX10_find_98 ?_
      refine sj_iastJ (k) (by assumption) (by omega) (by omega) (by omega) dX10_find_99 ?_
      refine sj_ald0 dX10_find_100 ?_
      refine sj_getR fl_X10_34 (by assumption) rfl (mr_14 _) dX10_find_101 ?_
      refine sj_ild1 dX10_find_104 ?_
      refine sj_ild3 dX10_find_105 ?_
      refine sj_iastJ (k) (by assumption) (by omega) (by omega) (by omega) dX10_find_106 ?_
      refine sj_iconst dX10_find_107 ?_
      exact sj_iret dX10_find_108 rfl (by decide) (Nat.le_of_ble_eq_true rfl) (Nat.le_of_ble_eq_true rfl) ⟨rfl, Or.inr ⟨pre, x, h9, hpos, hev, hx, rfl, by
        rw [← hj]
        refine ⟨fun a e1 e2 => ?_, fun j e1 e2 e3 => by rw [sj_up_ne (by omega), sj_up_ne (by omega), sj_up_ne (by omega), sj_up_ne (by omega)]; exact hcp.2 j e1 e2 e3⟩
        funext j
        simp only [sj_up]
        rw [hcp.1 a e1 e2]
        rfl⟩⟩
    | cons q rest ih =>
      intro pre rk hpre hrk hj
      have hq : q ∈ nd := by rw [← hpre]; exact List.mem_append_right _ List.mem_cons_self
      have hq2 := hlt q hq
      have hrq := hr q hq2
      have hlen : pre.length + (rest.length + 1) = nd.length := by rw [← hpre, List.length_append, List.length_cons]
      have hnq : J (o + 14) pre.length = (q : Int) := by
        have h1 := lst_at hacc.2 (j := pre.length) (by omega)
        rw [Nat.zero_add, ← hpre, List.map_append, List.getElem?_append_right (by simp)] at h1
        simpa using h1.symm
      have hj : jRk (I (o + 9)) (max rk (I (o + 9) q + 1)) rest = jRk (I (o + 9)) 0 nd := hj
      have hn := ih (pre ++ [q]) (max rk (I (o + 9) q + 1)) (by rw [List.append_assoc]; exact hpre) (by omega) hj
      rw [List.length_append] at hn
      refine sj_ild4 dX10_find_41 ?_
      refine sj_ald0 dX10_find_43 ?_
      refine sj_getI fl_X10_178 (by assumption) rfl dX10_find_44 ?_
      rw [hacc.1]
      refine sj_icmp_ge 93 dX10_find_47 (by decide) (by omega) (by omega) (fun c_47 => ?_) (fun c_47 => ?_)
      · exact absurd c_47 (by omega)
      refine sj_ald0 dX10_find_50 ?_
      refine sj_getR fl_X10_34 (by assumption) rfl (mr_14 _) dX10_find_51 ?_
      refine sj_ald0 dX10_find_54 ?_
      refine sj_getR fl_X10_49 (by assumption) rfl (mr_20 _) dX10_find_55 ?_
      refine sj_ild4 dX10_find_58 ?_
      refine sj_ialdJ (pre.length) (by assumption) (by omega) (by omega) (by omega) dX10_find_60 ?_
      rw [hnq]
      refine sj_ialdJ (q) (by assumption) (by omega) (by omega) (by omega) dX10_find_61 ?_
      rw [hj9]
      refine sj_iconst dX10_find_62 ?_
      refine sj_iadd dX10_find_63 ?_
      refine sj_ild3 dX10_find_64 ?_
      refine sj_icmp_le 85 dX10_find_65 (by decide) (by omega) (by omega) (fun c_65 => ?_) (fun c_65 => ?_)
      · refine sj_ild3 dX10_find_85 ?_
        refine sj_ist3 (by decide) rfl dX10_find_86 ?_
        refine sj_inc4 (by decide) rfl dX10_find_87 ?_
        refine sj_goto 41 dX10_find_90 (by decide) ?_
        first
        | (rw [show max rk (I (o + 9) q + 1) = rk by omega] at hn; exact hn)
        | (rw [show max rk (I (o + 9) q + 1) = I (o + 9) q + 1 by omega] at hn; exact hn)
      · refine sj_ald0 dX10_find_68 ?_
        refine sj_getR fl_X10_34 (by assumption) rfl (mr_14 _) dX10_find_69 ?_
        refine sj_ald0 dX10_find_72 ?_
        refine sj_getR fl_X10_49 (by assumption) rfl (mr_20 _) dX10_find_73 ?_
        refine sj_ild4 dX10_find_76 ?_
        refine sj_ialdJ (pre.length) (by assumption) (by omega) (by omega) (by omega) dX10_find_78 ?_
        rw [hnq]
        refine sj_ialdJ (q) (by assumption) (by omega) (by omega) (by omega) dX10_find_79 ?_
        rw [hj9]
        refine sj_iconst dX10_find_80 ?_
        refine sj_iadd dX10_find_81 ?_
        refine sj_goto 86 dX10_find_82 (by decide) ?_
        refine sj_ist3 (by decide) rfl dX10_find_86 ?_
        refine sj_inc4 (by decide) rfl dX10_find_87 ?_
        refine sj_goto 41 dX10_find_90 (by decide) ?_
        first
        | (rw [show max rk (I (o + 9) q + 1) = rk by omega] at hn; exact hn)
        | (rw [show max rk (I (o + 9) q + 1) = I (o + 9) q + 1 by omega] at hn; exact hn)
  have k0 : ∀ (J : sjI), mCp o I J → (I (o + 8) k ≠ -9 ∨ ¬ 0 < I (o + 1) (1 + 250 * (k / 400)) ∨ jEv M (I (o + 8)) T (k % 400) = none) → sj_V l Γ mX10_find G (fun r σ' I' => σ = σ' ∧ ((r = some (.int (zI 0)) ∧ mCp o I I' ∧ (I (o + 8) k ≠ -9 ∨ ¬ 0 < I (o + 1) (1 + 250 * (k / 400)) ∨ jEv M (I (o + 8)) T (k % 400) = none)) ∨ ∃ (nd : List Nat) (x : Int), I (o + 8) k = -9 ∧ 0 < I (o + 1) (1 + 250 * (k / 400)) ∧ jEv M (I (o + 8)) T (k % 400) = some (nd, x) ∧ (0 ≤ x ∧ x < M) ∧ r = some (.int (zI 1)) ∧ mCp o (sj_up (sj_up I (o + 8) k x) (o + 9) k (jRk (I (o + 9)) 0 nd)) I')) σ J 0 0 27 [some (.ref o), some (.int (zI k)), none, none, none] [.int (zI (-9))] := by
    intro J hcp h
    refine sj_ist2 (by decide) rfl dX10_find_27 ?_
    refine sj_ild2 dX10_find_28 ?_
    refine sj_bipush dX10_find_29 (by decide) ?_
    refine sj_icmp_ne 36 dX10_find_31 (by decide) (by omega) (by omega) (fun c_31 => ?_) (fun c_31 => ?_)
    · exact absurd rfl c_31
    refine sj_iconst dX10_find_34 ?_
    exact sj_iret dX10_find_35 rfl (by decide) (Nat.le_of_ble_eq_true rfl) (Nat.le_of_ble_eq_true rfl) ⟨rfl, Or.inl ⟨rfl, hcp, h⟩⟩
  have k1 : ∀ (J : sjI) (nd : List Nat) (x : Int), mCp o I J → 0 < I (o + 1) (1 + 250 * (k / 400)) → jEv M (I (o + 8)) T (k % 400) = some (nd, x) → (0 ≤ x ∧ x < M) → mAcc o J nd → nd.length ≤ 120 → I (o + 8) k = -9 → sj_V l Γ mX10_find G (fun r σ' I' => σ = σ' ∧ ((r = some (.int (zI 0)) ∧ mCp o I I' ∧ (I (o + 8) k ≠ -9 ∨ ¬ 0 < I (o + 1) (1 + 250 * (k / 400)) ∨ jEv M (I (o + 8)) T (k % 400) = none)) ∨ ∃ (nd : List Nat) (x : Int), I (o + 8) k = -9 ∧ 0 < I (o + 1) (1 + 250 * (k / 400)) ∧ jEv M (I (o + 8)) T (k % 400) = some (nd, x) ∧ (0 ≤ x ∧ x < M) ∧ r = some (.int (zI 1)) ∧ mCp o (sj_up (sj_up I (o + 8) k x) (o + 9) k (jRk (I (o + 9)) 0 nd)) I')) σ J 0 0 27 [some (.ref o), some (.int (zI k)), none, none, none] [.int (zI x)] := by
    intro J nd x hcp h1 h2 h3 h4 h5 h6
    have hlt : ∀ q ∈ nd, q < 3200 := by
      unfold jEv at h2
      cases e : jN T (k % 400) with
      | none => rw [e] at h2; cases h2
      | some l =>
        rw [e] at h2
        simp only at h2
        split at h2
        · cases h2; exact jN_lt T.length T _ _ (Nat.le_refl _) e
        · cases h2
    refine sj_ist2 (by decide) rfl dX10_find_27 ?_
    refine sj_ild2 dX10_find_28 ?_
    refine sj_bipush dX10_find_29 (by decide) ?_
    refine sj_icmp_ne 36 dX10_find_31 (by decide) (by omega) (by omega) (fun c_31 => ?_) (fun c_31 => ?_)
    rotate_left
    · exact absurd (by omega) c_31
    refine sj_iconst dX10_find_36 ?_
    refine sj_ist3 (by decide) rfl dX10_find_37 ?_
    refine sj_iconst dX10_find_38 ?_
    refine sj_ist4 (by decide) rfl dX10_find_39 ?_
    exact lp nd x J h6 h1 h2 h3 hcp h4 h5 hlt nd [] 0 rfl (by omega) rfl
  refine sj_ald0 dX10_find_0 ?_
  refine sj_getR fl_X10_31 (by assumption) rfl (mr_13 _) dX10_find_1 ?_
  refine sj_ild1 dX10_find_4 ?_
  refine sj_ialdJ (k) (by assumption) (by omega) (by omega) (by omega) dX10_find_5 ?_
  refine sj_bipush dX10_find_6 (by decide) ?_
  refine sj_icmp_eq 13 dX10_find_8 (by decide) (by omega) (by omega) (fun c_8 => ?_) (fun c_8 => ?_)
  · refine sj_ald0 dX10_find_13 ?_
    refine sj_ild1 dX10_find_14 ?_
    refine sj_sipush dX10_find_15 (by decide) ?_
    refine sj_idiv dX10_find_18 (by omega) (by omega) ?_
    refine sj_ild1 dX10_find_19 ?_
    refine sj_sipush dX10_find_20 (by decide) ?_
    refine sj_irem dX10_find_23 (by omega) (by omega) ?_
    rw [show (k : Int) / 400 = ((k / 400 : Nat) : Int) by omega, show (k : Int) % 400 = ((k % 400 : Nat) : Int) by omega]
    refine sj_callV (cm_compute hS hW (by omega) (by omega) hM hM2 hT hv) kc_X10_184 (by assumption) rfl rfl rfl rfl (Nat.le_of_ble_eq_true rfl) dX10_find_24 (fun r_24 σ_24 I_24 hp_24 => ?_)
    obtain ⟨rfl, hcp, hcase⟩ := hp_24
    rcases hcase with ⟨n1, rfl⟩ | ⟨n1, ⟨n2, rfl⟩ | ⟨nd, x, n2, n3, rfl, n4, n5⟩⟩
    · exact k0 _ hcp (Or.inr (Or.inl n1))
    · exact k0 _ hcp (Or.inr (Or.inr n2))
    · exact k1 _ nd x hcp n1 n2 n3 n4 n5 (by omega)
    skip
  · refine sj_iconst dX10_find_11 ?_
    exact sj_iret dX10_find_12 rfl (by decide) (Nat.le_of_ble_eq_true rfl) (Nat.le_of_ble_eq_true rfl) ⟨rfl, Or.inl ⟨rfl, ⟨fun _ _ _ => rfl, fun _ _ _ _ => rfl⟩, Or.inl (by omega)⟩⟩
end MODEL17
