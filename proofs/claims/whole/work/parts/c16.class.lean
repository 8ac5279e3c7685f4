theorem ne_kind {σ : sjS} {a b κ κ' : Nat} {x y : Nat × (Nat → Option Nat)} (h : σ.2 a = some (κ, x)) (h' : σ.2 b = some (κ', y)) (hk : κ ≠ κ') : a ≠ b := by
  intro e
  rw [e, h'] at h
  cases h
  exact hk rfl
theorem tm.offV {σ : sjS} {I : sjI} {t v e w : Nat} {T : List Int} (h : tm σ I t T) (hS : vSh σ v e w) (hW : wSh σ w) : (t + 3 < v ∨ v < t) ∧ (t + 3 < vCl v w ∨ vCl v w < t) := by
  obtain ⟨⟨t0, t1, t2, t3⟩, _⟩ := h
  obtain ⟨w0, w1, w2, w3, w4⟩ := hW
  have a0 := ne_kind hS.1 t0 (by decide)
  have a1 := ne_kind hS.1 t1 (by decide)
  have a2 := ne_kind hS.1 t2 (by decide)
  have a3 := ne_kind hS.1 t3 (by decide)
  have b0 := ne_kind hS.2 t0 (by decide)
  have b1 := ne_kind w1 t0 (by decide)
  have b2 := ne_kind w2 t0 (by decide)
  have b3 := ne_kind w3 t0 (by decide)
  have b4 := ne_kind w4 t0 (by decide)
  have hc := vCl_cs v w
  omega
/-- rows of the workspace and cells are apart -/
theorem vSh.off {σ : sjS} {v e w : Nat} (hS : vSh σ v e w) (hW : wSh σ w) : (v < w ∨ w + 4 < v) ∧ (vCl v w < w ∨ w + 4 < vCl v w) ∧ vCl v w ≠ v := by
  obtain ⟨w0, w1, w2, w3, w4⟩ := hW
  have a0 := ne_kind hS.1 w0 (by decide)
  have a1 := ne_kind hS.1 w1 (by decide)
  have a2 := ne_kind hS.1 w2 (by decide)
  have a3 := ne_kind hS.1 w3 (by decide)
  have a4 := ne_kind hS.1 w4 (by decide)
  have a5 := ne_kind hS.2 w0 (by decide)
  have hc := vCl_cs v w
  omega
theorem te.keep {σ σ' : sjS} {I I' : sjI} {τ : Nat → Option Nat} {E : Nat → Option (List Int)} (h : te σ I τ E) (hk : ∀ t T, tm σ I t T → tm σ' I' t T) : te σ' I' τ E :=
  ⟨h.1, fun a ha => by
    rcases h.2 a ha with e | ⟨t, T, e1, e2, e3⟩
    · exact Or.inl e
    · exact Or.inr ⟨t, T, e1, e2, hk t T e3⟩⟩
theorem jMs_in : ∀ {L : List Int} {p : Nat}, p < L.length → (65 ≤ L.getD p 0 ∧ L.getD p 0 ≤ 72) → p ∈ jMs L 0 := by
  have gen : ∀ (L : List Int) (a p : Nat), p < L.length → (65 ≤ L.getD p 0 ∧ L.getD p 0 ≤ 72) → a + p ∈ jMs L a := by
    intro L
    induction L with
    | nil => intro a p h; exact absurd h (by simp)
    | cons c L ih =>
      intro a p h hc
      simp only [jMs]
      cases p with
      | zero =>
        have hc2 : 65 ≤ c ∧ c ≤ 72 := hc
        rw [if_pos hc2]
        exact List.mem_cons_self
      | succ p =>
        have hm := ih (a + 1) p (by simpa using h) hc
        rw [show a + 1 + p = a + (p + 1) by omega] at hm
        split
        · exact List.mem_cons_of_mem _ hm
        · exact hm
  intro L p h hc
  have := gen L 0 p h hc
  rw [Nat.zero_add] at this
  exact this
section VALUES2
variable {l : Launch} {G : sjG} {σ : sjS} {I : sjI}
theorem cx7_settle {v e w k : Nat} {M : Int} {τ : Nat → Option Nat} {E : Nat → Option (List Int)} (hS : vSh σ v e w) (hW : wSh σ w) (he : eqn σ I e M τ) (ht : te σ I τ E) (hM : 2 ≤ M ∧ M ≤ 10) (hk : k < 3200) (hP : cP M E (I (vCl v w))) (hop : ∀ q, q < 3200 → I (vCl v w) q = 1 → jNeed M E k q → ¬ jKn M E k) : sj_Con l yX7_settle mX7_settle G σ I [.ref v, .int (zI k)] (fun r σ' I' => σ = σ' ∧ (∀ q, q ≠ w + 1 → q ≠ w + 2 → q ≠ vCl v w → I' q = I q) ∧ ((r = some (.int (zI (-1))) ∧ ∃ x, (∀ j, I' (vCl v w) j = if j = k then x else I (vCl v w) j) ∧ ((x = 2 ∧ ¬ jKn M E k) ∨ ∃ n z, jStg M E n k = some z ∧ x = 16 * (z.2 + 1) + z.1)) ∨ ∃ q, q < 3200 ∧ r = some (.int (zI (q : Nat))) ∧ I (vCl v w) q = 0 ∧ I' (vCl v w) = I (vCl v w) ∧ jNeed M E k q)) := by
  obtain ⟨s0, s1⟩ := id hS
  obtain ⟨w0, w1, w2, w3, w4⟩ := id hW
  obtain ⟨e0, e1, e2⟩ := id he
  have hvw := hS.off hW
  have new1 := ne_kind e0 w1 (by decide)
  have new2 := ne_kind e0 w2 (by decide)
  have nev := ne_kind e0 s1 (by decide)
  have hk4 : k / 400 < 8 := by omega
  have hdiv : ((k : Int) / 400) = ((k / 400 : Nat) : Int) := by omega
  have hrem : ((k : Int) % 400) = ((k % 400 : Nat) : Int) := by omega
  refine sj_con_of (L0 := [some (.ref v), some (.int (zI k)), none, none, none, none, none, none, none]) (by decide) rfl rfl rfl (Nat.le_of_ble_eq_true rfl) rfl (fun Γ => ?_)
  have st34 : ∀ (J : sjI) (l2 : Option Value), (∀ q, q ≠ w + 1 → q ≠ w + 2 → q ≠ vCl v w → J q = I q) → J (vCl v w) = I (vCl v w) → ¬ jKn M E k → sj_V l Γ mX7_settle G (fun r σ' I' => σ = σ' ∧ (∀ q, q ≠ w + 1 → q ≠ w + 2 → q ≠ vCl v w → I' q = I q) ∧ ((r = some (.int (zI (-1))) ∧ ∃ x, (∀ j, I' (vCl v w) j = if j = k then x else I (vCl v w) j) ∧ ((x = 2 ∧ ¬ jKn M E k) ∨ ∃ n z, jStg M E n k = some z ∧ x = 16 * (z.2 + 1) + z.1)) ∨ ∃ q, q < 3200 ∧ r = some (.int (zI (q : Nat))) ∧ I (vCl v w) q = 0 ∧ I' (vCl v w) = I (vCl v w) ∧ jNeed M E k q)) σ J 0 0 34 [some (.ref v), some (.int (zI k)), l2, none, none, none, none, none, none] [] := by
    intro J l2 hJ hJv hno
    refine sj_ald0 dX7_settle_34 ?_
    refine sj_getR fl_X7_9 (by assumption) rfl (vR_2 _ _ _) dX7_settle_35 ?_
    refine sj_ild1 dX7_settle_38 ?_
    refine sj_iconst dX7_settle_39 ?_
    refine sj_iastJ (k) (by assumption) (by omega) (by omega) (by omega) dX7_settle_40 ?_
    refine sj_iconst dX7_settle_41 ?_
    exact sj_iret dX7_settle_42 rfl rfl (Nat.le_of_ble_eq_true rfl) (Nat.le_of_ble_eq_true rfl) ⟨rfl, fun q q1 q2 q3 => by rw [sj_up_row q3]; exact hJ q q1 q2 q3, Or.inl ⟨rfl, 2, fun j => by
      by_cases e : j = k
      · rw [if_pos e, e, sj_up_self]
      · rw [if_neg e, sj_up_ne (by omega), hJv], Or.inl ⟨rfl, hno⟩⟩⟩
  have hun : ∀ T, E (k / 400) = some T → jN T (k % 400) = none → ¬ jKn M E k := fun T hE hN => by
    rintro ⟨n, z, hz⟩
    cases n with
    | zero => cases hz
    | succ n =>
      obtain ⟨nd, h1, _⟩ := jKn_nd hE ⟨z, hz⟩
      rw [hN] at h1
      cases h1
  rcases ht.2 (k / 400) hk4 with ⟨hv, hE⟩ | ⟨t, T, hv, hE, htm⟩
  · refine sj_ald0 dX7_settle_0 ?_
    refine sj_getR fl_X7_15 (by assumption) rfl (vR_0 _ _ _) dX7_settle_1 ?_
    refine sj_getR fl_X7_49 (by assumption) rfl (eR_1 _) dX7_settle_4 ?_
    refine sj_ild1 dX7_settle_7 ?_
    refine sj_sipush dX7_settle_8 (by decide) ?_
    refine sj_idiv dX7_settle_11 (by omega) (by omega) ?_
    rw [hdiv]
    refine sj_aaldN rfl (by assumption) (by omega) (by decide) hv dX7_settle_12 ?_
    refine sj_astN2 (by decide) rfl dX7_settle_13 ?_
    refine sj_aldN2 dX7_settle_14 ?_
    refine sj_ifnullN 34 dX7_settle_15 (by decide) ?_
    exact st34 I _ (fun _ _ _ _ => rfl) rfl (by
      rintro ⟨n, z, hz⟩
      cases n with
      | zero => cases hz
      | succ n => obtain ⟨T, _, _, q1, _⟩ := jStg_some hz; rw [hE] at q1; cases q1)
  · have hoW := htm.offW hW
    have hoV := htm.offV hS hW
    have hok := htm.2.2.2.2.2.1
    have hn := htm.2.2.2.2.2.2
    have t0 := htm.1.1
    have t3 := htm.1.2.2.2
    have hml := jMs_len T 0
    obtain ⟨Gx, hGx⟩ : ∃ Gx, jGx chI T [((k % 400 : Nat) : Int)] = Gx := ⟨_, rfl⟩
    have hgl : Gx.length = T.length := by rw [← hGx]; exact jGx_len chI_len T _ hok
    have hge : ∀ x ∈ Gx, -1 ≤ x := by rw [← hGx]; exact jGx_ge T _ (fun s hs => by rw [List.mem_singleton.mp hs]; omega)
    have gmem : ∀ p, p < T.length → Gx.getD p 0 ∈ Gx := fun p hp => by
      rw [List.getD_eq_getElem?_getD, List.getElem?_eq_getElem (by rw [hgl]; exact hp)]
      exact List.getElem_mem _
    have hcz : jN T (k % 400) = jCz T Gx := by rw [← hGx]; exact jN_cz hok
    have main : ∀ J : sjI, (∀ q, q ≠ w + 1 → J q = I q) → (∀ s ∈ Gx, s ≤ 1000000000) → (∀ p, p < T.length → J (w + 1) p = Gx.getD p 0) → sj_V l Γ mX7_settle G (fun r σ' I' => σ = σ' ∧ (∀ q, q ≠ w + 1 → q ≠ w + 2 → q ≠ vCl v w → I' q = I q) ∧ ((r = some (.int (zI (-1))) ∧ ∃ x, (∀ j, I' (vCl v w) j = if j = k then x else I (vCl v w) j) ∧ ((x = 2 ∧ ¬ jKn M E k) ∨ ∃ n z, jStg M E n k = some z ∧ x = 16 * (z.2 + 1) + z.1)) ∨ ∃ q, q < 3200 ∧ r = some (.int (zI (q : Nat))) ∧ I (vCl v w) q = 0 ∧ I' (vCl v w) = I (vCl v w) ∧ jNeed M E k q)) σ J 0 0 43 [some (.ref v), some (.int (zI k)), some (.ref t), none, none, none, none, none, none] [] := by
      intro J hJ hle hix
      have hJv : J (vCl v w) = I (vCl v w) := hJ (vCl v w) (by omega)
      have htJ : tm σ J t T := htm.keep (fun q q1 q2 => ⟨rfl, hJ q (by omega)⟩)
      have hcl : jN T (k % 400) = jCl (jZl T Gx) := by rw [hcz]; exact jCz_cl T Gx hgl.symm hle
      have hcl' : jN T (k % 400) = jCl (jZl T (jGx chI T [((k % 400 : Nat) : Int)])) := by rw [hGx]; exact hcl
      have st132 : ∀ (l3 l7 l8 l6 : Option Value), ¬ jKn M E k → sj_V l Γ mX7_settle G (fun r σ' I' => σ = σ' ∧ (∀ q, q ≠ w + 1 → q ≠ w + 2 → q ≠ vCl v w → I' q = I q) ∧ ((r = some (.int (zI (-1))) ∧ ∃ x, (∀ j, I' (vCl v w) j = if j = k then x else I (vCl v w) j) ∧ ((x = 2 ∧ ¬ jKn M E k) ∨ ∃ n z, jStg M E n k = some z ∧ x = 16 * (z.2 + 1) + z.1)) ∨ ∃ q, q < 3200 ∧ r = some (.int (zI (q : Nat))) ∧ I (vCl v w) q = 0 ∧ I' (vCl v w) = I (vCl v w) ∧ jNeed M E k q)) σ J 0 0 132 [some (.ref v), some (.int (zI k)), some (.ref t), l3, some (.ref (t + 3)), some (.int (zI (jMs T 0).length)), l6, l7, l8] [] := by
        intro l3 l7 l8 l6 hno
        refine sj_ald0 dX7_settle_132 ?_
        refine sj_getR fl_X7_9 (by assumption) rfl (vR_2 _ _ _) dX7_settle_133 ?_
        refine sj_ild1 dX7_settle_136 ?_
        refine sj_iconst dX7_settle_137 ?_
        refine sj_iastJ (k) (by assumption) (by omega) (by omega) (by omega) dX7_settle_138 ?_
        refine sj_iconst dX7_settle_139 ?_
        exact sj_iret dX7_settle_140 rfl rfl (Nat.le_of_ble_eq_true rfl) (Nat.le_of_ble_eq_true rfl) ⟨rfl, fun q q1 q2 q3 => by rw [sj_up_row q3]; exact hJ q q1, Or.inl ⟨rfl, 2, fun j => by
          by_cases e : j = k
          · rw [if_pos e, e, sj_up_self]
          · rw [if_neg e, sj_up_ne (by omega), hJv], Or.inl ⟨rfl, hno⟩⟩⟩
      have lp : ∀ (d j : Nat) (nd : List Nat), j + d = (jMs T 0).length → jCl ((jZl T Gx).take j) = some nd → (∀ q ∈ nd, q < 3200 ∧ cK M E (I (vCl v w)) q) → sj_V l Γ mX7_settle G (fun r σ' I' => σ = σ' ∧ (∀ q, q ≠ w + 1 → q ≠ w + 2 → q ≠ vCl v w → I' q = I q) ∧ ((r = some (.int (zI (-1))) ∧ ∃ x, (∀ j, I' (vCl v w) j = if j = k then x else I (vCl v w) j) ∧ ((x = 2 ∧ ¬ jKn M E k) ∨ ∃ n z, jStg M E n k = some z ∧ x = 16 * (z.2 + 1) + z.1)) ∨ ∃ q, q < 3200 ∧ r = some (.int (zI (q : Nat))) ∧ I (vCl v w) q = 0 ∧ I' (vCl v w) = I (vCl v w) ∧ jNeed M E k q)) σ J 0 0 59 [some (.ref v), some (.int (zI k)), some (.ref t), some (.int (zI (jRk (fun q => I (vCl v w) q / 16 - 1) 0 nd))), some (.ref (t + 3)), some (.int (zI (jMs T 0).length)), some (.int (zI j)), none, none] [] := by
        intro d
        induction d with
        | zero =>
          intro j nd hj hnd hkn
          rw [List.take_of_length_le (by rw [jZl_len hgl]; omega)] at hnd
          have hrk := jRk_le (ρ := fun q => I (vCl v w) q / 16 - 1) (B := 60000) nd 0 (fun q hq => by
            have := (hkn q hq).2.rng hM (hkn q hq).1
            show 0 ≤ I (vCl v w) q / 16 - 1 ∧ I (vCl v w) q / 16 - 1 ≤ 60000
            omega) (by omega)
          have heJ : J e 0 = M := by rw [hJ e new1]; exact e2
          refine sj_ild6 dX7_settle_59 ?_
          refine sj_ild5 dX7_settle_61 ?_
          refine sj_icmp_ge 164 dX7_settle_63 (by decide) (by omega) (by omega) (fun c_63 => ?_) (fun c_63 => ?_)
          rotate_left
          · (exfalso; omega)
          refine sj_ald0 dX7_settle_164 ?_
          refine sj_getR fl_X7_9 (by assumption) rfl (vR_2 _ _ _) dX7_settle_165 ?_
          refine sj_ild1 dX7_settle_168 ?_
          refine sj_bipush dX7_settle_169 (by decide) ?_
          refine sj_ild3 dX7_settle_171 ?_
          refine sj_iconst dX7_settle_172 ?_
          refine sj_iadd dX7_settle_173 ?_
          refine sj_imul dX7_settle_174 ?_
          refine sj_ald0 dX7_settle_175 ?_
          refine sj_getR fl_X7_19 (by assumption) rfl (vR_1 _ _ _) dX7_settle_176 ?_
          refine sj_ald2 dX7_settle_179 ?_
          refine sj_ald0 dX7_settle_180 ?_
          refine sj_getR fl_X7_9 (by assumption) rfl (vR_2 _ _ _) dX7_settle_181 ?_
          refine sj_ald0 dX7_settle_184 ?_
          refine sj_getR fl_X7_15 (by assumption) rfl (vR_0 _ _ _) dX7_settle_185 ?_
          refine sj_getI fl_X7_78 (by assumption) rfl dX7_settle_188 ?_
          rw [heJ]
          refine sj_callV (cx8_evaluate (i := k % 400) hW htJ s1 (by omega) hM (fun p hp => by rw [hGx]; exact hix p hp) (by rw [hGx]; exact hle) (by
            rw [hGx, hJv]
            intro p hp hlt hne
            have hmz : (T.getD p 0, Gx.getD p 0) ∈ jZl T Gx := by
              rw [← jZl_ms hgl]
              exact List.mem_map.mpr ⟨p, jMs_in hp hlt, rfl⟩
            obtain ⟨m1, m2⟩ : Gx.getD p 0 < 400 ∧ (400 * (T.getD p 0 - 65).toNat + (Gx.getD p 0).toNat) ∈ nd := jCl_mem _ nd hnd _ hmz hne
            have m3 := (hkn _ m2).2.rng hM (hkn _ m2).1
            exact ⟨m1, by omega, by omega, m3.2.2.2.1⟩)) kc_X7_82 (by assumption) rfl rfl rfl rfl (Nat.le_of_ble_eq_true rfl) dX7_settle_191 (fun r_191 σ_191 I_191 hp_191 => ?_)
          obtain ⟨x, rfl, x1, x2, rfl, x3⟩ := hp_191
          rw [hJv] at x1
          refine sj_iadd dX7_settle_194 ?_
          refine sj_iastJ (k) (by assumption) (by omega) (by omega) (by omega) dX7_settle_195 ?_
          refine sj_iconst dX7_settle_196 ?_
          exact sj_iret dX7_settle_197 rfl rfl (Nat.le_of_ble_eq_true rfl) (Nat.le_of_ble_eq_true rfl) ⟨rfl, fun q q1 q2 q3 => by rw [sj_up_row q3, x3 q q2]; exact hJ q q1, Or.inl ⟨rfl, 16 * (jRk (fun q => I (vCl v w) q / 16 - 1) 0 nd + 1) + x, fun j => by
            by_cases e : j = k
            · rw [if_pos e, e, sj_up_self]
            · rw [if_neg e, sj_up_ne (by omega), x3 (vCl v w) (by omega), hJv], Or.inr (by
            obtain ⟨n, hn2⟩ := jStg_all (M := M) (E := E) (w := fun q => I (vCl v w) q % 16) (ρ := fun q => I (vCl v w) q / 16 - 1) nd (fun q hq => ((hkn q hq).2.rng hM (hkn q hq).1).2.2.2.2)
            have hev : jEv M (fun q => I (vCl v w) q % 16) T (k % 400) = some (nd, x) := by
              unfold jEv
              rw [hcl, hnd]
              show (if (nd.all fun q => decide (I (vCl v w) q % 16 ≠ -9)) = true then some (nd, jV M (fun q => I (vCl v w) q % 16) T (k % 400)) else none) = _
              rw [if_pos (List.all_eq_true.mpr fun q hq => decide_eq_true (by omega)), x1]
            exact ⟨n + 1, _, jStg_mk hE hev hn2, rfl⟩)⟩⟩
        | succ d ih =>
          intro j nd hj hnd hkn
          obtain ⟨p, hp1, hp2, hp3, hp4⟩ := htJ.mn (j := j) (by omega)
          have hzj := jZl_at hgl (j := j) (by omega)
          rw [hp1] at hzj
          obtain ⟨s, hs⟩ : ∃ s, Gx.getD p 0 = s := ⟨_, rfl⟩
          rw [hs] at hzj
          have hmem := List.mem_of_getElem? hzj
          have hsm := gmem p hp3
          rw [hs] at hsm
          have hs1 := hge s hsm
          have hs2 := hle s hsm
          have hJs : J (w + 1) p = s := by rw [hix p hp3]; exact hs
          have hstep : jCl ((jZl T Gx).take (j + 1)) = (if s = -1 then some nd else if s < 400 then some (nd ++ [400 * (T.getD p 0 - 65).toNat + s.toNat]) else none) := by
            rw [take_some hzj, jCl_app, hnd]
            show ((if s = -1 then some [] else if s < 400 then (some []).map (fun l => (400 * (T.getD p 0 - 65).toNat + s.toNat) :: l) else none).map (fun b => nd ++ b)) = _
            by_cases q1 : s = -1
            · rw [if_pos q1, if_pos q1]; show some (nd ++ []) = _; rw [List.append_nil]
            · rw [if_neg q1, if_neg q1]
              by_cases q2 : s < 400
              · rw [if_pos q2, if_pos q2]; rfl
              · rw [if_neg q2, if_neg q2]; rfl
          have hrk := jRk_le (ρ := fun q => I (vCl v w) q / 16 - 1) (B := 60000) nd 0 (fun q hq => by
            have := (hkn q hq).2.rng hM (hkn q hq).1
            show 0 ≤ I (vCl v w) q / 16 - 1 ∧ I (vCl v w) q / 16 - 1 ≤ 60000
            omega) (by omega)
          by_cases q1 : s = -1
          · rw [if_pos q1] at hstep
            refine sj_ild6 dX7_settle_59 ?_
            refine sj_ild5 dX7_settle_61 ?_
            refine sj_icmp_ge 164 dX7_settle_63 (by decide) (by omega) (by omega) (fun c_63 => ?_) (fun c_63 => ?_)
            · (exfalso; omega)
            refine sj_ald4 dX7_settle_66 ?_
            refine sj_ild6 dX7_settle_68 ?_
            refine sj_ialdJ (j) (by assumption) (by omega) (by omega) (by omega) dX7_settle_70 ?_
            rw [hp2]
            refine sj_ist7 (by decide) rfl dX7_settle_71 ?_
            refine sj_ald0 dX7_settle_73 ?_
            refine sj_getR fl_X7_19 (by assumption) rfl (vR_1 _ _ _) dX7_settle_74 ?_
            refine sj_ild7 dX7_settle_77 ?_
            refine sj_callV (cx8_isNeeded hW (by omega) hJs (by omega)) kc_X7_64 (by assumption) rfl rfl rfl rfl (Nat.le_of_ble_eq_true rfl) dX7_settle_79 (fun r_79 σ_79 I_79 hp_79 => ?_)
            obtain ⟨rfl, rfl, rfl⟩ := hp_79
            rw [if_pos q1]
            refine sj_if_ne 88 dX7_settle_82 (by decide) (by omega) (fun c_82 => ?_) (fun c_82 => ?_)
            · (exfalso; omega)
            refine sj_goto 158 dX7_settle_85 (by decide) ?_
            refine sj_inc6 (by decide) rfl dX7_settle_158 ?_
            refine sj_goto 59 dX7_settle_161 (by decide) ?_
            exact sj_fg7 (ih (j + 1) nd (by omega) hstep hkn)
          · rw [if_neg q1] at hstep
            obtain ⟨n1, n2⟩ := jNeed_of (M := M) hE hcl' (by rw [hGx]; exact hmem) q1
            by_cases q2 : s < 400
            · rw [if_pos q2] at hstep
              obtain ⟨kk, hkk⟩ : ∃ kk, 400 * (T.getD p 0 - 65).toNat + s.toNat = kk := ⟨_, rfl⟩
              rw [hkk] at hstep n2
              have hk3 : kk < 3200 := by omega
              have hJkk : J (vCl v w) kk = I (vCl v w) kk := by rw [hJv]
              have hPk := hP kk hk3
              have hPr := hP.rng hM hk3
              by_cases z0 : I (vCl v w) kk = 0
              · refine sj_ild6 dX7_settle_59 ?_
                refine sj_ild5 dX7_settle_61 ?_
                refine sj_icmp_ge 164 dX7_settle_63 (by decide) (by omega) (by omega) (fun c_63 => ?_) (fun c_63 => ?_)
                · (exfalso; omega)
                refine sj_ald4 dX7_settle_66 ?_
                refine sj_ild6 dX7_settle_68 ?_
                refine sj_ialdJ (j) (by assumption) (by omega) (by omega) (by omega) dX7_settle_70 ?_
                rw [hp2]
                refine sj_ist7 (by decide) rfl dX7_settle_71 ?_
                refine sj_ald0 dX7_settle_73 ?_
                refine sj_getR fl_X7_19 (by assumption) rfl (vR_1 _ _ _) dX7_settle_74 ?_
                refine sj_ild7 dX7_settle_77 ?_
                refine sj_callV (cx8_isNeeded hW (by omega) hJs (by omega)) kc_X7_64 (by assumption) rfl rfl rfl rfl (Nat.le_of_ble_eq_true rfl) dX7_settle_79 (fun r_79 σ_79 I_79 hp_79 => ?_)
                obtain ⟨rfl, rfl, rfl⟩ := hp_79
                rw [if_neg q1]
                refine sj_if_ne 88 dX7_settle_82 (by decide) (by omega) (fun c_82 => ?_) (fun c_82 => ?_)
                rotate_left
                · (exfalso; omega)
                refine sj_ald0 dX7_settle_88 ?_
                refine sj_ald2 dX7_settle_89 ?_
                refine sj_ild7 dX7_settle_90 ?_
                refine sj_callV (cx7_neededCell hS hW htJ hp3 hp4 hJs (by omega)) kc_X7_68 (by assumption) rfl rfl rfl rfl (Nat.le_of_ble_eq_true rfl) dX7_settle_92 (fun r_92 σ_92 I_92 hp_92 => ?_)
                obtain ⟨rfl, rfl, rfl⟩ := hp_92
                rw [if_pos q2, hkk]
                refine sj_ist8 (by decide) rfl dX7_settle_95 ?_
                refine sj_ild8 dX7_settle_97 ?_
                refine sj_if_lt 115 dX7_settle_99 (by decide) (by omega) (fun c_99 => ?_) (fun c_99 => ?_)
                · (exfalso; omega)
                refine sj_ald0 dX7_settle_102 ?_
                refine sj_getR fl_X7_9 (by assumption) rfl (vR_2 _ _ _) dX7_settle_103 ?_
                refine sj_ild8 dX7_settle_106 ?_
                refine sj_ialdJ (kk) (by assumption) (by omega) (by omega) (by omega) dX7_settle_108 ?_
                rw [hJkk]
                refine sj_if_ne 115 dX7_settle_109 (by decide) (by omega) (fun c_109 => ?_) (fun c_109 => ?_)
                · (exfalso; omega)
                refine sj_ild8 dX7_settle_112 ?_
                exact sj_iret dX7_settle_114 rfl rfl (Nat.le_of_ble_eq_true rfl) (Nat.le_of_ble_eq_true rfl) ⟨rfl, fun q a1 _ _ => hJ q a1, Or.inr ⟨kk, hk3, rfl, z0, hJv, n2⟩⟩
              · by_cases z1 : I (vCl v w) kk < 16
                · have hno : ¬ jKn M E k := by
                    rcases hPk with a | a | a | a
                    · exact absurd a z0
                    · exact hop kk hk3 a n2
                    · exact n2.kn a.2
                    · have := a.rng hM hk3; omega
                  refine sj_ild6 dX7_settle_59 ?_
                  refine sj_ild5 dX7_settle_61 ?_
                  refine sj_icmp_ge 164 dX7_settle_63 (by decide) (by omega) (by omega) (fun c_63 => ?_) (fun c_63 => ?_)
                  · (exfalso; omega)
                  refine sj_ald4 dX7_settle_66 ?_
                  refine sj_ild6 dX7_settle_68 ?_
                  refine sj_ialdJ (j) (by assumption) (by omega) (by omega) (by omega) dX7_settle_70 ?_
                  rw [hp2]
                  refine sj_ist7 (by decide) rfl dX7_settle_71 ?_
                  refine sj_ald0 dX7_settle_73 ?_
                  refine sj_getR fl_X7_19 (by assumption) rfl (vR_1 _ _ _) dX7_settle_74 ?_
                  refine sj_ild7 dX7_settle_77 ?_
                  refine sj_callV (cx8_isNeeded hW (by omega) hJs (by omega)) kc_X7_64 (by assumption) rfl rfl rfl rfl (Nat.le_of_ble_eq_true rfl) dX7_settle_79 (fun r_79 σ_79 I_79 hp_79 => ?_)
                  obtain ⟨rfl, rfl, rfl⟩ := hp_79
                  rw [if_neg q1]
                  refine sj_if_ne 88 dX7_settle_82 (by decide) (by omega) (fun c_82 => ?_) (fun c_82 => ?_)
                  rotate_left
                  · (exfalso; omega)
                  refine sj_ald0 dX7_settle_88 ?_
                  refine sj_ald2 dX7_settle_89 ?_
                  refine sj_ild7 dX7_settle_90 ?_
                  refine sj_callV (cx7_neededCell hS hW htJ hp3 hp4 hJs (by omega)) kc_X7_68 (by assumption) rfl rfl rfl rfl (Nat.le_of_ble_eq_true rfl) dX7_settle_92 (fun r_92 σ_92 I_92 hp_92 => ?_)
                  obtain ⟨rfl, rfl, rfl⟩ := hp_92
                  rw [if_pos q2, hkk]
                  refine sj_ist8 (by decide) rfl dX7_settle_95 ?_
                  refine sj_ild8 dX7_settle_97 ?_
                  refine sj_if_lt 115 dX7_settle_99 (by decide) (by omega) (fun c_99 => ?_) (fun c_99 => ?_)
                  · (exfalso; omega)
                  refine sj_ald0 dX7_settle_102 ?_
                  refine sj_getR fl_X7_9 (by assumption) rfl (vR_2 _ _ _) dX7_settle_103 ?_
                  refine sj_ild8 dX7_settle_106 ?_
                  refine sj_ialdJ (kk) (by assumption) (by omega) (by omega) (by omega) dX7_settle_108 ?_
                  rw [hJkk]
                  refine sj_if_ne 115 dX7_settle_109 (by decide) (by omega) (fun c_109 => ?_) (fun c_109 => ?_)
                  rotate_left
                  · (exfalso; omega)
                  refine sj_ild8 dX7_settle_115 ?_
                  refine sj_if_lt 132 dX7_settle_117 (by decide) (by omega) (fun c_117 => ?_) (fun c_117 => ?_)
                  · (exfalso; omega)
                  refine sj_ald0 dX7_settle_120 ?_
                  refine sj_getR fl_X7_9 (by assumption) rfl (vR_2 _ _ _) dX7_settle_121 ?_
                  refine sj_ild8 dX7_settle_124 ?_
                  refine sj_ialdJ (kk) (by assumption) (by omega) (by omega) (by omega) dX7_settle_126 ?_
                  rw [hJkk]
                  refine sj_bipush dX7_settle_127 (by decide) ?_
                  refine sj_icmp_ge 141 dX7_settle_129 (by decide) (by omega) (by omega) (fun c_129 => ?_) (fun c_129 => ?_)
                  · (exfalso; omega)
                  exact st132 _ _ _ _ hno
                · have hck : cK M E (I (vCl v w)) kk := by
                    rcases hPk with a | a | a | a
                    · omega
                    · omega
                    · omega
                    · exact a
                  have hrap := jRk_app (fun q => I (vCl v w) q / 16 - 1) nd 0 kk
                  refine sj_ild6 dX7_settle_59 ?_
                  refine sj_ild5 dX7_settle_61 ?_
                  refine sj_icmp_ge 164 dX7_settle_63 (by decide) (by omega) (by omega) (fun c_63 => ?_) (fun c_63 => ?_)
                  · (exfalso; omega)
                  refine sj_ald4 dX7_settle_66 ?_
                  refine sj_ild6 dX7_settle_68 ?_
                  refine sj_ialdJ (j) (by assumption) (by omega) (by omega) (by omega) dX7_settle_70 ?_
                  rw [hp2]
                  refine sj_ist7 (by decide) rfl dX7_settle_71 ?_
                  refine sj_ald0 dX7_settle_73 ?_
                  refine sj_getR fl_X7_19 (by assumption) rfl (vR_1 _ _ _) dX7_settle_74 ?_
                  refine sj_ild7 dX7_settle_77 ?_
                  refine sj_callV (cx8_isNeeded hW (by omega) hJs (by omega)) kc_X7_64 (by assumption) rfl rfl rfl rfl (Nat.le_of_ble_eq_true rfl) dX7_settle_79 (fun r_79 σ_79 I_79 hp_79 => ?_)
                  obtain ⟨rfl, rfl, rfl⟩ := hp_79
                  rw [if_neg q1]
                  refine sj_if_ne 88 dX7_settle_82 (by decide) (by omega) (fun c_82 => ?_) (fun c_82 => ?_)
                  rotate_left
                  · (exfalso; omega)
                  refine sj_ald0 dX7_settle_88 ?_
                  refine sj_ald2 dX7_settle_89 ?_
                  refine sj_ild7 dX7_settle_90 ?_
                  refine sj_callV (cx7_neededCell hS hW htJ hp3 hp4 hJs (by omega)) kc_X7_68 (by assumption) rfl rfl rfl rfl (Nat.le_of_ble_eq_true rfl) dX7_settle_92 (fun r_92 σ_92 I_92 hp_92 => ?_)
                  obtain ⟨rfl, rfl, rfl⟩ := hp_92
                  rw [if_pos q2, hkk]
                  refine sj_ist8 (by decide) rfl dX7_settle_95 ?_
                  refine sj_ild8 dX7_settle_97 ?_
                  refine sj_if_lt 115 dX7_settle_99 (by decide) (by omega) (fun c_99 => ?_) (fun c_99 => ?_)
                  · (exfalso; omega)
                  refine sj_ald0 dX7_settle_102 ?_
                  refine sj_getR fl_X7_9 (by assumption) rfl (vR_2 _ _ _) dX7_settle_103 ?_
                  refine sj_ild8 dX7_settle_106 ?_
                  refine sj_ialdJ (kk) (by assumption) (by omega) (by omega) (by omega) dX7_settle_108 ?_
                  rw [hJkk]
                  refine sj_if_ne 115 dX7_settle_109 (by decide) (by omega) (fun c_109 => ?_) (fun c_109 => ?_)
                  rotate_left
                  · (exfalso; omega)
                  refine sj_ild8 dX7_settle_115 ?_
                  refine sj_if_lt 132 dX7_settle_117 (by decide) (by omega) (fun c_117 => ?_) (fun c_117 => ?_)
                  · (exfalso; omega)
                  refine sj_ald0 dX7_settle_120 ?_
                  refine sj_getR fl_X7_9 (by assumption) rfl (vR_2 _ _ _) dX7_settle_121 ?_
                  refine sj_ild8 dX7_settle_124 ?_
                  refine sj_ialdJ (kk) (by assumption) (by omega) (by omega) (by omega) dX7_settle_126 ?_
                  rw [hJkk]
                  refine sj_bipush dX7_settle_127 (by decide) ?_
                  refine sj_icmp_ge 141 dX7_settle_129 (by decide) (by omega) (by omega) (fun c_129 => ?_) (fun c_129 => ?_)
                  rotate_left
                  · (exfalso; omega)
                  refine sj_ild3 dX7_settle_141 ?_
                  refine sj_ald0 dX7_settle_142 ?_
                  refine sj_getR fl_X7_9 (by assumption) rfl (vR_2 _ _ _) dX7_settle_143 ?_
                  refine sj_ild8 dX7_settle_146 ?_
                  refine sj_ialdJ (kk) (by assumption) (by omega) (by omega) (by omega) dX7_settle_148 ?_
                  rw [hJkk]
                  refine sj_callS (cx7_rankIn (by omega)) kc_X7_37 rfl rfl (Nat.le_of_ble_eq_true rfl) dX7_settle_149 (fun r_149 σ_149 I_149 hp_149 => ?_)
                  obtain ⟨rfl, rfl, rfl⟩ := hp_149
                  refine sj_iconst dX7_settle_152 ?_
                  refine sj_iadd dX7_settle_153 ?_
                  refine sj_max km_X7_72 wo_max.1 wo_max.2.1 wo_max.2.2 (by decide) (Nat.le_of_ble_eq_true rfl) (Nat.le_of_ble_eq_true rfl) (Nat.le_of_ble_eq_true rfl) (by omega) (by omega) dX7_settle_154 ?_
                  rw [← hrap]
                  refine sj_ist3 (by decide) rfl dX7_settle_157 ?_
                  refine sj_inc6 (by decide) rfl dX7_settle_158 ?_
                  refine sj_goto 59 dX7_settle_161 (by decide) ?_
                  exact sj_fg8 (sj_fg7 (ih (j + 1) (nd ++ [kk]) (by omega) hstep (fun q hq => by
                    rcases List.mem_append.mp hq with hq | hq
                    · exact hkn q hq
                    · rw [List.mem_singleton.mp hq]; exact ⟨hk3, hck⟩)))
            · refine sj_ild6 dX7_settle_59 ?_
              refine sj_ild5 dX7_settle_61 ?_
              refine sj_icmp_ge 164 dX7_settle_63 (by decide) (by omega) (by omega) (fun c_63 => ?_) (fun c_63 => ?_)
              · (exfalso; omega)
              refine sj_ald4 dX7_settle_66 ?_
              refine sj_ild6 dX7_settle_68 ?_
              refine sj_ialdJ (j) (by assumption) (by omega) (by omega) (by omega) dX7_settle_70 ?_
              rw [hp2]
              refine sj_ist7 (by decide) rfl dX7_settle_71 ?_
              refine sj_ald0 dX7_settle_73 ?_
              refine sj_getR fl_X7_19 (by assumption) rfl (vR_1 _ _ _) dX7_settle_74 ?_
              refine sj_ild7 dX7_settle_77 ?_
              refine sj_callV (cx8_isNeeded hW (by omega) hJs (by omega)) kc_X7_64 (by assumption) rfl rfl rfl rfl (Nat.le_of_ble_eq_true rfl) dX7_settle_79 (fun r_79 σ_79 I_79 hp_79 => ?_)
              obtain ⟨rfl, rfl, rfl⟩ := hp_79
              rw [if_neg q1]
              refine sj_if_ne 88 dX7_settle_82 (by decide) (by omega) (fun c_82 => ?_) (fun c_82 => ?_)
              rotate_left
              · (exfalso; omega)
              refine sj_ald0 dX7_settle_88 ?_
              refine sj_ald2 dX7_settle_89 ?_
              refine sj_ild7 dX7_settle_90 ?_
              refine sj_callV (cx7_neededCell hS hW htJ hp3 hp4 hJs (by omega)) kc_X7_68 (by assumption) rfl rfl rfl rfl (Nat.le_of_ble_eq_true rfl) dX7_settle_92 (fun r_92 σ_92 I_92 hp_92 => ?_)
              obtain ⟨rfl, rfl, rfl⟩ := hp_92
              rw [if_neg q2]
              refine sj_ist8 (by decide) rfl dX7_settle_95 ?_
              refine sj_ild8 dX7_settle_97 ?_
              refine sj_if_lt 115 dX7_settle_99 (by decide) (by omega) (fun c_99 => ?_) (fun c_99 => ?_)
              rotate_left
              · (exfalso; omega)
              refine sj_ild8 dX7_settle_115 ?_
              refine sj_if_lt 132 dX7_settle_117 (by decide) (by omega) (fun c_117 => ?_) (fun c_117 => ?_)
              rotate_left
              · (exfalso; omega)
              exact st132 _ _ _ _ (n1 q2)
      refine sj_iconst dX7_settle_43 ?_
      refine sj_ist3 (by decide) rfl dX7_settle_44 ?_
      refine sj_ald2 dX7_settle_45 ?_
      refine sj_getR fl_X7_59 (by assumption) rfl (tR_3 _) dX7_settle_46 ?_
      refine sj_ast4 (by decide) rfl dX7_settle_49 ?_
      refine sj_ald4 dX7_settle_51 ?_
      refine sj_alen (by assumption) (by decide) dX7_settle_53 ?_
      refine sj_ist5 (by decide) rfl dX7_settle_54 ?_
      refine sj_iconst dX7_settle_56 ?_
      refine sj_ist6 (by decide) rfl dX7_settle_57 ?_
      exact lp (jMs T 0).length 0 [] (by omega) rfl (fun q hq => by cases hq)
    refine sj_ald0 dX7_settle_0 ?_
    refine sj_getR fl_X7_15 (by assumption) rfl (vR_0 _ _ _) dX7_settle_1 ?_
    refine sj_getR fl_X7_49 (by assumption) rfl (eR_1 _) dX7_settle_4 ?_
    refine sj_ild1 dX7_settle_7 ?_
    refine sj_sipush dX7_settle_8 (by decide) ?_
    refine sj_idiv dX7_settle_11 (by omega) (by omega) ?_
    rw [hdiv]
    refine sj_aald rfl (by assumption) (by omega) (by decide) hv dX7_settle_12 ?_
    refine sj_ast2 (by decide) rfl dX7_settle_13 ?_
    refine sj_ald2 dX7_settle_14 ?_
    refine sj_ifnull dX7_settle_15 ?_
    refine sj_ald0 dX7_settle_18 ?_
    refine sj_getR fl_X7_19 (by assumption) rfl (vR_1 _ _ _) dX7_settle_19 ?_
    refine sj_ald2 dX7_settle_22 ?_
    refine sj_ild1 dX7_settle_23 ?_
    refine sj_sipush dX7_settle_24 (by decide) ?_
    refine sj_irem dX7_settle_27 (by omega) (by omega) ?_
    rw [hrem]
    refine sj_callV (cx8_spread hW htm (by omega)) kc_X7_55 (by assumption) rfl rfl rfl rfl (Nat.le_of_ble_eq_true rfl) dX7_settle_28 (fun r_28 σ_28 I_28 hp_28 => ?_)
    obtain ⟨rfl, x1, x2⟩ := hp_28
    rw [hGx] at x2
    rcases x2 with ⟨rfl, x3⟩ | ⟨rfl, x3, x4⟩
    · exact sj_if_ne 43 dX7_settle_31 (by decide) (by omega) (fun c_31 => absurd rfl c_31) (fun c_31 => st34 _ _ (fun q q1 _ _ => x1 q q1) (x1 (vCl v w) (by omega)) (hun T hE (by rw [hcz]; exact jCz_big T Gx hgl.symm x3)))
    · exact sj_if_ne 43 dX7_settle_31 (by decide) (by omega) (fun c_31 => main _ x1 x3 x4) (fun c_31 => absurd (by decide : ¬ (1 : Int) = 0) c_31)
end VALUES2
