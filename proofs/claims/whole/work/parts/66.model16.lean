def jOp (M op a b : Int) : Int := if op = 43 then (a + b) % M else (a * b) % M
/-- what a term needs and its value, from the values v (-9: not known) -/
def jEv (M : Int) (v : Nat → Int) (L : List Int) (i : Nat) : Option (List Nat × Int) := match jN L i with
  | none => none
  | some l => if l.all (fun q => decide (v q ≠ -9)) = true then some (l, jV M v L i) else none
theorem jEv_none {M : Int} {v : Nat → Int} {L : List Int} {i : Nat} (h : jN L i = none) : jEv M v L i = none := by unfold jEv; rw [h]
theorem jEv_same {M : Int} {v : Nat → Int} {L L' : List Int} {i i' : Nat} (h : jN L i = jN L' i') (h2 : jN L i ≠ none → ∀ vv, jV M vv L i = jV M vv L' i') : jEv M v L i = jEv M v L' i' := by
  unfold jEv
  cases e : jN L i with
  | none => rw [← h, e]
  | some l => rw [← h, e, h2 (by rw [e]; exact fun q => by cases q) v]
theorem jEv_const {M x : Int} {v : Nat → Int} {L : List Int} {i : Nat} (h : jN L i = some []) (h2 : ∀ vv, jV M vv L i = x) : jEv M v L i = some ([], x) := by
  unfold jEv
  rw [h, h2 v]
  rfl
theorem jEv_let {M : Int} {v : Nat → Int} {c : Int} {N : List Int} {i : Nat} (hc : 65 ≤ c ∧ c ≤ 72) (hi : i ≤ 1000000000) : jEv M v (c :: N) i = if i < 400 ∧ v (400 * (c - 65).toNat + i) ≠ -9 then some ([400 * (c - 65).toNat + i], v (400 * (c - 65).toNat + i)) else none := by
  unfold jEv
  rw [jN_cons, if_neg (by omega), if_pos hc, jV_cons, if_pos hc]
  by_cases h : i < 400
  · rw [if_pos h]
    by_cases h2 : v (400 * (c - 65).toNat + i) = -9
    · simp [h2]
    · simp [h, h2]
  · rw [if_neg h, if_neg (fun z => h z.1)]
theorem jEv_op {M : Int} {v : Nat → Int} {c : Int} {N : List Int} {i : Nat} (hc : c = 43 ∨ c = 42) (hi : i ≤ 1000000000) : jEv M v (c :: N) i = (jEv M v N i).bind (fun q => (jEv M v (jDr 1 N) i).map (fun z => (q.1 ++ z.1, jOp M c q.2 z.2))) := by
  have hv : jV M v (c :: N) i = jOp M c (jV M v N i) (jV M v (jDr 1 N) i) := by
    rw [jV_cons, if_neg (by omega), if_neg (by omega), if_neg (by omega), if_neg (by omega), if_neg (by omega), if_neg (by omega), if_neg (by omega)]
    rfl
  unfold jEv
  rw [hv, jN_cons, if_neg (by omega), if_neg (by omega), if_neg (by omega), if_neg (by omega), if_neg (by omega), if_neg (by omega), if_neg (by omega), if_neg (by omega)]
  cases jN N i with
  | none => rfl
  | some a =>
    cases jN (jDr 1 N) i with
    | none =>
      simp only [Option.bind_some, Option.map_none]
      split <;> rfl
    | some b =>
      simp only [Option.bind_some, Option.map_some, List.all_append]
      by_cases h1 : (a.all fun q => decide (v q ≠ -9)) = true
      · rw [h1, Bool.true_and, if_pos rfl]
        by_cases h2 : (b.all fun q => decide (v q ≠ -9)) = true
        · rw [if_pos h2, if_pos h2]; rfl
        · rw [if_neg h2, if_neg h2]; rfl
      · rw [Bool.eq_false_iff.mpr h1, Bool.false_and, if_neg (by decide)]; rfl
/-- an open operator: operator, index, place and codes of the second operand, value of the first (-9: not yet) -/
abbrev mFrm : Type := Int × Nat × Nat × List Int × Int
def mOc (M : Int) (v : Nat → Int) : List mFrm → Option (List Nat × Int) → Option (List Nat × Int)
  | [], r => r
  | (op, x, _, S, f) :: K, r => mOc M v K (if f = -9 then r.bind (fun q => (jEv M v S x).map (fun z => (q.1 ++ z.1, jOp M op q.2 z.2))) else r.map (fun q => (q.1, jOp M op f q.2)))
theorem mOc_none (M : Int) (v : Nat → Int) : ∀ K, mOc M v K none = none
  | [] => rfl
  | (op, x, p, S, f) :: K => by
    unfold mOc
    rw [show (if f = -9 then (none : Option (List Nat × Int)).bind (fun q => (jEv M v S x).map (fun z => (q.1 ++ z.1, jOp M op q.2 z.2))) else (none : Option (List Nat × Int)).map (fun q => (q.1, jOp M op f q.2))) = none by split <;> rfl]
    exact mOc_none M v K
def mWt : List mFrm → Nat
  | [] => 0
  | (_, _, _, S, f) :: K => (if f = -9 then (jTk 1 S).length else 0) + mWt K
def mStk (o : Nat) (I : sjI) (M : Int) (J : sjI) : List mFrm → Prop
  | [] => True
  | (op, x, p, S, f) :: K => (J (o + 10) K.length = op ∧ J (o + 11) K.length = x ∧ J (o + 12) K.length = p ∧ J (o + 13) K.length = f) ∧ (op = 43 ∨ op = 42) ∧ x ≤ 1000000000 ∧ (∃ m, jOk (m + 1) S) ∧ lst (I (o + 1)) p (jEnc S).length = jEnc S ∧ p + (jEnc S).length ≤ 2001 ∧ (f = -9 ∨ (0 ≤ f ∧ f < M)) ∧ mStk o I M J K
theorem mStk.kept {o : Nat} {I : sjI} {M : Int} {J J2 : sjI} : ∀ {K : List mFrm}, mStk o I M J K → (∀ a j, o + 10 ≤ a → a ≤ o + 13 → j < K.length → J2 a j = J a j) → mStk o I M J2 K
  | [], _, _ => trivial
  | (op, x, p, S, f) :: K, h, e => by
    obtain ⟨⟨h1, h2, h3, h4⟩, h5, h6, h7, h8, h9, h10, h11⟩ := h
    have hl : K.length < ((op, x, p, S, f) :: K).length := by simp
    exact ⟨⟨by rw [e _ _ (by omega) (by omega) hl]; exact h1, by rw [e _ _ (by omega) (by omega) hl]; exact h2, by rw [e _ _ (by omega) (by omega) hl]; exact h3, by rw [e _ _ (by omega) (by omega) hl]; exact h4⟩, h5, h6, h7, h8, h9, h10, mStk.kept h11 (fun a j e1 e2 e3 => e a j e1 e2 (by omega))⟩
/-- only the rows of computing have changed -/
def mCp (o : Nat) (I J : sjI) : Prop := (∀ a, a ≠ o → ¬ (o + 10 ≤ a ∧ a ≤ o + 14) → J a = I a) ∧ ∀ j, j ≠ 21 → j ≠ 22 → j ≠ 23 → J o j = I o j
def mAcc (o : Nat) (J : sjI) (l : List Nat) : Prop := J o 21 = l.length ∧ lst (J (o + 14)) 0 l.length = l.map (fun q : Nat => (q : Int))
section MODEL16
variable {l : Launch} {G : sjG} {σ : sjS} {I : sjI}
theorem jOp_rng {M op a b : Int} (hM : 2 ≤ M ∧ M ≤ 10) : 0 ≤ jOp M op a b ∧ jOp M op a b < M := by
  unfold jOp
  split <;> exact ⟨Int.emod_nonneg _ (by omega), Int.emod_lt_of_pos _ (by omega)⟩
theorem mAcc.push {o : Nat} {J J2 : sjI} {l : List Nat} {q : Nat} (h : mAcc o J l) (e : J2 = sj_up (sj_up J (o + 14) l.length (q : Int)) o 21 ((l.length : Int) + 1)) : mAcc o J2 (l ++ [q]) := by
  subst e
  refine ⟨by rw [sj_up_self, List.length_append]; rfl, ?_⟩
  have z := lst_up_succ (I := J) (a := o + 14) (s := 0) (n := l.length) (v := (q : Int))
  rw [Nat.zero_add] at z
  rw [List.length_append, List.length_singleton, lst_up (Or.inl (by omega)), z, h.2, List.map_append]
  rfl
theorem cm_compute {o a i : Nat} {M : Int} {T : List Int} (hS : mSh σ o) (hW : mW (I (o + 1))) (ha : a < 8) (hi : i < 400) (hM : I (o + 1) 0 = M) (hM2 : 2 ≤ M ∧ M ≤ 10) (hT : 0 < I (o + 1) (1 + 250 * a) → mB (I (o + 1)) a = jEnc T ∧ jOk 1 T ∧ T.length ≤ 120) (hv : ∀ k, k < 3200 → I (o + 8) k = -9 ∨ (0 ≤ I (o + 8) k ∧ I (o + 8) k < M)) : sj_Con l yX10_compute mX10_compute G σ I [.ref o, .int (zI a), .int (zI i)] (fun r σ' I' => σ = σ' ∧ mCp o I I' ∧ ((¬ 0 < I (o + 1) (1 + 250 * a) ∧ r = some (.int (zI (-9)))) ∨ (0 < I (o + 1) (1 + 250 * a) ∧ ((jEv M (I (o + 8)) T i = none ∧ r = some (.int (zI (-9)))) ∨ ∃ (nd : List Nat) (x : Int), jEv M (I (o + 8)) T i = some (nd, x) ∧ (0 ≤ x ∧ x < M) ∧ r = some (.int (zI x)) ∧ mAcc o I' nd ∧ nd.length ≤ 120)))) := by
  obtain ⟨h_o, h_w, h_past, h_images, h_text, h_read, h_made, h_old, h_values, h_ranks, h_operator, h_indexAt, h_second, h_first, h_needed, h_shifts, h_around, h_best, h_isNeeded, h_toSee, h_held, h_there⟩ := id hS
  refine sj_con_of (L0 := [some (.ref o), some (.int (zI a)), some (.int (zI i)), none, none, none]) (by decide) rfl rfl rfl (Nat.le_of_ble_eq_true rfl) rfl (fun Γ => ?_)
  have hw0 := (hW a ha).1
  -- the value of the present term is known
  have lpI : 0 < I (o + 1) (1 + 250 * a) → ∀ n : Nat, (∀ (L : List Int) (m p j : Nat) (K : List mFrm) (acc : List Nat) (J : sjI), (jTk 1 L).length + mWt K ≤ n → jOk (m + 1) L → lst (I (o + 1)) p (jEnc L).length = jEnc L → p + (jEnc L).length ≤ 2001 → j ≤ 1000000000 → mCp o I J → J o 22 = p → J o 23 = j → mStk o I M J K → mAcc o J acc → acc.length + K.length + (jTk 1 L).length + mWt K ≤ 120 → jEv M (I (o + 8)) T i = mOc M (I (o + 8)) K ((jEv M (I (o + 8)) L j).map (fun q => (acc ++ q.1, q.2))) → sj_V l Γ mX10_compute G (fun r σ' I' => σ = σ' ∧ mCp o I I' ∧ ((¬ 0 < I (o + 1) (1 + 250 * a) ∧ r = some (.int (zI (-9)))) ∨ (0 < I (o + 1) (1 + 250 * a) ∧ ((jEv M (I (o + 8)) T i = none ∧ r = some (.int (zI (-9)))) ∨ ∃ (nd : List Nat) (x : Int), jEv M (I (o + 8)) T i = some (nd, x) ∧ (0 ≤ x ∧ x < M) ∧ r = some (.int (zI x)) ∧ mAcc o I' nd ∧ nd.length ≤ 120)))) σ J 0 0 31 [some (.ref o), some (.int (zI a)), some (.int (zI i)), some (.int (zI (K.length : Nat))), none, none] []) →
      ∀ (K : List mFrm) (x : Int) (acc : List Nat) (J : sjI), mWt K ≤ n → (0 ≤ x ∧ x < M) → mCp o I J → mStk o I M J K → mAcc o J acc → acc.length + K.length + mWt K ≤ 120 → jEv M (I (o + 8)) T i = mOc M (I (o + 8)) K (some (acc, x)) → sj_V l Γ mX10_compute G (fun r σ' I' => σ = σ' ∧ mCp o I I' ∧ ((¬ 0 < I (o + 1) (1 + 250 * a) ∧ r = some (.int (zI (-9)))) ∨ (0 < I (o + 1) (1 + 250 * a) ∧ ((jEv M (I (o + 8)) T i = none ∧ r = some (.int (zI (-9)))) ∨ ∃ (nd : List Nat) (x : Int), jEv M (I (o + 8)) T i = some (nd, x) ∧ (0 ≤ x ∧ x < M) ∧ r = some (.int (zI x)) ∧ mAcc o I' nd ∧ nd.length ≤ 120)))) σ J 0 0 237 [some (.ref o), some (.int (zI a)), some (.int (zI i)), some (.int (zI (K.length : Nat))), some (.int (zI x)), none] [] := by
    intro hpos n ih K
    induction K with
    | nil =>
      intro x acc J hw hx hcp hst hacc hsum hoc
      refine sj_ild3 dX10_compute_237 ?_
      refine sj_if_le 301 dX10_compute_238 (by decide) (by omega) (fun c_238 => ?_) (fun c_238 => ?_)
      rotate_left
      · exact absurd (by show ((0 : Nat) : Int) ≤ 0; omega) c_238
      refine sj_ild3 dX10_compute_301 ?_
      refine sj_if_ne 308 dX10_compute_302 (by decide) (by omega) (fun c_302 => ?_) (fun c_302 => ?_)
      · exact absurd rfl c_302
      refine sj_ild4 dX10_compute_305 ?_
      exact sj_iret dX10_compute_307 rfl rfl (Nat.le_of_ble_eq_true rfl) (Nat.le_of_ble_eq_true rfl) ⟨rfl, hcp, Or.inr ⟨hpos, Or.inr ⟨acc, x, hoc, hx, rfl, hacc, by simp only [List.length_nil] at hsum; omega⟩⟩⟩
    | cons F K ihK =>
      obtain ⟨op, y, p, S, f⟩ := F
      intro x acc J hw hx hcp hst hacc hsum hoc
      obtain ⟨⟨k1, k2, k3, k4⟩, k5, k6, ⟨m, k7⟩, k8, k9, k10, k11⟩ := id hst
      rw [List.length_cons] at hsum ⊢
      have hw1 : J (o + 1) = I (o + 1) := hcp.1 (o + 1) (by omega) (by omega)
      by_cases hf : f = -9
      · have hoc2 : mOc M (I (o + 8)) ((op, y, p, S, f) :: K) (some (acc, x)) = mOc M (I (o + 8)) ((op, y, p, S, x) :: K) ((jEv M (I (o + 8)) S y).map (fun q => (acc ++ q.1, q.2))) := by
          unfold mOc
          rw [if_pos hf, if_neg (by omega)]
          congr 1
          cases jEv M (I (o + 8)) S y <;> rfl
        have hwt : mWt ((op, y, p, S, f) :: K) = (jTk 1 S).length + mWt K := by
          show (if f = -9 then (jTk 1 S).length else 0) + mWt K = _
          rw [if_pos hf]
        have hwx : mWt ((op, y, p, S, x) :: K) = mWt K := by
          show (if x = -9 then (jTk 1 S).length else 0) + mWt K = _
          rw [if_neg (by omega), Nat.zero_add]
        rw [hwt] at hw hsum
        refine sj_ild3 dX10_compute_237 ?_
        refine sj_if_le 301 dX10_compute_238 (by decide) (by omega) (fun c_238 => ?_) (fun c_238 => ?_)
        · exact absurd c_238 (by omega)
        refine sj_ald0 dX10_compute_241 ?_
        refine sj_getR fl_X10_46 (by assumption) rfl (mr_19 _) dX10_compute_242 ?_
        refine sj_ild3 dX10_compute_245 ?_
        refine sj_iconst dX10_compute_246 ?_
        refine sj_isub dX10_compute_247 ?_
        refine sj_ialdJ (K.length) (by assumption) (by omega) (by omega) (by omega) dX10_compute_248 ?_
        rw [k4]
        refine sj_bipush dX10_compute_249 (by decide) ?_
        refine sj_icmp_eq 301 dX10_compute_251 (by decide) (by omega) (by omega) (fun c_251 => ?_) (fun c_251 => ?_)
        rotate_left
        · exact absurd hf c_251
        refine sj_ild3 dX10_compute_301 ?_
        refine sj_if_ne 308 dX10_compute_302 (by decide) (by omega) (fun c_302 => ?_) (fun c_302 => ?_)
        rotate_left
        · exact absurd (by omega) c_302
        refine sj_ald0 dX10_compute_308 ?_
        refine sj_getR fl_X10_46 (by assumption) rfl (mr_19 _) dX10_compute_309 ?_
        refine sj_ild3 dX10_compute_312 ?_
        refine sj_iconst dX10_compute_313 ?_
        refine sj_isub dX10_compute_314 ?_
        refine sj_ild4 dX10_compute_315 ?_
        refine sj_iastJ (K.length) (by assumption) (by omega) (by omega) (by omega) dX10_compute_317 ?_
        refine sj_ald0 dX10_compute_318 ?_
        refine sj_ald0 dX10_compute_319 ?_
        refine sj_getR fl_X10_43 (by assumption) rfl (mr_18 _) dX10_compute_320 ?_
        refine sj_ild3 dX10_compute_323 ?_
        refine sj_iconst dX10_compute_324 ?_
        refine sj_isub dX10_compute_325 ?_
        refine sj_ialdJ (K.length) (by assumption) (by omega) (by omega) (by omega) dX10_compute_326 ?_
        rw [sj_up_row (by omega), k3]
        refine sj_putI fl_X10_169 (by assumption) rfl rfl rfl dX10_compute_327 ?_
        refine sj_ald0 dX10_compute_330 ?_
        refine sj_ald0 dX10_compute_331 ?_
        refine sj_getR fl_X10_40 (by assumption) rfl (mr_17 _) dX10_compute_332 ?_
        refine sj_ild3 dX10_compute_335 ?_
        refine sj_iconst dX10_compute_336 ?_
        refine sj_isub dX10_compute_337 ?_
        refine sj_ialdJ (K.length) (by assumption) (by omega) (by omega) (by omega) dX10_compute_338 ?_
        rw [sj_up_row (by omega), sj_up_row (by omega), k2]
        refine sj_putI fl_X10_172 (by assumption) rfl rfl rfl dX10_compute_339 ?_
        refine sj_goto 31 dX10_compute_342 (by decide) ?_
        refine sj_fg4 ?_
        refine ih S m p y ((op, y, p, S, x) :: K) acc _ (by rw [hwx]; omega) k7 k8 k9 k6 ⟨fun a e1 e2 => by rw [sj_up_row e1, sj_up_row e1, sj_up_row (by omega)]; exact hcp.1 a e1 e2, fun j e1 e2 e3 => by rw [sj_up_ne (by omega), sj_up_ne (by omega), sj_up_ne (by omega)]; exact hcp.2 j e1 e2 e3⟩ (by rw [sj_up_ne (by omega), sj_up_self]) (sj_up_self _ _ _ _) ?_ ?_ (by rw [hwx, List.length_cons]; omega) (by rw [hoc, hoc2])
        · refine ⟨⟨by rw [sj_up_row (by omega), sj_up_row (by omega), sj_up_row (by omega)]; exact k1, by rw [sj_up_row (by omega), sj_up_row (by omega), sj_up_row (by omega)]; exact k2, by rw [sj_up_row (by omega), sj_up_row (by omega), sj_up_row (by omega)]; exact k3, by rw [sj_up_row (by omega), sj_up_row (by omega), sj_up_self]⟩, k5, k6, ⟨m, k7⟩, k8, k9, Or.inr hx, k11.kept (fun a j e1 e2 e3 => by rw [sj_up_row (by omega), sj_up_row (by omega), sj_up_ne (by omega)])⟩
        · exact ⟨by rw [sj_up_ne (by omega), sj_up_ne (by omega), sj_up_ne (by omega)]; exact hacc.1, by rw [lst_up (Or.inl (by omega)), lst_up (Or.inl (by omega)), lst_up (Or.inl (by omega))]; exact hacc.2⟩
      · have hoc2 : mOc M (I (o + 8)) ((op, y, p, S, f) :: K) (some (acc, x)) = mOc M (I (o + 8)) K (some (acc, jOp M op f x)) := by
          show mOc M (I (o + 8)) K (if f = -9 then _ else _) = _
          rw [if_neg hf]
          rfl
        have hwt : mWt ((op, y, p, S, f) :: K) = mWt K := by
          show (if f = -9 then (jTk 1 S).length else 0) + mWt K = _
          rw [if_neg hf, Nat.zero_add]
        rw [hwt] at hw hsum
        have hop := jOp_rng (op := op) (a := f) (b := x) hM2
        have hmb := mul_bd (x := f) (y := x) (by omega) (by omega)
        have hmp := Int.mul_nonneg (show 0 ≤ f by omega) hx.1
        have hn := ihK (jOp M op f x) acc J hw hop hcp k11 hacc (by omega) (by rw [hoc, hoc2])
        unfold jOp at hn
        refine sj_ild3 dX10_compute_237 ?_
        refine sj_if_le 301 dX10_compute_238 (by decide) (by omega) (fun c_238 => ?_) (fun c_238 => ?_)
        · exact absurd c_238 (by omega)
        refine sj_ald0 dX10_compute_241 ?_
        refine sj_getR fl_X10_46 (by assumption) rfl (mr_19 _) dX10_compute_242 ?_
        refine sj_ild3 dX10_compute_245 ?_
        refine sj_iconst dX10_compute_246 ?_
        refine sj_isub dX10_compute_247 ?_
        refine sj_ialdJ (K.length) (by assumption) (by omega) (by omega) (by omega) dX10_compute_248 ?_
        rw [k4]
        refine sj_bipush dX10_compute_249 (by decide) ?_
        refine sj_icmp_eq 301 dX10_compute_251 (by decide) (by omega) (by omega) (fun c_251 => ?_) (fun c_251 => ?_)
        · exact absurd c_251 hf
        refine sj_inc3 (by decide) rfl dX10_compute_254 ?_
        rw [show ((K.length + 1 : Nat) : Int) + -1 = ((K.length : Nat) : Int) by omega]
        refine sj_ald0 dX10_compute_257 ?_
        refine sj_getR fl_X10_37 (by assumption) rfl (mr_16 _) dX10_compute_258 ?_
        refine sj_ild3 dX10_compute_261 ?_
        refine sj_ialdJ (K.length) (by assumption) (by omega) (by omega) (by omega) dX10_compute_262 ?_
        rw [k1]
        refine sj_bipush dX10_compute_263 (by decide) ?_
        refine sj_icmp_ne 280 dX10_compute_265 (by decide) (by omega) (by omega) (fun c_265 => ?_) (fun c_265 => ?_)
        · refine sj_ald0 dX10_compute_280 ?_
          refine sj_getR fl_X10_46 (by assumption) rfl (mr_19 _) dX10_compute_281 ?_
          refine sj_ild3 dX10_compute_284 ?_
          refine sj_ialdJ (K.length) (by assumption) (by omega) (by omega) (by omega) dX10_compute_285 ?_
          rw [k4]
          refine sj_ild4 dX10_compute_286 ?_
          refine sj_imul dX10_compute_288 ?_
          refine sj_ald0 dX10_compute_289 ?_
          refine sj_getR fl_X10_7 (by assumption) rfl (mr_0 _) dX10_compute_290 ?_
          refine sj_iconst dX10_compute_293 ?_
          refine sj_ialdJ (0) (by assumption) (by omega) (by omega) (by omega) dX10_compute_294 ?_
          rw [hw1, hM]
          refine sj_irem dX10_compute_295 (by omega) (by omega) ?_
          refine sj_ist4 (by decide) rfl dX10_compute_296 ?_
          refine sj_goto 237 dX10_compute_298 (by decide) ?_
          first | (rw [if_pos (by omega)] at hn; exact hn) | (rw [if_neg (by omega)] at hn; exact hn)
        · refine sj_ald0 dX10_compute_268 ?_
          refine sj_getR fl_X10_46 (by assumption) rfl (mr_19 _) dX10_compute_269 ?_
          refine sj_ild3 dX10_compute_272 ?_
          refine sj_ialdJ (K.length) (by assumption) (by omega) (by omega) (by omega) dX10_compute_273 ?_
          rw [k4]
          refine sj_ild4 dX10_compute_274 ?_
          refine sj_iadd dX10_compute_276 ?_
          refine sj_goto 289 dX10_compute_277 (by decide) ?_
          refine sj_ald0 dX10_compute_289 ?_
          refine sj_getR fl_X10_7 (by assumption) rfl (mr_0 _) dX10_compute_290 ?_
          refine sj_iconst dX10_compute_293 ?_
          refine sj_ialdJ (0) (by assumption) (by omega) (by omega) (by omega) dX10_compute_294 ?_
          rw [hw1, hM]
          refine sj_irem dX10_compute_295 (by omega) (by omega) ?_
          refine sj_ist4 (by decide) rfl dX10_compute_296 ?_
          refine sj_goto 237 dX10_compute_298 (by decide) ?_
          first | (rw [if_pos (by omega)] at hn; exact hn) | (rw [if_neg (by omega)] at hn; exact hn)
  have lpO : 0 < I (o + 1) (1 + 250 * a) → ∀ (n : Nat) (L : List Int) (m p j : Nat) (K : List mFrm) (acc : List Nat) (J : sjI), (jTk 1 L).length + mWt K ≤ n → jOk (m + 1) L → lst (I (o + 1)) p (jEnc L).length = jEnc L → p + (jEnc L).length ≤ 2001 → j ≤ 1000000000 → mCp o I J → J o 22 = p → J o 23 = j → mStk o I M J K → mAcc o J acc → acc.length + K.length + (jTk 1 L).length + mWt K ≤ 120 → jEv M (I (o + 8)) T i = mOc M (I (o + 8)) K ((jEv M (I (o + 8)) L j).map (fun q => (acc ++ q.1, q.2))) → sj_V l Γ mX10_compute G (fun r σ' I' => σ = σ' ∧ mCp o I I' ∧ ((¬ 0 < I (o + 1) (1 + 250 * a) ∧ r = some (.int (zI (-9)))) ∨ (0 < I (o + 1) (1 + 250 * a) ∧ ((jEv M (I (o + 8)) T i = none ∧ r = some (.int (zI (-9)))) ∨ ∃ (nd : List Nat) (x : Int), jEv M (I (o + 8)) T i = some (nd, x) ∧ (0 ≤ x ∧ x < M) ∧ r = some (.int (zI x)) ∧ mAcc o I' nd ∧ nd.length ≤ 120)))) σ J 0 0 31 [some (.ref o), some (.int (zI a)), some (.int (zI i)), some (.int (zI (K.length : Nat))), none, none] [] := by
    intro hpos n
    induction n with
    | zero =>
      intro L m p j K acc J hw hok
      obtain ⟨c, N, rfl, -, -⟩ := jOk_ne hok
      have : (jTk 1 (c :: N)).length = (jTk (0 + jAr c) N).length + 1 := rfl
      omega
    | succ n ih =>
      intro L m p j K acc J hw hok hL hb hj hcp h22 h23 hst hacc hsum hoc
      have hw1 : J (o + 1) = I (o + 1) := hcp.1 (o + 1) (by omega) (by omega)
      have hl1 : 1 ≤ (jTk 1 L).length := by
        obtain ⟨c, N, rfl, -, -⟩ := jOk_ne hok
        have : (jTk 1 (c :: N)).length = (jTk (0 + jAr c) N).length + 1 := rfl
        omega
      have hkeep : ∀ {J' : sjI} {p' j' : Nat}, mPi o J J' p' j' → mCp o I J' ∧ mStk o I M J' K ∧ mAcc o J' acc ∧ J' (o + 1) = I (o + 1) ∧ J' (o + 8) = I (o + 8) ∧ J' o 22 = p' ∧ J' o 23 = j' := by
        intro J' p' j' h
        refine ⟨⟨fun a e1 e2 => by rw [h.1 a e1]; exact hcp.1 a e1 e2, fun j e1 e2 e3 => by rw [h.2.1 j e2 e3]; exact hcp.2 j e1 e2 e3⟩, hst.kept (fun a j e1 e2 e3 => by rw [h.1 a (by omega)]), ⟨by rw [h.2.1 21 (by decide) (by decide)]; exact hacc.1, by rw [h.1 (o + 14) (by omega)]; exact hacc.2⟩, by rw [h.1 (o + 1) (by omega)]; exact hw1, by rw [h.1 (o + 8) (by omega)]; exact hcp.1 (o + 8) (by omega) (by omega), h.2.2.1, h.2.2.2⟩
      have c1 : ∀ (J' : sjI) (p' j' : Nat) (x : Int), mPi o J J' p' j' → p' < 2001 → (0 ≤ x ∧ x < M) → jN L j = some [] → (∀ vv, jV M vv L j = x) → sj_V l Γ mX10_compute G (fun r σ' I' => σ = σ' ∧ mCp o I I' ∧ ((¬ 0 < I (o + 1) (1 + 250 * a) ∧ r = some (.int (zI (-9)))) ∨ (0 < I (o + 1) (1 + 250 * a) ∧ ((jEv M (I (o + 8)) T i = none ∧ r = some (.int (zI (-9)))) ∨ ∃ (nd : List Nat) (x : Int), jEv M (I (o + 8)) T i = some (nd, x) ∧ (0 ≤ x ∧ x < M) ∧ r = some (.int (zI x)) ∧ mAcc o I' nd ∧ nd.length ≤ 120)))) σ J' 0 0 35 [some (.ref o), some (.int (zI a)), some (.int (zI i)), some (.int (zI (K.length : Nat))), none, none] [.int (zI x)] := by
        intro J' p' j' x hpi hp' hx hn0 hv0
        obtain ⟨q1, q2, q3, q4, q5, q6, q7⟩ := hkeep hpi
        rw [jEv_const hn0 hv0] at hoc
        refine sj_ist4 (by decide) rfl dX10_compute_35 ?_
        refine sj_ald0 dX10_compute_37 ?_
        refine sj_getR fl_X10_7 (by assumption) rfl (mr_0 _) dX10_compute_38 ?_
        refine sj_ald0 dX10_compute_41 ?_
        refine sj_getI fl_X10_169 (by assumption) rfl dX10_compute_42 ?_
        rw [q6]
        refine sj_ialdJ (p') (by assumption) (by omega) (by omega) (by omega) dX10_compute_45 ?_
        refine sj_ist5 (by decide) rfl dX10_compute_46 ?_
        refine sj_ild4 dX10_compute_48 ?_
        refine sj_bipush dX10_compute_50 (by decide) ?_
        refine sj_icmp_ne 139 dX10_compute_52 (by decide) (by omega) (by omega) (fun c_52 => ?_) (fun c_52 => ?_)
        rotate_left
        · exact absurd (by omega) c_52
        refine sj_ild4 dX10_compute_139 ?_
        refine sj_bipush dX10_compute_141 (by decide) ?_
        refine sj_icmp_ne 237 dX10_compute_143 (by decide) (by omega) (by omega) (fun c_143 => ?_) (fun c_143 => ?_)
        rotate_left
        · exact absurd (by omega) c_143
        refine sj_fg5 ?_
        exact lpI hpos n ih K x acc J' (by omega) hx q1 q2 q3 (by omega) (by rw [hoc]; show mOc M (I (o + 8)) K (some (acc ++ [], x)) = _; rw [List.append_nil])
      have c2 : ∀ (J' : sjI) (p' j' : Nat), mPi o J J' p' j' → p' < 2001 → (1000000000 < j' ∧ j' < 2000000000) → (0 ≤ J (o + 1) p' ∧ J (o + 1) p' < 128) → jN L j = none → sj_V l Γ mX10_compute G (fun r σ' I' => σ = σ' ∧ mCp o I I' ∧ ((¬ 0 < I (o + 1) (1 + 250 * a) ∧ r = some (.int (zI (-9)))) ∨ (0 < I (o + 1) (1 + 250 * a) ∧ ((jEv M (I (o + 8)) T i = none ∧ r = some (.int (zI (-9)))) ∨ ∃ (nd : List Nat) (x : Int), jEv M (I (o + 8)) T i = some (nd, x) ∧ (0 ≤ x ∧ x < M) ∧ r = some (.int (zI x)) ∧ mAcc o I' nd ∧ nd.length ≤ 120)))) σ J' 0 0 35 [some (.ref o), some (.int (zI a)), some (.int (zI i)), some (.int (zI (K.length : Nat))), none, none] [.int (zI (-9))] := by
        intro J' p' j' hpi hp' hbig hbyte hn0
        obtain ⟨q1, q2, q3, q4, q5, q6, q7⟩ := hkeep hpi
        rw [hw1] at hbyte
        rw [jEv_none hn0] at hoc
        have hoc2 : jEv M (I (o + 8)) T i = none := by rw [hoc]; exact mOc_none M _ K
        refine sj_ist4 (by decide) rfl dX10_compute_35 ?_
        refine sj_ald0 dX10_compute_37 ?_
        refine sj_getR fl_X10_7 (by assumption) rfl (mr_0 _) dX10_compute_38 ?_
        refine sj_ald0 dX10_compute_41 ?_
        refine sj_getI fl_X10_169 (by assumption) rfl dX10_compute_42 ?_
        rw [q6]
        refine sj_ialdJ (p') (by assumption) (by omega) (by omega) (by omega) dX10_compute_45 ?_
        rw [q4]
        refine sj_ist5 (by decide) rfl dX10_compute_46 ?_
        refine sj_ild4 dX10_compute_48 ?_
        refine sj_bipush dX10_compute_50 (by decide) ?_
        refine sj_icmp_ne 139 dX10_compute_52 (by decide) (by omega) (by omega) (fun c_52 => ?_) (fun c_52 => ?_)
        · exact absurd rfl c_52
        refine sj_ild5 dX10_compute_55 ?_
        refine sj_bipush dX10_compute_57 (by decide) ?_
        refine sj_icmp_eq 69 dX10_compute_59 (by decide) (by omega) (by omega) (fun c_59 => ?_) (fun c_59 => ?_)
        · refine sj_ald0 dX10_compute_69 ?_
          refine sj_getI fl_X10_172 (by assumption) rfl dX10_compute_70 ?_
          rw [q7]
          refine sj_ldc kd_X10_175 dX10_compute_73 ?_
          refine sj_icmp_gt 139 dX10_compute_75 (by decide) (by omega) (by omega) (fun c_75 => ?_) (fun c_75 => ?_)
          rotate_left
          · exact absurd (by omega) c_75
          refine sj_ild4 dX10_compute_139 ?_
          refine sj_bipush dX10_compute_141 (by decide) ?_
          refine sj_icmp_ne 237 dX10_compute_143 (by decide) (by omega) (by omega) (fun c_143 => ?_) (fun c_143 => ?_)
          · exact absurd rfl c_143
          refine sj_ald0 dX10_compute_146 ?_
          refine sj_getI fl_X10_172 (by assumption) rfl dX10_compute_147 ?_
          rw [q7]
          refine sj_sipush dX10_compute_150 (by decide) ?_
          refine sj_icmp_ge 180 dX10_compute_153 (by decide) (by omega) (by omega) (fun c_153 => ?_) (fun c_153 => ?_)
          rotate_left
          · exact absurd (by omega) c_153
          refine sj_bipush dX10_compute_180 (by decide) ?_
          exact sj_iret dX10_compute_182 rfl rfl (Nat.le_of_ble_eq_true rfl) (Nat.le_of_ble_eq_true rfl) ⟨rfl, q1, Or.inr ⟨hpos, Or.inl ⟨hoc2, rfl⟩⟩⟩
        · refine sj_ild5 dX10_compute_62 ?_
          refine sj_bipush dX10_compute_64 (by decide) ?_
          refine sj_icmp_ne 139 dX10_compute_66 (by decide) (by omega) (by omega) (fun c_66 => ?_) (fun c_66 => ?_)
          · refine sj_ild4 dX10_compute_139 ?_
            refine sj_bipush dX10_compute_141 (by decide) ?_
            refine sj_icmp_ne 237 dX10_compute_143 (by decide) (by omega) (by omega) (fun c_143 => ?_) (fun c_143 => ?_)
            · exact absurd rfl c_143
            refine sj_ald0 dX10_compute_146 ?_
            refine sj_getI fl_X10_172 (by assumption) rfl dX10_compute_147 ?_
            rw [q7]
            refine sj_sipush dX10_compute_150 (by decide) ?_
            refine sj_icmp_ge 180 dX10_compute_153 (by decide) (by omega) (by omega) (fun c_153 => ?_) (fun c_153 => ?_)
            rotate_left
            · exact absurd (by omega) c_153
            refine sj_bipush dX10_compute_180 (by decide) ?_
            exact sj_iret dX10_compute_182 rfl rfl (Nat.le_of_ble_eq_true rfl) (Nat.le_of_ble_eq_true rfl) ⟨rfl, q1, Or.inr ⟨hpos, Or.inl ⟨hoc2, rfl⟩⟩⟩
          · refine sj_ald0 dX10_compute_69 ?_
            refine sj_getI fl_X10_172 (by assumption) rfl dX10_compute_70 ?_
            rw [q7]
            refine sj_ldc kd_X10_175 dX10_compute_73 ?_
            refine sj_icmp_gt 139 dX10_compute_75 (by decide) (by omega) (by omega) (fun c_75 => ?_) (fun c_75 => ?_)
            rotate_left
            · exact absurd (by omega) c_75
            refine sj_ild4 dX10_compute_139 ?_
            refine sj_bipush dX10_compute_141 (by decide) ?_
            refine sj_icmp_ne 237 dX10_compute_143 (by decide) (by omega) (by omega) (fun c_143 => ?_) (fun c_143 => ?_)
            · exact absurd rfl c_143
            refine sj_ald0 dX10_compute_146 ?_
            refine sj_getI fl_X10_172 (by assumption) rfl dX10_compute_147 ?_
            rw [q7]
            refine sj_sipush dX10_compute_150 (by decide) ?_
            refine sj_icmp_ge 180 dX10_compute_153 (by decide) (by omega) (by omega) (fun c_153 => ?_) (fun c_153 => ?_)
            rotate_left
            · exact absurd (by omega) c_153
            refine sj_bipush dX10_compute_180 (by decide) ?_
            exact sj_iret dX10_compute_182 rfl rfl (Nat.le_of_ble_eq_true rfl) (Nat.le_of_ble_eq_true rfl) ⟨rfl, q1, Or.inr ⟨hpos, Or.inl ⟨hoc2, rfl⟩⟩⟩
      have c3 : ∀ (J' : sjI) (p' j' : Nat) (c : Int) (L' : List Int) (m' : Nat), mPi o J J' p' j' → p' < 2001 → j' ≤ 1000000000 → jOk (m' + 1) (c :: L') → (jTk 1 (c :: L')).length ≤ (jTk 1 L).length → ((65 ≤ c ∧ c ≤ 72) ∨ c = 43 ∨ c = 42) → lst (I (o + 1)) p' (jEnc (c :: L')).length = jEnc (c :: L') → p' + (jEnc (c :: L')).length ≤ 2001 → jEv M (I (o + 8)) L j = jEv M (I (o + 8)) (c :: L') j' → sj_V l Γ mX10_compute G (fun r σ' I' => σ = σ' ∧ mCp o I I' ∧ ((¬ 0 < I (o + 1) (1 + 250 * a) ∧ r = some (.int (zI (-9)))) ∨ (0 < I (o + 1) (1 + 250 * a) ∧ ((jEv M (I (o + 8)) T i = none ∧ r = some (.int (zI (-9)))) ∨ ∃ (nd : List Nat) (x : Int), jEv M (I (o + 8)) T i = some (nd, x) ∧ (0 ≤ x ∧ x < M) ∧ r = some (.int (zI x)) ∧ mAcc o I' nd ∧ nd.length ≤ 120)))) σ J' 0 0 35 [some (.ref o), some (.int (zI a)), some (.int (zI i)), some (.int (zI (K.length : Nat))), none, none] [.int (zI (-9))] := by
        intro J' p' j' c L' m' hpi hp' hj' hok' hle hcc hL' hb' hev
        obtain ⟨q1, q2, q3, q4, q5, q6, q7⟩ := hkeep hpi
        obtain ⟨e1, -, e3⟩ := lst_code hL'
        rw [if_neg (by omega)] at e1
        have hel : (jE c).length = 1 := by rw [jE_else (by omega)]; rfl
        rw [hel] at e3
        have hlen : (jEnc (c :: L')).length = 1 + (jEnc L').length := by rw [jEnc_cons, List.length_append, hel]
        rw [hev] at hoc
        by_cases hlet : 65 ≤ c ∧ c ≤ 72
        · rw [jEv_let hlet hj'] at hoc
          have hcell : 400 * (c - 65).toNat + 399 < 3200 := by omega
          have hvc : j' < 400 → I (o + 8) (400 * (c - 65).toNat + j') = -9 ∨ (0 ≤ I (o + 8) (400 * (c - 65).toNat + j') ∧ I (o + 8) (400 * (c - 65).toNat + j') < M) := fun h => hv _ (by omega)
          refine sj_ist4 (by decide) rfl dX10_compute_35 ?_
          refine sj_ald0 dX10_compute_37 ?_
          refine sj_getR fl_X10_7 (by assumption) rfl (mr_0 _) dX10_compute_38 ?_
          refine sj_ald0 dX10_compute_41 ?_
          refine sj_getI fl_X10_169 (by assumption) rfl dX10_compute_42 ?_
          rw [q6]
          refine sj_ialdJ (p') (by assumption) (by omega) (by omega) (by omega) dX10_compute_45 ?_
          rw [q4, e1]
          refine sj_ist5 (by decide) rfl dX10_compute_46 ?_
          refine sj_ild4 dX10_compute_48 ?_
          refine sj_bipush dX10_compute_50 (by decide) ?_
          refine sj_icmp_ne 139 dX10_compute_52 (by decide) (by omega) (by omega) (fun c_52 => ?_) (fun c_52 => ?_)
          · exact absurd rfl c_52
          refine sj_ild5 dX10_compute_55 ?_
          refine sj_bipush dX10_compute_57 (by decide) ?_
          refine sj_icmp_eq 69 dX10_compute_59 (by decide) (by omega) (by omega) (fun c_59 => ?_) (fun c_59 => ?_)
          · exact absurd c_59 (by omega)
          refine sj_ild5 dX10_compute_62 ?_
          refine sj_bipush dX10_compute_64 (by decide) ?_
          refine sj_icmp_ne 139 dX10_compute_66 (by decide) (by omega) (by omega) (fun c_66 => ?_) (fun c_66 => ?_)
          rotate_left
          · exact absurd (by omega) c_66
          refine sj_ild4 dX10_compute_139 ?_
          refine sj_bipush dX10_compute_141 (by decide) ?_
          refine sj_icmp_ne 237 dX10_compute_143 (by decide) (by omega) (by omega) (fun c_143 => ?_) (fun c_143 => ?_)
          · exact absurd rfl c_143
          refine sj_ald0 dX10_compute_146 ?_
          refine sj_getI fl_X10_172 (by assumption) rfl dX10_compute_147 ?_
          rw [q7]
          refine sj_sipush dX10_compute_150 (by decide) ?_
          refine sj_icmp_ge 180 dX10_compute_153 (by decide) (by omega) (by omega) (fun c_153 => ?_) (fun c_153 => ?_)
          · refine sj_bipush dX10_compute_180 (by decide) ?_
            exact sj_iret dX10_compute_182 rfl rfl (Nat.le_of_ble_eq_true rfl) (Nat.le_of_ble_eq_true rfl) ⟨rfl, q1, Or.inr ⟨hpos, Or.inl ⟨by rw [hoc, if_neg (by omega)]; exact mOc_none M _ K, rfl⟩⟩⟩
          · have hvc2 := hvc (by omega)
            refine sj_ald0 dX10_compute_156 ?_
            refine sj_getR fl_X10_31 (by assumption) rfl (mr_13 _) dX10_compute_157 ?_
            refine sj_sipush dX10_compute_160 (by decide) ?_
            refine sj_ild5 dX10_compute_163 ?_
            refine sj_bipush dX10_compute_165 (by decide) ?_
            refine sj_isub dX10_compute_167 ?_
            refine sj_imul dX10_compute_168 ?_
            refine sj_ald0 dX10_compute_169 ?_
            refine sj_getI fl_X10_172 (by assumption) rfl dX10_compute_170 ?_
            rw [q7]
            refine sj_iadd dX10_compute_173 ?_
            refine sj_ialdJ (400 * (c - 65).toNat + j') (by assumption) (by omega) (by omega) (by omega) dX10_compute_174 ?_
            rw [q5]
            refine sj_bipush dX10_compute_175 (by decide) ?_
            refine sj_icmp_ne 183 dX10_compute_177 (by decide) (by omega) (by omega) (fun c_177 => ?_) (fun c_177 => ?_)
            · rw [if_pos (by omega)] at hoc
              refine sj_ald0 dX10_compute_183 ?_
              refine sj_getR fl_X10_49 (by assumption) rfl (mr_20 _) dX10_compute_184 ?_
              refine sj_ald0 dX10_compute_187 ?_
              refine sj_getI fl_X10_178 (by assumption) rfl dX10_compute_188 ?_
              rw [q3.1]
              refine sj_sipush dX10_compute_191 (by decide) ?_
              refine sj_ild5 dX10_compute_194 ?_
              refine sj_bipush dX10_compute_196 (by decide) ?_
              refine sj_isub dX10_compute_198 ?_
              refine sj_imul dX10_compute_199 ?_
              refine sj_ald0 dX10_compute_200 ?_
              refine sj_getI fl_X10_172 (by assumption) rfl dX10_compute_201 ?_
              rw [q7]
              refine sj_iadd dX10_compute_204 ?_
              rw [show 400 * (c - 65) + (j' : Int) = ((400 * (c - 65).toNat + j' : Nat) : Int) by omega]
              refine sj_iastJ (acc.length) (by assumption) (by omega) (by omega) (by omega) dX10_compute_205 ?_
              refine sj_ald0 dX10_compute_206 ?_
              refine sj_dup dX10_compute_207 rfl ?_
              refine sj_getI fl_X10_178 (by assumption) rfl dX10_compute_208 ?_
              rw [sj_up_ne (by omega), q3.1]
              refine sj_iconst dX10_compute_211 ?_
              refine sj_iadd dX10_compute_212 ?_
              refine sj_putI fl_X10_178 (by assumption) rfl rfl rfl dX10_compute_213 ?_
              refine sj_ald0 dX10_compute_216 ?_
              refine sj_getR fl_X10_31 (by assumption) rfl (mr_13 _) dX10_compute_217 ?_
              refine sj_sipush dX10_compute_220 (by decide) ?_
              refine sj_ild5 dX10_compute_223 ?_
              refine sj_bipush dX10_compute_225 (by decide) ?_
              refine sj_isub dX10_compute_227 ?_
              refine sj_imul dX10_compute_228 ?_
              refine sj_ald0 dX10_compute_229 ?_
              refine sj_getI fl_X10_172 (by assumption) rfl dX10_compute_230 ?_
              rw [sj_up_ne (by omega), sj_up_ne (by omega), q7]
              refine sj_iadd dX10_compute_233 ?_
              refine sj_ialdJ (400 * (c - 65).toNat + j') (by assumption) (by omega) (by omega) (by omega) dX10_compute_234 ?_
              rw [sj_up_row (by omega), sj_up_row (by omega), q5]
              refine sj_ist4 (by decide) rfl dX10_compute_235 ?_
              refine sj_fg5 ?_
              refine lpI hpos n ih K _ (acc ++ [400 * (c - 65).toNat + j']) _ (by omega) (by omega) ⟨fun a e1 e2 => by rw [sj_up_row e1, sj_up_row (by omega)]; exact q1.1 a e1 e2, fun j e1 e2 e3 => by rw [sj_up_ne (by omega), sj_up_ne (by omega)]; exact q1.2 j e1 e2 e3⟩ (q2.kept (fun a j e1 e2 e3 => by rw [sj_up_row (by omega), sj_up_row (by omega)])) (q3.push rfl) (by rw [List.length_append, List.length_singleton]; omega) hoc
            · refine sj_bipush dX10_compute_180 (by decide) ?_
              exact sj_iret dX10_compute_182 rfl rfl (Nat.le_of_ble_eq_true rfl) (Nat.le_of_ble_eq_true rfl) ⟨rfl, q1, Or.inr ⟨hpos, Or.inl ⟨by rw [hoc, if_neg (by omega)]; exact mOc_none M _ K, rfl⟩⟩⟩
        · have hop : c = 43 ∨ c = 42 := by omega
          have har : jAr c = 2 := if_pos (by omega)
          have hN2 : jOk (1 + (m' + 1)) L' := by
            have := hok'.2
            rw [har] at this
            rw [show 1 + (m' + 1) = m' + 2 by omega]
            exact this
          obtain ⟨a1, a2⟩ := jOk_split L' 1 (m' + 1) hN2
          have a3 := jTkDr L' 1
          have hNl : (jEnc L').length = (jEnc (jTk 1 L')).length + (jEnc (jDr 1 L')).length := by rw [← List.length_append, ← jEnc_app, a3]
          have e3' := e3
          rw [← a3, jEnc_app] at e3'
          obtain ⟨b1, b2⟩ := lst_both e3'
          have htl : (jTk 1 (c :: L')).length = 1 + ((jTk 1 L').length + (jTk 1 (jDr 1 L')).length) := by
            show (jTk (0 + jAr c) L').length + 1 = _
            rw [har, show 0 + 2 = 1 + 1 from rfl, jTk_add, List.length_append]
            omega
          rw [jEv_op hop hj'] at hoc
          have hoc2 : jEv M (I (o + 8)) T i = mOc M (I (o + 8)) ((c, j', p' + 1 + (jEnc (jTk 1 L')).length, jDr 1 L', -9) :: K) ((jEv M (I (o + 8)) L' j').map (fun q => (acc ++ q.1, q.2))) := by
            rw [hoc]
            show _ = mOc M (I (o + 8)) K (if (-9 : Int) = -9 then _ else _)
            rw [if_pos rfl]
            congr 1
            cases jEv M (I (o + 8)) L' j' with
            | none => rfl
            | some x =>
              cases jEv M (I (o + 8)) (jDr 1 L') j' with
              | none => rfl
              | some y => simp [List.append_assoc]
          have hwt : mWt ((c, j', p' + 1 + (jEnc (jTk 1 L')).length, jDr 1 L', -9) :: K) = (jTk 1 (jDr 1 L')).length + mWt K := by
            show (if (-9 : Int) = -9 then (jTk 1 (jDr 1 L')).length else 0) + mWt K = _
            rw [if_pos rfl]
          refine sj_ist4 (by decide) rfl dX10_compute_35 ?_
          refine sj_ald0 dX10_compute_37 ?_
          refine sj_getR fl_X10_7 (by assumption) rfl (mr_0 _) dX10_compute_38 ?_
          refine sj_ald0 dX10_compute_41 ?_
          refine sj_getI fl_X10_169 (by assumption) rfl dX10_compute_42 ?_
          rw [q6]
          refine sj_ialdJ (p') (by assumption) (by omega) (by omega) (by omega) dX10_compute_45 ?_
          rw [q4, e1]
          refine sj_ist5 (by decide) rfl dX10_compute_46 ?_
          refine sj_ild4 dX10_compute_48 ?_
          refine sj_bipush dX10_compute_50 (by decide) ?_
          refine sj_icmp_ne 139 dX10_compute_52 (by decide) (by omega) (by omega) (fun c_52 => ?_) (fun c_52 => ?_)
          · exact absurd rfl c_52
          refine sj_ild5 dX10_compute_55 ?_
          refine sj_bipush dX10_compute_57 (by decide) ?_
          refine sj_icmp_eq 69 dX10_compute_59 (by decide) (by omega) (by omega) (fun c_59 => ?_) (fun c_59 => ?_)
          · refine sj_ald0 dX10_compute_69 ?_
            refine sj_getI fl_X10_172 (by assumption) rfl dX10_compute_70 ?_
            rw [q7]
            refine sj_ldc kd_X10_175 dX10_compute_73 ?_
            refine sj_icmp_gt 139 dX10_compute_75 (by decide) (by omega) (by omega) (fun c_75 => ?_) (fun c_75 => ?_)
            · exact absurd c_75 (by omega)
            refine sj_ald0 dX10_compute_78 ?_
            refine sj_getR fl_X10_37 (by assumption) rfl (mr_16 _) dX10_compute_79 ?_
            refine sj_ild3 dX10_compute_82 ?_
            refine sj_ild5 dX10_compute_83 ?_
            refine sj_iastJ (K.length) (by assumption) (by omega) (by omega) (by omega) dX10_compute_85 ?_
            refine sj_ald0 dX10_compute_86 ?_
            refine sj_getR fl_X10_40 (by assumption) rfl (mr_17 _) dX10_compute_87 ?_
            refine sj_ild3 dX10_compute_90 ?_
            refine sj_ald0 dX10_compute_91 ?_
            refine sj_getI fl_X10_172 (by assumption) rfl dX10_compute_92 ?_
            rw [sj_up_row (by omega), q7]
            refine sj_iastJ (K.length) (by assumption) (by omega) (by omega) (by omega) dX10_compute_95 ?_
            refine sj_ald0 dX10_compute_96 ?_
            refine sj_getR fl_X10_43 (by assumption) rfl (mr_18 _) dX10_compute_97 ?_
            refine sj_ild3 dX10_compute_100 ?_
            refine sj_ald0 dX10_compute_101 ?_
            refine sj_getR fl_X10_7 (by assumption) rfl (mr_0 _) dX10_compute_102 ?_
            refine sj_ald0 dX10_compute_105 ?_
            refine sj_getI fl_X10_169 (by assumption) rfl dX10_compute_106 ?_
            rw [sj_up_row (by omega), sj_up_row (by omega), q6]
            refine sj_iconst dX10_compute_109 ?_
            refine sj_iadd dX10_compute_110 ?_
            rw [show (p' : Int) + 1 = ((p' + 1 : Nat) : Int) by omega]
            refine sj_callS (cm_skip h_w (by omega) a1 (by rw [sj_up_row (by omega), sj_up_row (by omega), q4]; exact b1) (by omega)) kc_X10_136 rfl rfl (Nat.le_of_ble_eq_true rfl) dX10_compute_111 (fun r_111 σ_111 I_111 hp_111 => ?_)
            obtain ⟨rfl, rfl, rfl⟩ := hp_111
            refine sj_iastJ (K.length) (by assumption) (by omega) (by omega) (by omega) dX10_compute_114 ?_
            refine sj_ald0 dX10_compute_115 ?_
            refine sj_getR fl_X10_46 (by assumption) rfl (mr_19 _) dX10_compute_116 ?_
            refine sj_ild3 dX10_compute_119 ?_
            refine sj_bipush dX10_compute_120 (by decide) ?_
            refine sj_iastJ (K.length) (by assumption) (by omega) (by omega) (by omega) dX10_compute_122 ?_
            refine sj_inc3 (by decide) rfl dX10_compute_123 ?_
            refine sj_ald0 dX10_compute_126 ?_
            refine sj_dup dX10_compute_127 rfl ?_
            refine sj_getI fl_X10_169 (by assumption) rfl dX10_compute_128 ?_
            rw [sj_up_row (by omega), sj_up_row (by omega), sj_up_row (by omega), sj_up_row (by omega), q6]
            refine sj_iconst dX10_compute_131 ?_
            refine sj_iadd dX10_compute_132 ?_
            refine sj_putI fl_X10_169 (by assumption) rfl rfl rfl dX10_compute_133 ?_
            refine sj_goto 342 dX10_compute_136 (by decide) ?_
            refine sj_goto 31 dX10_compute_342 (by decide) ?_
            refine sj_fg5 (sj_fg4 ?_)
            refine ih L' (m' + 1) (p' + 1) j' ((c, j', p' + 1 + (jEnc (jTk 1 L')).length, jDr 1 L', -9) :: K) acc _ (by rw [hwt]; omega) (by rw [show m' + 1 + 1 = 1 + (m' + 1) by omega]; exact hN2) e3 (by omega) hj' ⟨fun a e1 e2 => by rw [sj_up_row e1, sj_up_row (by omega), sj_up_row (by omega), sj_up_row (by omega), sj_up_row (by omega)]; exact q1.1 a e1 e2, fun j e1 e2 e3 => by rw [sj_up_ne (by omega), sj_up_ne (by omega), sj_up_ne (by omega), sj_up_ne (by omega), sj_up_ne (by omega)]; exact q1.2 j e1 e2 e3⟩ (by rw [sj_up_self]; omega) (by rw [sj_up_ne (by omega), sj_up_ne (by omega), sj_up_ne (by omega), sj_up_ne (by omega), sj_up_ne (by omega)]; exact q7) ?_ ?_ (by rw [hwt, List.length_cons]; omega) hoc2
            · refine ⟨⟨by rw [sj_up_row (by omega), sj_up_row (by omega), sj_up_row (by omega), sj_up_row (by omega), sj_up_self], by rw [sj_up_row (by omega), sj_up_row (by omega), sj_up_row (by omega), sj_up_self], by rw [sj_up_row (by omega), sj_up_row (by omega), sj_up_self], by rw [sj_up_row (by omega), sj_up_self]⟩, hop, hj', ⟨m', a2⟩, b2, by omega, Or.inl rfl, q2.kept (fun a j e1 e2 e3 => by rw [sj_up_row (by omega), sj_up_ne (by omega), sj_up_ne (by omega), sj_up_ne (by omega), sj_up_ne (by omega)])⟩
            · exact ⟨by rw [sj_up_ne (by omega), sj_up_ne (by omega), sj_up_ne (by omega), sj_up_ne (by omega), sj_up_ne (by omega)]; exact q3.1, by rw [lst_up (Or.inl (by omega)), lst_up (Or.inl (by omega)), lst_up (Or.inl (by omega)), lst_up (Or.inl (by omega)), lst_up (Or.inl (by omega))]; exact q3.2⟩
          · refine sj_ild5 dX10_compute_62 ?_
            refine sj_bipush dX10_compute_64 (by decide) ?_
            refine sj_icmp_ne 139 dX10_compute_66 (by decide) (by omega) (by omega) (fun c_66 => ?_) (fun c_66 => ?_)
            · exact absurd (by omega) c_66
            refine sj_ald0 dX10_compute_69 ?_
            refine sj_getI fl_X10_172 (by assumption) rfl dX10_compute_70 ?_
            rw [q7]
            refine sj_ldc kd_X10_175 dX10_compute_73 ?_
            refine sj_icmp_gt 139 dX10_compute_75 (by decide) (by omega) (by omega) (fun c_75 => ?_) (fun c_75 => ?_)
            · exact absurd c_75 (by omega)
            refine sj_ald0 dX10_compute_78 ?_
            refine sj_getR fl_X10_37 (by assumption) rfl (mr_16 _) dX10_compute_79 ?_
            refine sj_ild3 dX10_compute_82 ?_
            refine sj_ild5 dX10_compute_83 ?_
            refine sj_iastJ (K.length) (by assumption) (by omega) (by omega) (by omega) dX10_compute_85 ?_
            refine sj_ald0 dX10_compute_86 ?_
            refine sj_getR fl_X10_40 (by assumption) rfl (mr_17 _) dX10_compute_87 ?_
            refine sj_ild3 dX10_compute_90 ?_
            refine sj_ald0 dX10_compute_91 ?_
            refine sj_getI fl_X10_172 (by assumption) rfl dX10_compute_92 ?_
            rw [sj_up_row (by omega), q7]
            refine sj_iastJ (K.length) (by assumption) (by omega) (by omega) (by omega) dX10_compute_95 ?_
            refine sj_ald0 dX10_compute_96 ?_
            refine sj_getR fl_X10_43 (by assumption) rfl (mr_18 _) dX10_compute_97 ?_
            refine sj_ild3 dX10_compute_100 ?_
            refine sj_ald0 dX10_compute_101 ?_
            refine sj_getR fl_X10_7 (by assumption) rfl (mr_0 _) dX10_compute_102 ?_
            refine sj_ald0 dX10_compute_105 ?_
            refine sj_getI fl_X10_169 (by assumption) rfl dX10_compute_106 ?_
            rw [sj_up_row (by omega), sj_up_row (by omega), q6]
            refine sj_iconst dX10_compute_109 ?_
            refine sj_iadd dX10_compute_110 ?_
            rw [show (p' : Int) + 1 = ((p' + 1 : Nat) : Int) by omega]
            refine sj_callS (cm_skip h_w (by omega) a1 (by rw [sj_up_row (by omega), sj_up_row (by omega), q4]; exact b1) (by omega)) kc_X10_136 rfl rfl (Nat.le_of_ble_eq_true rfl) dX10_compute_111 (fun r_111 σ_111 I_111 hp_111 => ?_)
            obtain ⟨rfl, rfl, rfl⟩ := hp_111
            refine sj_iastJ (K.length) (by assumption) (by omega) (by omega) (by omega) dX10_compute_114 ?_
            refine sj_ald0 dX10_compute_115 ?_
            refine sj_getR fl_X10_46 (by assumption) rfl (mr_19 _) dX10_compute_116 ?_
            refine sj_ild3 dX10_compute_119 ?_
            refine sj_bipush dX10_compute_120 (by decide) ?_
            refine sj_iastJ (K.length) (by assumption) (by omega) (by omega) (by omega) dX10_compute_122 ?_
            refine sj_inc3 (by decide) rfl dX10_compute_123 ?_
            refine sj_ald0 dX10_compute_126 ?_
            refine sj_dup dX10_compute_127 rfl ?_
            refine sj_getI fl_X10_169 (by assumption) rfl dX10_compute_128 ?_
            rw [sj_up_row (by omega), sj_up_row (by omega), sj_up_row (by omega), sj_up_row (by omega), q6]
            refine sj_iconst dX10_compute_131 ?_
            refine sj_iadd dX10_compute_132 ?_
            refine sj_putI fl_X10_169 (by assumption) rfl rfl rfl dX10_compute_133 ?_
            refine sj_goto 342 dX10_compute_136 (by decide) ?_
            refine sj_goto 31 dX10_compute_342 (by decide) ?_
            refine sj_fg5 (sj_fg4 ?_)
            refine ih L' (m' + 1) (p' + 1) j' ((c, j', p' + 1 + (jEnc (jTk 1 L')).length, jDr 1 L', -9) :: K) acc _ (by rw [hwt]; omega) (by rw [show m' + 1 + 1 = 1 + (m' + 1) by omega]; exact hN2) e3 (by omega) hj' ⟨fun a e1 e2 => by rw [sj_up_row e1, sj_up_row (by omega), sj_up_row (by omega), sj_up_row (by omega), sj_up_row (by omega)]; exact q1.1 a e1 e2, fun j e1 e2 e3 => by rw [sj_up_ne (by omega), sj_up_ne (by omega), sj_up_ne (by omega), sj_up_ne (by omega), sj_up_ne (by omega)]; exact q1.2 j e1 e2 e3⟩ (by rw [sj_up_self]; omega) (by rw [sj_up_ne (by omega), sj_up_ne (by omega), sj_up_ne (by omega), sj_up_ne (by omega), sj_up_ne (by omega)]; exact q7) ?_ ?_ (by rw [hwt, List.length_cons]; omega) hoc2
            · refine ⟨⟨by rw [sj_up_row (by omega), sj_up_row (by omega), sj_up_row (by omega), sj_up_row (by omega), sj_up_self], by rw [sj_up_row (by omega), sj_up_row (by omega), sj_up_row (by omega), sj_up_self], by rw [sj_up_row (by omega), sj_up_row (by omega), sj_up_self], by rw [sj_up_row (by omega), sj_up_self]⟩, hop, hj', ⟨m', a2⟩, b2, by omega, Or.inl rfl, q2.kept (fun a j e1 e2 e3 => by rw [sj_up_row (by omega), sj_up_ne (by omega), sj_up_ne (by omega), sj_up_ne (by omega), sj_up_ne (by omega)])⟩
            · exact ⟨by rw [sj_up_ne (by omega), sj_up_ne (by omega), sj_up_ne (by omega), sj_up_ne (by omega), sj_up_ne (by omega)]; exact q3.1, by rw [lst_up (Or.inl (by omega)), lst_up (Or.inl (by omega)), lst_up (Or.inl (by omega)), lst_up (Or.inl (by omega)), lst_up (Or.inl (by omega))]; exact q3.2⟩
      refine sj_ald0 dX10_compute_31 ?_
      refine sj_callV (cm_descend (I := J) (J0 := J) hS (by rw [hw1]; exact hM) hM2 hok (by rw [hw1]; exact hL) hb (by omega) ⟨fun _ _ => rfl, fun _ _ _ => rfl, h22, h23⟩) kc_X10_181 (by assumption) rfl rfl rfl rfl (Nat.le_of_ble_eq_true rfl) dX10_compute_32 (fun r_32 σ_32 I_32 hp_32 => ?_)
      obtain ⟨rfl, p', j', hpi, hp', hcase⟩ := hp_32
      rcases hcase with ⟨x, rfl, z1, z2, z3⟩ | ⟨rfl, z1, z2, z3⟩ | ⟨rfl, z1, c, L', m', z2, z3, z4, z5, z6, z7, z8⟩
      · exact c1 _ p' j' x hpi hp' z1 z2 z3
      · exact c2 _ p' j' hpi hp' z1 z2 z3
      · exact c3 _ p' j' c L' m' hpi hp' z1 z2 z3 z4 (by rw [← hw1]; exact z5) z6 (jEv_same z7 z8)
      skip
  have hh := jbs (0 < I (o + 1) (1 + 250 * a))
  have hcp0 : ∀ x y z : Int, mCp o I (sj_up (sj_up (sj_up I o 21 x) o 22 y) o 23 z) := fun x y z => ⟨fun a e1 e2 => by rw [sj_up_row e1, sj_up_row e1, sj_up_row e1], fun j e1 e2 e3 => by rw [sj_up_ne (by omega), sj_up_ne (by omega), sj_up_ne (by omega)]⟩
  refine sj_ald0 dX10_compute_0 ?_
  refine sj_iconst dX10_compute_1 ?_
  refine sj_putI fl_X10_178 (by assumption) rfl rfl rfl dX10_compute_2 ?_
  refine sj_ald0 dX10_compute_5 ?_
  refine sj_ild1 dX10_compute_6 ?_
  refine sj_callV (cm_has' hS ha (by rw [sj_up_row (by omega)]; exact hW)) kc_X10_122 (by assumption) rfl rfl rfl rfl (Nat.le_of_ble_eq_true rfl) dX10_compute_7 (fun r_7 σ_7 I_7 hp_7 => ?_)
  obtain ⟨rfl, rfl, rfl⟩ := hp_7
  rw [sj_up_row (by omega)]
  refine sj_if_ne 16 dX10_compute_10 (by decide) (by omega) (fun c_10 => ?_) (fun c_10 => ?_)
  · refine sj_iconst dX10_compute_16 ?_
    refine sj_ist3 (by decide) rfl dX10_compute_17 ?_
    refine sj_ald0 dX10_compute_18 ?_
    refine sj_ild1 dX10_compute_19 ?_
    refine sj_callS (cm_begin) kc_X10_106 rfl rfl (Nat.le_of_ble_eq_true rfl) dX10_compute_20 (fun r_20 σ_20 I_20 hp_20 => ?_)
    obtain ⟨rfl, rfl, rfl⟩ := hp_20
    refine sj_putI fl_X10_169 (by assumption) rfl rfl rfl dX10_compute_23 ?_
    refine sj_ald0 dX10_compute_26 ?_
    refine sj_ild2 dX10_compute_27 ?_
    refine sj_putI fl_X10_172 (by assumption) rfl rfl rfl dX10_compute_28 ?_
    obtain ⟨t1, t2, t3⟩ := hT (by omega)
    have hpos : 0 < I (o + 1) (1 + 250 * a) := by omega
    have htl := jTk_all t2
    have hel := jEnc_len T
    have hTl : (jEnc T).length = (I (o + 1) (1 + 250 * a)).toNat := by rw [← t1]; exact mB_len
    refine lpO hpos T.length T 0 (2 + 250 * a) i [] [] _ (by rw [htl.1]; exact Nat.le_refl _) t2 (by rw [hTl, ← t1]; rfl) (by omega) (by omega) (hcp0 _ _ _) (by rw [sj_up_ne (by omega), sj_up_self]; omega) (sj_up_self _ _ _ _) trivial ⟨by rw [sj_up_ne (by omega), sj_up_ne (by omega), sj_up_self]; rfl, rfl⟩ (by rw [htl.1]; show 0 + 0 + T.length + 0 ≤ 120; omega) ?_
    show jEv M (I (o + 8)) T i = (jEv M (I (o + 8)) T i).map (fun q => ([] ++ q.1, q.2))
    cases jEv M (I (o + 8)) T i <;> rfl
  · refine sj_bipush dX10_compute_13 (by decide) ?_
    exact sj_iret dX10_compute_15 rfl rfl (Nat.le_of_ble_eq_true rfl) (Nat.le_of_ble_eq_true rfl) ⟨rfl, ⟨fun a e1 e2 => sj_up_row e1, fun j e1 e2 e3 => sj_up_ne (by omega)⟩, Or.inl ⟨by omega, rfl⟩⟩
end MODEL16
