/-- the bytes with an equation's bytes for each occurrence of a letter -/
def jIns (b : Int) (B L : List Int) : List Int := L.flatMap (fun c => if c = b then B else [c])
theorem jIns_app (b : Int) (B L M : List Int) : jIns b B (L ++ M) = jIns b B L ++ jIns b B M := by simp [jIns]
theorem jIns_one (b : Int) (B : List Int) (c : Int) : jIns b B [c] = if c = b then B else [c] := by simp [jIns]
theorem jIns_cons (b : Int) (B : List Int) (c : Int) (L : List Int) : jIns b B (c :: L) = (if c = b then B else [c]) ++ jIns b B L := by simp [jIns]
theorem jIns_mem {b : Int} {B L : List Int} {x : Int} (h : x ∈ jIns b B L) : x ∈ B ∨ x ∈ L := by
  obtain ⟨c, hc, hx⟩ := List.mem_flatMap.mp h
  split at hx
  · exact Or.inl hx
  · rw [List.mem_singleton] at hx; subst hx; exact Or.inr hc
theorem mB_len {f : Nat → Int} {a : Nat} : (mB f a).length = (f (1 + 250 * a)).toNat := lst_len _ _ _
theorem mB_rng {f : Nat → Int} (hW : mW f) {a : Nat} (ha : a < 8) : ∀ x ∈ mB f a, 0 ≤ x ∧ x < 128 := by
  intro x hx
  obtain ⟨j, hj, rfl⟩ := lst_mem hx
  obtain ⟨w1, w2⟩ := hW a ha
  exact w2 j (by omega)
theorem mul_bd {x y : Int} (hx : 0 ≤ x ∧ x ≤ 240) (hy : -1 ≤ y ∧ y ≤ 240) : -240 ≤ x * y ∧ x * y ≤ 57600 := by
  have h1 := Int.mul_le_mul_of_nonneg_left hy.1 hx.1
  have h2 := Int.mul_le_mul_of_nonneg_left hy.2 hx.1
  omega
section MODEL8
variable {l : Launch} {G : sjG} {σ : sjS} {I : sjI}
theorem cm_insert {o : Nat} {a b : Int} (hS : mSh σ o) (hp : 0 ≤ I o 2 ∧ I o 2 ≤ 8) (hW : mW (I (o + 1))) (ha : -2147483648 ≤ a ∧ a < 2147483648) (hb : -2147483648 ≤ b ∧ b < 2147483648) (hL : jSz 0 (mB (I (o + 1)) a.toNat) + jOc (65 + b) (mB (I (o + 1)) a.toNat) * (jSz 0 (mB (I (o + 1)) b.toNat) - 1) ≤ 120 → 0 < I (o + 1) (1 + 250 * a.toNat) → 0 < I (o + 1) (1 + 250 * b.toNat) → (jIns (65 + b) (mB (I (o + 1)) b.toNat) (mB (I (o + 1)) a.toNat)).length ≤ 240) : sj_Con l yX10_insert mX10_insert G σ I [.ref o, .int (zI a), .int (zI b)] (fun r σ' I' => σ = σ' ∧ ((¬ ((0 ≤ a ∧ a ≤ 7) ∧ (0 ≤ b ∧ b ≤ 7)) ∧ r = some (.int (zI (-1))) ∧ I = I') ∨ (((0 ≤ a ∧ a ≤ 7) ∧ (0 ≤ b ∧ b ≤ 7)) ∧ ¬ (0 < I (o + 1) (1 + 250 * a.toNat) ∧ 0 < I (o + 1) (1 + 250 * b.toNat)) ∧ r = some (.int (zI (-2))) ∧ I = I') ∨ (((0 ≤ a ∧ a ≤ 7) ∧ (0 ≤ b ∧ b ≤ 7)) ∧ (0 < I (o + 1) (1 + 250 * a.toNat) ∧ 0 < I (o + 1) (1 + 250 * b.toNat)) ∧ 120 < jSz 0 (mB (I (o + 1)) a.toNat) + jOc (65 + b) (mB (I (o + 1)) a.toNat) * (jSz 0 (mB (I (o + 1)) b.toNat) - 1) ∧ r = some (.int (zI (-3))) ∧ I = I') ∨ (((0 ≤ a ∧ a ≤ 7) ∧ (0 ≤ b ∧ b ≤ 7)) ∧ (0 < I (o + 1) (1 + 250 * a.toNat) ∧ 0 < I (o + 1) (1 + 250 * b.toNat)) ∧ jSz 0 (mB (I (o + 1)) a.toNat) + jOc (65 + b) (mB (I (o + 1)) a.toNat) * (jSz 0 (mB (I (o + 1)) b.toNat) - 1) ≤ 120 ∧ r = some (.int (zI (jSz 0 (jIns (65 + b) (mB (I (o + 1)) b.toNat) (mB (I (o + 1)) a.toNat))))) ∧ mChg o I I' ∧ mSet (I (o + 1)) (I' (o + 1)) a.toNat (jIns (65 + b) (mB (I (o + 1)) b.toNat) (mB (I (o + 1)) a.toNat))))) := by
  obtain ⟨h_o, h_w, h_past, h_images, h_text, h_read, h_made, h_old, h_values, h_ranks, h_operator, h_indexAt, h_second, h_first, h_needed, h_shifts, h_around, h_best, h_isNeeded, h_toSee, h_held, h_there⟩ := id hS
  refine sj_con_of (L0 := [some (.ref o), some (.int (zI a)), some (.int (zI b)), none, none, none, none]) (by decide) rfl rfl rfl (Nat.le_of_ble_eq_true rfl) rfl (fun Γ => ?_)
  have ba := jbs (0 ≤ a ∧ a ≤ 7)
  have bb := jbs (0 ≤ b ∧ b ≤ 7)
  -- the last loop: what was made becomes the equation
  have lp3 : ∀ (p q : Nat) (B : List Int) (J : sjI), a = p → b = q → p < 8 → q < 8 → 0 < I (o + 1) (1 + 250 * p) → 0 < I (o + 1) (1 + 250 * q) → B = jIns (65 + b) (mB (I (o + 1)) q) (mB (I (o + 1)) p) → B.length ≤ 240 → jSz 0 (mB (I (o + 1)) p) + jOc (65 + b) (mB (I (o + 1)) p) * (jSz 0 (mB (I (o + 1)) q) - 1) ≤ 120 → mChg o I J → J (o + 1) = I (o + 1) → lst (J (o + 6)) 0 B.length = B → ∀ (d k : Nat), k + d = B.length → sj_V l Γ mX10_insert G (fun r σ' I' => σ = σ' ∧ ((¬ ((0 ≤ a ∧ a ≤ 7) ∧ (0 ≤ b ∧ b ≤ 7)) ∧ r = some (.int (zI (-1))) ∧ I = I') ∨ (((0 ≤ a ∧ a ≤ 7) ∧ (0 ≤ b ∧ b ≤ 7)) ∧ ¬ (0 < I (o + 1) (1 + 250 * a.toNat) ∧ 0 < I (o + 1) (1 + 250 * b.toNat)) ∧ r = some (.int (zI (-2))) ∧ I = I') ∨ (((0 ≤ a ∧ a ≤ 7) ∧ (0 ≤ b ∧ b ≤ 7)) ∧ (0 < I (o + 1) (1 + 250 * a.toNat) ∧ 0 < I (o + 1) (1 + 250 * b.toNat)) ∧ 120 < jSz 0 (mB (I (o + 1)) a.toNat) + jOc (65 + b) (mB (I (o + 1)) a.toNat) * (jSz 0 (mB (I (o + 1)) b.toNat) - 1) ∧ r = some (.int (zI (-3))) ∧ I = I') ∨ (((0 ≤ a ∧ a ≤ 7) ∧ (0 ≤ b ∧ b ≤ 7)) ∧ (0 < I (o + 1) (1 + 250 * a.toNat) ∧ 0 < I (o + 1) (1 + 250 * b.toNat)) ∧ jSz 0 (mB (I (o + 1)) a.toNat) + jOc (65 + b) (mB (I (o + 1)) a.toNat) * (jSz 0 (mB (I (o + 1)) b.toNat) - 1) ≤ 120 ∧ r = some (.int (zI (jSz 0 (jIns (65 + b) (mB (I (o + 1)) b.toNat) (mB (I (o + 1)) a.toNat))))) ∧ mChg o I I' ∧ mSet (I (o + 1)) (I' (o + 1)) a.toNat (jIns (65 + b) (mB (I (o + 1)) b.toNat) (mB (I (o + 1)) a.toNat))))) σ (sj_ur J (o + 1) (va_cpy (J (o + 6)) (J (o + 1)) 0 (2 + 250 * p) k)) 0 0 168 [some (.ref o), some (.int (zI p)), some (.int (zI q)), some (.int (zI (B.length : Nat))), some (.int (zI k)), none, none] [] := by
    intro p q B J hpa hqb hp8 hq8 hpp hqq hB hBl hsz hch h1 h6 d
    subst hpa hqb
    induction d with
    | zero =>
      intro k hk
      have hk1 : k = B.length := by omega
      subst hk1
      have hset := mSet_cpy (f := J (o + 1)) hp8 (by omega) h6
      have hrow : (sj_up (sj_ur J (o + 1) (va_cpy (J (o + 6)) (J (o + 1)) 0 (2 + 250 * p) B.length)) (o + 1) (1 + 250 * p) B.length) (o + 1) = fun j => if j = 1 + 250 * p then (B.length : Int) else va_cpy (J (o + 6)) (J (o + 1)) 0 (2 + 250 * p) B.length j := by
        funext j
        simp only [sj_up, sj_ur]
        simp
      rw [← hrow, h1] at hset
      have hW2 := mSet_W hset hW (by omega) (fun x hx => by
        rw [hB] at hx
        rcases jIns_mem hx with h | h
        · exact mB_rng hW hq8 x h
        · exact mB_rng hW hp8 x h)
      rw [h1]
      refine sj_ild4 dX10_insert_168 ?_
      refine sj_ild3 dX10_insert_170 ?_
      refine sj_icmp_ge 199 dX10_insert_171 (by decide) (by omega) (by omega) (fun c_171 => ?_) (fun c_171 => ?_)
      rotate_left
      · exact absurd (by omega) c_171
      refine sj_ald0 dX10_insert_199 ?_
      refine sj_getR fl_X10_7 (by assumption) rfl (mr_0 _) dX10_insert_200 ?_
      refine sj_iconst dX10_insert_203 ?_
      refine sj_sipush dX10_insert_204 (by decide) ?_
      refine sj_ild1 dX10_insert_207 ?_
      refine sj_imul dX10_insert_208 ?_
      refine sj_iadd dX10_insert_209 ?_
      refine sj_ild3 dX10_insert_210 ?_
      refine sj_iastJ (1 + 250 * p) (by assumption) (by omega) (by omega) (by omega) dX10_insert_211 ?_
      refine sj_ald0 dX10_insert_212 ?_
      refine sj_ild1 dX10_insert_213 ?_
      refine sj_callV (cm_sizeOf hS hp8 hW2) kc_X10_119 (by assumption) rfl rfl rfl rfl (Nat.le_of_ble_eq_true rfl) dX10_insert_214 (fun r_214 σ_214 I_214 hp_214 => ?_)
      obtain ⟨rfl, rfl, hI⟩ := hp_214
      exact sj_iret dX10_insert_217 rfl rfl (Nat.le_of_ble_eq_true rfl) (Nat.le_of_ble_eq_true rfl) ⟨rfl, Or.inr (Or.inr (Or.inr ⟨⟨by omega, by omega⟩, ⟨hpp, hqq⟩, hsz, by rw [mSet_B hset, hB]; rfl, by rw [← hI]; exact hch.w (fun a e _ _ => by rw [sj_up_row e, sj_ur_ne e]), by rw [← hI]; rw [hB] at hset; rw [hB]; exact hset⟩))⟩
    | succ d ih =>
      intro k hk
      refine sj_ild4 dX10_insert_168 ?_
      refine sj_ild3 dX10_insert_170 ?_
      refine sj_icmp_ge 199 dX10_insert_171 (by decide) (by omega) (by omega) (fun c_171 => ?_) (fun c_171 => ?_)
      · exact absurd c_171 (by omega)
      refine sj_ald0 dX10_insert_174 ?_
      refine sj_getR fl_X10_7 (by assumption) rfl (mr_0 _) dX10_insert_175 ?_
      refine sj_ild1 dX10_insert_178 ?_
      refine sj_callS (cm_begin) kc_X10_106 rfl rfl (Nat.le_of_ble_eq_true rfl) dX10_insert_179 (fun r_179 σ_179 I_179 hp_179 => ?_)
      obtain ⟨rfl, rfl, rfl⟩ := hp_179
      refine sj_ild4 dX10_insert_182 ?_
      refine sj_iadd dX10_insert_184 ?_
      refine sj_ald0 dX10_insert_185 ?_
      refine sj_getR fl_X10_25 (by assumption) rfl (mr_9 _) dX10_insert_186 ?_
      refine sj_ild4 dX10_insert_189 ?_
      refine sj_ialdJ (0 + k) (by assumption) (by omega) (by omega) (by omega) dX10_insert_191 ?_
      rw [sj_ur_ne (by omega)]
      refine sj_iastJ (2 + 250 * p + k) (by assumption) (by omega) (by omega) (by omega) dX10_insert_192 ?_
      rw [cpy_step]
      refine sj_inc4 (by decide) rfl dX10_insert_193 ?_
      refine sj_goto 168 dX10_insert_196 (by decide) ?_
      exact ih (k + 1) (by omega)
  have lp1 : ∀ (p q : Nat) (J : sjI), a = p → b = q → p < 8 → q < 8 → 0 < I (o + 1) (1 + 250 * p) → 0 < I (o + 1) (1 + 250 * q) → (jIns (65 + b) (mB (I (o + 1)) q) (mB (I (o + 1)) p)).length ≤ 240 → jSz 0 (mB (I (o + 1)) p) + jOc (65 + b) (mB (I (o + 1)) p) * (jSz 0 (mB (I (o + 1)) q) - 1) ≤ 120 → ∀ (d k m : Nat) (J : sjI), mChg o I J → J (o + 1) = I (o + 1) → (k : Int) + d = I (o + 1) (1 + 250 * p) → lst (J (o + 6)) 0 m = jIns (65 + b) (mB (I (o + 1)) q) (lst (I (o + 1)) (2 + 250 * p) k) → sj_V l Γ mX10_insert G (fun r σ' I' => σ = σ' ∧ ((¬ ((0 ≤ a ∧ a ≤ 7) ∧ (0 ≤ b ∧ b ≤ 7)) ∧ r = some (.int (zI (-1))) ∧ I = I') ∨ (((0 ≤ a ∧ a ≤ 7) ∧ (0 ≤ b ∧ b ≤ 7)) ∧ ¬ (0 < I (o + 1) (1 + 250 * a.toNat) ∧ 0 < I (o + 1) (1 + 250 * b.toNat)) ∧ r = some (.int (zI (-2))) ∧ I = I') ∨ (((0 ≤ a ∧ a ≤ 7) ∧ (0 ≤ b ∧ b ≤ 7)) ∧ (0 < I (o + 1) (1 + 250 * a.toNat) ∧ 0 < I (o + 1) (1 + 250 * b.toNat)) ∧ 120 < jSz 0 (mB (I (o + 1)) a.toNat) + jOc (65 + b) (mB (I (o + 1)) a.toNat) * (jSz 0 (mB (I (o + 1)) b.toNat) - 1) ∧ r = some (.int (zI (-3))) ∧ I = I') ∨ (((0 ≤ a ∧ a ≤ 7) ∧ (0 ≤ b ∧ b ≤ 7)) ∧ (0 < I (o + 1) (1 + 250 * a.toNat) ∧ 0 < I (o + 1) (1 + 250 * b.toNat)) ∧ jSz 0 (mB (I (o + 1)) a.toNat) + jOc (65 + b) (mB (I (o + 1)) a.toNat) * (jSz 0 (mB (I (o + 1)) b.toNat) - 1) ≤ 120 ∧ r = some (.int (zI (jSz 0 (jIns (65 + b) (mB (I (o + 1)) b.toNat) (mB (I (o + 1)) a.toNat))))) ∧ mChg o I I' ∧ mSet (I (o + 1)) (I' (o + 1)) a.toNat (jIns (65 + b) (mB (I (o + 1)) b.toNat) (mB (I (o + 1)) a.toNat))))) σ J 0 0 72 [some (.ref o), some (.int (zI p)), some (.int (zI q)), some (.int (zI m)), some (.int (zI k)), none, none] [] := by
    intro p q _ hpa hqb hp8 hq8 hpp hqq hBl hsz d
    obtain ⟨wp1, wp2⟩ := hW p hp8
    obtain ⟨wq1, wq2⟩ := hW q hq8
    have hqn : (mB (I (o + 1)) q).length = (I (o + 1) (1 + 250 * q)).toNat := mB_len
    induction d with
    | zero =>
      intro k m J hch h1 hk h6
      have hkk : k = (I (o + 1) (1 + 250 * p)).toNat := by omega
      have hfull : lst (I (o + 1)) (2 + 250 * p) k = mB (I (o + 1)) p := by rw [hkk]; rfl
      rw [hfull] at h6
      have hm : m = (jIns (65 + b) (mB (I (o + 1)) q) (mB (I (o + 1)) p)).length := by rw [← h6, lst_len]
      have hSJ : ∀ a, a < 8 → a < 8 := fun _ h => h
      refine sj_ild4 dX10_insert_72 ?_
      refine sj_ald0 dX10_insert_74 ?_
      refine sj_ild1 dX10_insert_75 ?_
      refine sj_callV (cm_bytes' hS hp8) kc_X10_78 (by assumption) rfl rfl rfl rfl (Nat.le_of_ble_eq_true rfl) dX10_insert_76 (fun r_76 σ_76 I_76 hp_76 => ?_)
      obtain ⟨rfl, rfl, rfl⟩ := hp_76
      rw [h1]
      refine sj_icmp_ge 165 dX10_insert_79 (by decide) (by omega) (by omega) (fun c_79 => ?_) (fun c_79 => ?_)
      rotate_left
      · exact absurd (by omega) c_79
      refine sj_iconst dX10_insert_165 ?_
      refine sj_ist4 (by decide) rfl dX10_insert_166 ?_
      have h := lp3 p q _ J hpa hqb hp8 hq8 hpp hqq rfl hBl hsz hch h1 (by rw [← hm]; exact h6) (jIns (65 + b) (mB (I (o + 1)) q) (mB (I (o + 1)) p)).length 0 (by omega)
      rw [cpy_zero, ← hm] at h
      exact h
    | succ d ih =>
      intro k m J hch h1 hk h6
      have hc := wp2 k (by omega)
      have hs := lst_succ (I (o + 1)) (2 + 250 * p) k
      have hwhole : mB (I (o + 1)) p = lst (I (o + 1)) (2 + 250 * p) k ++ lst (I (o + 1)) (2 + 250 * p + k) (d + 1) := by
        rw [← lst_app, show k + (d + 1) = (I (o + 1) (1 + 250 * p)).toNat by omega]; rfl
      have hlen : m + (jIns (65 + b) (mB (I (o + 1)) q) [I (o + 1) (2 + 250 * p + k)]).length ≤ 240 := by
        have e := hBl
        rw [hwhole, jIns_app, ← h6, lst_cons, jIns_cons, ← jIns_one, List.length_append, List.length_append, lst_len] at e
        omega
      -- the inner loop
      have lq : I (o + 1) (2 + 250 * p + k) = 65 + b → ∀ (e i : Nat) (J2 : sjI), mChg o I J2 → J2 (o + 1) = I (o + 1) → (i : Int) + e = I (o + 1) (1 + 250 * q) → lst (J2 (o + 6)) 0 (m + i) = jIns (65 + b) (mB (I (o + 1)) q) (lst (I (o + 1)) (2 + 250 * p) k) ++ lst (I (o + 1)) (2 + 250 * q) i → sj_V l Γ mX10_insert G (fun r σ' I' => σ = σ' ∧ ((¬ ((0 ≤ a ∧ a ≤ 7) ∧ (0 ≤ b ∧ b ≤ 7)) ∧ r = some (.int (zI (-1))) ∧ I = I') ∨ (((0 ≤ a ∧ a ≤ 7) ∧ (0 ≤ b ∧ b ≤ 7)) ∧ ¬ (0 < I (o + 1) (1 + 250 * a.toNat) ∧ 0 < I (o + 1) (1 + 250 * b.toNat)) ∧ r = some (.int (zI (-2))) ∧ I = I') ∨ (((0 ≤ a ∧ a ≤ 7) ∧ (0 ≤ b ∧ b ≤ 7)) ∧ (0 < I (o + 1) (1 + 250 * a.toNat) ∧ 0 < I (o + 1) (1 + 250 * b.toNat)) ∧ 120 < jSz 0 (mB (I (o + 1)) a.toNat) + jOc (65 + b) (mB (I (o + 1)) a.toNat) * (jSz 0 (mB (I (o + 1)) b.toNat) - 1) ∧ r = some (.int (zI (-3))) ∧ I = I') ∨ (((0 ≤ a ∧ a ≤ 7) ∧ (0 ≤ b ∧ b ≤ 7)) ∧ (0 < I (o + 1) (1 + 250 * a.toNat) ∧ 0 < I (o + 1) (1 + 250 * b.toNat)) ∧ jSz 0 (mB (I (o + 1)) a.toNat) + jOc (65 + b) (mB (I (o + 1)) a.toNat) * (jSz 0 (mB (I (o + 1)) b.toNat) - 1) ≤ 120 ∧ r = some (.int (zI (jSz 0 (jIns (65 + b) (mB (I (o + 1)) b.toNat) (mB (I (o + 1)) a.toNat))))) ∧ mChg o I I' ∧ mSet (I (o + 1)) (I' (o + 1)) a.toNat (jIns (65 + b) (mB (I (o + 1)) b.toNat) (mB (I (o + 1)) a.toNat))))) σ J2 0 0 108 [some (.ref o), some (.int (zI p)), some (.int (zI q)), some (.int (zI (m + i : Nat))), some (.int (zI k)), none, some (.int (zI i))] [] := by
        intro hce e
        rw [jIns_one, if_pos hce, hqn] at hlen
        induction e with
        | zero =>
          intro i J2 hch2 h12 hi h62
          have hi2 : i = (I (o + 1) (1 + 250 * q)).toNat := by omega
          refine sj_ild6 dX10_insert_108 ?_
          refine sj_ald0 dX10_insert_110 ?_
          refine sj_ild2 dX10_insert_111 ?_
          refine sj_callV (cm_bytes' hS hq8) kc_X10_78 (by assumption) rfl rfl rfl rfl (Nat.le_of_ble_eq_true rfl) dX10_insert_112 (fun r_112 σ_112 I_112 hp_112 => ?_)
          obtain ⟨rfl, rfl, rfl⟩ := hp_112
          rw [h12]
          refine sj_icmp_ge 145 dX10_insert_115 (by decide) (by omega) (by omega) (fun c_115 => ?_) (fun c_115 => ?_)
          rotate_left
          · exact absurd (by omega) c_115
          refine sj_goto 159 dX10_insert_145 (by decide) ?_
          refine sj_inc4 (by decide) rfl dX10_insert_159 ?_
          refine sj_goto 72 dX10_insert_162 (by decide) ?_
          refine sj_fg6 ?_
          refine ih (k + 1) (m + i) J2 hch2 h12 (by omega) ?_
          rw [h62, hs, jIns_app, jIns_one, if_pos hce, hi2]; rfl
        | succ e ih2 =>
          intro i J2 hch2 h12 hi h62
          refine sj_ild6 dX10_insert_108 ?_
          refine sj_ald0 dX10_insert_110 ?_
          refine sj_ild2 dX10_insert_111 ?_
          refine sj_callV (cm_bytes' hS hq8) kc_X10_78 (by assumption) rfl rfl rfl rfl (Nat.le_of_ble_eq_true rfl) dX10_insert_112 (fun r_112 σ_112 I_112 hp_112 => ?_)
          obtain ⟨rfl, rfl, rfl⟩ := hp_112
          rw [h12]
          refine sj_icmp_ge 145 dX10_insert_115 (by decide) (by omega) (by omega) (fun c_115 => ?_) (fun c_115 => ?_)
          · exact absurd c_115 (by omega)
          refine sj_ald0 dX10_insert_118 ?_
          refine sj_getR fl_X10_25 (by assumption) rfl (mr_9 _) dX10_insert_119 ?_
          refine sj_ild3 dX10_insert_122 ?_
          refine sj_ald0 dX10_insert_123 ?_
          refine sj_getR fl_X10_7 (by assumption) rfl (mr_0 _) dX10_insert_124 ?_
          refine sj_ild2 dX10_insert_127 ?_
          refine sj_callS (cm_begin) kc_X10_106 rfl rfl (Nat.le_of_ble_eq_true rfl) dX10_insert_128 (fun r_128 σ_128 I_128 hp_128 => ?_)
          obtain ⟨rfl, rfl, rfl⟩ := hp_128
          refine sj_ild6 dX10_insert_131 ?_
          refine sj_iadd dX10_insert_133 ?_
          refine sj_ialdJ (2 + 250 * q + i) (by assumption) (by omega) (by omega) (by omega) dX10_insert_134 ?_
          rw [h12]
          refine sj_iastJ (m + i) (by assumption) (by omega) (by omega) (by omega) dX10_insert_135 ?_
          refine sj_inc3 (by decide) rfl dX10_insert_136 ?_
          refine sj_inc6 (by decide) rfl dX10_insert_139 ?_
          refine sj_goto 108 dX10_insert_142 (by decide) ?_
          refine ih2 (i + 1) _ (hch2.w (fun a _ e _ => sj_up_row e)) (by rw [sj_up_row (by omega)]; exact h12) (by omega) ?_
          have e := lst_up_succ (I := J2) (a := o + 6) (s := 0) (n := m + i) (v := I (o + 1) (2 + 250 * q + i))
          rw [Nat.zero_add] at e
          rw [← Nat.add_assoc, e, h62, lst_succ, List.append_assoc]
      refine sj_ild4 dX10_insert_72 ?_
      refine sj_ald0 dX10_insert_74 ?_
      refine sj_ild1 dX10_insert_75 ?_
      refine sj_callV (cm_bytes' hS hp8) kc_X10_78 (by assumption) rfl rfl rfl rfl (Nat.le_of_ble_eq_true rfl) dX10_insert_76 (fun r_76 σ_76 I_76 hp_76 => ?_)
      obtain ⟨rfl, rfl, rfl⟩ := hp_76
      rw [h1]
      refine sj_icmp_ge 165 dX10_insert_79 (by decide) (by omega) (by omega) (fun c_79 => ?_) (fun c_79 => ?_)
      · exact absurd c_79 (by omega)
      refine sj_ald0 dX10_insert_82 ?_
      refine sj_getR fl_X10_7 (by assumption) rfl (mr_0 _) dX10_insert_83 ?_
      refine sj_ild1 dX10_insert_86 ?_
      refine sj_callS (cm_begin) kc_X10_106 rfl rfl (Nat.le_of_ble_eq_true rfl) dX10_insert_87 (fun r_87 σ_87 I_87 hp_87 => ?_)
      obtain ⟨rfl, rfl, rfl⟩ := hp_87
      refine sj_ild4 dX10_insert_90 ?_
      refine sj_iadd dX10_insert_92 ?_
      refine sj_ialdJ (2 + 250 * p + k) (by assumption) (by omega) (by omega) (by omega) dX10_insert_93 ?_
      rw [h1]
      refine sj_ist5 (by decide) rfl dX10_insert_94 ?_
      refine sj_ild5 dX10_insert_96 ?_
      refine sj_bipush dX10_insert_98 (by decide) ?_
      refine sj_ild2 dX10_insert_100 ?_
      refine sj_iadd dX10_insert_101 ?_
      refine sj_icmp_ne 148 dX10_insert_102 (by decide) (by omega) (by omega) (fun c_102 => ?_) (fun c_102 => ?_)
      · rw [jIns_one, if_neg (by omega)] at hlen
        have hlen2 : m + 1 ≤ 240 := hlen
        refine sj_ald0 dX10_insert_148 ?_
        refine sj_getR fl_X10_25 (by assumption) rfl (mr_9 _) dX10_insert_149 ?_
        refine sj_ild3 dX10_insert_152 ?_
        refine sj_ild5 dX10_insert_153 ?_
        refine sj_iastJ (m) (by assumption) (by omega) (by omega) (by omega) dX10_insert_155 ?_
        refine sj_inc3 (by decide) rfl dX10_insert_156 ?_
        refine sj_inc4 (by decide) rfl dX10_insert_159 ?_
        refine sj_goto 72 dX10_insert_162 (by decide) ?_
        refine sj_fg5 ?_
        refine ih (k + 1) (m + 1) _ (hch.w (fun a _ e _ => sj_up_row e)) (by rw [sj_up_row (by omega)]; exact h1) (by omega) ?_
        have e := lst_up_succ (I := J) (a := o + 6) (s := 0) (n := m) (v := I (o + 1) (2 + 250 * p + k))
        rw [Nat.zero_add] at e
        rw [e, h6, hs, jIns_app, jIns_one, if_neg (by omega)]
      · refine sj_iconst dX10_insert_105 ?_
        refine sj_ist6 (by decide) rfl dX10_insert_106 ?_
        refine sj_fg5 ?_
        exact lq (by omega) (I (o + 1) (1 + 250 * q)).toNat 0 J hch h1 (by omega) (by rw [Nat.add_zero, lst_zero, List.append_nil]; exact h6)
  refine sj_ild1 dX10_insert_0 ?_
  refine sj_callS (cm_isStream ha) kc_X10_109 rfl rfl (Nat.le_of_ble_eq_true rfl) dX10_insert_1 (fun r_1 σ_1 I_1 hp_1 => ?_)
  obtain ⟨rfl, rfl, rfl⟩ := hp_1
  refine sj_if_eq 14 dX10_insert_4 (by decide) (by omega) (fun c_4 => ?_) (fun c_4 => ?_)
  · refine sj_iconst dX10_insert_14 ?_
    exact sj_iret dX10_insert_15 rfl rfl (Nat.le_of_ble_eq_true rfl) (Nat.le_of_ble_eq_true rfl) ⟨rfl, Or.inl ⟨by omega, rfl, rfl⟩⟩
  · refine sj_ild2 dX10_insert_7 ?_
    refine sj_callS (cm_isStream hb) kc_X10_109 rfl rfl (Nat.le_of_ble_eq_true rfl) dX10_insert_8 (fun r_8 σ_8 I_8 hp_8 => ?_)
    obtain ⟨rfl, rfl, rfl⟩ := hp_8
    refine sj_if_ne 16 dX10_insert_11 (by decide) (by omega) (fun c_11 => ?_) (fun c_11 => ?_)
    · obtain ⟨p, rfl⟩ := jNat (a := a) (by omega)
      obtain ⟨q, rfl⟩ := jNat (a := b) (by omega)
      have bp := jbs (0 < I (o + 1) (1 + 250 * p))
      have bq := jbs (0 < I (o + 1) (1 + 250 * q))
      obtain ⟨wp1, wp2⟩ := hW p (by omega)
      obtain ⟨wq1, wq2⟩ := hW q (by omega)
      have lpn : (mB (I (o + 1)) p).length = (I (o + 1) (1 + 250 * p)).toNat := mB_len
      have lqn : (mB (I (o + 1)) q).length = (I (o + 1) (1 + 250 * q)).toNat := mB_len
      have s1 := jSz_le (mB (I (o + 1)) p) 0
      have s2 := jSz_le (mB (I (o + 1)) q) 0
      have s3 := jOc_le (65 + (q : Int)) (mB (I (o + 1)) p)
      refine sj_ald0 dX10_insert_16 ?_
      refine sj_ild1 dX10_insert_17 ?_
      refine sj_callV (cm_has' hS (by omega) hW) kc_X10_122 (by assumption) rfl rfl rfl rfl (Nat.le_of_ble_eq_true rfl) dX10_insert_18 (fun r_18 σ_18 I_18 hp_18 => ?_)
      obtain ⟨rfl, rfl, rfl⟩ := hp_18
      refine sj_if_eq 32 dX10_insert_21 (by decide) (by omega) (fun c_21 => ?_) (fun c_21 => ?_)
      · refine sj_bipush dX10_insert_32 (by decide) ?_
        exact sj_iret dX10_insert_34 rfl rfl (Nat.le_of_ble_eq_true rfl) (Nat.le_of_ble_eq_true rfl) ⟨rfl, Or.inr (Or.inl ⟨⟨by omega, by omega⟩, fun z => by have z1 : 0 < I (o + 1) (1 + 250 * p) := z.1; have z2 : 0 < I (o + 1) (1 + 250 * q) := z.2; omega, rfl, rfl⟩)⟩
      · refine sj_ald0 dX10_insert_24 ?_
        refine sj_ild2 dX10_insert_25 ?_
        refine sj_callV (cm_has' hS (by omega) hW) kc_X10_122 (by assumption) rfl rfl rfl rfl (Nat.le_of_ble_eq_true rfl) dX10_insert_26 (fun r_26 σ_26 I_26 hp_26 => ?_)
        obtain ⟨rfl, rfl, rfl⟩ := hp_26
        refine sj_if_ne 35 dX10_insert_29 (by decide) (by omega) (fun c_29 => ?_) (fun c_29 => ?_)
        · refine sj_ald0 dX10_insert_35 ?_
          refine sj_ild1 dX10_insert_36 ?_
          refine sj_callV (cm_sizeOf hS (by omega) hW) kc_X10_119 (by assumption) rfl rfl rfl rfl (Nat.le_of_ble_eq_true rfl) dX10_insert_37 (fun r_37 σ_37 I_37 hp_37 => ?_)
          obtain ⟨rfl, rfl, rfl⟩ := hp_37
          refine sj_ald0 dX10_insert_40 ?_
          refine sj_ild1 dX10_insert_41 ?_
          refine sj_ild2 dX10_insert_42 ?_
          refine sj_callV (cm_occurrences hS (by omega) (by omega) hW) kc_X10_125 (by assumption) rfl rfl rfl rfl (Nat.le_of_ble_eq_true rfl) dX10_insert_43 (fun r_43 σ_43 I_43 hp_43 => ?_)
          obtain ⟨rfl, rfl, rfl⟩ := hp_43
          refine sj_ald0 dX10_insert_46 ?_
          refine sj_ild2 dX10_insert_47 ?_
          refine sj_callV (cm_sizeOf hS (by omega) hW) kc_X10_119 (by assumption) rfl rfl rfl rfl (Nat.le_of_ble_eq_true rfl) dX10_insert_48 (fun r_48 σ_48 I_48 hp_48 => ?_)
          obtain ⟨rfl, rfl, rfl⟩ := hp_48
          refine sj_iconst dX10_insert_51 ?_
          refine sj_isub dX10_insert_52 ?_
          refine sj_imul dX10_insert_53 ?_
          refine sj_iadd dX10_insert_54 ?_
          have hmul := mul_bd (x := jOc (65 + (q : Int)) (mB (I (o + 1)) p)) (y := jSz 0 (mB (I (o + 1)) q) - 1) (by omega) (by omega)
          refine sj_bipush dX10_insert_55 (by decide) ?_
          refine sj_icmp_le 63 dX10_insert_57 (by decide) (by omega) (by omega) (fun c_57 => ?_) (fun c_57 => ?_)
          · refine sj_ald0 dX10_insert_63 ?_
            refine sj_callV (cm_remember hS hp) kc_X10_116 (by assumption) rfl rfl rfl rfl (Nat.le_of_ble_eq_true rfl) dX10_insert_64 (fun r_64 σ_64 I_64 hp_64 => ?_)
            obtain ⟨rfl, rfl, hrm⟩ := hp_64
            refine sj_iconst dX10_insert_67 ?_
            refine sj_ist3 (by decide) rfl dX10_insert_68 ?_
            refine sj_iconst dX10_insert_69 ?_
            refine sj_ist4 (by decide) rfl dX10_insert_70 ?_
            exact lp1 p q I rfl rfl (by omega) (by omega) (by omega) (by omega) (hL (by show jSz 0 (mB (I (o + 1)) p) + jOc (65 + (q : Int)) (mB (I (o + 1)) p) * (jSz 0 (mB (I (o + 1)) q) - 1) ≤ 120; omega) (by show 0 < I (o + 1) (1 + 250 * p); omega) (by show 0 < I (o + 1) (1 + 250 * q); omega)) (by omega) (I (o + 1) (1 + 250 * p)).toNat 0 0 I_64 (mRem_chg hrm (mKp.rf o I)) (hrm.1 (o + 1) (by omega) (by omega)) (by omega) rfl
          · refine sj_bipush dX10_insert_60 (by decide) ?_
            exact sj_iret dX10_insert_62 rfl rfl (Nat.le_of_ble_eq_true rfl) (Nat.le_of_ble_eq_true rfl) ⟨rfl, Or.inr (Or.inr (Or.inl ⟨⟨by omega, by omega⟩, ⟨by show 0 < I (o + 1) (1 + 250 * p); omega, by show 0 < I (o + 1) (1 + 250 * q); omega⟩, by show 120 < jSz 0 (mB (I (o + 1)) p) + jOc (65 + (q : Int)) (mB (I (o + 1)) p) * (jSz 0 (mB (I (o + 1)) q) - 1); omega, rfl, rfl⟩))⟩
        · refine sj_bipush dX10_insert_32 (by decide) ?_
          exact sj_iret dX10_insert_34 rfl rfl (Nat.le_of_ble_eq_true rfl) (Nat.le_of_ble_eq_true rfl) ⟨rfl, Or.inr (Or.inl ⟨⟨by omega, by omega⟩, fun z => by have z1 : 0 < I (o + 1) (1 + 250 * p) := z.1; have z2 : 0 < I (o + 1) (1 + 250 * q) := z.2; omega, rfl, rfl⟩)⟩
    · refine sj_iconst dX10_insert_14 ?_
      exact sj_iret dX10_insert_15 rfl rfl (Nat.le_of_ble_eq_true rfl) (Nat.le_of_ble_eq_true rfl) ⟨rfl, Or.inl ⟨by omega, rfl, rfl⟩⟩
end MODEL8
