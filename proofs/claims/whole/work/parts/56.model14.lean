/-- rewriting: how often, and the outcome; none if it grew beyond 120 -/
def jSi : Nat → List Int → Option (Nat × List Int)
  | 0, T => some (0, T)
  | n + 1, T => match jStep [] T with
    | none => some (0, T)
    | some T' => if 120 < T'.length then none else (jSi n T').map (fun q => (q.1 + 1, q.2))
/-- it ends within n steps -/
def jTer : Nat → List Int → Prop
  | 0, T => jStep [] T = none
  | n + 1, T => match jStep [] T with
    | none => True
    | some T' => 120 < T'.length ∨ jTer n T'
theorem jSi_none {n : Nat} {T : List Int} (h : jStep [] T = none) : jSi n T = some (0, T) := by
  cases n with
  | zero => rfl
  | succ n => unfold jSi; rw [h]
theorem jSi_succ (n : Nat) (T : List Int) : jSi (n + 1) T = match jStep [] T with
    | none => some (0, T)
    | some T' => if 120 < T'.length then none else (jSi n T').map (fun q : Nat × List Int => (q.1 + 1, q.2)) := rfl
theorem jSi_full {n : Nat} {T T' : List Int} (h : jStep [] T = some T') (h2 : 120 < T'.length) : jSi (n + 1) T = none := by
  unfold jSi; rw [h]; exact if_pos h2
theorem jSi_some {n : Nat} {T T' : List Int} (h : jStep [] T = some T') (h2 : ¬ 120 < T'.length) : jSi (n + 1) T = (jSi n T').map (fun q => (q.1 + 1, q.2)) := by
  rw [jSi_succ, h]; exact if_neg h2
theorem jTer_some {n : Nat} {T T' : List Int} (ht : jTer n T) (h : jStep [] T = some T') : ∃ m, n = m + 1 ∧ (120 < T'.length ∨ jTer m T') := by
  cases n with
  | zero => rw [show jTer 0 T = (jStep [] T = none) from rfl, h] at ht; cases ht
  | succ n => unfold jTer at ht; rw [h] at ht; exact ⟨n, rfl, ht⟩
section MODEL14
variable {l : Launch} {G : sjG} {σ : sjS} {I : sjI}
theorem mOld.kp {o : Nat} {J : sjI} (h : mOld o I J) : mKp o I J := ⟨fun a ha => h.1 a (by omega) (by omega) (by omega), ⟨h.2 2 (by decide) (by decide), h.2 4 (by decide) (by decide), h.2 6 (by decide) (by decide), h.2 15 (by decide) (by decide)⟩, fun a ha => h.1 a (by omega) (by omega) (by omega)⟩
theorem mOld.trans {o : Nat} {J K : sjI} (h : mOld o I J) (k : mOld o J K) : mOld o I K := ⟨fun a e1 e2 e3 => (k.1 a e1 e2 e3).trans (h.1 a e1 e2 e3), fun j e1 e2 => (k.2 j e1 e2).trans (h.2 j e1 e2)⟩
theorem cm_simplify {o N : Nat} {a : Int} {T : List Int} (hS : mSh σ o) (hp : 0 ≤ I o 2 ∧ I o 2 ≤ 8) (hW : mW (I (o + 1))) (ha : -2147483648 ≤ a ∧ a < 2147483648) (hN : N ≤ 1000000) (hT : (0 ≤ a ∧ a ≤ 7) → 0 < I (o + 1) (1 + 250 * a.toNat) → mB (I (o + 1)) a.toNat = jEnc T ∧ jOk 1 T ∧ T.length ≤ 120 ∧ jTer N T) : sj_Con l yX10_simplify mX10_simplify G σ I [.ref o, .int (zI a)] (fun r σ' I' => σ = σ' ∧ ((¬ (0 ≤ a ∧ a ≤ 7) ∧ r = some (.int (zI (-1))) ∧ mKp o I I') ∨ ((0 ≤ a ∧ a ≤ 7) ∧ I (o + 1) (1 + 250 * a.toNat) = 0 ∧ r = some (.int (zI (-2))) ∧ mKp o I I') ∨ ((0 ≤ a ∧ a ≤ 7) ∧ 0 < I (o + 1) (1 + 250 * a.toNat) ∧ jSi N T = none ∧ r = some (.int (zI (-3))) ∧ mKp o I I') ∨ ∃ (n : Nat) (U : List Int), (0 ≤ a ∧ a ≤ 7) ∧ 0 < I (o + 1) (1 + 250 * a.toNat) ∧ jSi N T = some (n, U) ∧ r = some (.int (zI n)) ∧ mChg o I I' ∧ mSet (I (o + 1)) (I' (o + 1)) a.toNat (jEnc U))) := by
  obtain ⟨h_o, h_w, h_past, h_images, h_text, h_read, h_made, h_old, h_values, h_ranks, h_operator, h_indexAt, h_second, h_first, h_needed, h_shifts, h_around, h_best, h_isNeeded, h_toSee, h_held, h_there⟩ := id hS
  refine sj_con_of (L0 := [some (.ref o), some (.int (zI a)), none, none]) (by decide) rfl rfl rfl (Nat.le_of_ble_eq_true rfl) rfl (fun Γ => ?_)
  have hbb := jbs (0 ≤ a ∧ a ≤ 7)
  -- the outcome becomes the equation
  have lp3 : ∀ (q n : Nat) (U : List Int) (J : sjI), a = q → q < 8 → 0 < I (o + 1) (1 + 250 * q) → jSi N T = some (n, U) → jOk 1 U → U.length ≤ 120 → mChg o I J → J (o + 1) = I (o + 1) → mTx o J U → ∀ (d k : Nat), k + d = (jEnc U).length → sj_V l Γ mX10_simplify G (fun r σ' I' => σ = σ' ∧ ((¬ (0 ≤ a ∧ a ≤ 7) ∧ r = some (.int (zI (-1))) ∧ mKp o I I') ∨ ((0 ≤ a ∧ a ≤ 7) ∧ I (o + 1) (1 + 250 * a.toNat) = 0 ∧ r = some (.int (zI (-2))) ∧ mKp o I I') ∨ ((0 ≤ a ∧ a ≤ 7) ∧ 0 < I (o + 1) (1 + 250 * a.toNat) ∧ jSi N T = none ∧ r = some (.int (zI (-3))) ∧ mKp o I I') ∨ ∃ (n : Nat) (U : List Int), (0 ≤ a ∧ a ≤ 7) ∧ 0 < I (o + 1) (1 + 250 * a.toNat) ∧ jSi N T = some (n, U) ∧ r = some (.int (zI n)) ∧ mChg o I I' ∧ mSet (I (o + 1)) (I' (o + 1)) a.toNat (jEnc U))) σ (sj_ur J (o + 1) (va_cpy (J (o + 7)) (J (o + 1)) 0 (2 + 250 * q) k)) 0 0 92 [some (.ref o), some (.int (zI q)), some (.int (zI n)), some (.int (zI k))] [] := by
    intro q n U J hq hq8 hpos hsi hok hUl hch h1 htx d
    subst hq
    have hle := jEnc_len U
    obtain ⟨t1, t2⟩ := htx
    induction d with
    | zero =>
      intro k hk
      have hk1 : k = (jEnc U).length := by omega
      subst hk1
      have hset := mSet_cpy (f := J (o + 1)) hq8 (by omega) t2
      have hrow : (sj_up (sj_ur J (o + 1) (va_cpy (J (o + 7)) (J (o + 1)) 0 (2 + 250 * q) (jEnc U).length)) (o + 1) (1 + 250 * q) (jEnc U).length) (o + 1) = fun j => if j = 1 + 250 * q then ((jEnc U).length : Int) else va_cpy (J (o + 7)) (J (o + 1)) 0 (2 + 250 * q) (jEnc U).length j := by
        funext j
        simp only [sj_up, sj_ur]
        simp
      rw [← hrow, h1] at hset
      rw [h1]
      refine sj_ild3 dX10_simplify_92 ?_
      refine sj_ald0 dX10_simplify_93 ?_
      refine sj_getI fl_X10_156 (by assumption) rfl dX10_simplify_94 ?_
      rw [sj_ur_ne (by omega), t1]
      refine sj_icmp_ge 123 dX10_simplify_97 (by decide) (by omega) (by omega) (fun c_97 => ?_) (fun c_97 => ?_)
      rotate_left
      · exact absurd (by omega) c_97
      refine sj_ald0 dX10_simplify_123 ?_
      refine sj_getR fl_X10_7 (by assumption) rfl (mr_0 _) dX10_simplify_124 ?_
      refine sj_iconst dX10_simplify_127 ?_
      refine sj_sipush dX10_simplify_128 (by decide) ?_
      refine sj_ild1 dX10_simplify_131 ?_
      refine sj_imul dX10_simplify_132 ?_
      refine sj_iadd dX10_simplify_133 ?_
      refine sj_ald0 dX10_simplify_134 ?_
      refine sj_getI fl_X10_156 (by assumption) rfl dX10_simplify_135 ?_
      rw [sj_ur_ne (by omega), t1]
      refine sj_iastJ (1 + 250 * q) (by assumption) (by omega) (by omega) (by omega) dX10_simplify_138 ?_
      refine sj_ild2 dX10_simplify_139 ?_
      exact sj_iret dX10_simplify_140 rfl rfl (Nat.le_of_ble_eq_true rfl) (Nat.le_of_ble_eq_true rfl) ⟨rfl, Or.inr (Or.inr (Or.inr ⟨n, U, by omega, hpos, hsi, rfl, hch.w (fun a e _ _ => by rw [sj_up_row e, sj_ur_ne e]), hset⟩))⟩
    | succ d ih =>
      intro k hk
      refine sj_ild3 dX10_simplify_92 ?_
      refine sj_ald0 dX10_simplify_93 ?_
      refine sj_getI fl_X10_156 (by assumption) rfl dX10_simplify_94 ?_
      rw [sj_ur_ne (by omega), t1]
      refine sj_icmp_ge 123 dX10_simplify_97 (by decide) (by omega) (by omega) (fun c_97 => ?_) (fun c_97 => ?_)
      · exact absurd c_97 (by omega)
      refine sj_ald0 dX10_simplify_100 ?_
      refine sj_getR fl_X10_7 (by assumption) rfl (mr_0 _) dX10_simplify_101 ?_
      refine sj_ild1 dX10_simplify_104 ?_
      refine sj_callS (cm_begin) kc_X10_106 rfl rfl (Nat.le_of_ble_eq_true rfl) dX10_simplify_105 (fun r_105 σ_105 I_105 hp_105 => ?_)
      obtain ⟨rfl, rfl, rfl⟩ := hp_105
      refine sj_ild3 dX10_simplify_108 ?_
      refine sj_iadd dX10_simplify_109 ?_
      refine sj_ald0 dX10_simplify_110 ?_
      refine sj_getR fl_X10_28 (by assumption) rfl (mr_10 _) dX10_simplify_111 ?_
      refine sj_ild3 dX10_simplify_114 ?_
      refine sj_ialdJ (0 + k) (by assumption) (by omega) (by omega) (by omega) dX10_simplify_115 ?_
      rw [sj_ur_ne (by omega)]
      refine sj_iastJ (2 + 250 * q + k) (by assumption) (by omega) (by omega) (by omega) dX10_simplify_116 ?_
      rw [cpy_step]
      refine sj_inc3 (by decide) rfl dX10_simplify_117 ?_
      refine sj_goto 92 dX10_simplify_120 (by decide) ?_
      exact ih (k + 1) (by omega)
  -- rewriting
  have lp2 : ∀ (q : Nat), a = q → q < 8 → 0 < I (o + 1) (1 + 250 * q) → ∀ (m n : Nat) (U : List Int) (J : sjI), n + m ≤ 1000000 → jTer m U → jSi N T = (jSi m U).map (fun z => (z.1 + n, z.2)) → jOk 1 U → U.length ≤ 120 → mOld o I J → mTx o J U → sj_V l Γ mX10_simplify G (fun r σ' I' => σ = σ' ∧ ((¬ (0 ≤ a ∧ a ≤ 7) ∧ r = some (.int (zI (-1))) ∧ mKp o I I') ∨ ((0 ≤ a ∧ a ≤ 7) ∧ I (o + 1) (1 + 250 * a.toNat) = 0 ∧ r = some (.int (zI (-2))) ∧ mKp o I I') ∨ ((0 ≤ a ∧ a ≤ 7) ∧ 0 < I (o + 1) (1 + 250 * a.toNat) ∧ jSi N T = none ∧ r = some (.int (zI (-3))) ∧ mKp o I I') ∨ ∃ (n : Nat) (U : List Int), (0 ≤ a ∧ a ≤ 7) ∧ 0 < I (o + 1) (1 + 250 * a.toNat) ∧ jSi N T = some (n, U) ∧ r = some (.int (zI n)) ∧ mChg o I I' ∧ mSet (I (o + 1)) (I' (o + 1)) a.toNat (jEnc U))) σ J 0 0 64 [some (.ref o), some (.int (zI q)), some (.int (zI n)), none] [] := by
    intro q hq hq8 hpos m
    induction m with
    | zero =>
      intro n U J hnm hter hsi hok hUl hold htx
      have h0 : jStep [] U = none := hter
      rw [jSi_none h0] at hsi
      have hsi2 : jSi N T = some (n, U) := by rw [hsi]; show some (0 + n, U) = _; rw [Nat.zero_add]
      refine sj_ald0 dX10_simplify_64 ?_
      refine sj_callV (cm_simplifies hS hok hUl htx) kc_X10_162 (by assumption) rfl rfl rfl rfl (Nat.le_of_ble_eq_true rfl) dX10_simplify_65 (fun r_65 σ_65 I_65 hp_65 => ?_)
      obtain ⟨rfl, q1, q2⟩ := hp_65
      rw [h0] at q2
      obtain ⟨rfl, q2⟩ := q2
      refine sj_if_eq 86 dX10_simplify_68 (by decide) (by omega) (fun c_68 => ?_) (fun c_68 => ?_)
      rotate_left
      · exact absurd rfl c_68
      refine sj_ald0 dX10_simplify_86 ?_
      refine sj_callV (cm_remember hS (by rw [(hold.trans q1).2 2 (by decide) (by decide)]; exact hp)) kc_X10_116 (by assumption) rfl rfl rfl rfl (Nat.le_of_ble_eq_true rfl) dX10_simplify_87 (fun r_87 σ_87 I_87 hp_87 => ?_)
      obtain ⟨rfl, rfl, hrm⟩ := hp_87
      refine sj_iconst dX10_simplify_90 ?_
      refine sj_ist3 (by decide) rfl dX10_simplify_91 ?_
      have h := lp3 q n U I_87 hq hq8 hpos hsi2 hok hUl (mRem_chg hrm (hold.trans q1).kp) (by rw [hrm.1 (o + 1) (by omega) (by omega), (hold.trans q1).1 (o + 1) (by omega) (by omega) (by omega)]) ⟨by rw [hrm.2.1 11 (by decide) (by decide)]; exact q2.1, by rw [hrm.1 (o + 7) (by omega) (by omega)]; exact q2.2⟩ _ 0 (Nat.zero_add _)
      rw [cpy_zero] at h
      exact h
    | succ m ih =>
      intro n U J hnm hter hsi hok hUl hold htx
      cases hst : jStep [] U with
      | none =>
        rw [jSi_none hst] at hsi
        have hsi2 : jSi N T = some (n, U) := by rw [hsi]; show some (0 + n, U) = _; rw [Nat.zero_add]
        refine sj_ald0 dX10_simplify_64 ?_
        refine sj_callV (cm_simplifies hS hok hUl htx) kc_X10_162 (by assumption) rfl rfl rfl rfl (Nat.le_of_ble_eq_true rfl) dX10_simplify_65 (fun r_65 σ_65 I_65 hp_65 => ?_)
        obtain ⟨rfl, q1, q2⟩ := hp_65
        rw [hst] at q2
        obtain ⟨rfl, q2⟩ := q2
        refine sj_if_eq 86 dX10_simplify_68 (by decide) (by omega) (fun c_68 => ?_) (fun c_68 => ?_)
        rotate_left
        · exact absurd rfl c_68
        refine sj_ald0 dX10_simplify_86 ?_
        refine sj_callV (cm_remember hS (by rw [(hold.trans q1).2 2 (by decide) (by decide)]; exact hp)) kc_X10_116 (by assumption) rfl rfl rfl rfl (Nat.le_of_ble_eq_true rfl) dX10_simplify_87 (fun r_87 σ_87 I_87 hp_87 => ?_)
        obtain ⟨rfl, rfl, hrm⟩ := hp_87
        refine sj_iconst dX10_simplify_90 ?_
        refine sj_ist3 (by decide) rfl dX10_simplify_91 ?_
        have h := lp3 q n U I_87 hq hq8 hpos hsi2 hok hUl (mRem_chg hrm (hold.trans q1).kp) (by rw [hrm.1 (o + 1) (by omega) (by omega), (hold.trans q1).1 (o + 1) (by omega) (by omega) (by omega)]) ⟨by rw [hrm.2.1 11 (by decide) (by decide)]; exact q2.1, by rw [hrm.1 (o + 7) (by omega) (by omega)]; exact q2.2⟩ _ 0 (Nat.zero_add _)
        rw [cpy_zero] at h
        exact h
      | some U' =>
        obtain ⟨m', hm', hor⟩ := jTer_some hter hst
        cases hm'
        obtain ⟨o1, o2⟩ := jStep_ok hok hst
        have hv := jOk_vc _ _ o1
        have hsz := jSz_enc U' 0 (by decide) hv
        have hle := jEnc_len U'
        refine sj_ald0 dX10_simplify_64 ?_
        refine sj_callV (cm_simplifies hS hok hUl htx) kc_X10_162 (by assumption) rfl rfl rfl rfl (Nat.le_of_ble_eq_true rfl) dX10_simplify_65 (fun r_65 σ_65 I_65 hp_65 => ?_)
        obtain ⟨rfl, q1, q2⟩ := hp_65
        rw [hst] at q2
        obtain ⟨rfl, q2⟩ := q2
        refine sj_if_eq 86 dX10_simplify_68 (by decide) (by omega) (fun c_68 => ?_) (fun c_68 => ?_)
        · exact absurd c_68 (by omega)
        refine sj_inc2 (by decide) rfl dX10_simplify_71 ?_
        refine sj_ald0 dX10_simplify_74 ?_
        refine sj_callV (cm_oldSize hS q2.1 q2.2 (by omega) (jEnc_byte hv)) kc_X10_166 (by assumption) rfl rfl rfl rfl (Nat.le_of_ble_eq_true rfl) dX10_simplify_75 (fun r_75 σ_75 I_75 hp_75 => ?_)
        obtain ⟨rfl, rfl, rfl⟩ := hp_75
        rw [hsz]
        refine sj_bipush dX10_simplify_78 (by decide) ?_
        refine sj_icmp_le 64 dX10_simplify_80 (by decide) (by omega) (by omega) (fun c_80 => ?_) (fun c_80 => ?_)
        · refine ih (n + 1) U' _ (by omega) (hor.resolve_left (by omega)) ?_ o1 (by omega) (hold.trans q1) q2
          rw [hsi, jSi_some hst (by omega), Option.map_map]
          congr 1
          funext z
          show (z.1 + 1 + n, z.2) = (z.1 + (n + 1), z.2)
          rw [show z.1 + 1 + n = z.1 + (n + 1) by omega]
        · refine sj_bipush dX10_simplify_83 (by decide) ?_
          exact sj_iret dX10_simplify_85 rfl rfl (Nat.le_of_ble_eq_true rfl) (Nat.le_of_ble_eq_true rfl) ⟨rfl, Or.inr (Or.inr (Or.inl ⟨by omega, by rw [hq]; exact hpos, by rw [hsi, jSi_full hst (by omega)]; rfl, rfl, (hold.trans q1).kp⟩))⟩
  have lp1 : ∀ (q : Nat), a = q → q < 8 → 0 < I (o + 1) (1 + 250 * q) → ∀ (d k : Nat), (k : Int) + d = I (o + 1) (1 + 250 * q) → sj_V l Γ mX10_simplify G (fun r σ' I' => σ = σ' ∧ ((¬ (0 ≤ a ∧ a ≤ 7) ∧ r = some (.int (zI (-1))) ∧ mKp o I I') ∨ ((0 ≤ a ∧ a ≤ 7) ∧ I (o + 1) (1 + 250 * a.toNat) = 0 ∧ r = some (.int (zI (-2))) ∧ mKp o I I') ∨ ((0 ≤ a ∧ a ≤ 7) ∧ 0 < I (o + 1) (1 + 250 * a.toNat) ∧ jSi N T = none ∧ r = some (.int (zI (-3))) ∧ mKp o I I') ∨ ∃ (n : Nat) (U : List Int), (0 ≤ a ∧ a ≤ 7) ∧ 0 < I (o + 1) (1 + 250 * a.toNat) ∧ jSi N T = some (n, U) ∧ r = some (.int (zI n)) ∧ mChg o I I' ∧ mSet (I (o + 1)) (I' (o + 1)) a.toNat (jEnc U))) σ (sj_ur (sj_up I o 11 (I (o + 1) (1 + 250 * q))) (o + 7) (va_cpy (fun j => I (o + 1) (2 + 250 * q + j)) (I (o + 7)) 0 0 k)) 0 0 31 [some (.ref o), some (.int (zI q)), some (.int (zI k)), none] [] := by
    intro q hq hq8 hpos d
    obtain ⟨w1, w2⟩ := hW q hq8
    obtain ⟨b1, b2, b3, b4⟩ := hT (by omega) (by rw [hq]; exact hpos)
    rw [hq] at b1
    induction d with
    | zero =>
      intro k hk
      have hk1 : k = (I (o + 1) (1 + 250 * q)).toNat := by omega
      have hkl : k = (jEnc T).length := by rw [← b1, hk1]; exact mB_len.symm
      refine sj_ild2 dX10_simplify_31 ?_
      refine sj_ald0 dX10_simplify_32 ?_
      refine sj_getI fl_X10_156 (by assumption) rfl dX10_simplify_33 ?_
      rw [sj_ur_ne (by omega), sj_up_self]
      refine sj_icmp_ge 62 dX10_simplify_36 (by decide) (by omega) (by omega) (fun c_36 => ?_) (fun c_36 => ?_)
      rotate_left
      · exact absurd (by omega) c_36
      refine sj_iconst dX10_simplify_62 ?_
      refine sj_ist2 (by decide) rfl dX10_simplify_63 ?_
      refine lp2 q hq hq8 hpos N 0 T _ (by omega) b4 ?_ b2 b3 ⟨fun a e1 e2 e3 => by rw [sj_ur_ne e3, sj_up_row e1], fun j e1 e2 => by rw [sj_ur_ne (by omega), sj_up_ne (by omega)]⟩ ⟨by rw [sj_ur_ne (by omega), sj_up_self]; omega, ?_⟩
      · show jSi N T = (jSi N T).map (fun z => (z.1 + 0, z.2))
        cases jSi N T <;> rfl
      · rw [sj_ur_self, ← hkl, ← b1]
        rw [hk1]
        apply lst_congr
        intro j hj
        rw [cpy_in hj, Nat.zero_add]
        rfl
    | succ d ih =>
      intro k hk
      refine sj_ild2 dX10_simplify_31 ?_
      refine sj_ald0 dX10_simplify_32 ?_
      refine sj_getI fl_X10_156 (by assumption) rfl dX10_simplify_33 ?_
      rw [sj_ur_ne (by omega), sj_up_self]
      refine sj_icmp_ge 62 dX10_simplify_36 (by decide) (by omega) (by omega) (fun c_36 => ?_) (fun c_36 => ?_)
      · exact absurd c_36 (by omega)
      refine sj_ald0 dX10_simplify_39 ?_
      refine sj_getR fl_X10_28 (by assumption) rfl (mr_10 _) dX10_simplify_40 ?_
      refine sj_ild2 dX10_simplify_43 ?_
      refine sj_ald0 dX10_simplify_44 ?_
      refine sj_getR fl_X10_7 (by assumption) rfl (mr_0 _) dX10_simplify_45 ?_
      refine sj_ild1 dX10_simplify_48 ?_
      refine sj_callS (cm_begin) kc_X10_106 rfl rfl (Nat.le_of_ble_eq_true rfl) dX10_simplify_49 (fun r_49 σ_49 I_49 hp_49 => ?_)
      obtain ⟨rfl, rfl, rfl⟩ := hp_49
      refine sj_ild2 dX10_simplify_52 ?_
      refine sj_iadd dX10_simplify_53 ?_
      refine sj_ialdJ (2 + 250 * q + k) (by assumption) (by omega) (by omega) (by omega) dX10_simplify_54 ?_
      rw [sj_ur_ne (by omega), sj_up_row (by omega)]
      refine sj_iastJ (0 + k) (by assumption) (by omega) (by omega) (by omega) dX10_simplify_55 ?_
      have hst := cpy_step (I := sj_up I o 11 (I (o + 1) (1 + 250 * q))) (a := o + 7) (sp := 0) (dp := 0) (i := k) (f := fun j => I (o + 1) (2 + 250 * q + j)) (g := I (o + 7))
      rw [show (0 : Nat) + k = k from Nat.zero_add k] at hst ⊢
      rw [hst]
      refine sj_inc2 (by decide) rfl dX10_simplify_56 ?_
      refine sj_goto 31 dX10_simplify_59 (by decide) ?_
      exact ih (k + 1) (by omega)
  refine sj_ild1 dX10_simplify_0 ?_
  refine sj_callS (cm_isStream ha) kc_X10_109 rfl rfl (Nat.le_of_ble_eq_true rfl) dX10_simplify_1 (fun r_1 σ_1 I_1 hp_1 => ?_)
  obtain ⟨rfl, rfl, rfl⟩ := hp_1
  refine sj_if_ne 9 dX10_simplify_4 (by decide) (by omega) (fun c_4 => ?_) (fun c_4 => ?_)
  · obtain ⟨q, hq⟩ := jNat (a := a) (by omega)
    have hq8 : q < 8 := by omega
    have hh := jbs (0 < I (o + 1) (1 + 250 * q))
    have hw := (hW q hq8).1
    rw [hq]
    refine sj_ald0 dX10_simplify_9 ?_
    refine sj_ild1 dX10_simplify_10 ?_
    refine sj_callV (cm_has' hS hq8 hW) kc_X10_122 (by assumption) rfl rfl rfl rfl (Nat.le_of_ble_eq_true rfl) dX10_simplify_11 (fun r_11 σ_11 I_11 hp_11 => ?_)
    obtain ⟨rfl, rfl, rfl⟩ := hp_11
    refine sj_if_ne 20 dX10_simplify_14 (by decide) (by omega) (fun c_14 => ?_) (fun c_14 => ?_)
    · refine sj_ald0 dX10_simplify_20 ?_
      refine sj_ald0 dX10_simplify_21 ?_
      refine sj_ild1 dX10_simplify_22 ?_
      refine sj_callV (cm_bytes' hS hq8) kc_X10_78 (by assumption) rfl rfl rfl rfl (Nat.le_of_ble_eq_true rfl) dX10_simplify_23 (fun r_23 σ_23 I_23 hp_23 => ?_)
      obtain ⟨rfl, rfl, rfl⟩ := hp_23
      refine sj_putI fl_X10_156 (by assumption) rfl rfl rfl dX10_simplify_26 ?_
      refine sj_iconst dX10_simplify_29 ?_
      refine sj_ist2 (by decide) rfl dX10_simplify_30 ?_
      have h := lp1 q hq hq8 (by omega) (I (o + 1) (1 + 250 * q)).toNat 0 (by omega)
      have e := cpy_zero (I := sj_up I o 11 (I (o + 1) (1 + 250 * q))) (a := o + 7) (sp := 0) (dp := 0) (f := fun j => I (o + 1) (2 + 250 * q + j))
      rw [sj_up_row (by omega)] at e
      rw [e, hq] at h
      exact h
    · refine sj_bipush dX10_simplify_17 (by decide) ?_
      exact sj_iret dX10_simplify_19 rfl rfl (Nat.le_of_ble_eq_true rfl) (Nat.le_of_ble_eq_true rfl) ⟨rfl, Or.inr (Or.inl ⟨by omega, by show I (o + 1) (1 + 250 * q) = 0; omega, rfl, mKp.rf o I⟩)⟩
  · refine sj_iconst dX10_simplify_7 ?_
    exact sj_iret dX10_simplify_8 rfl rfl (Nat.le_of_ble_eq_true rfl) (Nat.le_of_ble_eq_true rfl) ⟨rfl, Or.inl ⟨by omega, rfl, mKp.rf o I⟩⟩
end MODEL14
