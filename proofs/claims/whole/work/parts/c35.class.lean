theorem jRh_is {f : Nat → Int} {s n : Nat} (hn : n ≤ 400) (h1 : ∀ k, k < n → f (s + k) ≠ -9) (h2 : n < 400 → f (s + n) = -9) : ∀ d i, i + d = 400 → i ≤ n → jRh f s d i = n
  | 0, i, h, hi => by unfold jRh; omega
  | d + 1, i, h, hi => by
    unfold jRh
    by_cases e : i = n
    · rw [e, if_pos (h2 (by omega))]
    · rw [if_neg (h1 i (by omega))]
      exact jRh_is hn h1 h2 d (i + 1) (by omega) (by omega)
/-- what told(q) tells of the class -/
def jTlc (X : List Int) (S : aSt) (H : List aSt) (q : Int) : Int :=
  if q = 0 then S.1 else if q = 1 then jCe S.2 8 else if q = 2 then jTe S.2 8 else if q = 3 then (if jPe S.2 8 = true then 1 else 0) else if q = 4 then X.length else if q = 5 then H.length else -1
section JUDGE14
variable {l : Launch} {G : sjG} {σ : sjS} {I : sjI}
theorem cx9_countFull {x : Nat} {X : List Int} {S : aSt} {H : List aSt} {im : Nat → Option aSt} (h : cI σ I x X S H im) (hR : rB σ x) : sj_Con l yX9_countFull mX9_countFull G σ I [.ref x] (fun r σ' I' => rC σ I σ' I' x ∧ cI σ' I' x X S H im ∧ r = some (.int (zI (jEnd (jVal S.1 S.2) 8)))) := by
  obtain ⟨pv, ws, cy, η, ξ, μ, od, hj⟩ := id h
  obtain ⟨ρ, r0, _⟩ := id hj.1.1
  refine sj_con_of (L0 := [some (.ref x), none, none, none]) (by decide) rfl rfl rfl (Nat.le_of_ble_eq_true rfl) rfl (fun Γ => ?_)
  refine sj_ald0 dX9_countFull_0 ?_
  refine sj_callV (cx9_valuesNow hj hR) kc_X9_145 (by assumption) rfl rfl rfl rfl (Nat.le_of_ble_eq_true rfl) dX9_countFull_1 (fun r_1 σ_1 I_1 hp_1 => ?_)
  obtain ⟨v, w, rfl, hj1, hT1, hC1⟩ := hp_1
  obtain ⟨τ, hx1⟩ := hj1.vcx
  have v0 := hx1.1.1
  have hM := hx1.2.2.2.2.1
  refine sj_ast1 (by decide) rfl dX9_countFull_4 ?_
  refine sj_iconst dX9_countFull_5 ?_
  refine sj_ist2 (by decide) rfl dX9_countFull_6 ?_
  refine sj_iconst dX9_countFull_7 ?_
  refine sj_ist3 (by decide) rfl dX9_countFull_8 ?_
  suffices lp : ∀ (d k : Nat) (J : sjI), k + d = 8 → vN S.1 S.2 v w I_1 J → sj_V l Γ mX9_countFull G (fun r σ' I' => rC σ I σ' I' x ∧ cI σ' I' x X S H im ∧ r = some (.int (zI (jEnd (jVal S.1 S.2) 8)))) σ_1 J (0 + mX9_valuesNow.2.2.2.2.2.cells) (0 + mX9_valuesNow.2.2.2.2.2.slots) 9 [some (.ref x), some (.ref v), some (.int (zI (jEnd (jVal S.1 S.2) k))), some (.int (zI k))] [] from by
    exact lp 8 0 I_1 (by omega) (vN.rf hx1.2.2.2.2.2)
  intro d
  induction d with
  | zero =>
    intro k J hk hJ
    obtain ⟨hj2, hT2, hC2⟩ := hj1.vn (hR.keep hC1) hJ
    refine sj_ild3 dX9_countFull_9 ?_
    refine sj_bipush dX9_countFull_10 (by decide) ?_
    refine sj_icmp_ge 40 dX9_countFull_12 (by decide) (by omega) (by omega) (fun c_12 => ?_) (fun c_12 => ?_)
    rotate_left
    · (exfalso; omega)
    refine sj_ild2 dX9_countFull_40 ?_
    exact sj_iret dX9_countFull_41 rfl rfl (Nat.le_of_ble_eq_true rfl) (Nat.le_of_ble_eq_true rfl) ⟨hC1.tr hC2, ⟨_, _, _, _, _, _, _, hj2⟩, by rw [show k = 8 by omega]⟩
  | succ d ih =>
    intro k J hk hJ
    have hle := jEnd_le (jVal S.1 S.2) k
    refine sj_ild3 dX9_countFull_9 ?_
    refine sj_bipush dX9_countFull_10 (by decide) ?_
    refine sj_icmp_ge 40 dX9_countFull_12 (by decide) (by omega) (by omega) (fun c_12 => ?_) (fun c_12 => ?_)
    · (exfalso; omega)
    refine sj_ald1 dX9_countFull_15 ?_
    refine sj_ild3 dX9_countFull_16 ?_
    refine sj_callV (cx7_findUpToReach (hx1.next hJ) (by omega)) kc_X9_157 (by assumption) rfl rfl rfl rfl (Nat.le_of_ble_eq_true rfl) dX9_countFull_17 (fun r_17 σ_17 I_17 hp_17 => ?_)
    obtain ⟨rfl, rfl, x1, n, n2, n3, n4⟩ := hp_17
    have hJ2 := hJ.tr x1
    have e1 : jRh (vAt (I_17 (vCl v w))) (400 * k) 400 0 = n := jRh_is n2 (fun q hq => vAt_ge (n3 q hq)) (fun hn => vAt_lt (n4 hn).2) 400 0 (by omega) (by omega)
    have e2 : jRh (jVal S.1 S.2) (400 * k) 400 0 = n := jRh_is n2 (fun q hq => by rw [← x1.2.1.val hM (k := 400 * k + q) (by omega) (by have := n3 q hq; omega)]; exact vAt_ge (n3 q hq)) (fun hn => by rw [← x1.2.1.val hM (k := 400 * k + n) (by omega) (n4 hn).1]; exact vAt_lt (n4 hn).2) 400 0 (by omega) (by omega)
    have e3 : jEnd (jVal S.1 S.2) (k + 1) = jEnd (jVal S.1 S.2) k + (if n = 400 then 1 else 0) := by rw [jEnd, e2]
    refine sj_ald1 dX9_countFull_20 ?_
    refine sj_ild3 dX9_countFull_21 ?_
    refine sj_callV (cx7_reach hx1.1 (x1.2.1.vr hM) (by omega)) kc_X9_161 (by assumption) rfl rfl rfl rfl (Nat.le_of_ble_eq_true rfl) dX9_countFull_22 (fun r_22 σ_22 I_22 hp_22 => ?_)
    obtain ⟨rfl, rfl, rfl⟩ := hp_22
    rw [e1]
    refine sj_sipush dX9_countFull_25 (by decide) ?_
    refine sj_icmp_ne 34 dX9_countFull_28 (by decide) (by omega) (by omega) (fun c_28 => ?_) (fun c_28 => ?_)
    · refine sj_inc3 (by decide) rfl dX9_countFull_34 ?_
      refine sj_goto 9 dX9_countFull_37 (by decide) ?_
      first
        | (rw [if_pos (by omega)] at e3; have := ih (k + 1) _ (by omega) hJ2; rw [e3] at this; exact this)
        | (rw [if_neg (by omega)] at e3; have := ih (k + 1) _ (by omega) hJ2; rw [e3, Int.add_zero] at this; exact this)
    · refine sj_inc2 (by decide) rfl dX9_countFull_31 ?_
      refine sj_inc3 (by decide) rfl dX9_countFull_34 ?_
      refine sj_goto 9 dX9_countFull_37 (by decide) ?_
      first
        | (rw [if_pos (by omega)] at e3; have := ih (k + 1) _ (by omega) hJ2; rw [e3] at this; exact this)
        | (rw [if_neg (by omega)] at e3; have := ih (k + 1) _ (by omega) hJ2; rw [e3, Int.add_zero] at this; exact this)
theorem cx9_told {x : Nat} {q : Int} {X : List Int} {S : aSt} {H : List aSt} {im : Nat → Option aSt} (h : cI σ I x X S H im) (hR : rB σ x) (hq : -2147483648 ≤ q ∧ q < 2147483648) : sj_Con l yX9_told mX9_told G σ I [.ref x, .int (zI q)] (fun r σ' I' => rC σ I σ' I' x ∧ cI σ' I' x X S H im ∧ ((q = 6 ∧ r = some (.int (zI (jEnd (jVal S.1 S.2) 8)))) ∨ (q ≠ 6 ∧ r = some (.int (zI (jTlc X S H q)))))) := by
  obtain ⟨pv, ws, cy, η, ξ, μ, od, hj⟩ := id h
  obtain ⟨ρ, r0, ⟨r1, r2, r3, _⟩, _⟩ := id hj.1.1
  obtain ⟨τ, he, ht, hM⟩ := id hj.1.2.2.1
  have htx := hj.1.2.1
  have t0 := htx.1.1
  have e0 := he.1
  have hhi := hj.1.2.2.2.1
  have y0 := hhi.1
  have bp := jbs (jPe S.2 8 = true)
  refine sj_con_of (L0 := [some (.ref x), some (.int (zI q))]) (by decide) rfl rfl rfl (Nat.le_of_ble_eq_true rfl) rfl (fun Γ => ?_)
  have fin : ∀ z : Int, q ≠ 6 → z = jTlc X S H q → ((fun r σ' I' => rC σ I σ' I' x ∧ cI σ' I' x X S H im ∧ ((q = 6 ∧ r = some (.int (zI (jEnd (jVal S.1 S.2) 8)))) ∨ (q ≠ 6 ∧ r = some (.int (zI (jTlc X S H q)))))) : sjP) (some (.int (zI z))) σ I := by
    intro z h6 hz
    subst hz
    exact ⟨rC.rf σ I x, h, Or.inr ⟨h6, rfl⟩⟩
  refine sj_ild1 dX9_told_0 ?_
  refine sj_if_lt 10 dX9_told_1 (by decide) (by omega) (fun c_1 => ?_) (fun c_1 => ?_)
  · refine sj_iconst dX9_told_10 ?_
    exact sj_iret dX9_told_11 rfl rfl (Nat.le_of_ble_eq_true rfl) (Nat.le_of_ble_eq_true rfl) (fin _ (by omega) (by unfold jTlc; rw [if_neg (show ¬ q = 0 by omega), if_neg (show ¬ q = 1 by omega), if_neg (show ¬ q = 2 by omega), if_neg (show ¬ q = 3 by omega), if_neg (show ¬ q = 4 by omega), if_neg (show ¬ q = 5 by omega)]))
  · refine sj_ild1 dX9_told_4 ?_
    refine sj_bipush dX9_told_5 (by decide) ?_
    refine sj_icmp_le 12 dX9_told_7 (by decide) (by omega) (by omega) (fun c_7 => ?_) (fun c_7 => ?_)
    · refine sj_ild1 dX9_told_12 ?_
      rcases (show q = 0 ∨ q = 1 ∨ q = 2 ∨ q = 3 ∨ q = 4 ∨ q = 5 ∨ (q < 0 ∨ 5 < q) by omega) with c_13 | c_13 | c_13 | c_13 | c_13 | c_13 | c_13
      · refine sj_tin 52 dX9_told_13 (by omega) (by omega) (by rw [c_13]; rfl) (by decide) ?_
        refine sj_ald0 dX9_told_52 ?_
        refine sj_getR fl_X9_19 (by assumption) rfl r2 dX9_told_53 ?_
        refine sj_getI fl_X9_79 (by assumption) rfl dX9_told_56 ?_
        rw [he.2.2]
        exact sj_iret dX9_told_59 rfl rfl (Nat.le_of_ble_eq_true rfl) (Nat.le_of_ble_eq_true rfl) (fin _ (by omega) (by unfold jTlc; rw [if_pos (show q = 0 by omega)]))
      · refine sj_tin 60 dX9_told_13 (by omega) (by omega) (by rw [c_13]; rfl) (by decide) ?_
        refine sj_ald0 dX9_told_60 ?_
        refine sj_getR fl_X9_19 (by assumption) rfl r2 dX9_told_61 ?_
        refine sj_callV (cx2_count he ht.non) kc_X9_110 (by assumption) rfl rfl rfl rfl (Nat.le_of_ble_eq_true rfl) dX9_told_64 (fun r_64 σ_64 I_64 hp_64 => ?_)
        obtain ⟨rfl, rfl, rfl⟩ := hp_64
        exact sj_iret dX9_told_67 rfl rfl (Nat.le_of_ble_eq_true rfl) (Nat.le_of_ble_eq_true rfl) (fin _ (by omega) (by unfold jTlc; rw [if_neg (show ¬ q = 0 by omega), if_pos (show q = 1 by omega)]))
      · refine sj_tin 68 dX9_told_13 (by omega) (by omega) (by rw [c_13]; rfl) (by decide) ?_
        refine sj_ald0 dX9_told_68 ?_
        refine sj_getR fl_X9_19 (by assumption) rfl r2 dX9_told_69 ?_
        refine sj_callV (cx2_totalSize he ht) kc_X9_112 (by assumption) rfl rfl rfl rfl (Nat.le_of_ble_eq_true rfl) dX9_told_72 (fun r_72 σ_72 I_72 hp_72 => ?_)
        obtain ⟨rfl, rfl, rfl⟩ := hp_72
        exact sj_iret dX9_told_75 rfl rfl (Nat.le_of_ble_eq_true rfl) (Nat.le_of_ble_eq_true rfl) (fin _ (by omega) (by unfold jTlc; rw [if_neg (show ¬ q = 0 by omega), if_neg (show ¬ q = 1 by omega), if_pos (show q = 2 by omega)]))
      · refine sj_tin 76 dX9_told_13 (by omega) (by omega) (by rw [c_13]; rfl) (by decide) ?_
        refine sj_ald0 dX9_told_76 ?_
        refine sj_getR fl_X9_19 (by assumption) rfl r2 dX9_told_77 ?_
        refine sj_callV (cx2_isPlain he ht) kc_X9_115 (by assumption) rfl rfl rfl rfl (Nat.le_of_ble_eq_true rfl) dX9_told_80 (fun r_80 σ_80 I_80 hp_80 => ?_)
        obtain ⟨rfl, rfl, rfl⟩ := hp_80
        refine sj_if_eq 90 dX9_told_83 (by decide) (by omega) (fun c_83 => ?_) (fun c_83 => ?_)
        · refine sj_iconst dX9_told_90 ?_
          exact sj_iret dX9_told_91 rfl rfl (Nat.le_of_ble_eq_true rfl) (Nat.le_of_ble_eq_true rfl) (fin _ (by omega) (by unfold jTlc; rw [if_neg (show ¬ q = 0 by omega), if_neg (show ¬ q = 1 by omega), if_neg (show ¬ q = 2 by omega), if_pos (show q = 3 by omega)]; omega))
        · refine sj_iconst dX9_told_86 ?_
          refine sj_goto 91 dX9_told_87 (by decide) ?_
          exact sj_iret dX9_told_91 rfl rfl (Nat.le_of_ble_eq_true rfl) (Nat.le_of_ble_eq_true rfl) (fin _ (by omega) (by unfold jTlc; rw [if_neg (show ¬ q = 0 by omega), if_neg (show ¬ q = 1 by omega), if_neg (show ¬ q = 2 by omega), if_pos (show q = 3 by omega)]; omega))
      · refine sj_tin 92 dX9_told_13 (by omega) (by omega) (by rw [c_13]; rfl) (by decide) ?_
        refine sj_ald0 dX9_told_92 ?_
        refine sj_getR fl_X9_12 (by assumption) rfl r1 dX9_told_93 ?_
        refine sj_getIN fl_X9_119 (by assumption) rfl dX9_told_96 ?_
        rw [htx.2.1]
        exact sj_iret dX9_told_99 rfl rfl (Nat.le_of_ble_eq_true rfl) (Nat.le_of_ble_eq_true rfl) (fin _ (by omega) (by unfold jTlc; rw [if_neg (show ¬ q = 0 by omega), if_neg (show ¬ q = 1 by omega), if_neg (show ¬ q = 2 by omega), if_neg (show ¬ q = 3 by omega), if_pos (show q = 4 by omega)]))
      · refine sj_tin 100 dX9_told_13 (by omega) (by omega) (by rw [c_13]; rfl) (by decide) ?_
        refine sj_ald0 dX9_told_100 ?_
        refine sj_getR fl_X9_26 (by assumption) rfl r3 dX9_told_101 ?_
        refine sj_getIN fl_X9_100 (by assumption) rfl dX9_told_104 ?_
        rw [hhi.2.2.2.1]
        exact sj_iret dX9_told_107 rfl rfl (Nat.le_of_ble_eq_true rfl) (Nat.le_of_ble_eq_true rfl) (fin _ (by omega) (by unfold jTlc; rw [if_neg (show ¬ q = 0 by omega), if_neg (show ¬ q = 1 by omega), if_neg (show ¬ q = 2 by omega), if_neg (show ¬ q = 3 by omega), if_neg (show ¬ q = 4 by omega), if_pos (show q = 5 by omega)]))
      · refine sj_tout 108 dX9_told_13 (by omega) c_13 (by decide) ?_
        refine sj_ald0 dX9_told_108 ?_
        refine sj_callV (cx9_countFull h hR) kc_X9_122 (by assumption) rfl rfl rfl rfl (Nat.le_of_ble_eq_true rfl) dX9_told_109 (fun r_109 σ_109 I_109 hp_109 => ?_)
        obtain ⟨k1, k2, rfl⟩ := hp_109
        exact sj_iret dX9_told_112 rfl rfl (Nat.le_of_ble_eq_true rfl) (Nat.le_of_ble_eq_true rfl) ⟨k1, k2, Or.inl ⟨by omega, rfl⟩⟩
    · refine sj_iconst dX9_told_10 ?_
      exact sj_iret dX9_told_11 rfl rfl (Nat.le_of_ble_eq_true rfl) (Nat.le_of_ble_eq_true rfl) (fin _ (by omega) (by unfold jTlc; rw [if_neg (show ¬ q = 0 by omega), if_neg (show ¬ q = 1 by omega), if_neg (show ¬ q = 2 by omega), if_neg (show ¬ q = 3 by omega), if_neg (show ¬ q = 4 by omega), if_neg (show ¬ q = 5 by omega)]))
end JUDGE14
