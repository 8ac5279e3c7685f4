section VALUES6
variable {l : Launch} {G : sjG} {σ : sjS} {I : sjI}
theorem cx7_collectNeeded {v e w a i : Nat} {M : Int} {τ : Nat → Option Nat} {E : Nat → Option (List Int)} (hS : vSh σ v e w) (hW : wSh σ w) (he : eqn σ I e M τ) (ht : te σ I τ E) (ha : a < 8) (hi : i < 400) (hkn : jKn M E (400 * a + i)) : sj_Con l yX7_collectNeeded mX7_collectNeeded G σ I [.ref v, .int (zI a), .int (zI i)] (fun r σ' I' => ∃ Q, Q = jQu E 3200 [400 * a + i] 0 ∧ 1 ≤ Q.length ∧ Q.length ≤ 3200 ∧ (∀ q ∈ Q, q < 3200) ∧ r = some (.int (zI ((Q.length - 1 : Nat)))) ∧ σ = σ' ∧ (∀ q, q ≠ w + 1 → q ≠ w + 3 → q ≠ w + 4 → I' q = I q) ∧ ∀ j, j < Q.length → I' (w + 3) j = (Q.getD j 0 : Nat)) := by
  obtain ⟨s0, s1⟩ := id hS
  obtain ⟨w0, w1, w2, w3, w4⟩ := id hW
  have hpl : ((a : Int) * 400 + i) = ((400 * a + i : Nat) : Int) := by omega
  obtain ⟨n0, z0, hz0⟩ := hkn
  obtain ⟨st, hs1, hs2⟩ := jKs_least n0 ⟨z0, hz0⟩
  have n1 := ne_kind he.1 w1 (by decide)
  have n3 := ne_kind he.1 w3 (by decide)
  have n4 := ne_kind he.1 w4 (by decide)
  have hkeep : ∀ J : sjI, (∀ q, q ≠ w + 1 → q ≠ w + 3 → q ≠ w + 4 → J q = I q) → te σ J τ E ∧ eqn σ J e M τ := fun J hJ => ⟨ht.keep (fun t T htm => htm.keep (fun q q1 q2 => by
    have o1 := htm.offW hW
    exact ⟨rfl, hJ q (by omega) (by omega) (by omega)⟩)), he.1, he.2.1, by rw [hJ e n1 n3 n4]; exact he.2.2⟩
  obtain ⟨k, hk⟩ : ∃ k, 400 * a + i = k := ⟨_, rfl⟩
  rw [hk] at hs1 hs2 hpl ⊢
  have hk3 : k < 3200 := by omega
  refine sj_con_of (L0 := [some (.ref v), some (.int (zI a)), some (.int (zI i)), none, none, none]) (by decide) rfl rfl rfl (Nat.le_of_ble_eq_true rfl) rfl (fun Γ => ?_)
  have lp : ∀ (d n : Nat) (Q : List Nat) (J : sjI), n + d = 3200 → jQi M E k st Q → wQ J w Q → (∀ q, q ≠ w + 1 → q ≠ w + 3 → q ≠ w + 4 → J q = I q) → jQu E d Q n = jQu E 3200 [k] 0 → sj_V l Γ mX7_collectNeeded G (fun r σ' I' => ∃ Q, Q = jQu E 3200 [k] 0 ∧ 1 ≤ Q.length ∧ Q.length ≤ 3200 ∧ (∀ q ∈ Q, q < 3200) ∧ r = some (.int (zI ((Q.length - 1 : Nat)))) ∧ σ = σ' ∧ (∀ q, q ≠ w + 1 → q ≠ w + 3 → q ≠ w + 4 → I' q = I q) ∧ ∀ j, j < Q.length → I' (w + 3) j = (Q.getD j 0 : Nat)) σ J 0 0 42 [some (.ref v), some (.int (zI a)), some (.int (zI i)), some (.ref (w + 3)), some (.int (zI Q.length)), some (.int (zI n))] [] := by
    intro d
    induction d with
    | zero =>
      intro n Q J hn hQi hQ hJ hj
      have hj2 : Q = jQu E 3200 [k] 0 := hj
      have hle := hQi.len
      have hne : 1 ≤ Q.length := List.length_pos_of_mem hQi.2.1
      refine sj_ild5 dX7_collectNeeded_42 ?_
      refine sj_ild4 dX7_collectNeeded_44 ?_
      refine sj_icmp_ge 75 dX7_collectNeeded_46 (by decide) (by omega) (by omega) (fun c_46 => ?_) (fun c_46 => ?_)
      rotate_left
      · (exfalso; omega)
      refine sj_ild4 dX7_collectNeeded_75 ?_
      refine sj_iconst dX7_collectNeeded_77 ?_
      refine sj_isub dX7_collectNeeded_78 ?_
      exact sj_iret dX7_collectNeeded_79 rfl rfl (Nat.le_of_ble_eq_true rfl) (Nat.le_of_ble_eq_true rfl) ⟨Q, hj2, hne, hle, hQ.2.2.2, by rw [show ((Q.length - 1 : Nat) : Int) = (Q.length : Int) - 1 by omega], rfl, hJ, hQ.1⟩
    | succ d ih =>
      intro n Q J hn hQi hQ hJ hj
      have hle := hQi.len
      have hne : 1 ≤ Q.length := List.length_pos_of_mem hQi.2.1
      have hj2 : (if n < Q.length then jQu E d (jAd Q (jNl E (Q.getD n 0))) (n + 1) else Q) = jQu E 3200 [k] 0 := hj
      by_cases z : n < Q.length
      · rw [if_pos z] at hj2
        have hmem : Q.getD n 0 ∈ Q := by
          rw [List.getD_eq_getElem?_getD, List.getElem?_eq_getElem z]
          exact List.getElem_mem z
        have hq3 := hQ.2.2.2 _ hmem
        have hqk : jKn M E (Q.getD n 0) := by
          rcases (hQi.2.2 _ hmem).2 with e1 | ⟨y, hy⟩
          · rw [e1]; obtain ⟨y, hy⟩ := hs1; exact ⟨_, y, hy⟩
          · exact ⟨_, y, hy⟩
        have hqi2 := jQi.ad (jNl E (Q.getD n 0)) Q hQi (hQi.nl hs1 hmem)
        have hrow := hQ.1 n z
        obtain ⟨ht2, he2⟩ := hkeep J hJ
        refine sj_ild5 dX7_collectNeeded_42 ?_
        refine sj_ild4 dX7_collectNeeded_44 ?_
        refine sj_icmp_ge 75 dX7_collectNeeded_46 (by decide) (by omega) (by omega) (fun c_46 => ?_) (fun c_46 => ?_)
        · (exfalso; omega)
        refine sj_ild5 dX7_collectNeeded_49 ?_
        refine sj_sipush dX7_collectNeeded_51 (by decide) ?_
        refine sj_icmp_ge 75 dX7_collectNeeded_54 (by decide) (by omega) (by omega) (fun c_54 => ?_) (fun c_54 => ?_)
        · (exfalso; omega)
        refine sj_ald0 dX7_collectNeeded_57 ?_
        refine sj_ald3 dX7_collectNeeded_58 ?_
        refine sj_ild5 dX7_collectNeeded_59 ?_
        refine sj_ialdJ (n) (by assumption) (by omega) (by omega) (by omega) dX7_collectNeeded_61 ?_
        rw [hrow]
        refine sj_ild4 dX7_collectNeeded_62 ?_
        refine sj_callV (cx7_collectAtOnce hS hW he2 ht2 hq3 hqk hQ) kc_X7_98 (by assumption) rfl rfl rfl rfl (Nat.le_of_ble_eq_true rfl) dX7_collectNeeded_64 (fun r_64 σ_64 I_64 hp_64 => ?_)
        obtain ⟨rfl, rfl, x1, x2⟩ := hp_64
        refine sj_ist4 (by decide) rfl dX7_collectNeeded_67 ?_
        refine sj_inc5 (by decide) rfl dX7_collectNeeded_69 ?_
        refine sj_goto 42 dX7_collectNeeded_72 (by decide) ?_
        exact ih (n + 1) (jAd Q (jNl E (Q.getD n 0))) I_64 (by omega) hqi2 x2 (fun q q1 q2 q3 => by rw [x1 q q1 q2 q3]; exact hJ q q1 q2 q3) hj2
      · rw [if_neg z] at hj2
        refine sj_ild5 dX7_collectNeeded_42 ?_
        refine sj_ild4 dX7_collectNeeded_44 ?_
        refine sj_icmp_ge 75 dX7_collectNeeded_46 (by decide) (by omega) (by omega) (fun c_46 => ?_) (fun c_46 => ?_)
        rotate_left
        · (exfalso; omega)
        refine sj_ild4 dX7_collectNeeded_75 ?_
        refine sj_iconst dX7_collectNeeded_77 ?_
        refine sj_isub dX7_collectNeeded_78 ?_
        exact sj_iret dX7_collectNeeded_79 rfl rfl (Nat.le_of_ble_eq_true rfl) (Nat.le_of_ble_eq_true rfl) ⟨Q, hj2, hne, hle, hQ.2.2.2, by rw [show ((Q.length - 1 : Nat) : Int) = (Q.length : Int) - 1 by omega], rfl, hJ, hQ.1⟩
  refine sj_ald0 dX7_collectNeeded_0 ?_
  refine sj_getR fl_X7_19 (by assumption) rfl (vR_1 _ _ _) dX7_collectNeeded_1 ?_
  refine sj_getRN fl_X7_41 (by assumption) rfl (wR_2 _) dX7_collectNeeded_4 ?_
  refine sj_ast3 (by decide) rfl dX7_collectNeeded_7 ?_
  refine sj_ald0 dX7_collectNeeded_8 ?_
  refine sj_getR fl_X7_19 (by assumption) rfl (vR_1 _ _ _) dX7_collectNeeded_9 ?_
  refine sj_callV (cx8_clearSeen hW) kc_X7_92 (by assumption) rfl rfl rfl rfl (Nat.le_of_ble_eq_true rfl) dX7_collectNeeded_12 (fun r_12 σ_12 I_12 hp_12 => ?_)
  obtain ⟨rfl, rfl, x1, x2⟩ := hp_12
  refine sj_ald3 dX7_collectNeeded_15 ?_
  refine sj_iconst dX7_collectNeeded_16 ?_
  refine sj_ild1 dX7_collectNeeded_17 ?_
  refine sj_sipush dX7_collectNeeded_18 (by decide) ?_
  refine sj_imul dX7_collectNeeded_21 ?_
  refine sj_ild2 dX7_collectNeeded_22 ?_
  refine sj_iadd dX7_collectNeeded_23 ?_
  rw [hpl]
  refine sj_iastJ (0) (by assumption) (by omega) (by omega) (by omega) dX7_collectNeeded_24 ?_
  refine sj_ald0 dX7_collectNeeded_25 ?_
  refine sj_getR fl_X7_19 (by assumption) rfl (vR_1 _ _ _) dX7_collectNeeded_26 ?_
  refine sj_ald3 dX7_collectNeeded_29 ?_
  refine sj_iconst dX7_collectNeeded_30 ?_
  refine sj_ialdJ (0) (by assumption) (by omega) (by omega) (by omega) dX7_collectNeeded_31 ?_
  rw [sj_up_self]
  refine sj_callV (cx8_see (P := fun _ => False) hW (by obtain ⟨m, m1, m2⟩ := x2; exact ⟨m, fun j hj => by rw [sj_up_row (by omega)]; exact m1 j hj, m2⟩) hk3) kc_X7_95 (by assumption) rfl rfl rfl rfl (Nat.le_of_ble_eq_true rfl) dX7_collectNeeded_32 (fun r_32 σ_32 I_32 hp_32 => ?_)
  obtain ⟨rfl, x3⟩ := hp_32
  have x4 : ∃ y, r_32 = some (Value.int y) ∧ (∀ b, b ≠ w + 4 → I_32 b = sj_up I_12 (w + 3) 0 (k : Nat) b) ∧ sIn I_32 w (fun x => False ∨ x = k) := by
    rcases x3 with ⟨x4, _⟩ | ⟨_, x4, x5, x6⟩
    · exact x4.elim
    · exact ⟨_, x4, x5, x6⟩
  obtain ⟨y, rfl, x5, x6⟩ := x4
  refine sj_pop dX7_collectNeeded_35 rfl ?_
  refine sj_iconst dX7_collectNeeded_36 ?_
  refine sj_ist4 (by decide) rfl dX7_collectNeeded_37 ?_
  refine sj_iconst dX7_collectNeeded_39 ?_
  refine sj_ist5 (by decide) rfl dX7_collectNeeded_40 ?_
  exact lp 3200 0 [k] I_32 (by omega) ⟨List.nodup_cons.mpr ⟨by simp, List.nodup_nil⟩, List.mem_cons_self, fun q hq => by rw [List.mem_singleton.mp hq]; exact ⟨hk3, Or.inl rfl⟩⟩ ⟨fun j hj => by
    rw [List.length_singleton] at hj
    rw [show j = 0 by omega, x5 (w + 3) (by omega), sj_up_self]; rfl, by
    obtain ⟨m, m1, m2⟩ := x6
    exact ⟨m, m1, fun x hx => by
      rw [m2 x hx]
      show (False ∨ x = k) ↔ x ∈ [k]
      rw [List.mem_singleton]; exact ⟨fun z => z.resolve_left id, Or.inr⟩⟩, List.nodup_cons.mpr ⟨by simp, List.nodup_nil⟩, fun q hq => by rw [List.mem_singleton.mp hq]; exact hk3⟩ (fun q q1 q2 q3 => by rw [x5 q q3, sj_up_row q2, x1 q q3]) rfl
end VALUES6
