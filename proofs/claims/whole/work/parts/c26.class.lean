/-- the history is another one -/
theorem cJ.hst {σ : sjS} {I I' : sjI} {x : Nat} {X : List Int} {S : aSt} {H H' : List aSt} {im : Nat → Option aSt} {pv ws cy : Option Nat} {η ξ μ : Nat → Option Nat} {od : Nat} (h : cJ σ I x X S H im pv ws cy η ξ μ od) (hI : ∀ q, q ≠ x + 6 → I' q = I q) (hY : his σ I' (x + 6) η od H'.length) (hH : ∀ (k : Nat) (S' : aSt), H'[k]? = some S' → H[k]? = some S') : cJ σ I' x X S H' im pv ws cy η ξ μ od := by
  obtain ⟨⟨a1, a2, a3, a4, a5, a6, a7⟩, ⟨b1, b2⟩, c1, d1, e1, f1, g1⟩ := h
  have hb := a4.blk
  have hκ := a4.1
  have cl : ∀ a m, blk σ a m → a ≠ x + 6 → ∀ q, a ≤ q → q ≤ a + m → cq σ I σ I' q := fun a m ha hne q q1 q2 => ⟨rfl, hI q (by have := ha.off hb hne; omega)⟩
  have hT : tS σ I σ I' := fun t T ht => ht.keep (fun q q1 q2 => cl t 3 ht.blk (ne_kind ht.1.1 hκ (by decide)) q q1 q2)
  have hsys : ∀ s S', sys σ I s S' → sys σ I' s S' := fun s S' hs => by
    have hne : s ≠ x + 6 := by obtain ⟨τ, q1, _⟩ := hs; exact ne_kind q1.1 hκ (by decide)
    exact hs.keep hT (cl s 1 hs.blk hne s (by omega) (by omega)) (cl s 1 hs.blk hne (s + 1) (by omega) (by omega))
  have hval : ∀ v s w S', wSh σ w → vals σ I v s w S' → vals σ I' v s w S' := fun v s w S' hW hv => by
    have o := vRo hv.1 hW hb (ne_kind hv.1.1 hκ (by decide)) (Or.inr (by decide))
    exact hv.keep ⟨rfl, hI v (by omega)⟩ ⟨rfl, hI _ (by omega)⟩
  refine ⟨⟨a1, a2.keep (cl _ 2 a2.blk (ne_kind a2.1.1 hκ (by decide)) _ (by omega) (by omega)) (cl _ 2 a2.blk (ne_kind a2.1.1 hκ (by decide)) _ (by omega) (by omega)) rfl, hsys _ _ a3, hY, a5, a6, a7⟩, ⟨fun j s q1 q2 => ⟨(b1 j s q1 q2).1, (b1 j s q1 q2).2.imp (fun S' q => hsys s S' q)⟩, fun k S' q1 => (b2 k S' (hH k S' q1)).imp (fun s q => ⟨q.1, hsys s S' q.2⟩)⟩, fun i hi => (c1 i hi).keep (fun s S' _ q => hsys s S' q) (fun v s w S' _ z q => hval v s w S' (f1 w z) q), d1, e1.imp id (fun ⟨v, w, q1, q2, q3⟩ => ⟨v, w, q1, q2, hval v _ w S (f1 w q2) q3⟩), f1, g1⟩
theorem ls_last {H : List aSt} (h : 0 < H.length) : ∃ S', H[H.length - 1]? = some S' ∧ H.getLast? = some S' := by
  refine ⟨H[H.length - 1], List.getElem?_eq_getElem (by omega), ?_⟩
  rw [List.getLast?_eq_getElem?]
  exact List.getElem?_eq_getElem (by omega)
theorem ls_drop {H : List aSt} {k : Nat} {S' : aSt} (h : H.dropLast[k]? = some S') : H[k]? = some S' := by
  rw [List.getElem?_dropLast] at h
  by_cases q : k < H.length - 1
  · rw [if_pos q] at h; exact h
  · rw [if_neg q] at h; cases h
theorem jMul_rng {p q : Int} (hp : 0 ≤ p ∧ p ≤ 120) (hq : -1 ≤ q ∧ q ≤ 119) : -14400 ≤ p * q ∧ p * q ≤ 14400 := by
  have h1 : p * q ≤ p * 119 := Int.mul_le_mul_of_nonneg_left hq.2 hp.1
  have h2 : p * (-1) ≤ p * q := Int.mul_le_mul_of_nonneg_left hq.1 hp.1
  omega
section JUDGE5
variable {l : Launch} {G : sjG} {σ : sjS} {I : sjI}
theorem cx9_insert {x : Nat} {a b : Int} {X : List Int} {S : aSt} {H : List aSt} {im : Nat → Option aSt} (h : cI σ I x X S H im) (hR : rB σ x) (ha : -2147483648 ≤ a ∧ a < 2147483648) (hb : -2147483648 ≤ b ∧ b < 2147483648) : sj_Con l yX9_insert mX9_insert G σ I [.ref x, .int (zI a), .int (zI b)] (fun r σ' I' => rC σ I σ' I' x ∧ ((¬ ((0 ≤ a ∧ a ≤ 7) ∧ (0 ≤ b ∧ b ≤ 7)) ∧ r = some (.int (zI (-1))) ∧ cI σ' I' x X S H im) ∨ (((0 ≤ a ∧ a ≤ 7) ∧ (0 ≤ b ∧ b ≤ 7)) ∧ (S.2 a.toNat = none ∨ S.2 b.toNat = none) ∧ r = some (.int (zI (-2))) ∧ cI σ' I' x X S H im) ∨ ∃ T U, ((0 ≤ a ∧ a ≤ 7) ∧ (0 ≤ b ∧ b ≤ 7)) ∧ S.2 a.toNat = some T ∧ S.2 b.toNat = some U ∧ ((120 < (jIns (65 + b) U T).length ∧ r = some (.int (zI (-3))) ∧ cI σ' I' x X S H im) ∨ ((jIns (65 + b) U T).length ≤ 120 ∧ r = some (.int (zI (jIns (65 + b) U T).length)) ∧ cI σ' I' x X (S.1, jSe S.2 a.toNat (some (jIns (65 + b) U T))) (jHs H S) im)))) := by
  obtain ⟨pv, ws, cy, η, ξ, μ, od, hj⟩ := id h
  obtain ⟨ρ, r0, ⟨_, r1, _⟩, _⟩ := hj.1.1
  obtain ⟨τ, he, ht, hM⟩ := hj.1.2.2.1
  have e0 := he.1
  have e1 := he.2.1
  have b1 := jbs (0 ≤ a ∧ a ≤ 7)
  have b2 := jbs (0 ≤ b ∧ b ≤ 7)
  refine sj_con_of (L0 := [some (.ref x), some (.int (zI a)), some (.int (zI b)), none, none, none]) (by decide) rfl rfl rfl (Nat.le_of_ble_eq_true rfl) rfl (fun Γ => ?_)
  refine sj_wfV (fun hwf => ?_)
  by_cases hg : (0 ≤ a ∧ a ≤ 7) ∧ (0 ≤ b ∧ b ≤ 7)
  · obtain ⟨aa, rfl⟩ := jNat (a := a) (by omega)
    obtain ⟨bb, rfl⟩ := jNat (a := b) (by omega)
    rw [Int.toNat_natCast, Int.toNat_natCast]
    rcases ht.2 aa (by omega) with ⟨hv, hE⟩ | ⟨t, T, hv, hE, htm⟩
    · rcases ht.2 bb (by omega) with ⟨hv2, hE2⟩ | ⟨u, U, hv2, hE2, htu⟩
      · refine sj_ild1 dX9_insert_0 ?_
        refine sj_callS (cx9_isStream ha) kc_X9_58 rfl rfl (Nat.le_of_ble_eq_true rfl) dX9_insert_1 (fun r_1 σ_1 I_1 hp_1 => ?_)
        obtain ⟨rfl, rfl, rfl⟩ := hp_1
        refine sj_if_eq 14 dX9_insert_4 (by decide) (by omega) (fun c_4 => ?_) (fun c_4 => ?_)
        · (exfalso; omega)
        refine sj_ild2 dX9_insert_7 ?_
        refine sj_callS (cx9_isStream hb) kc_X9_58 rfl rfl (Nat.le_of_ble_eq_true rfl) dX9_insert_8 (fun r_8 σ_8 I_8 hp_8 => ?_)
        obtain ⟨rfl, rfl, rfl⟩ := hp_8
        refine sj_if_ne 16 dX9_insert_11 (by decide) (by omega) (fun c_11 => ?_) (fun c_11 => ?_)
        rotate_left
        · (exfalso; omega)
        refine sj_ald0 dX9_insert_16 ?_
        refine sj_getR fl_X9_19 (by assumption) rfl r1 dX9_insert_17 ?_
        refine sj_getR fl_X9_69 (by assumption) rfl (eR_1 _) dX9_insert_20 ?_
        refine sj_ild1 dX9_insert_23 ?_
        refine sj_aaldN rfl (by assumption) (by omega) (by decide) hv dX9_insert_24 ?_
        refine sj_astN3 (by decide) rfl dX9_insert_25 ?_
        refine sj_ald0 dX9_insert_26 ?_
        refine sj_getR fl_X9_19 (by assumption) rfl r1 dX9_insert_27 ?_
        refine sj_getR fl_X9_69 (by assumption) rfl (eR_1 _) dX9_insert_30 ?_
        refine sj_ild2 dX9_insert_33 ?_
        refine sj_aaldN rfl (by assumption) (by omega) (by decide) hv2 dX9_insert_34 ?_
        refine sj_astN4 (by decide) rfl dX9_insert_35 ?_
        refine sj_aldN3 dX9_insert_37 ?_
        refine sj_ifnullN 46 dX9_insert_38 (by decide) ?_
        refine sj_bipush dX9_insert_46 (by decide) ?_
        exact sj_iret dX9_insert_48 rfl rfl (Nat.le_of_ble_eq_true rfl) (Nat.le_of_ble_eq_true rfl) ⟨rC.rf σ I x, Or.inr (Or.inl ⟨hg, Or.inl hE, rfl, h⟩)⟩
      · refine sj_ild1 dX9_insert_0 ?_
        refine sj_callS (cx9_isStream ha) kc_X9_58 rfl rfl (Nat.le_of_ble_eq_true rfl) dX9_insert_1 (fun r_1 σ_1 I_1 hp_1 => ?_)
        obtain ⟨rfl, rfl, rfl⟩ := hp_1
        refine sj_if_eq 14 dX9_insert_4 (by decide) (by omega) (fun c_4 => ?_) (fun c_4 => ?_)
        · (exfalso; omega)
        refine sj_ild2 dX9_insert_7 ?_
        refine sj_callS (cx9_isStream hb) kc_X9_58 rfl rfl (Nat.le_of_ble_eq_true rfl) dX9_insert_8 (fun r_8 σ_8 I_8 hp_8 => ?_)
        obtain ⟨rfl, rfl, rfl⟩ := hp_8
        refine sj_if_ne 16 dX9_insert_11 (by decide) (by omega) (fun c_11 => ?_) (fun c_11 => ?_)
        rotate_left
        · (exfalso; omega)
        refine sj_ald0 dX9_insert_16 ?_
        refine sj_getR fl_X9_19 (by assumption) rfl r1 dX9_insert_17 ?_
        refine sj_getR fl_X9_69 (by assumption) rfl (eR_1 _) dX9_insert_20 ?_
        refine sj_ild1 dX9_insert_23 ?_
        refine sj_aaldN rfl (by assumption) (by omega) (by decide) hv dX9_insert_24 ?_
        refine sj_astN3 (by decide) rfl dX9_insert_25 ?_
        refine sj_ald0 dX9_insert_26 ?_
        refine sj_getR fl_X9_19 (by assumption) rfl r1 dX9_insert_27 ?_
        refine sj_getR fl_X9_69 (by assumption) rfl (eR_1 _) dX9_insert_30 ?_
        refine sj_ild2 dX9_insert_33 ?_
        refine sj_aald rfl (by assumption) (by omega) (by decide) hv2 dX9_insert_34 ?_
        refine sj_ast4 (by decide) rfl dX9_insert_35 ?_
        refine sj_aldN3 dX9_insert_37 ?_
        refine sj_ifnullN 46 dX9_insert_38 (by decide) ?_
        refine sj_bipush dX9_insert_46 (by decide) ?_
        exact sj_iret dX9_insert_48 rfl rfl (Nat.le_of_ble_eq_true rfl) (Nat.le_of_ble_eq_true rfl) ⟨rC.rf σ I x, Or.inr (Or.inl ⟨hg, Or.inl hE, rfl, h⟩)⟩
    · rcases ht.2 bb (by omega) with ⟨hv2, hE2⟩ | ⟨u, U, hv2, hE2, htu⟩
      · refine sj_ild1 dX9_insert_0 ?_
        refine sj_callS (cx9_isStream ha) kc_X9_58 rfl rfl (Nat.le_of_ble_eq_true rfl) dX9_insert_1 (fun r_1 σ_1 I_1 hp_1 => ?_)
        obtain ⟨rfl, rfl, rfl⟩ := hp_1
        refine sj_if_eq 14 dX9_insert_4 (by decide) (by omega) (fun c_4 => ?_) (fun c_4 => ?_)
        · (exfalso; omega)
        refine sj_ild2 dX9_insert_7 ?_
        refine sj_callS (cx9_isStream hb) kc_X9_58 rfl rfl (Nat.le_of_ble_eq_true rfl) dX9_insert_8 (fun r_8 σ_8 I_8 hp_8 => ?_)
        obtain ⟨rfl, rfl, rfl⟩ := hp_8
        refine sj_if_ne 16 dX9_insert_11 (by decide) (by omega) (fun c_11 => ?_) (fun c_11 => ?_)
        rotate_left
        · (exfalso; omega)
        refine sj_ald0 dX9_insert_16 ?_
        refine sj_getR fl_X9_19 (by assumption) rfl r1 dX9_insert_17 ?_
        refine sj_getR fl_X9_69 (by assumption) rfl (eR_1 _) dX9_insert_20 ?_
        refine sj_ild1 dX9_insert_23 ?_
        refine sj_aald rfl (by assumption) (by omega) (by decide) hv dX9_insert_24 ?_
        refine sj_ast3 (by decide) rfl dX9_insert_25 ?_
        refine sj_ald0 dX9_insert_26 ?_
        refine sj_getR fl_X9_19 (by assumption) rfl r1 dX9_insert_27 ?_
        refine sj_getR fl_X9_69 (by assumption) rfl (eR_1 _) dX9_insert_30 ?_
        refine sj_ild2 dX9_insert_33 ?_
        refine sj_aaldN rfl (by assumption) (by omega) (by decide) hv2 dX9_insert_34 ?_
        refine sj_astN4 (by decide) rfl dX9_insert_35 ?_
        refine sj_ald3 dX9_insert_37 ?_
        refine sj_ifnull dX9_insert_38 ?_
        refine sj_aldN4 dX9_insert_41 ?_
        refine sj_ifnonnullN dX9_insert_43 ?_
        refine sj_bipush dX9_insert_46 (by decide) ?_
        exact sj_iret dX9_insert_48 rfl rfl (Nat.le_of_ble_eq_true rfl) (Nat.le_of_ble_eq_true rfl) ⟨rC.rf σ I x, Or.inr (Or.inl ⟨hg, Or.inr hE2, rfl, h⟩)⟩
      · have hln := jIns_len (65 + bb) U T
        have hl1 := htm.2.2.2.2.2.2
        have hl2 := htu.2.2.2.2.2.2
        have t0 := htm.1.1
        have hoc : (0 : Int) ≤ jOc (65 + bb) T ∧ (jOc (65 + bb) T : Int) ≤ T.length := jOc_le _ _
        have hmul : -14400 ≤ (jOc (65 + bb) T : Int) * ((U.length : Int) - 1) ∧ (jOc (65 + bb) T : Int) * ((U.length : Int) - 1) ≤ 14400 := jMul_rng (by omega) (by omega)
        refine sj_ild1 dX9_insert_0 ?_
        refine sj_callS (cx9_isStream ha) kc_X9_58 rfl rfl (Nat.le_of_ble_eq_true rfl) dX9_insert_1 (fun r_1 σ_1 I_1 hp_1 => ?_)
        obtain ⟨rfl, rfl, rfl⟩ := hp_1
        refine sj_if_eq 14 dX9_insert_4 (by decide) (by omega) (fun c_4 => ?_) (fun c_4 => ?_)
        · (exfalso; omega)
        refine sj_ild2 dX9_insert_7 ?_
        refine sj_callS (cx9_isStream hb) kc_X9_58 rfl rfl (Nat.le_of_ble_eq_true rfl) dX9_insert_8 (fun r_8 σ_8 I_8 hp_8 => ?_)
        obtain ⟨rfl, rfl, rfl⟩ := hp_8
        refine sj_if_ne 16 dX9_insert_11 (by decide) (by omega) (fun c_11 => ?_) (fun c_11 => ?_)
        rotate_left
        · (exfalso; omega)
        refine sj_ald0 dX9_insert_16 ?_
        refine sj_getR fl_X9_19 (by assumption) rfl r1 dX9_insert_17 ?_
        refine sj_getR fl_X9_69 (by assumption) rfl (eR_1 _) dX9_insert_20 ?_
        refine sj_ild1 dX9_insert_23 ?_
        refine sj_aald rfl (by assumption) (by omega) (by decide) hv dX9_insert_24 ?_
        refine sj_ast3 (by decide) rfl dX9_insert_25 ?_
        refine sj_ald0 dX9_insert_26 ?_
        refine sj_getR fl_X9_19 (by assumption) rfl r1 dX9_insert_27 ?_
        refine sj_getR fl_X9_69 (by assumption) rfl (eR_1 _) dX9_insert_30 ?_
        refine sj_ild2 dX9_insert_33 ?_
        refine sj_aald rfl (by assumption) (by omega) (by decide) hv2 dX9_insert_34 ?_
        refine sj_ast4 (by decide) rfl dX9_insert_35 ?_
        refine sj_ald3 dX9_insert_37 ?_
        refine sj_ifnull dX9_insert_38 ?_
        refine sj_ald4 dX9_insert_41 ?_
        refine sj_ifnonnull 49 dX9_insert_43 (by decide) ?_
        refine sj_ald3 dX9_insert_49 ?_
        refine sj_ild2 dX9_insert_50 ?_
        refine sj_ald4 dX9_insert_51 ?_
        refine sj_callV (cx5_sizeWith htm htu (by omega)) kc_X9_82 (by assumption) rfl rfl rfl rfl (Nat.le_of_ble_eq_true rfl) dX9_insert_53 (fun r_53 σ_53 I_53 hp_53 => ?_)
        obtain ⟨rfl, rfl, rfl⟩ := hp_53
        rw [← hln]
        refine sj_bipush dX9_insert_56 (by decide) ?_
        refine sj_icmp_le 64 dX9_insert_58 (by decide) (by omega) (by omega) (fun c_58 => ?_) (fun c_58 => ?_)
        · refine sj_ald3 dX9_insert_64 ?_
          refine sj_ild2 dX9_insert_65 ?_
          refine sj_ald4 dX9_insert_66 ?_
          refine sj_callV (cx5_with htm htu (by omega) (by omega)) kc_X9_86 (by assumption) rfl rfl rfl rfl (Nat.le_of_ble_eq_true rfl) dX9_insert_68 (fun r_68 σ_68 I_68 hp_68 => ?_)
          obtain ⟨rfl, x1, x2, x3⟩ := hp_68
          obtain ⟨hj1, hT1⟩ := hj.grow hwf (fun q hq => ⟨(x2 q hq).1, fun _ => (x2 q hq).2⟩)
          have hC1 : rC σ I σ_68 I_68 x := fun q q1 q2 => x2 q (hR.1.lt hwf q1 q2)
          obtain ⟨ρ1, r01, _⟩ := id hj1.1.1
          refine sj_ast5 (by decide) rfl dX9_insert_71 ?_
          refine sj_ald0 dX9_insert_73 ?_
          refine sj_callV (cx9_beginChange hj1 (hR.keep hC1)) kc_X9_66 (by assumption) rfl rfl rfl rfl (Nat.le_of_ble_eq_true rfl) dX9_insert_74 (fun r_74 σ_74 I_74 hp_74 => ?_)
          obtain ⟨rfl, ⟨η', od', hj'⟩, w2, w3, w4, w5⟩ := hp_74
          obtain ⟨ρ', r0', ⟨_, r1', _⟩, _⟩ := id hj'.1.1
          obtain ⟨τ', he', ht', hM'⟩ := id hj'.1.2.2.1
          have e0' := he'.1
          have e1' := he'.2.1
          have hu := w3 _ _ x3
          have hu0 := hu.1.1
          obtain ⟨y1, y2, y3⟩ := hj'.putT (a := aa) w2 (by omega) he' ht' (some (σ.1 + 1)) (some (jIns (65 + bb) U T)) (Or.inr ⟨_, _, rfl, rfl, hu⟩)
          have z := y2 _ _ hu
          have z0 := z.1.1
          refine sj_ald0 dX9_insert_77 ?_
          refine sj_getR fl_X9_19 (by assumption) rfl r1' dX9_insert_78 ?_
          refine sj_getR fl_X9_69 (by assumption) rfl (eR_1 _) dX9_insert_81 ?_
          refine sj_ild1 dX9_insert_84 ?_
          refine sj_ald5 dX9_insert_85 ?_
          refine sj_aast rfl e1' hu0 (by omega) (by decide) dX9_insert_87 ?_
          rw [Int.toNat_natCast]
          refine sj_ald5 dX9_insert_88 ?_
          refine sj_getI fl_X9_73 (by assumption) rfl dX9_insert_90 ?_
          rw [z.2.1]
          exact sj_iret dX9_insert_93 rfl rfl (Nat.le_of_ble_eq_true rfl) (Nat.le_of_ble_eq_true rfl) ⟨(hC1.tr w4).tr y3, Or.inr (Or.inr ⟨T, U, hg, hE, hE2, Or.inr ⟨by omega, rfl, y1⟩⟩)⟩
        · refine sj_bipush dX9_insert_61 (by decide) ?_
          exact sj_iret dX9_insert_63 rfl rfl (Nat.le_of_ble_eq_true rfl) (Nat.le_of_ble_eq_true rfl) ⟨rC.rf σ I x, Or.inr (Or.inr ⟨T, U, hg, hE, hE2, Or.inl ⟨by omega, rfl, h⟩⟩)⟩
  · refine sj_ild1 dX9_insert_0 ?_
    refine sj_callS (cx9_isStream ha) kc_X9_58 rfl rfl (Nat.le_of_ble_eq_true rfl) dX9_insert_1 (fun r_1 σ_1 I_1 hp_1 => ?_)
    obtain ⟨rfl, rfl, rfl⟩ := hp_1
    refine sj_if_eq 14 dX9_insert_4 (by decide) (by omega) (fun c_4 => ?_) (fun c_4 => ?_)
    · refine sj_iconst dX9_insert_14 ?_
      exact sj_iret dX9_insert_15 rfl rfl (Nat.le_of_ble_eq_true rfl) (Nat.le_of_ble_eq_true rfl) ⟨rC.rf σ I x, Or.inl ⟨hg, rfl, h⟩⟩
    · refine sj_ild2 dX9_insert_7 ?_
      refine sj_callS (cx9_isStream hb) kc_X9_58 rfl rfl (Nat.le_of_ble_eq_true rfl) dX9_insert_8 (fun r_8 σ_8 I_8 hp_8 => ?_)
      obtain ⟨rfl, rfl, rfl⟩ := hp_8
      refine sj_if_ne 16 dX9_insert_11 (by decide) (by omega) (fun c_11 => ?_) (fun c_11 => ?_)
      · (exfalso; omega)
      refine sj_iconst dX9_insert_14 ?_
      exact sj_iret dX9_insert_15 rfl rfl (Nat.le_of_ble_eq_true rfl) (Nat.le_of_ble_eq_true rfl) ⟨rC.rf σ I x, Or.inl ⟨hg, rfl, h⟩⟩
theorem cx9_simplify {x : Nat} {a : Int} {X : List Int} {S : aSt} {H : List aSt} {im : Nat → Option aSt} (h : cI σ I x X S H im) (hR : rB σ x) (ha : -2147483648 ≤ a ∧ a < 2147483648) : sj_Con l yX9_simplify mX9_simplify G σ I [.ref x, .int (zI a)] (fun r σ' I' => rC σ I σ' I' x ∧ ((¬ (0 ≤ a ∧ a ≤ 7) ∧ r = some (.int (zI (-1))) ∧ cI σ' I' x X S H im) ∨ ((0 ≤ a ∧ a ≤ 7) ∧ S.2 a.toNat = none ∧ r = some (.int (zI (-2))) ∧ cI σ' I' x X S H im) ∨ ∃ T, (0 ≤ a ∧ a ≤ 7) ∧ S.2 a.toNat = some T ∧ ((jSi 1000000 T = none ∧ r = some (.int (zI (-3))) ∧ cI σ' I' x X S H im) ∨ ∃ n U, jSi 1000000 T = some (n, U) ∧ r = some (.int (zI n)) ∧ cI σ' I' x X (S.1, jSe S.2 a.toNat (some U)) (jHs H S) im))) := by
  obtain ⟨pv, ws, cy, η, ξ, μ, od, hj⟩ := id h
  obtain ⟨ρ, r0, ⟨_, r1, _, r3, _⟩, _⟩ := hj.1.1
  obtain ⟨τ, he, ht, hM⟩ := hj.1.2.2.1
  have hS := hj.1.2.2.2.2.1
  have e0 := he.1
  have e1 := he.2.1
  have b1 := jbs (0 ≤ a ∧ a ≤ 7)
  have s0 := hS.1
  refine sj_con_of (L0 := [some (.ref x), some (.int (zI a)), none, none]) (by decide) rfl rfl rfl (Nat.le_of_ble_eq_true rfl) rfl (fun Γ => ?_)
  by_cases hg : 0 ≤ a ∧ a ≤ 7
  · obtain ⟨aa, rfl⟩ := jNat (a := a) (by omega)
    rw [Int.toNat_natCast]
    rcases ht.2 aa (by omega) with ⟨hv, hE⟩ | ⟨t, T, hv, hE, htm⟩
    · refine sj_ild1 dX9_simplify_0 ?_
      refine sj_callS (cx9_isStream ha) kc_X9_58 rfl rfl (Nat.le_of_ble_eq_true rfl) dX9_simplify_1 (fun r_1 σ_1 I_1 hp_1 => ?_)
      obtain ⟨rfl, rfl, rfl⟩ := hp_1
      refine sj_if_ne 9 dX9_simplify_4 (by decide) (by omega) (fun c_4 => ?_) (fun c_4 => ?_)
      rotate_left
      · (exfalso; omega)
      refine sj_ald0 dX9_simplify_9 ?_
      refine sj_getR fl_X9_19 (by assumption) rfl r1 dX9_simplify_10 ?_
      refine sj_getR fl_X9_69 (by assumption) rfl (eR_1 _) dX9_simplify_13 ?_
      refine sj_ild1 dX9_simplify_16 ?_
      refine sj_aaldN rfl (by assumption) (by omega) (by decide) hv dX9_simplify_17 ?_
      refine sj_astN2 (by decide) rfl dX9_simplify_18 ?_
      refine sj_aldN2 dX9_simplify_19 ?_
      refine sj_ifnonnullN dX9_simplify_20 ?_
      refine sj_bipush dX9_simplify_23 (by decide) ?_
      exact sj_iret dX9_simplify_25 rfl rfl (Nat.le_of_ble_eq_true rfl) (Nat.le_of_ble_eq_true rfl) ⟨rC.rf σ I x, Or.inr (Or.inl ⟨hg, hE, rfl, h⟩)⟩
    · have hblk := hS.blk hj.1.2.2.2.2.2.1 hj.1.2.2.2.2.2.2
      refine sj_ild1 dX9_simplify_0 ?_
      refine sj_callS (cx9_isStream ha) kc_X9_58 rfl rfl (Nat.le_of_ble_eq_true rfl) dX9_simplify_1 (fun r_1 σ_1 I_1 hp_1 => ?_)
      obtain ⟨rfl, rfl, rfl⟩ := hp_1
      refine sj_if_ne 9 dX9_simplify_4 (by decide) (by omega) (fun c_4 => ?_) (fun c_4 => ?_)
      rotate_left
      · (exfalso; omega)
      refine sj_ald0 dX9_simplify_9 ?_
      refine sj_getR fl_X9_19 (by assumption) rfl r1 dX9_simplify_10 ?_
      refine sj_getR fl_X9_69 (by assumption) rfl (eR_1 _) dX9_simplify_13 ?_
      refine sj_ild1 dX9_simplify_16 ?_
      refine sj_aald rfl (by assumption) (by omega) (by decide) hv dX9_simplify_17 ?_
      refine sj_ast2 (by decide) rfl dX9_simplify_18 ?_
      refine sj_ald2 dX9_simplify_19 ?_
      refine sj_ifnonnull 26 dX9_simplify_20 (by decide) ?_
      refine sj_ald0 dX9_simplify_26 ?_
      refine sj_getR fl_X9_33 (by assumption) rfl r3 dX9_simplify_27 ?_
      refine sj_ald2 dX9_simplify_30 ?_
      refine sj_callV (cx4_load hS htm) kc_X9_90 (by assumption) rfl rfl rfl rfl (Nat.le_of_ble_eq_true rfl) dX9_simplify_31 (fun r_31 σ_31 I_31 hp_31 => ?_)
      obtain ⟨rfl, rfl, x1, x2⟩ := hp_31
      refine sj_ald0 dX9_simplify_34 ?_
      refine sj_getR fl_X9_33 (by assumption) rfl r3 dX9_simplify_35 ?_
      refine sj_callV (cx4_applyAll hS x2 htm.2.2.2.2.2.1) kc_X9_94 (by assumption) rfl rfl rfl rfl (Nat.le_of_ble_eq_true rfl) dX9_simplify_38 (fun r_38 σ_38 I_38 hp_38 => ?_)
      obtain ⟨rfl, x3, x4⟩ := hp_38
      have hI : ∀ q, ¬ (x + 8 ≤ q ∧ q ≤ x + 8 + 5) → I_38 q = I q := fun q hq => by rw [x3 q (by omega), x1 q (by omega) (by omega)]
      have hj1 := hj.scr hblk ⟨_, _, s0, by decide, by decide, by decide, by decide, by decide, Or.inl (by decide)⟩ hI
      have hC1 : rC σ I σ I_38 x := fun q q1 q2 => ⟨rfl, hI q (by omega)⟩
      rcases x4 with ⟨z1, rfl⟩ | ⟨n, U, z1, z2, rfl, z3, z4⟩
      · refine sj_ist3 (by decide) rfl dX9_simplify_41 ?_
        refine sj_ild3 dX9_simplify_42 ?_
        refine sj_if_ge 49 dX9_simplify_43 (by decide) (by omega) (fun c_43 => ?_) (fun c_43 => ?_)
        · (exfalso; omega)
        refine sj_bipush dX9_simplify_46 (by decide) ?_
        exact sj_iret dX9_simplify_48 rfl rfl (Nat.le_of_ble_eq_true rfl) (Nat.le_of_ble_eq_true rfl) ⟨hC1, Or.inr (Or.inr ⟨T, hg, hE, Or.inl ⟨z1, rfl, pv, ws, cy, η, ξ, μ, od, hj1⟩⟩)⟩
      · refine sj_ist3 (by decide) rfl dX9_simplify_41 ?_
        refine sj_ild3 dX9_simplify_42 ?_
        refine sj_if_ge 49 dX9_simplify_43 (by decide) (by omega) (fun c_43 => ?_) (fun c_43 => ?_)
        rotate_left
        · (exfalso; omega)
        refine sj_ald0 dX9_simplify_49 ?_
        refine sj_callV (cx9_beginChange hj1 (hR.keep hC1)) kc_X9_66 (by assumption) rfl rfl rfl rfl (Nat.le_of_ble_eq_true rfl) dX9_simplify_50 (fun r_50 σ_50 I_50 hp_50 => ?_)
        obtain ⟨rfl, ⟨η', od', hj'⟩, w2, w3, w4, w5, w6⟩ := hp_50
        obtain ⟨ρ', r0', ⟨_, r1', _, r3', _⟩, _⟩ := id hj'.1.1
        obtain ⟨τ', he', ht', hM'⟩ := id hj'.1.2.2.1
        have hS' := hj'.1.2.2.2.2.1
        have s0' := hS'.1
        have e0' := he'.1
        have e1' := he'.2.1
        refine sj_wfV (fun hwf => ?_)
        refine sj_ild3 dX9_simplify_53 ?_
        refine sj_if_le 73 dX9_simplify_54 (by decide) (by omega) (fun c_54 => ?_) (fun c_54 => ?_)
        · refine sj_ild3 dX9_simplify_73 ?_
          exact sj_iret dX9_simplify_74 rfl rfl (Nat.le_of_ble_eq_true rfl) (Nat.le_of_ble_eq_true rfl) (by first
            | exact ⟨((hC1.tr w4).tr hC2).tr y3, Or.inr (Or.inr ⟨T, hg, hE, Or.inr ⟨n, U, z1, rfl, y1⟩⟩)⟩
            | (have hn : n = 0 := by omega
               subst hn
               have hU := jSi_zero z1
               subst hU
               exact ⟨hC1.tr w4, Or.inr (Or.inr ⟨U, hg, hE, Or.inr ⟨0, U, z1, rfl, by rw [jSe_self hE]; exact ⟨pv, ws, cy, η', ξ, μ, od', hj'⟩⟩⟩)⟩))
        · refine sj_ald0 dX9_simplify_57 ?_
          refine sj_getR fl_X9_19 (by assumption) rfl r1' dX9_simplify_58 ?_
          refine sj_getR fl_X9_69 (by assumption) rfl (eR_1 _) dX9_simplify_61 ?_
          refine sj_ild1 dX9_simplify_64 ?_
          refine sj_ald0 dX9_simplify_65 ?_
          refine sj_getR fl_X9_33 (by assumption) rfl r3' dX9_simplify_66 ?_
          refine sj_callV (cx4_result hS' (show rwl I_50 (x + 8) U from ⟨by rw [w6 (x + 8) (by omega) (by omega)]; exact z3.1, z3.2.1, by rw [w6 (x + 8 + 1) (by omega) (by omega)]; exact z3.2.2⟩) z4) kc_X9_97 (by assumption) rfl rfl rfl rfl (Nat.le_of_ble_eq_true rfl) dX9_simplify_69 (fun r_69 σ_69 I_69 hp_69 => ?_)
          obtain ⟨rfl, k1, k2, k3⟩ := hp_69
          obtain ⟨hj2, hT2⟩ := hj'.grow hwf (fun q hq => ⟨(k2 q hq).1, fun _ => (k2 q hq).2⟩)
          have hR2 := (hR.keep hC1).keep w4
          have hC2 : rC σ_50 I_50 σ_69 I_69 x := fun q q1 q2 => k2 q (hR2.1.lt hwf q1 q2)
          obtain ⟨τ2, he2, ht2, hM2⟩ := id hj2.1.2.2.1
          have e12 := he2.2.1
          have k30 := k3.1.1
          have hpv : fr I_69 pv ws := fun v w ev ew => by
            rcases hj'.2.2.2.2.1 with q | ⟨v', w', q1, q2, q3⟩
            · rw [q] at ev; cases ev
            · rw [q1] at ev; cases ev
              rw [q2] at ew; cases ew
              have l0 := hwf _ _ q3.1.1
              have l1 := hwf _ _ q3.1.2
              rw [(k2 v l0).2, (k2 _ l1).2]
              exact w2 v w q1 q2
          obtain ⟨y1, y2, y3⟩ := hj2.putT (a := aa) hpv (by omega) he2 ht2 (some σ_50.1) (some U) (Or.inr ⟨_, _, rfl, rfl, k3⟩)
          refine sj_aast rfl e12 k30 (by omega) (by decide) dX9_simplify_72 ?_
          rw [Int.toNat_natCast]
          refine sj_ild3 dX9_simplify_73 ?_
          exact sj_iret dX9_simplify_74 rfl rfl (Nat.le_of_ble_eq_true rfl) (Nat.le_of_ble_eq_true rfl) (by first
            | exact ⟨((hC1.tr w4).tr hC2).tr y3, Or.inr (Or.inr ⟨T, hg, hE, Or.inr ⟨n, U, z1, rfl, y1⟩⟩)⟩
            | (have hn : n = 0 := by omega
               subst hn
               have hU := jSi_zero z1
               subst hU
               exact ⟨hC1.tr w4, Or.inr (Or.inr ⟨U, hg, hE, Or.inr ⟨0, U, z1, rfl, by rw [jSe_self hE]; exact ⟨pv, ws, cy, η', ξ, μ, od', hj'⟩⟩⟩)⟩))
  · refine sj_ild1 dX9_simplify_0 ?_
    refine sj_callS (cx9_isStream ha) kc_X9_58 rfl rfl (Nat.le_of_ble_eq_true rfl) dX9_simplify_1 (fun r_1 σ_1 I_1 hp_1 => ?_)
    obtain ⟨rfl, rfl, rfl⟩ := hp_1
    refine sj_if_ne 9 dX9_simplify_4 (by decide) (by omega) (fun c_4 => ?_) (fun c_4 => ?_)
    · (exfalso; omega)
    refine sj_iconst dX9_simplify_7 ?_
    exact sj_iret dX9_simplify_8 rfl rfl (Nat.le_of_ble_eq_true rfl) (Nat.le_of_ble_eq_true rfl) ⟨rC.rf σ I x, Or.inl ⟨hg, rfl, h⟩⟩
end JUDGE5
