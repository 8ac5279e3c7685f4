/-- what needs leaves -/
def mNe (o : Nat) (I J : sjI) : Prop := (∀ a, a ≠ o → ¬ (o + 8 ≤ a ∧ a ≤ o + 14) → a ≠ o + 18 → a ≠ o + 19 → J a = I a) ∧ ∀ j, j ≠ 15 → j ≠ 21 → j ≠ 22 → j ≠ 23 → J o j = I o j
theorem mLy.ne {o : Nat} {I J : sjI} (h : mLy o I J) : mNe o I J := ⟨fun a e1 e2 _ _ => h.1 a e1 e2, h.2⟩
theorem mLy.ga {o : Nat} {I J K : sjI} (h : mLy o I J) (g : mGa o J K) : mNe o I K := ⟨fun a e1 e2 e3 e4 => by rw [g.1 a e1 (by omega) e3 e4]; exact h.1 a e1 e2, fun j e1 e2 e3 e4 => by rw [g.2 j e2 e3 e4]; exact h.2 j e1 e2 e3 e4⟩
theorem mLd.of_rows {o : Nat} {M : Int} {E : Nat → Option (List Int)} {J K : sjI} (h : mLd o M E J) (h8 : K (o + 8) = J (o + 8)) (h9 : K (o + 9) = J (o + 9)) : mLd o M E K := by
  unfold mLd
  rw [h8, h9]
  exact h
/-- what needs tells of a cell, for what from 0 to 3 -/
def jNe (E : Nat → Option (List Int)) (v r : Nat → Int) (k : Nat) (what : Int) : Int :=
  if v k = -9 then -9 else if what = 1 then r k else if what = 0 then ((jQu E 3200 [k] 0).length - 1 : Nat)
  else if what = 2 then jHi (fun j => ((jQu E 3200 [k] 0).getD j 0 : Nat)) ((jQu E 3200 [k] 0).length - 1)
  else (jPc (jSs (fun j => ((jQu E 3200 [k] 0).getD j 0 : Nat)) ((jQu E 3200 [k] 0).length - 1)) : Nat)
section MODEL29
variable {l : Launch} {G : sjG} {σ : sjS} {I : sjI}
theorem cm_needs {o : Nat} {M a i w : Int} {E : Nat → Option (List Int)} (hS : mSh σ o) (hW : mW (I (o + 1))) (hE : mEq (I (o + 1)) E) (hM : I (o + 1) 0 = M) (hM2 : 2 ≤ M ∧ M ≤ 10) (h15 : I o 15 = 0 ∨ (I o 15 = 1 ∧ mLd o M E I)) (ha : -2147483648 ≤ a ∧ a < 2147483648) (hi : -2147483648 ≤ i ∧ i < 2147483648) (hw : -2147483648 ≤ w ∧ w < 2147483648) : sj_Con l yX10_needs mX10_needs G σ I [.ref o, .int (zI a), .int (zI i), .int (zI w)] (fun r σ' I' => σ = σ' ∧ ((¬ ((0 ≤ a ∧ a ≤ 7) ∧ (0 ≤ i ∧ i ≤ 399) ∧ (0 ≤ w ∧ w ≤ 3)) ∧ r = some (.int (zI (-1))) ∧ I = I') ∨ (((0 ≤ a ∧ a ≤ 7) ∧ (0 ≤ i ∧ i ≤ 399) ∧ (0 ≤ w ∧ w ≤ 3)) ∧ r = some (.int (zI (jNe E (I' (o + 8)) (I' (o + 9)) (400 * a.toNat + i.toNat) w))) ∧ mNe o I I' ∧ I' o 15 = 1 ∧ mLd o M E I'))) := by
  obtain ⟨h_o, h_w, h_past, h_images, h_text, h_read, h_made, h_old, h_values, h_ranks, h_operator, h_indexAt, h_second, h_first, h_needed, h_shifts, h_around, h_best, h_isNeeded, h_toSee, h_held, h_there⟩ := id hS
  refine sj_con_of (L0 := [some (.ref o), some (.int (zI a)), some (.int (zI i)), some (.int (zI w)), none]) (by decide) rfl rfl rfl (Nat.le_of_ble_eq_true rfl) rfl (fun Γ => ?_)
  have b1 := jbs (0 ≤ a ∧ a ≤ 7)
  have b2 := jbs (0 ≤ i ∧ i ≤ 399)
  have b3 := jbs (0 ≤ w ∧ w ≤ 3)
  refine sj_ild1 dX10_needs_0 ?_
  refine sj_callS (cm_isStream ha) kc_X10_109 rfl rfl (Nat.le_of_ble_eq_true rfl) dX10_needs_1 (fun r_1 σ_1 I_1 hp_1 => ?_)
  obtain ⟨rfl, rfl, rfl⟩ := hp_1
  refine sj_if_eq 27 dX10_needs_4 (by decide) (by omega) (fun c_4 => ?_) (fun c_4 => ?_)
  · refine sj_iconst dX10_needs_27 ?_
    exact sj_iret dX10_needs_28 rfl rfl (Nat.le_of_ble_eq_true rfl) (Nat.le_of_ble_eq_true rfl) ⟨rfl, Or.inl ⟨by omega, rfl, rfl⟩⟩
  · refine sj_ild2 dX10_needs_7 ?_
    refine sj_iconst dX10_needs_8 ?_
    refine sj_sipush dX10_needs_9 (by decide) ?_
    refine sj_callS (cm_isIn hi (by omega) (by omega)) kc_X10_74 rfl rfl (Nat.le_of_ble_eq_true rfl) dX10_needs_12 (fun r_12 σ_12 I_12 hp_12 => ?_)
    obtain ⟨rfl, rfl, rfl⟩ := hp_12
    refine sj_if_eq 27 dX10_needs_15 (by decide) (by omega) (fun c_15 => ?_) (fun c_15 => ?_)
    · refine sj_iconst dX10_needs_27 ?_
      exact sj_iret dX10_needs_28 rfl rfl (Nat.le_of_ble_eq_true rfl) (Nat.le_of_ble_eq_true rfl) ⟨rfl, Or.inl ⟨by omega, rfl, rfl⟩⟩
    · refine sj_ild3 dX10_needs_18 ?_
      refine sj_iconst dX10_needs_19 ?_
      refine sj_iconst dX10_needs_20 ?_
      refine sj_callS (cm_isIn hw (by omega) (by omega)) kc_X10_74 rfl rfl (Nat.le_of_ble_eq_true rfl) dX10_needs_21 (fun r_21 σ_21 I_21 hp_21 => ?_)
      obtain ⟨rfl, rfl, rfl⟩ := hp_21
      refine sj_if_ne 29 dX10_needs_24 (by decide) (by omega) (fun c_24 => ?_) (fun c_24 => ?_)
      · obtain ⟨aa, rfl⟩ := jNat (a := a) (by omega)
        obtain ⟨ii, rfl⟩ := jNat (a := i) (by omega)
        refine sj_ald0 dX10_needs_29 ?_
        refine sj_callV (cm_layValues hS hW hE hM hM2 h15) kc_X10_193 (by assumption) rfl rfl rfl rfl (Nat.le_of_ble_eq_true rfl) dX10_needs_30 (fun r_30 σ_30 I_30 hp_30 => ?_)
        obtain ⟨rfl, rfl, j1, j2, j3⟩ := hp_30
        have hw1 : I_30 (o + 1) = I (o + 1) := j1.1 (o + 1) (by omega) (by omega)
        have hv0 := j3.1 (400 * aa + ii) (by omega)
        refine sj_ald0 dX10_needs_33 ?_
        refine sj_ild1 dX10_needs_34 ?_
        refine sj_ild2 dX10_needs_35 ?_
        refine sj_callV (cm_at hS (by omega) (by omega)) kc_X10_190 (by assumption) rfl rfl rfl rfl (Nat.le_of_ble_eq_true rfl) dX10_needs_36 (fun r_36 σ_36 I_36 hp_36 => ?_)
        obtain ⟨rfl, rfl, rfl⟩ := hp_36
        refine sj_bipush dX10_needs_39 (by decide) ?_
        refine sj_icmp_ne 47 dX10_needs_41 (by decide) (by omega) (by omega) (fun c_41 => ?_) (fun c_41 => ?_)
        · refine sj_ild3 dX10_needs_47 ?_
          refine sj_iconst dX10_needs_48 ?_
          refine sj_icmp_ne 65 dX10_needs_49 (by decide) (by omega) (by omega) (fun c_49 => ?_) (fun c_49 => ?_)
          · refine sj_ald0 dX10_needs_65 ?_
            refine sj_sipush dX10_needs_66 (by decide) ?_
            refine sj_ild1 dX10_needs_69 ?_
            refine sj_imul dX10_needs_70 ?_
            refine sj_ild2 dX10_needs_71 ?_
            refine sj_iadd dX10_needs_72 ?_
            refine sj_callV (cm_gather (k := 400 * aa + ii) (M := M) (E := E) hS (by rw [hw1]; exact hW) (by rw [hw1]; exact hE) (by rw [hw1]; exact hM) hM2 j3 (by omega) (by assumption)) kc_X10_238 (by assumption) rfl rfl rfl rfl (Nat.le_of_ble_eq_true rfl) dX10_needs_73 (fun r_73 σ_73 I_73 hp_73 => ?_)
            obtain ⟨Q, hQ, hQ1, hQ2, hQ3, rfl, rfl, hga, hQr⟩ := hp_73
            have h8 : I_73 (o + 8) = I_30 (o + 8) := hga.1 (o + 8) (by omega) (by omega) (by omega) (by omega)
            have h9 : I_73 (o + 9) = I_30 (o + 9) := hga.1 (o + 9) (by omega) (by omega) (by omega) (by omega)
            have hrow : ∀ j, j ≤ Q.length - 1 → I_73 (o + 19) j = (fun j => (Q.getD j 0 : Nat) : Nat → Int) j := fun j hj => hQr j (by omega)
            have hrng : ∀ j, j ≤ Q.length - 1 → 0 ≤ I_73 (o + 19) j ∧ I_73 (o + 19) j < 3200 := fun j hj => by
              have h32 := hQ3 (Q.getD j 0) (by rw [show Q.getD j 0 = Q[j]'(by omega) by simp [List.getD, show j < Q.length by omega]]; exact List.getElem_mem _)
              rw [hQr j (by omega)]; omega
            have key : ∀ x : Int, x = jNe E (I_30 (o + 8)) (I_30 (o + 9)) (400 * aa + ii) w → some (Value.int (zI x)) = some (.int (zI (jNe E (I_73 (o + 8)) (I_73 (o + 9)) (400 * aa + ii) w))) := fun x hx => by rw [h8, h9, hx]
            refine sj_ist4 (by decide) rfl dX10_needs_76 ?_
            refine sj_ild3 dX10_needs_78 ?_
            refine sj_if_ne 87 dX10_needs_79 (by decide) (by omega) (fun c_79 => ?_) (fun c_79 => ?_)
            · refine sj_ild3 dX10_needs_87 ?_
              refine sj_iconst dX10_needs_88 ?_
              refine sj_icmp_ne 101 dX10_needs_89 (by decide) (by omega) (by omega) (fun c_89 => ?_) (fun c_89 => ?_)
              · refine sj_ald0 dX10_needs_101 ?_
                refine sj_ild4 dX10_needs_102 ?_
                refine sj_callV (cm_streamsNeeded (n := Q.length - 1) hS (by omega) hrng) kc_X10_244 (by assumption) rfl rfl rfl rfl (Nat.le_of_ble_eq_true rfl) dX10_needs_104 (fun r_104 σ_104 I_104 hp_104 => ?_)
                obtain ⟨rfl, rfl, rfl⟩ := hp_104
                exact sj_iret dX10_needs_107 rfl rfl (Nat.le_of_ble_eq_true rfl) (Nat.le_of_ble_eq_true rfl) ⟨rfl, Or.inr ⟨by omega, key _ (by first
                   | (rw [jNe, if_neg (by assumption), if_neg (show ¬ w = 1 by omega), if_pos (show w = 0 by omega), ← hQ]; done)
                   | (rw [jNe, if_neg (by assumption), if_neg (show ¬ w = 1 by omega), if_neg (show ¬ w = 0 by omega), if_pos (show w = 2 by omega), ← hQ]; exact jHi_congr _ hrow)
                   | (rw [jNe, if_neg (by assumption), if_neg (show ¬ w = 1 by omega), if_neg (show ¬ w = 0 by omega), if_neg (show ¬ w = 2 by omega), ← hQ, jSs_congr _ hrow])), j1.ga hga, by rw [hga.2 15 (by decide) (by decide) (by decide)]; exact j2, j3.of_rows h8 h9⟩⟩
              · refine sj_ald0 dX10_needs_92 ?_
                refine sj_ild4 dX10_needs_93 ?_
                refine sj_callV (cm_highestNeeded (n := Q.length - 1) hS (by omega) hrng) kc_X10_241 (by assumption) rfl rfl rfl rfl (Nat.le_of_ble_eq_true rfl) dX10_needs_95 (fun r_95 σ_95 I_95 hp_95 => ?_)
                obtain ⟨rfl, rfl, rfl⟩ := hp_95
                refine sj_goto 107 dX10_needs_98 (by decide) ?_
                exact sj_iret dX10_needs_107 rfl rfl (Nat.le_of_ble_eq_true rfl) (Nat.le_of_ble_eq_true rfl) ⟨rfl, Or.inr ⟨by omega, key _ (by first
                   | (rw [jNe, if_neg (by assumption), if_neg (show ¬ w = 1 by omega), if_pos (show w = 0 by omega), ← hQ]; done)
                   | (rw [jNe, if_neg (by assumption), if_neg (show ¬ w = 1 by omega), if_neg (show ¬ w = 0 by omega), if_pos (show w = 2 by omega), ← hQ]; exact jHi_congr _ hrow)
                   | (rw [jNe, if_neg (by assumption), if_neg (show ¬ w = 1 by omega), if_neg (show ¬ w = 0 by omega), if_neg (show ¬ w = 2 by omega), ← hQ, jSs_congr _ hrow])), j1.ga hga, by rw [hga.2 15 (by decide) (by decide) (by decide)]; exact j2, j3.of_rows h8 h9⟩⟩
            · refine sj_ild4 dX10_needs_82 ?_
              refine sj_goto 107 dX10_needs_84 (by decide) ?_
              exact sj_iret dX10_needs_107 rfl rfl (Nat.le_of_ble_eq_true rfl) (Nat.le_of_ble_eq_true rfl) ⟨rfl, Or.inr ⟨by omega, key _ (by first
                 | (rw [jNe, if_neg (by assumption), if_neg (show ¬ w = 1 by omega), if_pos (show w = 0 by omega), ← hQ]; done)
                 | (rw [jNe, if_neg (by assumption), if_neg (show ¬ w = 1 by omega), if_neg (show ¬ w = 0 by omega), if_pos (show w = 2 by omega), ← hQ]; exact jHi_congr _ hrow)
                 | (rw [jNe, if_neg (by assumption), if_neg (show ¬ w = 1 by omega), if_neg (show ¬ w = 0 by omega), if_neg (show ¬ w = 2 by omega), ← hQ, jSs_congr _ hrow])), j1.ga hga, by rw [hga.2 15 (by decide) (by decide) (by decide)]; exact j2, j3.of_rows h8 h9⟩⟩
          · refine sj_ald0 dX10_needs_52 ?_
            refine sj_getR fl_X10_34 (by assumption) rfl (mr_14 _) dX10_needs_53 ?_
            refine sj_sipush dX10_needs_56 (by decide) ?_
            refine sj_ild1 dX10_needs_59 ?_
            refine sj_imul dX10_needs_60 ?_
            refine sj_ild2 dX10_needs_61 ?_
            refine sj_iadd dX10_needs_62 ?_
            refine sj_ialdJ ((400 * aa + ii)) (by assumption) (by omega) (by omega) (by omega) dX10_needs_63 ?_
            exact sj_iret dX10_needs_64 rfl rfl (Nat.le_of_ble_eq_true rfl) (Nat.le_of_ble_eq_true rfl) ⟨rfl, Or.inr ⟨by omega, by rw [jNe, if_neg (show ¬ I_30 (o + 8) (400 * (aa : Int).toNat + (ii : Int).toNat) = -9 by assumption), if_pos (by omega)]; rfl, j1.ne, j2, j3⟩⟩
        · refine sj_bipush dX10_needs_44 (by decide) ?_
          exact sj_iret dX10_needs_46 rfl rfl (Nat.le_of_ble_eq_true rfl) (Nat.le_of_ble_eq_true rfl) ⟨rfl, Or.inr ⟨by omega, by show _ = some (Value.int (zI (jNe E (I_30 (o + 8)) (I_30 (o + 9)) (400 * aa + ii) w))); rw [jNe, if_pos (show I_30 (o + 8) (400 * aa + ii) = -9 by omega)], j1.ne, j2, j3⟩⟩
      · refine sj_iconst dX10_needs_27 ?_
        exact sj_iret dX10_needs_28 rfl rfl (Nat.le_of_ble_eq_true rfl) (Nat.le_of_ble_eq_true rfl) ⟨rfl, Or.inl ⟨by omega, rfl, rfl⟩⟩
end MODEL29
