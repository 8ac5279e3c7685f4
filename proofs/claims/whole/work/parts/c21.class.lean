/-! the reference's constructor, row by row -/
section ABS
variable {l : Launch} {Γ : sjC} {cc : ByteArray} {own nm : String} {nL : Nat} {ret : Option FieldType} {R : Room} {G : sjG} {post : sjP} {σ : sjS} {I : sjI} {k n pc : Nat} {L : List (Option Value)} {st : List Value}
/-- of the memory only this is known from here on -/
theorem sj_abs (P : sjS → sjI → Prop) (hP : P σ I) (kk : ∀ σ' I', P σ' I' → sj_V l Γ (cc, own, nL, ret, nm, R) G post σ' I' k n pc L st) : sj_V l Γ (cc, own, nL, ret, nm, R) G post σ I k n pc L st := kk σ I hP
end ABS
def nLen : List Nat := [2001, 16008, 4002, 80, 80, 500, 500, 3200, 3200, 130, 130, 130, 130, 130, 64, 130, 2048, 3200, 3200, 2001, 400]
def nSh (q : Nat) : sjSh := (if q = 18 then 12 else 10, nLen.getD (q - 1) 0, fun _ => none)
def nIn (o : Nat) (σ0 : sjS) (I0 : sjI) (k : Nat) (ρ : Nat → Option Nat) (σ : sjS) (I : sjI) : Prop := σ.1 = o + 1 + k ∧ (∀ q, q < o → σ.2 q = σ0.2 q ∧ I q = I0 q) ∧ σ.2 o = some (9, 0, ρ) ∧ (∀ j, I o j = 0) ∧ ∀ q, 1 ≤ q → q ≤ k → σ.2 (o + q) = some (nSh q) ∧ ∀ j, I (o + q) j = 0
theorem nIn.step {o : Nat} {σ0 σ : sjS} {I0 I : sjI} {k j : Nat} {ρ : Nat → Option Nat} {x : sjSh} (h : nIn o σ0 I0 k ρ σ I) (hx : nSh (k + 1) = x) : nIn o σ0 I0 (k + 1) (sj_ru ρ j (some (o + (k + 1)))) (sj_us (sj_nw σ x) o (9, 0, sj_ru ρ j (some σ.1))) (sj_ur I σ.1 (fun _ => 0)) := by
  obtain ⟨h1, h2, h3, h4, h5⟩ := h
  refine ⟨by show σ.1 + 1 = _; omega, fun q hq => ⟨by rw [sj_us_ne (by omega), sj_nw_ne (by omega)]; exact (h2 q hq).1, by rw [sj_ur_ne (by omega)]; exact (h2 q hq).2⟩, by rw [sj_us_self, h1, show o + 1 + k = o + (k + 1) by omega], fun i => by rw [sj_ur_ne (by omega)]; exact h4 i, fun q q1 q2 => ?_⟩
  by_cases e : q = k + 1
  · subst e
    refine ⟨?_, fun i => ?_⟩
    · rw [sj_us_ne (by omega), show o + (k + 1) = σ.1 by omega, sj_nw_self, hx]
    · rw [show o + (k + 1) = σ.1 by omega, sj_ur_self]
  · obtain ⟨a1, a2⟩ := h5 q q1 (by omega)
    exact ⟨by rw [sj_us_ne (by omega), sj_nw_ne (by omega)]; exact a1, fun i => by rw [sj_ur_ne (by omega)]; exact a2 i⟩
/-- the reference is new -/
def mNew (I : sjI) (o : Nat) : Prop := (∀ j, I o j = 0) ∧ ∀ q, 1 ≤ q → q ≤ 21 → ∀ j, I (o + q) j = if q = 1 ∧ j = 0 then 2 else 0
section REFINIT
variable {l : Launch} {G : sjG} {σ : sjS} {I : sjI}
theorem cm_init {o : Nat} (ho : σ.2 o = some (9, 0, fun _ => none)) (ho1 : σ.1 = o + 1) (h0 : ∀ j, I o j = 0) : sj_Con l yX10_init mX10_init G σ I [.ref o] (fun v σ' I' => v = none ∧ σ'.1 = o + 22 ∧ (∀ q, q < o → σ'.2 q = σ.2 q ∧ I' q = I q) ∧ mSh σ' o ∧ mNew I' o) := by
  have g0 : nIn o σ I 0 (fun _ => none) σ I := ⟨ho1, fun _ _ => ⟨rfl, rfl⟩, ho, h0, fun q q1 q2 => absurd q1 (by omega)⟩
  refine sj_con_of (L0 := [some (.ref o)]) (by decide) rfl rfl rfl (Nat.le_of_ble_eq_true rfl) rfl (fun Γ => ?_)
  refine sj_ald0 dX10_init_0 ?_
  refine sj_oinit km_X10_1 wo_init.1 wo_init.2 (by decide) (by decide) dX10_init_1 ?_
  refine sj_ald0 dX10_init_4 ?_
  refine sj_sipush dX10_init_5 (by decide) ?_
  refine sj_newI wd_102 dX10_init_8 (by decide) (Nat.le_of_ble_eq_true rfl) (Nat.le_of_ble_eq_true rfl) ?_
  refine sj_putRF fl_X10_7 (by rw [sj_nw_ne (by have := g0.1; omega)]; exact g0.2.2.1) rfl rfl rfl rfl (fun q h => by cases h; rfl) dX10_init_10 ?_
  refine sj_abs _ (g0.step rfl) (fun σ1 I1 g1 => ?_)
  refine sj_ald0 dX10_init_13 ?_
  refine sj_sipush dX10_init_14 (by decide) ?_
  refine sj_newI wd_102 dX10_init_17 (by decide) (Nat.le_of_ble_eq_true rfl) (Nat.le_of_ble_eq_true rfl) ?_
  refine sj_putRF fl_X10_13 (by rw [sj_nw_ne (by have := g1.1; omega)]; exact g1.2.2.1) rfl rfl rfl rfl (fun q h => by cases h; rfl) dX10_init_19 ?_
  refine sj_abs _ (g1.step rfl) (fun σ2 I2 g2 => ?_)
  refine sj_ald0 dX10_init_22 ?_
  refine sj_sipush dX10_init_23 (by decide) ?_
  refine sj_newI wd_102 dX10_init_26 (by decide) (Nat.le_of_ble_eq_true rfl) (Nat.le_of_ble_eq_true rfl) ?_
  refine sj_putRF fl_X10_16 (by rw [sj_nw_ne (by have := g2.1; omega)]; exact g2.2.2.1) rfl rfl rfl rfl (fun q h => by cases h; rfl) dX10_init_28 ?_
  refine sj_abs _ (g2.step rfl) (fun σ3 I3 g3 => ?_)
  refine sj_ald0 dX10_init_31 ?_
  refine sj_bipush dX10_init_32 (by decide) ?_
  refine sj_newI wd_102 dX10_init_34 (by decide) (Nat.le_of_ble_eq_true rfl) (Nat.le_of_ble_eq_true rfl) ?_
  refine sj_putRF fl_X10_19 (by rw [sj_nw_ne (by have := g3.1; omega)]; exact g3.2.2.1) rfl rfl rfl rfl (fun q h => by cases h; rfl) dX10_init_36 ?_
  refine sj_abs _ (g3.step rfl) (fun σ4 I4 g4 => ?_)
  refine sj_ald0 dX10_init_39 ?_
  refine sj_bipush dX10_init_40 (by decide) ?_
  refine sj_newI wd_102 dX10_init_42 (by decide) (Nat.le_of_ble_eq_true rfl) (Nat.le_of_ble_eq_true rfl) ?_
  refine sj_putRF fl_X10_22 (by rw [sj_nw_ne (by have := g4.1; omega)]; exact g4.2.2.1) rfl rfl rfl rfl (fun q h => by cases h; rfl) dX10_init_44 ?_
  refine sj_abs _ (g4.step rfl) (fun σ5 I5 g5 => ?_)
  refine sj_ald0 dX10_init_47 ?_
  refine sj_sipush dX10_init_48 (by decide) ?_
  refine sj_newI wd_102 dX10_init_51 (by decide) (Nat.le_of_ble_eq_true rfl) (Nat.le_of_ble_eq_true rfl) ?_
  refine sj_putRF fl_X10_25 (by rw [sj_nw_ne (by have := g5.1; omega)]; exact g5.2.2.1) rfl rfl rfl rfl (fun q h => by cases h; rfl) dX10_init_53 ?_
  refine sj_abs _ (g5.step rfl) (fun σ6 I6 g6 => ?_)
  refine sj_ald0 dX10_init_56 ?_
  refine sj_sipush dX10_init_57 (by decide) ?_
  refine sj_newI wd_102 dX10_init_60 (by decide) (Nat.le_of_ble_eq_true rfl) (Nat.le_of_ble_eq_true rfl) ?_
  refine sj_putRF fl_X10_28 (by rw [sj_nw_ne (by have := g6.1; omega)]; exact g6.2.2.1) rfl rfl rfl rfl (fun q h => by cases h; rfl) dX10_init_62 ?_
  refine sj_abs _ (g6.step rfl) (fun σ7 I7 g7 => ?_)
  refine sj_ald0 dX10_init_65 ?_
  refine sj_sipush dX10_init_66 (by decide) ?_
  refine sj_newI wd_102 dX10_init_69 (by decide) (Nat.le_of_ble_eq_true rfl) (Nat.le_of_ble_eq_true rfl) ?_
  refine sj_putRF fl_X10_31 (by rw [sj_nw_ne (by have := g7.1; omega)]; exact g7.2.2.1) rfl rfl rfl rfl (fun q h => by cases h; rfl) dX10_init_71 ?_
  refine sj_abs _ (g7.step rfl) (fun σ8 I8 g8 => ?_)
  refine sj_ald0 dX10_init_74 ?_
  refine sj_sipush dX10_init_75 (by decide) ?_
  refine sj_newI wd_102 dX10_init_78 (by decide) (Nat.le_of_ble_eq_true rfl) (Nat.le_of_ble_eq_true rfl) ?_
  refine sj_putRF fl_X10_34 (by rw [sj_nw_ne (by have := g8.1; omega)]; exact g8.2.2.1) rfl rfl rfl rfl (fun q h => by cases h; rfl) dX10_init_80 ?_
  refine sj_abs _ (g8.step rfl) (fun σ9 I9 g9 => ?_)
  refine sj_ald0 dX10_init_83 ?_
  refine sj_sipush dX10_init_84 (by decide) ?_
  refine sj_newI wd_102 dX10_init_87 (by decide) (Nat.le_of_ble_eq_true rfl) (Nat.le_of_ble_eq_true rfl) ?_
  refine sj_putRF fl_X10_37 (by rw [sj_nw_ne (by have := g9.1; omega)]; exact g9.2.2.1) rfl rfl rfl rfl (fun q h => by cases h; rfl) dX10_init_89 ?_
  refine sj_abs _ (g9.step rfl) (fun σ10 I10 g10 => ?_)
  refine sj_ald0 dX10_init_92 ?_
  refine sj_sipush dX10_init_93 (by decide) ?_
  refine sj_newI wd_102 dX10_init_96 (by decide) (Nat.le_of_ble_eq_true rfl) (Nat.le_of_ble_eq_true rfl) ?_
  refine sj_putRF fl_X10_40 (by rw [sj_nw_ne (by have := g10.1; omega)]; exact g10.2.2.1) rfl rfl rfl rfl (fun q h => by cases h; rfl) dX10_init_98 ?_
  refine sj_abs _ (g10.step rfl) (fun σ11 I11 g11 => ?_)
  refine sj_ald0 dX10_init_101 ?_
  refine sj_sipush dX10_init_102 (by decide) ?_
  refine sj_newI wd_102 dX10_init_105 (by decide) (Nat.le_of_ble_eq_true rfl) (Nat.le_of_ble_eq_true rfl) ?_
  refine sj_putRF fl_X10_43 (by rw [sj_nw_ne (by have := g11.1; omega)]; exact g11.2.2.1) rfl rfl rfl rfl (fun q h => by cases h; rfl) dX10_init_107 ?_
  refine sj_abs _ (g11.step rfl) (fun σ12 I12 g12 => ?_)
  refine sj_ald0 dX10_init_110 ?_
  refine sj_sipush dX10_init_111 (by decide) ?_
  refine sj_newI wd_102 dX10_init_114 (by decide) (Nat.le_of_ble_eq_true rfl) (Nat.le_of_ble_eq_true rfl) ?_
  refine sj_putRF fl_X10_46 (by rw [sj_nw_ne (by have := g12.1; omega)]; exact g12.2.2.1) rfl rfl rfl rfl (fun q h => by cases h; rfl) dX10_init_116 ?_
  refine sj_abs _ (g12.step rfl) (fun σ13 I13 g13 => ?_)
  refine sj_ald0 dX10_init_119 ?_
  refine sj_sipush dX10_init_120 (by decide) ?_
  refine sj_newI wd_102 dX10_init_123 (by decide) (Nat.le_of_ble_eq_true rfl) (Nat.le_of_ble_eq_true rfl) ?_
  refine sj_putRF fl_X10_49 (by rw [sj_nw_ne (by have := g13.1; omega)]; exact g13.2.2.1) rfl rfl rfl rfl (fun q h => by cases h; rfl) dX10_init_125 ?_
  refine sj_abs _ (g13.step rfl) (fun σ14 I14 g14 => ?_)
  refine sj_ald0 dX10_init_128 ?_
  refine sj_bipush dX10_init_129 (by decide) ?_
  refine sj_newI wd_102 dX10_init_131 (by decide) (Nat.le_of_ble_eq_true rfl) (Nat.le_of_ble_eq_true rfl) ?_
  refine sj_putRF fl_X10_52 (by rw [sj_nw_ne (by have := g14.1; omega)]; exact g14.2.2.1) rfl rfl rfl rfl (fun q h => by cases h; rfl) dX10_init_133 ?_
  refine sj_abs _ (g14.step rfl) (fun σ15 I15 g15 => ?_)
  refine sj_ald0 dX10_init_136 ?_
  refine sj_sipush dX10_init_137 (by decide) ?_
  refine sj_newI wd_102 dX10_init_140 (by decide) (Nat.le_of_ble_eq_true rfl) (Nat.le_of_ble_eq_true rfl) ?_
  refine sj_putRF fl_X10_55 (by rw [sj_nw_ne (by have := g15.1; omega)]; exact g15.2.2.1) rfl rfl rfl rfl (fun q h => by cases h; rfl) dX10_init_142 ?_
  refine sj_abs _ (g15.step rfl) (fun σ16 I16 g16 => ?_)
  refine sj_ald0 dX10_init_145 ?_
  refine sj_sipush dX10_init_146 (by decide) ?_
  refine sj_newI wd_102 dX10_init_149 (by decide) (Nat.le_of_ble_eq_true rfl) (Nat.le_of_ble_eq_true rfl) ?_
  refine sj_putRF fl_X10_58 (by rw [sj_nw_ne (by have := g16.1; omega)]; exact g16.2.2.1) rfl rfl rfl rfl (fun q h => by cases h; rfl) dX10_init_151 ?_
  refine sj_abs _ (g16.step rfl) (fun σ17 I17 g17 => ?_)
  refine sj_ald0 dX10_init_154 ?_
  refine sj_sipush dX10_init_155 (by decide) ?_
  refine sj_newZ wd_834 dX10_init_158 (by decide) (Nat.le_of_ble_eq_true rfl) (Nat.le_of_ble_eq_true rfl) ?_
  refine sj_putRF fl_X10_61 (by rw [sj_nw_ne (by have := g17.1; omega)]; exact g17.2.2.1) rfl rfl rfl rfl (fun q h => by cases h; rfl) dX10_init_160 ?_
  refine sj_abs _ (g17.step rfl) (fun σ18 I18 g18 => ?_)
  refine sj_ald0 dX10_init_163 ?_
  refine sj_sipush dX10_init_164 (by decide) ?_
  refine sj_newI wd_102 dX10_init_167 (by decide) (Nat.le_of_ble_eq_true rfl) (Nat.le_of_ble_eq_true rfl) ?_
  refine sj_putRF fl_X10_65 (by rw [sj_nw_ne (by have := g18.1; omega)]; exact g18.2.2.1) rfl rfl rfl rfl (fun q h => by cases h; rfl) dX10_init_169 ?_
  refine sj_abs _ (g18.step rfl) (fun σ19 I19 g19 => ?_)
  refine sj_ald0 dX10_init_172 ?_
  refine sj_sipush dX10_init_173 (by decide) ?_
  refine sj_newI wd_102 dX10_init_176 (by decide) (Nat.le_of_ble_eq_true rfl) (Nat.le_of_ble_eq_true rfl) ?_
  refine sj_putRF fl_X10_68 (by rw [sj_nw_ne (by have := g19.1; omega)]; exact g19.2.2.1) rfl rfl rfl rfl (fun q h => by cases h; rfl) dX10_init_178 ?_
  refine sj_abs _ (g19.step rfl) (fun σ20 I20 g20 => ?_)
  refine sj_ald0 dX10_init_181 ?_
  refine sj_sipush dX10_init_182 (by decide) ?_
  refine sj_newI wd_102 dX10_init_185 (by decide) (Nat.le_of_ble_eq_true rfl) (Nat.le_of_ble_eq_true rfl) ?_
  refine sj_putRF fl_X10_71 (by rw [sj_nw_ne (by have := g20.1; omega)]; exact g20.2.2.1) rfl rfl rfl rfl (fun q h => by cases h; rfl) dX10_init_187 ?_
  refine sj_abs _ (g20.step rfl) (fun σ21 I21 g21 => ?_)
  refine sj_ald0 dX10_init_190 ?_
  refine sj_getR fl_X10_7 g21.2.2.1 rfl rfl dX10_init_191 ?_
  refine sj_iconst dX10_init_194 ?_
  refine sj_iconst dX10_init_195 ?_
  refine sj_iastJ (n0 := 2001) (ρ := fun _ => none) 0 (g21.2.2.2.2 1 (by omega) (by omega)).1 (by omega) (by omega) (by omega) dX10_init_196 ?_
  exact sj_vret dX10_init_197 rfl (Nat.le_of_ble_eq_true rfl) (Nat.le_of_ble_eq_true rfl) ⟨rfl, by rw [g21.1], fun q hq => ⟨(g21.2.1 q hq).1, by rw [sj_up_row (by omega)]; exact (g21.2.1 q hq).2⟩, ⟨g21.2.2.1, (g21.2.2.2.2 1 (by omega) (by omega)).1, (g21.2.2.2.2 2 (by omega) (by omega)).1, (g21.2.2.2.2 3 (by omega) (by omega)).1, (g21.2.2.2.2 4 (by omega) (by omega)).1, (g21.2.2.2.2 5 (by omega) (by omega)).1, (g21.2.2.2.2 6 (by omega) (by omega)).1, (g21.2.2.2.2 7 (by omega) (by omega)).1, (g21.2.2.2.2 8 (by omega) (by omega)).1, (g21.2.2.2.2 9 (by omega) (by omega)).1, (g21.2.2.2.2 10 (by omega) (by omega)).1, (g21.2.2.2.2 11 (by omega) (by omega)).1, (g21.2.2.2.2 12 (by omega) (by omega)).1, (g21.2.2.2.2 13 (by omega) (by omega)).1, (g21.2.2.2.2 14 (by omega) (by omega)).1, (g21.2.2.2.2 15 (by omega) (by omega)).1, (g21.2.2.2.2 16 (by omega) (by omega)).1, (g21.2.2.2.2 17 (by omega) (by omega)).1, (g21.2.2.2.2 18 (by omega) (by omega)).1, (g21.2.2.2.2 19 (by omega) (by omega)).1, (g21.2.2.2.2 20 (by omega) (by omega)).1, (g21.2.2.2.2 21 (by omega) (by omega)).1⟩, ⟨fun j => by rw [sj_up_ne (by omega)]; exact g21.2.2.2.1 j, fun q q1 q2 j => by
    by_cases e : q = 1 ∧ j = 0
    · rw [if_pos e, e.1, e.2, sj_up_self]
    · rw [if_neg e, sj_up_ne (by omega)]; exact (g21.2.2.2.2 q q1 q2).2 j⟩⟩
end REFINIT
