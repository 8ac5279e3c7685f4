/-! values of a term, place by place -/
theorem jV_dig {M : Int} {v : Nat → Int} {c : Int} {L : List Int} {i : Nat} (h : 48 ≤ c ∧ c ≤ 57) : jV M v (c :: L) i = (c - 48) % M := by rw [jV_cons, if_neg (show ¬ (65 ≤ c ∧ c ≤ 72) by omega), if_pos h]
theorem jV_let {M : Int} {v : Nat → Int} {c : Int} {L : List Int} {i : Nat} (h : 65 ≤ c ∧ c ≤ 72) : jV M v (c :: L) i = v (400 * (c - 65).toNat + i) := by rw [jV_cons, if_pos h]
theorem jV_f {M : Int} {v : Nat → Int} {c : Int} {L : List Int} {i : Nat} (h : 128 ≤ c) : jV M v (c :: L) i = if i = 0 then (c - 128) % M else jV M v L (i - 1) := by rw [jV_cons, if_neg (show ¬ (65 ≤ c ∧ c ≤ 72) by omega), if_neg (show ¬ (48 ≤ c ∧ c ≤ 57) by omega), if_pos h]
theorem jV_t {M : Int} {v : Nat → Int} {L : List Int} {i : Nat} : jV M v (116 :: L) i = jV M v L (i + 1) := by rw [jV_cons]; rfl
theorem jV_e {M : Int} {v : Nat → Int} {L : List Int} {i : Nat} : jV M v (101 :: L) i = jV M v L (2 * i) := by rw [jV_cons]; rfl
theorem jV_o {M : Int} {v : Nat → Int} {L : List Int} {i : Nat} : jV M v (111 :: L) i = jV M v L (2 * i + 1) := by rw [jV_cons]; rfl
theorem jV_z {M : Int} {v : Nat → Int} {L : List Int} {i : Nat} : jV M v (122 :: L) i = if i % 2 = 0 then jV M v L (i / 2) else jV M v (jDr 1 L) (i / 2) := by rw [jV_cons]; rfl
theorem jV_p {M : Int} {v : Nat → Int} {L : List Int} {i : Nat} : jV M v (43 :: L) i = (jV M v L i + jV M v (jDr 1 L) i) % M := by rw [jV_cons]; rfl
theorem jV_m {M : Int} {v : Nat → Int} {L : List Int} {i : Nat} : jV M v (42 :: L) i = (jV M v L i * jV M v (jDr 1 L) i) % M := by rw [jV_cons]; rfl
/-- a result of the row is there -/
def rsl (I : sjI) (w : Nat) (M : Int) (v : Nat → Int) (T : List Int) (q : Nat) (x : Int) : Prop := x ≠ -1 → I (w + 2) q = jV M v (T.drop q) x.toNat ∧ 0 ≤ I (w + 2) q ∧ I (w + 2) q < M
theorem mul_small {a b M : Int} (ha : 0 ≤ a ∧ a < M) (hb : 0 ≤ b ∧ b < M) (hM : 2 ≤ M ∧ M ≤ 10) : 0 ≤ a * b ∧ a * b ≤ 81 := by
  have h1 : 0 ≤ a * b := Int.mul_nonneg ha.1 hb.1
  have h2 : a * b ≤ 9 * 9 := Int.mul_le_mul (by omega) (by omega) hb.1 (by omega)
  omega
/-! counting bits -/
def bcA (a : Int) : Int := a - (zI ((zI a).toUInt32 >>> ((zI 1).toUInt32 &&& Int32.toUInt32 31)).toInt32.toInt &&& zI 1431655765).toInt
def bcB (a : Int) : Int := (zI a &&& zI 858993459).toInt + (zI ((zI a).toUInt32 >>> ((zI 2).toUInt32 &&& Int32.toUInt32 31)).toInt32.toInt &&& zI 858993459).toInt
def bcC (a : Int) : Int := (zI (a + ((zI a).toUInt32 >>> ((zI 4).toUInt32 &&& Int32.toUInt32 31)).toInt32.toInt) &&& zI 252645135).toInt
def bcD (a : Int) : Int := a + ((zI a).toUInt32 >>> ((zI 8).toUInt32 &&& Int32.toUInt32 31)).toInt32.toInt
def bcE (a : Int) : Int := a + ((zI a).toUInt32 >>> ((zI 16).toUInt32 &&& Int32.toUInt32 31)).toInt32.toInt
theorem bc_all : ∀ a : Nat, a < 1024 → zI (zI (bcE (bcD (bcC (bcB (bcA (a : Int)))))) &&& zI 63).toInt = zI ((jPc a : Nat) : Int) := by decide +kernel
section WORK2
variable {l : Launch} {G : sjG} {σ : sjS} {I : sjI}
theorem cJ_bitCount {a : Nat} (ha : a < 1024) : sj_Con l yJ6_bitCount_0f7a4 mJ6_bitCount_0f7a4 G σ I [.int (zI (a : Int))] (fun v σ' I' => v = some (.int (zI (jPc a : Nat))) ∧ σ = σ' ∧ I = I') := by
  refine sj_con_of (L0 := [some (.int (zI (a : Int)))]) (by decide) rfl rfl rfl (Nat.le_of_ble_eq_true rfl) rfl (fun Γ => ?_)
  refine sj_ild0 dJ6_bitCount_0f7a4_0 ?_
  refine sj_ild0 dJ6_bitCount_0f7a4_1 ?_
  refine sj_iconst dJ6_bitCount_0f7a4_2 ?_
  refine sj_iushr dJ6_bitCount_0f7a4_3 (zI_of _).symm ?_
  refine sj_ldcw kd_J6_265 dJ6_bitCount_0f7a4_4 ?_
  refine sj_iand dJ6_bitCount_0f7a4_7 (zI_of _).symm ?_
  refine sj_isub dJ6_bitCount_0f7a4_8 ?_
  refine sj_top (u := .int (zI (bcA a))) rfl ?_
  refine sj_ist0 (by decide) dJ6_bitCount_0f7a4_9 ?_
  refine sj_ild0 dJ6_bitCount_0f7a4_10 ?_
  refine sj_ldcw kd_J6_266 dJ6_bitCount_0f7a4_11 ?_
  refine sj_iand dJ6_bitCount_0f7a4_14 (zI_of _).symm ?_
  refine sj_ild0 dJ6_bitCount_0f7a4_15 ?_
  refine sj_iconst dJ6_bitCount_0f7a4_16 ?_
  refine sj_iushr dJ6_bitCount_0f7a4_17 (zI_of _).symm ?_
  refine sj_ldcw kd_J6_266 dJ6_bitCount_0f7a4_18 ?_
  refine sj_iand dJ6_bitCount_0f7a4_21 (zI_of _).symm ?_
  refine sj_iadd dJ6_bitCount_0f7a4_22 ?_
  refine sj_top (u := .int (zI (bcB (bcA a)))) rfl ?_
  refine sj_ist0 (by decide) dJ6_bitCount_0f7a4_23 ?_
  refine sj_ild0 dJ6_bitCount_0f7a4_24 ?_
  refine sj_ild0 dJ6_bitCount_0f7a4_25 ?_
  refine sj_iconst dJ6_bitCount_0f7a4_26 ?_
  refine sj_iushr dJ6_bitCount_0f7a4_27 (zI_of _).symm ?_
  refine sj_iadd dJ6_bitCount_0f7a4_28 ?_
  refine sj_ldcw kd_J6_267 dJ6_bitCount_0f7a4_29 ?_
  refine sj_iand dJ6_bitCount_0f7a4_32 (zI_of _).symm ?_
  refine sj_top (u := .int (zI (bcC (bcB (bcA a))))) rfl ?_
  refine sj_ist0 (by decide) dJ6_bitCount_0f7a4_33 ?_
  refine sj_ild0 dJ6_bitCount_0f7a4_34 ?_
  refine sj_ild0 dJ6_bitCount_0f7a4_35 ?_
  refine sj_bipush dJ6_bitCount_0f7a4_36 (by decide) ?_
  refine sj_iushr dJ6_bitCount_0f7a4_38 (zI_of _).symm ?_
  refine sj_iadd dJ6_bitCount_0f7a4_39 ?_
  refine sj_top (u := .int (zI (bcD (bcC (bcB (bcA a)))))) rfl ?_
  refine sj_ist0 (by decide) dJ6_bitCount_0f7a4_40 ?_
  refine sj_ild0 dJ6_bitCount_0f7a4_41 ?_
  refine sj_ild0 dJ6_bitCount_0f7a4_42 ?_
  refine sj_bipush dJ6_bitCount_0f7a4_43 (by decide) ?_
  refine sj_iushr dJ6_bitCount_0f7a4_45 (zI_of _).symm ?_
  refine sj_iadd dJ6_bitCount_0f7a4_46 ?_
  refine sj_top (u := .int (zI (bcE (bcD (bcC (bcB (bcA a))))))) rfl ?_
  refine sj_ist0 (by decide) dJ6_bitCount_0f7a4_47 ?_
  refine sj_ild0 dJ6_bitCount_0f7a4_48 ?_
  refine sj_bipush dJ6_bitCount_0f7a4_49 (by decide) ?_
  refine sj_iand dJ6_bitCount_0f7a4_51 (zI_of _).symm ?_
  exact sj_iret dJ6_bitCount_0f7a4_52 rfl rfl (Nat.le_of_ble_eq_true rfl) (Nat.le_of_ble_eq_true rfl) ⟨by rw [bc_all a ha], rfl, rfl⟩
theorem cx8_resultOf {w t p a : Nat} {M s c : Int} {T L : List Int} (hS : wSh σ w) (h : tm σ I t T) (ha : σ.2 a = some (10, 3200, fun _ => none)) (hd : T.drop p = c :: L) (hp : p < T.length) (hM : 2 ≤ M ∧ M ≤ 10) (hs : I (w + 1) p = s) (hsr : 0 ≤ s ∧ s ≤ 1000000000) (hlt : (65 ≤ c ∧ c ≤ 72) → s < 400 ∧ 0 ≤ I a (400 * (c - 65).toNat + s.toNat) ∧ I a (400 * (c - 65).toNat + s.toNat) < 1000000 ∧ I a (400 * (c - 65).toNat + s.toNat) % 16 < M) (h1 : 1 ≤ jAr c → rsl I w M (fun k => I a k % 16) T (p + 1) ((chI c s).getD 0 0)) (h2 : jAr c = 2 → rsl I w M (fun k => I a k % 16) T (jEe T (p + 1)) ((chI c s).getD 1 0)) : sj_Con l yX8_resultOf mX8_resultOf G σ I [.ref w, .ref t, .int (zI p), .ref a, .int (zI M)] (fun r σ' I' => ∃ x, r = some (.int (zI x)) ∧ x = jV M (fun k => I a k % 16) (T.drop p) s.toNat ∧ (0 ≤ x ∧ x < M) ∧ σ = σ' ∧ I = I') := by
  obtain ⟨s0, s1, s2, s3, s4⟩ := id hS
  obtain ⟨t0, t1, t2, t3⟩ := h.1
  have hok := h.2.2.2.2.2.1
  have hn := h.2.2.2.2.2.2
  have hc : T.getD p 0 = c := by
    obtain ⟨c', L', q1, q2, _, _⟩ := dropEx hp
    rw [hd] at q1; cases q1; exact q2
  have hv : jVc c := by rw [← hc]; exact h.vc hp
  have hcd : I (t + 1) p = c := by rw [h.cd hp, hc]
  have hL : T.drop (p + 1) = L := by rw [← List.drop_drop, hd]; rfl
  obtain ⟨f0, f1, f2, f3, f4⟩ := jEe_facts hok hd
  have two : jAr c = 2 → (p + 1 < T.length ∧ jEe T (p + 1) < T.length) ∧ I (t + 2) (p + 1) = (jEe T (p + 1) : Nat) ∧ T.drop (jEe T (p + 1)) = jDr 1 L := fun a => by
    have g := f2 a
    refine ⟨⟨g.1, g.2.1⟩, h.2.2.2.1 _ g.1, ?_⟩
    unfold jEe
    rw [← List.drop_drop, hL, jDr_drop]
  have one : jAr c = 1 → p + 1 < T.length := fun a => (f1 a).1
  have em : ∀ x : Int, 0 ≤ x % M ∧ x % M < M := fun x => ⟨Int.emod_nonneg x (by omega), Int.emod_lt_of_pos x (by omega)⟩
  rw [hd]
  clear f0 f1 f2
  unfold rsl at h1 h2
  rw [hL] at h1
  refine sj_con_of (L0 := [some (.ref w), some (.ref t), some (.int (zI p)), some (.ref a), some (.int (zI M)), none]) (by decide) rfl rfl rfl (Nat.le_of_ble_eq_true rfl) rfl (fun Γ => ?_)
  rcases jVc_kinds hv with ⟨k, a0⟩ | ⟨k, a0⟩ | ⟨k, a0⟩ | ⟨rfl, a0⟩ | ⟨rfl, a0⟩ | ⟨rfl, a0⟩ | ⟨rfl, a0⟩ | ⟨k, a0⟩
  · have e1 : ¬ 42 = c := by omega
    have e2 : ¬ 43 = c := by omega
    have e3 : ¬ 101 = c := by omega
    have e4 : ¬ 111 = c := by omega
    have e5 : ¬ 116 = c := by omega
    have e6 : ¬ 122 = c := by omega
    clear h1 h2 hlt two one
    refine sj_ald1 dX8_resultOf_0 ?_
    refine sj_getR fl_X8_36 (by assumption) rfl (tR_1 _) dX8_resultOf_1 ?_
    refine sj_ild2 dX8_resultOf_4 ?_
    refine sj_ialdJ (p) (by assumption) (by omega) (by omega) (by omega) dX8_resultOf_5 ?_
    rw [hcd]
    refine sj_ist5 (by decide) rfl dX8_resultOf_6 ?_
    refine sj_ild5 dX8_resultOf_8 ?_
    refine sj_lookup (off := 155) 165 dX8_resultOf_10 (by decide) (by omega) (by simp [Op.lookupswitch.offset_cons, Op.lookupswitch.offset_nil, e1, e2, e3, e4, e5, e6]) (by decide) ?_
    refine sj_ild5 dX8_resultOf_165 ?_
    refine sj_sipush dX8_resultOf_167 (by decide) ?_
    refine sj_icmp_lt 203 dX8_resultOf_170 (by decide) (by omega) (by omega) (fun c_170 => ?_) (fun c_170 => ?_)
    rotate_left
    · (exfalso; omega)
    refine sj_ild5 dX8_resultOf_203 ?_
    refine sj_bipush dX8_resultOf_205 (by decide) ?_
    refine sj_icmp_gt 221 dX8_resultOf_207 (by decide) (by omega) (by omega) (fun c_207 => ?_) (fun c_207 => ?_)
    · (exfalso; omega)
    refine sj_ild5 dX8_resultOf_210 ?_
    refine sj_bipush dX8_resultOf_212 (by decide) ?_
    refine sj_isub dX8_resultOf_214 ?_
    refine sj_ild4 dX8_resultOf_215 ?_
    refine sj_irem dX8_resultOf_217 (by omega) (by omega) ?_
    refine sj_goto 242 dX8_resultOf_218 (by decide) ?_
    exact sj_iret dX8_resultOf_242 rfl rfl (Nat.le_of_ble_eq_true rfl) (Nat.le_of_ble_eq_true rfl) ⟨_, rfl, (jV_dig k).symm, em _, rfl, rfl⟩
  · have e1 : ¬ 42 = c := by omega
    have e2 : ¬ 43 = c := by omega
    have e3 : ¬ 101 = c := by omega
    have e4 : ¬ 111 = c := by omega
    have e5 : ¬ 116 = c := by omega
    have e6 : ¬ 122 = c := by omega
    have g := hlt k
    clear h1 h2 hlt two one
    refine sj_ald1 dX8_resultOf_0 ?_
    refine sj_getR fl_X8_36 (by assumption) rfl (tR_1 _) dX8_resultOf_1 ?_
    refine sj_ild2 dX8_resultOf_4 ?_
    refine sj_ialdJ (p) (by assumption) (by omega) (by omega) (by omega) dX8_resultOf_5 ?_
    rw [hcd]
    refine sj_ist5 (by decide) rfl dX8_resultOf_6 ?_
    refine sj_ild5 dX8_resultOf_8 ?_
    refine sj_lookup (off := 155) 165 dX8_resultOf_10 (by decide) (by omega) (by simp [Op.lookupswitch.offset_cons, Op.lookupswitch.offset_nil, e1, e2, e3, e4, e5, e6]) (by decide) ?_
    refine sj_ild5 dX8_resultOf_165 ?_
    refine sj_sipush dX8_resultOf_167 (by decide) ?_
    refine sj_icmp_lt 203 dX8_resultOf_170 (by decide) (by omega) (by omega) (fun c_170 => ?_) (fun c_170 => ?_)
    rotate_left
    · (exfalso; omega)
    refine sj_ild5 dX8_resultOf_203 ?_
    refine sj_bipush dX8_resultOf_205 (by decide) ?_
    refine sj_icmp_gt 221 dX8_resultOf_207 (by decide) (by omega) (by omega) (fun c_207 => ?_) (fun c_207 => ?_)
    rotate_left
    · (exfalso; omega)
    refine sj_ald3 dX8_resultOf_221 ?_
    refine sj_ild5 dX8_resultOf_222 ?_
    refine sj_bipush dX8_resultOf_224 (by decide) ?_
    refine sj_isub dX8_resultOf_226 ?_
    refine sj_sipush dX8_resultOf_227 (by decide) ?_
    refine sj_imul dX8_resultOf_230 ?_
    refine sj_ald0 dX8_resultOf_231 ?_
    refine sj_getR fl_X8_9 (by assumption) rfl (wR_0 _) dX8_resultOf_232 ?_
    refine sj_ild2 dX8_resultOf_235 ?_
    refine sj_ialdJ (p) (by assumption) (by omega) (by omega) (by omega) dX8_resultOf_236 ?_
    rw [hs]
    refine sj_iadd dX8_resultOf_237 ?_
    refine sj_ialdJ (400 * (c - 65).toNat + s.toNat) (by assumption) (by omega) (by omega) (by omega) dX8_resultOf_238 ?_
    refine sj_bipush dX8_resultOf_239 (by decide) ?_
    refine sj_irem dX8_resultOf_241 (by omega) (by omega) ?_
    exact sj_iret dX8_resultOf_242 rfl rfl (Nat.le_of_ble_eq_true rfl) (Nat.le_of_ble_eq_true rfl) ⟨_, rfl, by rw [jV_let k], by omega, rfl, rfl⟩
  · obtain ⟨g0, g1, g2⟩ := two a0
    have hx := chI_op (s := s) k
    rw [hx] at h1 h2
    have q1 := h1 (by omega) (show s ≠ -1 by omega)
    have q2 := h2 a0 (show s ≠ -1 by omega)
    rw [g2] at q2
    have hms := mul_small q1.2 q2.2 hM
    rcases k with rfl | rfl
    · refine sj_ald1 dX8_resultOf_0 ?_
      refine sj_getR fl_X8_36 (by assumption) rfl (tR_1 _) dX8_resultOf_1 ?_
      refine sj_ild2 dX8_resultOf_4 ?_
      refine sj_ialdJ (p) (by assumption) (by omega) (by omega) (by omega) dX8_resultOf_5 ?_
      rw [hcd]
      refine sj_ist5 (by decide) rfl dX8_resultOf_6 ?_
      refine sj_ild5 dX8_resultOf_8 ?_
      refine sj_lookup (off := 58) 68 dX8_resultOf_10 (by decide) (by omega) (by rfl) (by decide) ?_
      refine sj_ald0 dX8_resultOf_68 ?_
      refine sj_getR fl_X8_15 (by assumption) rfl (wR_1 _) dX8_resultOf_69 ?_
      refine sj_ild2 dX8_resultOf_72 ?_
      refine sj_iconst dX8_resultOf_73 ?_
      refine sj_iadd dX8_resultOf_74 ?_
      refine sj_ialdJ (p + 1) (by assumption) (by omega) (by omega) (by omega) dX8_resultOf_75 ?_
      refine sj_ald0 dX8_resultOf_76 ?_
      refine sj_getR fl_X8_15 (by assumption) rfl (wR_1 _) dX8_resultOf_77 ?_
      refine sj_ald1 dX8_resultOf_80 ?_
      refine sj_getR fl_X8_39 (by assumption) rfl (tR_2 _) dX8_resultOf_81 ?_
      refine sj_ild2 dX8_resultOf_84 ?_
      refine sj_iconst dX8_resultOf_85 ?_
      refine sj_iadd dX8_resultOf_86 ?_
      refine sj_ialdJ (p + 1) (by assumption) (by omega) (by omega) (by omega) dX8_resultOf_87 ?_
      rw [g1]
      refine sj_ialdJ (jEe T (p + 1)) (by assumption) (by omega) (by omega) (by omega) dX8_resultOf_88 ?_
      refine sj_iadd dX8_resultOf_89 ?_
      refine sj_ild4 dX8_resultOf_90 ?_
      refine sj_irem dX8_resultOf_92 (by omega) (by omega) ?_
      exact sj_iret dX8_resultOf_93 rfl rfl (Nat.le_of_ble_eq_true rfl) (Nat.le_of_ble_eq_true rfl) ⟨_, rfl, by rw [jV_p]; exact congrArg (· % M) (by rw [q1.1, q2.1]; rfl), em _, rfl, rfl⟩
    · refine sj_ald1 dX8_resultOf_0 ?_
      refine sj_getR fl_X8_36 (by assumption) rfl (tR_1 _) dX8_resultOf_1 ?_
      refine sj_ild2 dX8_resultOf_4 ?_
      refine sj_ialdJ (p) (by assumption) (by omega) (by omega) (by omega) dX8_resultOf_5 ?_
      rw [hcd]
      refine sj_ist5 (by decide) rfl dX8_resultOf_6 ?_
      refine sj_ild5 dX8_resultOf_8 ?_
      refine sj_lookup (off := 84) 94 dX8_resultOf_10 (by decide) (by omega) (by rfl) (by decide) ?_
      refine sj_ald0 dX8_resultOf_94 ?_
      refine sj_getR fl_X8_15 (by assumption) rfl (wR_1 _) dX8_resultOf_95 ?_
      refine sj_ild2 dX8_resultOf_98 ?_
      refine sj_iconst dX8_resultOf_99 ?_
      refine sj_iadd dX8_resultOf_100 ?_
      refine sj_ialdJ (p + 1) (by assumption) (by omega) (by omega) (by omega) dX8_resultOf_101 ?_
      refine sj_ald0 dX8_resultOf_102 ?_
      refine sj_getR fl_X8_15 (by assumption) rfl (wR_1 _) dX8_resultOf_103 ?_
      refine sj_ald1 dX8_resultOf_106 ?_
      refine sj_getR fl_X8_39 (by assumption) rfl (tR_2 _) dX8_resultOf_107 ?_
      refine sj_ild2 dX8_resultOf_110 ?_
      refine sj_iconst dX8_resultOf_111 ?_
      refine sj_iadd dX8_resultOf_112 ?_
      refine sj_ialdJ (p + 1) (by assumption) (by omega) (by omega) (by omega) dX8_resultOf_113 ?_
      rw [g1]
      refine sj_ialdJ (jEe T (p + 1)) (by assumption) (by omega) (by omega) (by omega) dX8_resultOf_114 ?_
      refine sj_imul dX8_resultOf_115 ?_
      refine sj_ild4 dX8_resultOf_116 ?_
      refine sj_irem dX8_resultOf_118 (by omega) (by omega) ?_
      exact sj_iret dX8_resultOf_119 rfl rfl (Nat.le_of_ble_eq_true rfl) (Nat.le_of_ble_eq_true rfl) ⟨_, rfl, by rw [jV_m]; exact congrArg (· % M) (by rw [q1.1, q2.1]; rfl), em _, rfl, rfl⟩
  · obtain ⟨g0, g1, g2⟩ := two a0
    have hx := chI_z (s := s)
    rw [if_neg (by omega)] at hx
    by_cases e2 : s % 2 = 0
    · rw [if_pos e2] at hx
      rw [hx] at h1
      have q1 := h1 (by omega) (show s / 2 ≠ -1 by omega)
      refine sj_ald1 dX8_resultOf_0 ?_
      refine sj_getR fl_X8_36 (by assumption) rfl (tR_1 _) dX8_resultOf_1 ?_
      refine sj_ild2 dX8_resultOf_4 ?_
      refine sj_ialdJ (p) (by assumption) (by omega) (by omega) (by omega) dX8_resultOf_5 ?_
      rw [hcd]
      refine sj_ist5 (by decide) rfl dX8_resultOf_6 ?_
      refine sj_ild5 dX8_resultOf_8 ?_
      refine sj_lookup (off := 110) 120 dX8_resultOf_10 (by decide) (by omega) (by rfl) (by decide) ?_
      refine sj_ald0 dX8_resultOf_120 ?_
      refine sj_getR fl_X8_9 (by assumption) rfl (wR_0 _) dX8_resultOf_121 ?_
      refine sj_ild2 dX8_resultOf_124 ?_
      refine sj_ialdJ (p) (by assumption) (by omega) (by omega) (by omega) dX8_resultOf_125 ?_
      rw [hs]
      refine sj_iconst dX8_resultOf_126 ?_
      refine sj_irem dX8_resultOf_127 (by omega) (by omega) ?_
      refine sj_if_ne 142 dX8_resultOf_128 (by decide) (by omega) (fun c_128 => ?_) (fun c_128 => ?_)
      · (exfalso; omega)
      refine sj_ald0 dX8_resultOf_131 ?_
      refine sj_getR fl_X8_15 (by assumption) rfl (wR_1 _) dX8_resultOf_132 ?_
      refine sj_ild2 dX8_resultOf_135 ?_
      refine sj_iconst dX8_resultOf_136 ?_
      refine sj_iadd dX8_resultOf_137 ?_
      refine sj_ialdJ (p + 1) (by assumption) (by omega) (by omega) (by omega) dX8_resultOf_138 ?_
      refine sj_goto 155 dX8_resultOf_139 (by decide) ?_
      exact sj_iret dX8_resultOf_155 rfl rfl (Nat.le_of_ble_eq_true rfl) (Nat.le_of_ble_eq_true rfl) ⟨_, rfl, by rw [jV_z, if_pos (by omega), q1.1, show s.toNat / 2 = (s / 2).toNat by omega]; rfl, q1.2, rfl, rfl⟩
    · rw [if_neg e2] at hx
      rw [hx] at h2
      have q2 := h2 a0 (show s / 2 ≠ -1 by omega)
      rw [g2] at q2
      refine sj_ald1 dX8_resultOf_0 ?_
      refine sj_getR fl_X8_36 (by assumption) rfl (tR_1 _) dX8_resultOf_1 ?_
      refine sj_ild2 dX8_resultOf_4 ?_
      refine sj_ialdJ (p) (by assumption) (by omega) (by omega) (by omega) dX8_resultOf_5 ?_
      rw [hcd]
      refine sj_ist5 (by decide) rfl dX8_resultOf_6 ?_
      refine sj_ild5 dX8_resultOf_8 ?_
      refine sj_lookup (off := 110) 120 dX8_resultOf_10 (by decide) (by omega) (by rfl) (by decide) ?_
      refine sj_ald0 dX8_resultOf_120 ?_
      refine sj_getR fl_X8_9 (by assumption) rfl (wR_0 _) dX8_resultOf_121 ?_
      refine sj_ild2 dX8_resultOf_124 ?_
      refine sj_ialdJ (p) (by assumption) (by omega) (by omega) (by omega) dX8_resultOf_125 ?_
      rw [hs]
      refine sj_iconst dX8_resultOf_126 ?_
      refine sj_irem dX8_resultOf_127 (by omega) (by omega) ?_
      refine sj_if_ne 142 dX8_resultOf_128 (by decide) (by omega) (fun c_128 => ?_) (fun c_128 => ?_)
      rotate_left
      · (exfalso; omega)
      refine sj_ald0 dX8_resultOf_142 ?_
      refine sj_getR fl_X8_15 (by assumption) rfl (wR_1 _) dX8_resultOf_143 ?_
      refine sj_ald1 dX8_resultOf_146 ?_
      refine sj_getR fl_X8_39 (by assumption) rfl (tR_2 _) dX8_resultOf_147 ?_
      refine sj_ild2 dX8_resultOf_150 ?_
      refine sj_iconst dX8_resultOf_151 ?_
      refine sj_iadd dX8_resultOf_152 ?_
      refine sj_ialdJ (p + 1) (by assumption) (by omega) (by omega) (by omega) dX8_resultOf_153 ?_
      rw [g1]
      refine sj_ialdJ (jEe T (p + 1)) (by assumption) (by omega) (by omega) (by omega) dX8_resultOf_154 ?_
      exact sj_iret dX8_resultOf_155 rfl rfl (Nat.le_of_ble_eq_true rfl) (Nat.le_of_ble_eq_true rfl) ⟨_, rfl, by rw [jV_z, if_neg (by omega), q2.1, show s.toNat / 2 = (s / 2).toNat by omega]; rfl, q2.2, rfl, rfl⟩
  · have g := one a0
    have hx := chI_t (s := s)
    rw [if_neg (by omega)] at hx
    rw [hx] at h1
    have q1 := h1 (by omega) (show s + 1 ≠ -1 by omega)
    refine sj_ald1 dX8_resultOf_0 ?_
    refine sj_getR fl_X8_36 (by assumption) rfl (tR_1 _) dX8_resultOf_1 ?_
    refine sj_ild2 dX8_resultOf_4 ?_
    refine sj_ialdJ (p) (by assumption) (by omega) (by omega) (by omega) dX8_resultOf_5 ?_
    rw [hcd]
    refine sj_ist5 (by decide) rfl dX8_resultOf_6 ?_
    refine sj_ild5 dX8_resultOf_8 ?_
    refine sj_lookup (off := 146) 156 dX8_resultOf_10 (by decide) (by omega) (by rfl) (by decide) ?_
    refine sj_ald0 dX8_resultOf_156 ?_
    refine sj_getR fl_X8_15 (by assumption) rfl (wR_1 _) dX8_resultOf_157 ?_
    refine sj_ild2 dX8_resultOf_160 ?_
    refine sj_iconst dX8_resultOf_161 ?_
    refine sj_iadd dX8_resultOf_162 ?_
    refine sj_ialdJ (p + 1) (by assumption) (by omega) (by omega) (by omega) dX8_resultOf_163 ?_
    exact sj_iret dX8_resultOf_164 rfl rfl (Nat.le_of_ble_eq_true rfl) (Nat.le_of_ble_eq_true rfl) ⟨_, rfl, by rw [jV_t, q1.1, show s.toNat + 1 = (s + 1).toNat by omega]; rfl, q1.2, rfl, rfl⟩
  · have g := one a0
    have hx := chI_e (s := s)
    rw [if_neg (by omega)] at hx
    rw [hx] at h1
    have q1 := h1 (by omega) (show 2 * s ≠ -1 by omega)
    refine sj_ald1 dX8_resultOf_0 ?_
    refine sj_getR fl_X8_36 (by assumption) rfl (tR_1 _) dX8_resultOf_1 ?_
    refine sj_ild2 dX8_resultOf_4 ?_
    refine sj_ialdJ (p) (by assumption) (by omega) (by omega) (by omega) dX8_resultOf_5 ?_
    rw [hcd]
    refine sj_ist5 (by decide) rfl dX8_resultOf_6 ?_
    refine sj_ild5 dX8_resultOf_8 ?_
    refine sj_lookup (off := 146) 156 dX8_resultOf_10 (by decide) (by omega) (by rfl) (by decide) ?_
    refine sj_ald0 dX8_resultOf_156 ?_
    refine sj_getR fl_X8_15 (by assumption) rfl (wR_1 _) dX8_resultOf_157 ?_
    refine sj_ild2 dX8_resultOf_160 ?_
    refine sj_iconst dX8_resultOf_161 ?_
    refine sj_iadd dX8_resultOf_162 ?_
    refine sj_ialdJ (p + 1) (by assumption) (by omega) (by omega) (by omega) dX8_resultOf_163 ?_
    exact sj_iret dX8_resultOf_164 rfl rfl (Nat.le_of_ble_eq_true rfl) (Nat.le_of_ble_eq_true rfl) ⟨_, rfl, by rw [jV_e, q1.1, show 2 * s.toNat = (2 * s).toNat by omega]; rfl, q1.2, rfl, rfl⟩
  · have g := one a0
    have hx := chI_o (s := s)
    rw [if_neg (by omega)] at hx
    rw [hx] at h1
    have q1 := h1 (by omega) (show 2 * s + 1 ≠ -1 by omega)
    refine sj_ald1 dX8_resultOf_0 ?_
    refine sj_getR fl_X8_36 (by assumption) rfl (tR_1 _) dX8_resultOf_1 ?_
    refine sj_ild2 dX8_resultOf_4 ?_
    refine sj_ialdJ (p) (by assumption) (by omega) (by omega) (by omega) dX8_resultOf_5 ?_
    rw [hcd]
    refine sj_ist5 (by decide) rfl dX8_resultOf_6 ?_
    refine sj_ild5 dX8_resultOf_8 ?_
    refine sj_lookup (off := 146) 156 dX8_resultOf_10 (by decide) (by omega) (by rfl) (by decide) ?_
    refine sj_ald0 dX8_resultOf_156 ?_
    refine sj_getR fl_X8_15 (by assumption) rfl (wR_1 _) dX8_resultOf_157 ?_
    refine sj_ild2 dX8_resultOf_160 ?_
    refine sj_iconst dX8_resultOf_161 ?_
    refine sj_iadd dX8_resultOf_162 ?_
    refine sj_ialdJ (p + 1) (by assumption) (by omega) (by omega) (by omega) dX8_resultOf_163 ?_
    exact sj_iret dX8_resultOf_164 rfl rfl (Nat.le_of_ble_eq_true rfl) (Nat.le_of_ble_eq_true rfl) ⟨_, rfl, by rw [jV_o, q1.1, show 2 * s.toNat + 1 = (2 * s + 1).toNat by omega]; rfl, q1.2, rfl, rfl⟩
  · have g := one a0
    have hx := chI_f (s := s) k.1
    have e1 : ¬ 42 = c := by omega
    have e2 : ¬ 43 = c := by omega
    have e3 : ¬ 101 = c := by omega
    have e4 : ¬ 111 = c := by omega
    have e5 : ¬ 116 = c := by omega
    have e6 : ¬ 122 = c := by omega
    by_cases e : 0 < s
    · rw [if_pos e] at hx
      rw [hx] at h1
      have q1 := h1 (by omega) (show s - 1 ≠ -1 by omega)
      refine sj_ald1 dX8_resultOf_0 ?_
      refine sj_getR fl_X8_36 (by assumption) rfl (tR_1 _) dX8_resultOf_1 ?_
      refine sj_ild2 dX8_resultOf_4 ?_
      refine sj_ialdJ (p) (by assumption) (by omega) (by omega) (by omega) dX8_resultOf_5 ?_
      rw [hcd]
      refine sj_ist5 (by decide) rfl dX8_resultOf_6 ?_
      refine sj_ild5 dX8_resultOf_8 ?_
      refine sj_lookup (off := 155) 165 dX8_resultOf_10 (by decide) (by omega) (by simp [Op.lookupswitch.offset_cons, Op.lookupswitch.offset_nil, e1, e2, e3, e4, e5, e6]) (by decide) ?_
      refine sj_ild5 dX8_resultOf_165 ?_
      refine sj_sipush dX8_resultOf_167 (by decide) ?_
      refine sj_icmp_lt 203 dX8_resultOf_170 (by decide) (by omega) (by omega) (fun c_170 => ?_) (fun c_170 => ?_)
      · (exfalso; omega)
      refine sj_ald0 dX8_resultOf_173 ?_
      refine sj_getR fl_X8_9 (by assumption) rfl (wR_0 _) dX8_resultOf_174 ?_
      refine sj_ild2 dX8_resultOf_177 ?_
      refine sj_ialdJ (p) (by assumption) (by omega) (by omega) (by omega) dX8_resultOf_178 ?_
      rw [hs]
      refine sj_if_ne 194 dX8_resultOf_179 (by decide) (by omega) (fun c_179 => ?_) (fun c_179 => ?_)
      rotate_left
      · (exfalso; omega)
      refine sj_ald0 dX8_resultOf_194 ?_
      refine sj_getR fl_X8_15 (by assumption) rfl (wR_1 _) dX8_resultOf_195 ?_
      refine sj_ild2 dX8_resultOf_198 ?_
      refine sj_iconst dX8_resultOf_199 ?_
      refine sj_iadd dX8_resultOf_200 ?_
      refine sj_ialdJ (p + 1) (by assumption) (by omega) (by omega) (by omega) dX8_resultOf_201 ?_
      exact sj_iret dX8_resultOf_202 rfl rfl (Nat.le_of_ble_eq_true rfl) (Nat.le_of_ble_eq_true rfl) ⟨_, rfl, by rw [jV_f k.1, if_neg (by omega), q1.1, show s.toNat - 1 = (s - 1).toNat by omega]; rfl, q1.2, rfl, rfl⟩
    · refine sj_ald1 dX8_resultOf_0 ?_
      refine sj_getR fl_X8_36 (by assumption) rfl (tR_1 _) dX8_resultOf_1 ?_
      refine sj_ild2 dX8_resultOf_4 ?_
      refine sj_ialdJ (p) (by assumption) (by omega) (by omega) (by omega) dX8_resultOf_5 ?_
      rw [hcd]
      refine sj_ist5 (by decide) rfl dX8_resultOf_6 ?_
      refine sj_ild5 dX8_resultOf_8 ?_
      refine sj_lookup (off := 155) 165 dX8_resultOf_10 (by decide) (by omega) (by simp [Op.lookupswitch.offset_cons, Op.lookupswitch.offset_nil, e1, e2, e3, e4, e5, e6]) (by decide) ?_
      refine sj_ild5 dX8_resultOf_165 ?_
      refine sj_sipush dX8_resultOf_167 (by decide) ?_
      refine sj_icmp_lt 203 dX8_resultOf_170 (by decide) (by omega) (by omega) (fun c_170 => ?_) (fun c_170 => ?_)
      · (exfalso; omega)
      refine sj_ald0 dX8_resultOf_173 ?_
      refine sj_getR fl_X8_9 (by assumption) rfl (wR_0 _) dX8_resultOf_174 ?_
      refine sj_ild2 dX8_resultOf_177 ?_
      refine sj_ialdJ (p) (by assumption) (by omega) (by omega) (by omega) dX8_resultOf_178 ?_
      rw [hs]
      refine sj_if_ne 194 dX8_resultOf_179 (by decide) (by omega) (fun c_179 => ?_) (fun c_179 => ?_)
      · (exfalso; omega)
      refine sj_ild5 dX8_resultOf_182 ?_
      refine sj_sipush dX8_resultOf_184 (by decide) ?_
      refine sj_isub dX8_resultOf_187 ?_
      refine sj_ild4 dX8_resultOf_188 ?_
      refine sj_irem dX8_resultOf_190 (by omega) (by omega) ?_
      refine sj_goto 202 dX8_resultOf_191 (by decide) ?_
      exact sj_iret dX8_resultOf_202 rfl rfl (Nat.le_of_ble_eq_true rfl) (Nat.le_of_ble_eq_true rfl) ⟨_, rfl, by rw [jV_f k.1, if_pos (by omega)], em _, rfl, rfl⟩
theorem cx8_evaluate {w t a i : Nat} {M : Int} {T : List Int} (hS : wSh σ w) (h : tm σ I t T) (ha : σ.2 a = some (10, 3200, fun _ => none)) (haw : a ≠ w + 2) (hM : 2 ≤ M ∧ M ≤ 10) (hx : ∀ p, p < T.length → I (w + 1) p = (jGx chI T [(i : Int)]).getD p 0) (hle : ∀ s ∈ jGx chI T [(i : Int)], s ≤ 1000000000) (hlt : ∀ p, p < T.length → (65 ≤ T.getD p 0 ∧ T.getD p 0 ≤ 72) → (jGx chI T [(i : Int)]).getD p 0 ≠ -1 → (jGx chI T [(i : Int)]).getD p 0 < 400 ∧ 0 ≤ I a (400 * (T.getD p 0 - 65).toNat + ((jGx chI T [(i : Int)]).getD p 0).toNat) ∧ I a (400 * (T.getD p 0 - 65).toNat + ((jGx chI T [(i : Int)]).getD p 0).toNat) < 1000000 ∧ I a (400 * (T.getD p 0 - 65).toNat + ((jGx chI T [(i : Int)]).getD p 0).toNat) % 16 < M) : sj_Con l yX8_evaluate mX8_evaluate G σ I [.ref w, .ref t, .ref a, .int (zI M)] (fun v σ' I' => ∃ x, v = some (.int (zI x)) ∧ x = jV M (fun k => I a k % 16) T i ∧ (0 ≤ x ∧ x < M) ∧ σ = σ' ∧ ∀ q, q ≠ w + 2 → I' q = I q) := by
  obtain ⟨s0, s1, s2, s3, s4⟩ := id hS
  obtain ⟨t0, t1, t2, t3⟩ := h.1
  have hok := h.2.2.2.2.2.1
  have hn := h.2.2.2.2.2.2
  have hoff := h.offW hS
  have hgl : (jGx chI T [(i : Int)]).length = T.length := jGx_len chI_len T [(i : Int)] hok
  have hge := jGx_ge T [(i : Int)] (fun s hs => by rw [List.mem_singleton.mp hs]; omega)
  have gmem : ∀ p, p < T.length → (jGx chI T [(i : Int)]).getD p 0 ∈ jGx chI T [(i : Int)] := fun p hp => by
    rw [List.getD_eq_getElem?_getD, List.getElem?_eq_getElem (by rw [hgl]; exact hp)]
    exact List.getElem_mem _
  have g0 : (jGx chI T [(i : Int)]).getD 0 0 = i := by
    obtain ⟨c', L', q1, _, _⟩ := jOk_ne (n := 0) hok
    rw [q1]; rfl
  have hTl := jOk_len T 1 hok
  refine sj_con_of (L0 := [some (.ref w), some (.ref t), some (.ref a), some (.int (zI M)), none]) (by decide) rfl rfl rfl (Nat.le_of_ble_eq_true rfl) rfl (fun Γ => ?_)
  have lp : ∀ (k : Nat) (J : sjI), k ≤ T.length → (∀ q, q ≠ w + 2 → J q = I q) → (∀ q, k ≤ q → q < T.length → rsl J w M (fun k => I a k % 16) T q ((jGx chI T [(i : Int)]).getD q 0)) → sj_V l Γ mX8_evaluate G (fun v σ' I' => ∃ x, v = some (.int (zI x)) ∧ x = jV M (fun k => I a k % 16) T i ∧ (0 ≤ x ∧ x < M) ∧ σ = σ' ∧ ∀ q, q ≠ w + 2 → I' q = I q) σ J 0 0 8 [some (.ref w), some (.ref t), some (.ref a), some (.int (zI M)), some (.int (zI ((k : Int) - 1)))] [] := by
    intro k
    induction k with
    | zero =>
      intro J hk hJ hR
      have hr := hR 0 (by omega) (by omega)
      rw [g0] at hr
      have hr2 := hr (by omega)
      refine sj_ild4 dX8_evaluate_8 ?_
      refine sj_if_lt 46 dX8_evaluate_10 (by decide) (by omega) (fun c_10 => ?_) (fun c_10 => ?_)
      rotate_left
      · (exfalso; omega)
      refine sj_ald0 dX8_evaluate_46 ?_
      refine sj_getR fl_X8_15 (by assumption) rfl (wR_1 _) dX8_evaluate_47 ?_
      refine sj_iconst dX8_evaluate_50 ?_
      refine sj_ialdJ (0) (by assumption) (by omega) (by omega) (by omega) dX8_evaluate_51 ?_
      exact sj_iret dX8_evaluate_52 rfl rfl (Nat.le_of_ble_eq_true rfl) (Nat.le_of_ble_eq_true rfl) ⟨_, rfl, hr2.1, hr2.2, rfl, hJ⟩
    | succ k ih =>
      intro J hk hJ hR
      rw [show (((k + 1 : Nat) : Int) - 1) = (k : Int) by omega]
      obtain ⟨c, L, hd, hc, hd2, hcm⟩ := dropEx (T := T) (k := k) (by omega)
      have hm := gmem k (by omega)
      have hm1 := hge _ hm
      have hm2 := hle _ hm
      have hJx : J (w + 1) k = (jGx chI T [(i : Int)]).getD k 0 := by rw [hJ (w + 1) (by omega)]; exact hx k (by omega)
      have hJa : J a = I a := hJ a haw
      have htJ : tm σ J t T := h.keep (fun q q1 q2 => ⟨rfl, hJ q (by omega)⟩)
      obtain ⟨s, hsg⟩ : ∃ s, (jGx chI T [(i : Int)]).getD k 0 = s := ⟨_, rfl⟩
      have loc := jGx_loc chI_len hok hd hsg
      have hf := jEe_facts hok hd
      have hlk := hlt k (by omega)
      rw [hsg] at hm hm1 hm2 hJx hlk
      rw [hc] at hlk
      have hcur := hsg
      by_cases e : s = -1
      · refine sj_ild4 dX8_evaluate_8 ?_
        refine sj_if_lt 46 dX8_evaluate_10 (by decide) (by omega) (fun c_10 => ?_) (fun c_10 => ?_)
        · (exfalso; omega)
        refine sj_ald0 dX8_evaluate_13 ?_
        refine sj_getR fl_X8_9 (by assumption) rfl (wR_0 _) dX8_evaluate_14 ?_
        refine sj_ild4 dX8_evaluate_17 ?_
        refine sj_ialdJ (k) (by assumption) (by omega) (by omega) (by omega) dX8_evaluate_19 ?_
        rw [hJx]
        refine sj_iconst dX8_evaluate_20 ?_
        refine sj_icmp_eq 40 dX8_evaluate_21 (by decide) (by omega) (by omega) (fun c_21 => ?_) (fun c_21 => ?_)
        rotate_left
        · (exfalso; omega)
        refine sj_inc4 (by decide) rfl dX8_evaluate_40 ?_
        refine sj_goto 8 dX8_evaluate_43 (by decide) ?_
        exact ih J (by omega) hJ (fun q q1 q2 => by
          by_cases e2 : q = k
          · rw [e2, hcur, e]; intro z; exact absurd rfl z
          · exact hR q (by omega) q2)
      · have hlk2 : (65 ≤ c ∧ c ≤ 72) → s < 400 ∧ 0 ≤ J a (400 * (c - 65).toNat + s.toNat) ∧ J a (400 * (c - 65).toNat + s.toNat) < 1000000 ∧ J a (400 * (c - 65).toNat + s.toNat) % 16 < M := fun z => by rw [hJa]; exact hlk z e
        have r1 : 1 ≤ jAr c → rsl J w M (fun k => J a k % 16) T (k + 1) ((chI c s).getD 0 0) := fun z => by
          rw [hJa, ← loc.1 z]
          exact hR (k + 1) (by omega) (by have := jAr_cases c; rcases (show jAr c = 1 ∨ jAr c = 2 by omega) with z1 | z1; exact (hf.2.1 z1).1; exact (hf.2.2.1 z1).1)
        have r2 : jAr c = 2 → rsl J w M (fun k => J a k % 16) T (jEe T (k + 1)) ((chI c s).getD 1 0) := fun z => by
          rw [hJa, ← loc.2 z]
          exact hR _ (by have := (hf.2.2.1 z).2.2.1; omega) (hf.2.2.1 z).2.1
        refine sj_ild4 dX8_evaluate_8 ?_
        refine sj_if_lt 46 dX8_evaluate_10 (by decide) (by omega) (fun c_10 => ?_) (fun c_10 => ?_)
        · (exfalso; omega)
        refine sj_ald0 dX8_evaluate_13 ?_
        refine sj_getR fl_X8_9 (by assumption) rfl (wR_0 _) dX8_evaluate_14 ?_
        refine sj_ild4 dX8_evaluate_17 ?_
        refine sj_ialdJ (k) (by assumption) (by omega) (by omega) (by omega) dX8_evaluate_19 ?_
        rw [hJx]
        refine sj_iconst dX8_evaluate_20 ?_
        refine sj_icmp_eq 40 dX8_evaluate_21 (by decide) (by omega) (by omega) (fun c_21 => ?_) (fun c_21 => ?_)
        · (exfalso; omega)
        refine sj_ald0 dX8_evaluate_24 ?_
        refine sj_getR fl_X8_15 (by assumption) rfl (wR_1 _) dX8_evaluate_25 ?_
        refine sj_ild4 dX8_evaluate_28 ?_
        refine sj_ald0 dX8_evaluate_30 ?_
        refine sj_ald1 dX8_evaluate_31 ?_
        refine sj_ild4 dX8_evaluate_32 ?_
        refine sj_ald2 dX8_evaluate_34 ?_
        refine sj_ild3 dX8_evaluate_35 ?_
        refine sj_callV (cx8_resultOf (c := c) (s := s) hS htJ ha hd (by omega) hM hJx (by omega) hlk2 r1 r2) kc_X8_44 (by assumption) rfl rfl rfl rfl (Nat.le_of_ble_eq_true rfl) dX8_evaluate_36 (fun r_36 σ_36 I_36 hp_36 => ?_)
        obtain ⟨x, rfl, hx1, hx2, rfl, rfl⟩ := hp_36
        rw [hJa] at hx1
        refine sj_iastJ (k) (by assumption) (by omega) (by omega) (by omega) dX8_evaluate_39 ?_
        refine sj_inc4 (by decide) rfl dX8_evaluate_40 ?_
        refine sj_goto 8 dX8_evaluate_43 (by decide) ?_
        exact ih _ (by omega) (fun q hq => by rw [sj_up_row hq]; exact hJ q hq) (fun q q1 q2 => by
          by_cases e2 : q = k
          · rw [e2, hcur]
            intro _
            rw [sj_up_self]
            exact ⟨hx1, hx2⟩
          · intro z
            rw [sj_up_ne (by omega)]
            exact hR q (by omega) q2 z)
  refine sj_ald1 dX8_evaluate_0 ?_
  refine sj_getI fl_X8_25 (by assumption) rfl dX8_evaluate_1 ?_
  rw [h.2.1]
  refine sj_iconst dX8_evaluate_4 ?_
  refine sj_isub dX8_evaluate_5 ?_
  refine sj_ist4 (by decide) rfl dX8_evaluate_6 ?_
  exact lp T.length I (Nat.le_refl _) (fun _ _ => rfl) (fun q q1 q2 => absurd q1 (by omega))
theorem cx8_greatestIndex {w n : Nat} (hS : wSh σ w) (hn : n < 3200) (hc : ∀ j, j ≤ n → 0 ≤ I (w + 3) j ∧ I (w + 3) j < 3200) : sj_Con l yX8_greatestIndex mX8_greatestIndex G σ I [.ref w, .int (zI n)] (fun v σ' I' => v = some (.int (zI (jHi (I (w + 3)) n))) ∧ σ = σ' ∧ I = I') := by
  obtain ⟨s0, s1, s2, s3, s4⟩ := id hS
  refine sj_con_of (L0 := [some (.ref w), some (.int (zI n)), none, none]) (by decide) rfl rfl rfl (Nat.le_of_ble_eq_true rfl) rfl (fun Γ => ?_)
  have lp : ∀ (d k : Nat), k + d = n → sj_V l Γ mX8_greatestIndex G (fun v σ' I' => v = some (.int (zI (jHi (I (w + 3)) n))) ∧ σ = σ' ∧ I = I') σ I 0 0 5 [some (.ref w), some (.int (zI n)), some (.int (zI (jHi (I (w + 3)) k))), some (.int (zI ((k : Int) + 1)))] [] := by
    intro d
    induction d with
    | zero =>
      intro k hk
      have hk1 : k = n := by omega
      subst hk1
      refine sj_ild3 dX8_greatestIndex_5 ?_
      refine sj_ild1 dX8_greatestIndex_6 ?_
      refine sj_icmp_gt 38 dX8_greatestIndex_7 (by decide) (by omega) (by omega) (fun c_7 => ?_) (fun c_7 => ?_)
      rotate_left
      · (exfalso; omega)
      refine sj_ild2 dX8_greatestIndex_38 ?_
      exact sj_iret dX8_greatestIndex_39 rfl rfl (Nat.le_of_ble_eq_true rfl) (Nat.le_of_ble_eq_true rfl) ⟨rfl, rfl, rfl⟩
    | succ d ih =>
      intro k hk
      have hr := hc (k + 1) (by omega)
      have hh := jHi_rng (I (w + 3)) k
      have hst : jHi (I (w + 3)) (k + 1) = max (jHi (I (w + 3)) k) (I (w + 3) (k + 1) % 400) := by rw [max_ite]; rfl
      refine sj_ild3 dX8_greatestIndex_5 ?_
      refine sj_ild1 dX8_greatestIndex_6 ?_
      refine sj_icmp_gt 38 dX8_greatestIndex_7 (by decide) (by omega) (by omega) (fun c_7 => ?_) (fun c_7 => ?_)
      · (exfalso; omega)
      refine sj_ild3 dX8_greatestIndex_10 ?_
      refine sj_sipush dX8_greatestIndex_11 (by decide) ?_
      refine sj_icmp_ge 38 dX8_greatestIndex_14 (by decide) (by omega) (by omega) (fun c_14 => ?_) (fun c_14 => ?_)
      · (exfalso; omega)
      refine sj_ild2 dX8_greatestIndex_17 ?_
      refine sj_ald0 dX8_greatestIndex_18 ?_
      refine sj_getR fl_X8_18 (by assumption) rfl (wR_2 _) dX8_greatestIndex_19 ?_
      refine sj_ild3 dX8_greatestIndex_22 ?_
      refine sj_ialdJ (k + 1) (by assumption) (by omega) (by omega) (by omega) dX8_greatestIndex_23 ?_
      refine sj_sipush dX8_greatestIndex_24 (by decide) ?_
      refine sj_irem dX8_greatestIndex_27 (by omega) (by omega) ?_
      refine sj_max km_X8_56 wo_max.1 wo_max.2.1 wo_max.2.2 (by decide) (Nat.le_of_ble_eq_true rfl) (Nat.le_of_ble_eq_true rfl) (Nat.le_of_ble_eq_true rfl) (by omega) (by omega) dX8_greatestIndex_28 ?_
      rw [← hst]
      refine sj_ist2 (by decide) rfl dX8_greatestIndex_31 ?_
      refine sj_inc3 (by decide) rfl dX8_greatestIndex_32 ?_
      refine sj_goto 5 dX8_greatestIndex_35 (by decide) ?_
      exact ih (k + 1) (by omega)
  refine sj_bipush dX8_greatestIndex_0 (by decide) ?_
  refine sj_ist2 (by decide) rfl dX8_greatestIndex_2 ?_
  refine sj_iconst dX8_greatestIndex_3 ?_
  refine sj_ist3 (by decide) rfl dX8_greatestIndex_4 ?_
  exact lp n 0 (by omega)
theorem cx8_countStreams {w n : Nat} (hS : wSh σ w) (hn : n < 3200) (hc : ∀ j, j ≤ n → 0 ≤ I (w + 3) j ∧ I (w + 3) j < 3200) : sj_Con l yX8_countStreams mX8_countStreams G σ I [.ref w, .int (zI n)] (fun v σ' I' => v = some (.int (zI (jPc (jSs (I (w + 3)) n) : Nat))) ∧ σ = σ' ∧ I = I') := by
  obtain ⟨s0, s1, s2, s3, s4⟩ := id hS
  refine sj_con_of (L0 := [some (.ref w), some (.int (zI n)), none, none]) (by decide) rfl rfl rfl (Nat.le_of_ble_eq_true rfl) rfl (fun Γ => ?_)
  have lp : ∀ (d k : Nat), k + d = n → sj_V l Γ mX8_countStreams G (fun v σ' I' => v = some (.int (zI (jPc (jSs (I (w + 3)) n) : Nat))) ∧ σ = σ' ∧ I = I') σ I 0 0 4 [some (.ref w), some (.int (zI n)), some (.int (zI (jSs (I (w + 3)) k : Nat))), some (.int (zI ((k : Int) + 1)))] [] := by
    intro d
    induction d with
    | zero =>
      intro k hk
      have hk1 : k = n := by omega
      subst hk1
      refine sj_ild3 dX8_countStreams_4 ?_
      refine sj_ild1 dX8_countStreams_5 ?_
      refine sj_icmp_gt 37 dX8_countStreams_6 (by decide) (by omega) (by omega) (fun c_6 => ?_) (fun c_6 => ?_)
      rotate_left
      · (exfalso; omega)
      refine sj_ild2 dX8_countStreams_37 ?_
      refine sj_callS (cJ_bitCount (jSs_lt k hc)) kc_X8_62 rfl rfl (Nat.le_of_ble_eq_true rfl) dX8_countStreams_38 (fun r_38 σ_38 I_38 hp_38 => ?_)
      obtain ⟨rfl, rfl, rfl⟩ := hp_38
      exact sj_iret dX8_countStreams_41 rfl rfl (Nat.le_of_ble_eq_true rfl) (Nat.le_of_ble_eq_true rfl) ⟨rfl, rfl, rfl⟩
    | succ d ih =>
      intro k hk
      have hr := hc (k + 1) (by omega)
      have hlt := jSs_lt (f := I (w + 3)) k (fun j hj => hc j (by omega))
      obtain ⟨q, hq⟩ := jNat (a := I (w + 3) (k + 1) / 400) (by omega)
      have hst : jSs (I (w + 3)) (k + 1) = jSs (I (w + 3)) k ||| 2 ^ q := by
        show jSs (I (w + 3)) k ||| 2 ^ (I (w + 3) (k + 1) / 400).toNat = _
        rw [hq]; rfl
      refine sj_ild3 dX8_countStreams_4 ?_
      refine sj_ild1 dX8_countStreams_5 ?_
      refine sj_icmp_gt 37 dX8_countStreams_6 (by decide) (by omega) (by omega) (fun c_6 => ?_) (fun c_6 => ?_)
      · (exfalso; omega)
      refine sj_ild3 dX8_countStreams_9 ?_
      refine sj_sipush dX8_countStreams_10 (by decide) ?_
      refine sj_icmp_ge 37 dX8_countStreams_13 (by decide) (by omega) (by omega) (fun c_13 => ?_) (fun c_13 => ?_)
      · (exfalso; omega)
      refine sj_ild2 dX8_countStreams_16 ?_
      refine sj_iconst dX8_countStreams_17 ?_
      refine sj_ald0 dX8_countStreams_18 ?_
      refine sj_getR fl_X8_18 (by assumption) rfl (wR_2 _) dX8_countStreams_19 ?_
      refine sj_ild3 dX8_countStreams_22 ?_
      refine sj_ialdJ (k + 1) (by assumption) (by omega) (by omega) (by omega) dX8_countStreams_23 ?_
      refine sj_sipush dX8_countStreams_24 (by decide) ?_
      refine sj_idiv dX8_countStreams_27 (by omega) (by omega) ?_
      rw [hq]
      refine sj_ishl dX8_countStreams_28 (zI_shl1 q (by omega)) ?_
      refine sj_ior dX8_countStreams_29 (zI_or1 _ (by omega) q (by omega)) ?_
      refine sj_ist2 (by decide) rfl dX8_countStreams_30 ?_
      refine sj_inc3 (by decide) rfl dX8_countStreams_31 ?_
      refine sj_goto 4 dX8_countStreams_34 (by decide) ?_
      have h := ih (k + 1) (by omega)
      rw [hst] at h
      exact h
  refine sj_iconst dX8_countStreams_0 ?_
  refine sj_ist2 (by decide) rfl dX8_countStreams_1 ?_
  refine sj_iconst dX8_countStreams_2 ?_
  refine sj_ist3 (by decide) rfl dX8_countStreams_3 ?_
  exact lp n 0 (by omega)
end WORK2
