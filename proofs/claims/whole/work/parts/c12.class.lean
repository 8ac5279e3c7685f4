/-! the workspace -/
def wρ (w : Nat) : Nat → Option Nat := sj_ru (sj_ru (sj_ru (sj_ru (fun _ => none) 0 (some (w + 1))) 1 (some (w + 2))) 2 (some (w + 3))) 3 (some (w + 4))
theorem wR_0 (w : Nat) : wρ w 0 = some (w + 1) := rfl
theorem wR_1 (w : Nat) : wρ w 1 = some (w + 2) := rfl
theorem wR_2 (w : Nat) : wρ w 2 = some (w + 3) := rfl
theorem wR_3 (w : Nat) : wρ w 3 = some (w + 4) := rfl
def wSh (σ : sjS) (w : Nat) : Prop := σ.2 w = some (7, 0, wρ w) ∧ σ.2 (w + 1) = some (10, 120, fun _ => none) ∧ σ.2 (w + 2) = some (10, 120, fun _ => none) ∧ σ.2 (w + 3) = some (10, 3200, fun _ => none) ∧ σ.2 (w + 4) = some (11, 50, fun _ => none)
theorem tm.offW {σ : sjS} {I : sjI} {t w : Nat} {T : List Int} (h : tm σ I t T) (hS : wSh σ w) : t + 3 < w ∨ w + 4 < t := by
  refine h.off (n := 4) ⟨_, _, hS.1, by decide, by decide⟩ (fun j h1 h2 => ?_)
  rcases (show j = 1 ∨ j = 2 ∨ j = 3 ∨ j = 4 by omega) with rfl | rfl | rfl | rfl
  · exact ⟨_, _, hS.2.1, by decide⟩
  · exact ⟨_, _, hS.2.2.1, by decide⟩
  · exact ⟨_, _, hS.2.2.2.1, by decide⟩
  · exact ⟨_, _, hS.2.2.2.2, by decide⟩
section REM1
variable {l : Launch} {Γ : sjC} {cc : ByteArray} {own nm : String} {nL : Nat} {ret : Option FieldType} {R : Room} {G : sjG} {post : sjP} {σ : sjS} {I : sjI} {k n pc : Nat} {L : List (Option Value)} {st : List Value}
theorem sj_irem1 (d : decode cc pc = .ok (.irem, 1)) (kk : sj_V l Γ (cc, own, nL, ret, nm, R) G post σ I k n (pc + 1) L (.int (zI (-1)) :: st)) : sj_V l Γ (cc, own, nL, ret, nm, R) G post σ I k n pc L (.int (zI 2) :: .int (zI (-1)) :: st) := by
  obtain ⟨p, e, s, m, args, below, meth, c, Q⟩ := Γ
  intro hC hK hr H locs ls hR hlo hL
  obtain ⟨hx, hb, hml, hown, hnm⟩ := id hC
  refine lv_irem hx hb d (sj_nz (by omega)) ?_
  rw [show zI (-1) - zI (-1) / zI 2 * zI 2 = zI (-1) by decide]
  exact kk hC hK hr H locs ls hR hlo hL
end REM1
/-- what a part hands to its operands -/
def spO (w p : Nat) (T : List Int) (c s : Int) (I J : sjI) : Prop := (∀ q, q ≠ w + 1 → J q = I q) ∧ (∀ j, j ≤ p → J (w + 1) j = I (w + 1) j) ∧ (1 ≤ jAr c → J (w + 1) (p + 1) = (chI c s).getD 0 0) ∧ (jAr c = 2 → J (w + 1) (jEe T (p + 1)) = (chI c s).getD 1 0) ∧ ∀ j, jEe T p ≤ j → J (w + 1) j = I (w + 1) j
theorem spO.zero {w p : Nat} {T : List Int} {c s : Int} {I : sjI} (h : jAr c = 0) : spO w p T c s I I := ⟨fun _ _ => rfl, fun _ _ => rfl, fun q => absurd q (by omega), fun q => absurd q (by omega), fun _ _ => rfl⟩
theorem spO.one {w p : Nat} {T : List Int} {c s x : Int} {I : sjI} (h : jAr c = 1) (hx : chI c s = [x]) (hp : p + 1 < jEe T p) : spO w p T c s I (sj_up I (w + 1) (p + 1) x) :=
  ⟨fun q hq => sj_up_row hq, fun j hj => sj_up_ne (by omega), fun _ => by rw [sj_up_self, hx]; rfl, fun q => absurd q (by omega), fun j hj => sj_up_ne (by omega)⟩
theorem spO.two {w p : Nat} {T : List Int} {c s x y : Int} {I : sjI} (h : jAr c = 2) (hx : chI c s = [x, y]) (hp : p + 1 < jEe T (p + 1)) (hp2 : jEe T (p + 1) < jEe T p) : spO w p T c s I (sj_up (sj_up I (w + 1) (p + 1) x) (w + 1) (jEe T (p + 1)) y) :=
  ⟨fun q hq => by rw [sj_up_row hq, sj_up_row hq], fun j hj => by rw [sj_up_ne (by omega), sj_up_ne (by omega)], fun _ => by rw [sj_up_ne (by omega), sj_up_self, hx]; rfl, fun _ => by rw [sj_up_self, hx]; rfl, fun j hj => by rw [sj_up_ne (by omega), sj_up_ne (by omega)]⟩
theorem jEe_more {T : List Int} {k : Nat} (hok : jOk 1 T) (hk : k < T.length) : k < jEe T k ∧ jEe T k ≤ T.length := by
  obtain ⟨c, L, hd, _, _, _⟩ := dropEx hk
  exact (jEe_facts hok hd).2.2.2
theorem chI_le {c s : Int} (hs : s ≤ 1000000000) : ∀ x ∈ chI c s, x ≤ 2000000001 := by
  intro x hx
  unfold chI at hx
  split at hx
  · cases hx
  · split at hx
    · rcases List.mem_cons.mp hx with rfl | hx
      · omega
      · rw [List.mem_singleton.mp hx]; omega
    · split at hx
      · split at hx
        · rcases List.mem_cons.mp hx with rfl | hx
          · omega
          · rw [List.mem_singleton.mp hx]; omega
        · split at hx
          · rcases List.mem_cons.mp hx with rfl | hx
            · omega
            · rw [List.mem_singleton.mp hx]; omega
          · rcases List.mem_cons.mp hx with rfl | hx
            · omega
            · rw [List.mem_singleton.mp hx]; omega
      · split at hx
        · rw [List.mem_singleton.mp hx]; split <;> omega
        · split at hx
          · rw [List.mem_singleton.mp hx]; split <;> omega
          · split at hx
            · rw [List.mem_singleton.mp hx]; split <;> omega
            · rw [List.mem_singleton.mp hx]; split <;> omega
section WORK1
variable {l : Launch} {G : sjG} {σ : sjS} {I : sjI}
theorem cx8_init {w : Nat} (hw : σ.2 w = some (7, 0, fun _ => none)) (hw1 : σ.1 = w + 1) : sj_Con l yX8_init mX8_init G σ I [.ref w] (fun v σ' I' => v = none ∧ σ'.1 = w + 5 ∧ (∀ q, q < w → σ'.2 q = σ.2 q ∧ I' q = I q) ∧ wSh σ' w) := by
  refine sj_con_of (L0 := [some (.ref w)]) (by decide) rfl rfl rfl (Nat.le_of_ble_eq_true rfl) rfl (fun Γ => ?_)
  obtain ⟨s1, f⟩ := σ
  simp only at hw hw1
  subst hw1
  refine sj_ald0 dX8_init_0 ?_
  refine sj_oinit km_X8_3 wo_init.1 wo_init.2 (by decide) (by decide) dX8_init_1 ?_
  refine sj_ald0 dX8_init_4 ?_
  refine sj_bipush dX8_init_5 (by decide) ?_
  refine sj_newI wd_102 dX8_init_7 (by decide) (Nat.le_of_ble_eq_true rfl) (Nat.le_of_ble_eq_true rfl) ?_
  refine sj_putRF fl_X8_9 (by rw [sj_nw_ne (by show w ≠ w + 1; omega)]; exact hw) rfl rfl rfl rfl (fun q h => by cases h; rfl) dX8_init_9 ?_
  refine sj_ald0 dX8_init_12 ?_
  refine sj_bipush dX8_init_13 (by decide) ?_
  refine sj_newI wd_102 dX8_init_15 (by decide) (Nat.le_of_ble_eq_true rfl) (Nat.le_of_ble_eq_true rfl) ?_
  refine sj_putRF fl_X8_15 (by rw [sj_nw_ne (by show w ≠ w + 1 + 1; omega)]; exact sj_us_self _ _ _) rfl rfl rfl rfl (fun q h => by cases h; rfl) dX8_init_17 ?_
  refine sj_ald0 dX8_init_20 ?_
  refine sj_sipush dX8_init_21 (by decide) ?_
  refine sj_newI wd_102 dX8_init_24 (by decide) (Nat.le_of_ble_eq_true rfl) (Nat.le_of_ble_eq_true rfl) ?_
  refine sj_putRF fl_X8_18 (by rw [sj_nw_ne (by show w ≠ w + 1 + 1 + 1; omega)]; exact sj_us_self _ _ _) rfl rfl rfl rfl (fun q h => by cases h; rfl) dX8_init_26 ?_
  refine sj_ald0 dX8_init_29 ?_
  refine sj_bipush dX8_init_30 (by decide) ?_
  refine sj_newJ wd_483 dX8_init_32 (by decide) (Nat.le_of_ble_eq_true rfl) (Nat.le_of_ble_eq_true rfl) ?_
  refine sj_putRF fl_X8_21 (by rw [sj_nw_ne (by show w ≠ w + 1 + 1 + 1 + 1; omega)]; exact sj_us_self _ _ _) rfl rfl rfl rfl (fun q h => by cases h; rfl) dX8_init_34 ?_
  exact sj_vret dX8_init_37 rfl (Nat.le_of_ble_eq_true rfl) (Nat.le_of_ble_eq_true rfl) ⟨rfl, rfl, fun q hq => ⟨by simp only [sj_us, sj_nw]; rw [if_neg (by omega), if_neg (by omega), if_neg (by omega), if_neg (by omega), if_neg (by omega), if_neg (by omega), if_neg (by omega), if_neg (by omega)], by rw [sj_ur_ne (by show q ≠ w + 4; omega), sj_ur_ne (by show q ≠ w + 3; omega), sj_ur_ne (by show q ≠ w + 2; omega), sj_ur_ne (by show q ≠ w + 1; omega)]⟩, by simp [sj_nw, sj_us]; rfl, by simp [sj_nw, sj_us], by simp [sj_nw, sj_us], by simp [sj_nw, sj_us], by simp [sj_nw, sj_us]⟩
theorem cx8_spreadPart {w t p : Nat} {s c : Int} {T L : List Int} (hS : wSh σ w) (h : tm σ I t T) (hd : T.drop p = c :: L) (hp : p < T.length) (hs : -1 ≤ s ∧ s ≤ 1000000000) : sj_Con l yX8_spreadPart mX8_spreadPart G σ I [.ref w, .ref t, .int (zI p), .int (zI s)] (fun v σ' I' => v = none ∧ σ = σ' ∧ spO w p T c s I I') := by
  obtain ⟨s0, s1, s2, s3, s4⟩ := id hS
  obtain ⟨t0, t1, t2, t3⟩ := h.1
  have hok := h.2.2.2.2.2.1
  have hn := h.2.2.2.2.2.2
  have hoff := h.offW hS
  have hc : T.getD p 0 = c := by
    obtain ⟨c', L', q1, q2, _, _⟩ := dropEx hp
    rw [hd] at q1; cases q1; exact q2
  have hv : jVc c := by rw [← hc]; exact h.vc hp
  have hcd : I (t + 1) p = c := by rw [h.cd hp, hc]
  obtain ⟨f0, f1, f2, f3, f4⟩ := jEe_facts hok hd
  refine sj_con_of (L0 := [some (.ref w), some (.ref t), some (.int (zI p)), some (.int (zI s)), none, none, none]) (by decide) rfl rfl rfl (Nat.le_of_ble_eq_true rfl) rfl (fun Γ => ?_)
  have two : jAr c = 2 → (p + 1 < T.length ∧ jEe T (p + 1) < T.length ∧ p + 1 < jEe T (p + 1) ∧ jEe T (p + 1) < jEe T p) ∧ I (t + 2) (p + 1) = (jEe T (p + 1) : Nat) := fun a => by
    have g := f2 a
    have := jEe_more hok g.2.1
    exact ⟨⟨g.1, g.2.1, g.2.2.1, by omega⟩, h.2.2.2.1 _ g.1⟩
  have one : jAr c = 1 → p + 1 < T.length ∧ p + 1 < jEe T p := fun a => by
    have g := f1 a
    have := jEe_more hok g.1
    exact ⟨g.1, by omega⟩
  clear f0 f1 f2
  rcases jVc_kinds hv with ⟨k, a⟩ | ⟨k, a⟩ | ⟨k, a⟩ | ⟨rfl, a⟩ | ⟨rfl, a⟩ | ⟨rfl, a⟩ | ⟨rfl, a⟩ | ⟨k, a⟩
  · have e1 : ¬ 42 = c := by omega
    have e2 : ¬ 43 = c := by omega
    have e3 : ¬ 101 = c := by omega
    have e4 : ¬ 111 = c := by omega
    have e5 : ¬ 116 = c := by omega
    have e6 : ¬ 122 = c := by omega
    refine sj_ald1 dX8_spreadPart_0 ?_
    refine sj_getR fl_X8_36 (by assumption) rfl (tR_1 _) dX8_spreadPart_1 ?_
    refine sj_ild2 dX8_spreadPart_4 ?_
    refine sj_ialdJ (p) (by assumption) (by omega) (by omega) (by omega) dX8_spreadPart_5 ?_
    rw [hcd]
    refine sj_ist4 (by decide) rfl dX8_spreadPart_6 ?_
    refine sj_ild3 dX8_spreadPart_8 ?_
    refine sj_iconst dX8_spreadPart_9 ?_
    refine sj_icmp_eq 17 dX8_spreadPart_10 (by decide) (by omega) (by omega) (fun c_10 => ?_) (fun c_10 => ?_)
    · refine sj_iconst dX8_spreadPart_17 ?_
      refine sj_ist5 (by decide) rfl dX8_spreadPart_18 ?_
      refine sj_ild4 dX8_spreadPart_20 ?_
      refine sj_lookup (off := 226) 248 dX8_spreadPart_22 (by decide) (by omega) (by simp [Op.lookupswitch.offset_cons, Op.lookupswitch.offset_nil, e1, e2, e3, e4, e5, e6]) (by decide) ?_
      refine sj_ild4 dX8_spreadPart_248 ?_
      refine sj_sipush dX8_spreadPart_250 (by decide) ?_
      refine sj_icmp_lt 280 dX8_spreadPart_253 (by decide) (by omega) (by omega) (fun c_253 => ?_) (fun c_253 => ?_)
      rotate_left
      · (exfalso; omega)
      exact sj_vret dX8_spreadPart_280 rfl (Nat.le_of_ble_eq_true rfl) (Nat.le_of_ble_eq_true rfl) ⟨rfl, rfl, spO.zero a⟩
    · refine sj_iconst dX8_spreadPart_13 ?_
      refine sj_goto 18 dX8_spreadPart_14 (by decide) ?_
      refine sj_ist5 (by decide) rfl dX8_spreadPart_18 ?_
      refine sj_ild4 dX8_spreadPart_20 ?_
      refine sj_lookup (off := 226) 248 dX8_spreadPart_22 (by decide) (by omega) (by simp [Op.lookupswitch.offset_cons, Op.lookupswitch.offset_nil, e1, e2, e3, e4, e5, e6]) (by decide) ?_
      refine sj_ild4 dX8_spreadPart_248 ?_
      refine sj_sipush dX8_spreadPart_250 (by decide) ?_
      refine sj_icmp_lt 280 dX8_spreadPart_253 (by decide) (by omega) (by omega) (fun c_253 => ?_) (fun c_253 => ?_)
      rotate_left
      · (exfalso; omega)
      exact sj_vret dX8_spreadPart_280 rfl (Nat.le_of_ble_eq_true rfl) (Nat.le_of_ble_eq_true rfl) ⟨rfl, rfl, spO.zero a⟩
  · have e1 : ¬ 42 = c := by omega
    have e2 : ¬ 43 = c := by omega
    have e3 : ¬ 101 = c := by omega
    have e4 : ¬ 111 = c := by omega
    have e5 : ¬ 116 = c := by omega
    have e6 : ¬ 122 = c := by omega
    refine sj_ald1 dX8_spreadPart_0 ?_
    refine sj_getR fl_X8_36 (by assumption) rfl (tR_1 _) dX8_spreadPart_1 ?_
    refine sj_ild2 dX8_spreadPart_4 ?_
    refine sj_ialdJ (p) (by assumption) (by omega) (by omega) (by omega) dX8_spreadPart_5 ?_
    rw [hcd]
    refine sj_ist4 (by decide) rfl dX8_spreadPart_6 ?_
    refine sj_ild3 dX8_spreadPart_8 ?_
    refine sj_iconst dX8_spreadPart_9 ?_
    refine sj_icmp_eq 17 dX8_spreadPart_10 (by decide) (by omega) (by omega) (fun c_10 => ?_) (fun c_10 => ?_)
    · refine sj_iconst dX8_spreadPart_17 ?_
      refine sj_ist5 (by decide) rfl dX8_spreadPart_18 ?_
      refine sj_ild4 dX8_spreadPart_20 ?_
      refine sj_lookup (off := 226) 248 dX8_spreadPart_22 (by decide) (by omega) (by simp [Op.lookupswitch.offset_cons, Op.lookupswitch.offset_nil, e1, e2, e3, e4, e5, e6]) (by decide) ?_
      refine sj_ild4 dX8_spreadPart_248 ?_
      refine sj_sipush dX8_spreadPart_250 (by decide) ?_
      refine sj_icmp_lt 280 dX8_spreadPart_253 (by decide) (by omega) (by omega) (fun c_253 => ?_) (fun c_253 => ?_)
      rotate_left
      · (exfalso; omega)
      exact sj_vret dX8_spreadPart_280 rfl (Nat.le_of_ble_eq_true rfl) (Nat.le_of_ble_eq_true rfl) ⟨rfl, rfl, spO.zero a⟩
    · refine sj_iconst dX8_spreadPart_13 ?_
      refine sj_goto 18 dX8_spreadPart_14 (by decide) ?_
      refine sj_ist5 (by decide) rfl dX8_spreadPart_18 ?_
      refine sj_ild4 dX8_spreadPart_20 ?_
      refine sj_lookup (off := 226) 248 dX8_spreadPart_22 (by decide) (by omega) (by simp [Op.lookupswitch.offset_cons, Op.lookupswitch.offset_nil, e1, e2, e3, e4, e5, e6]) (by decide) ?_
      refine sj_ild4 dX8_spreadPart_248 ?_
      refine sj_sipush dX8_spreadPart_250 (by decide) ?_
      refine sj_icmp_lt 280 dX8_spreadPart_253 (by decide) (by omega) (by omega) (fun c_253 => ?_) (fun c_253 => ?_)
      rotate_left
      · (exfalso; omega)
      exact sj_vret dX8_spreadPart_280 rfl (Nat.le_of_ble_eq_true rfl) (Nat.le_of_ble_eq_true rfl) ⟨rfl, rfl, spO.zero a⟩
  · obtain ⟨g, g'⟩ := two a
    have hx := chI_op (s := s) k
    rcases k with rfl | rfl
    · refine sj_ald1 dX8_spreadPart_0 ?_
      refine sj_getR fl_X8_36 (by assumption) rfl (tR_1 _) dX8_spreadPart_1 ?_
      refine sj_ild2 dX8_spreadPart_4 ?_
      refine sj_ialdJ (p) (by assumption) (by omega) (by omega) (by omega) dX8_spreadPart_5 ?_
      rw [hcd]
      refine sj_ist4 (by decide) rfl dX8_spreadPart_6 ?_
      refine sj_ild3 dX8_spreadPart_8 ?_
      refine sj_iconst dX8_spreadPart_9 ?_
      refine sj_icmp_eq 17 dX8_spreadPart_10 (by decide) (by omega) (by omega) (fun c_10 => ?_) (fun c_10 => ?_)
      · refine sj_iconst dX8_spreadPart_17 ?_
        refine sj_ist5 (by decide) rfl dX8_spreadPart_18 ?_
        refine sj_ild4 dX8_spreadPart_20 ?_
        refine sj_lookup (off := 58) 80 dX8_spreadPart_22 (by decide) (by omega) (by rfl) (by decide) ?_
        refine sj_ald0 dX8_spreadPart_80 ?_
        refine sj_getR fl_X8_9 (by assumption) rfl (wR_0 _) dX8_spreadPart_81 ?_
        refine sj_ild2 dX8_spreadPart_84 ?_
        refine sj_iconst dX8_spreadPart_85 ?_
        refine sj_iadd dX8_spreadPart_86 ?_
        refine sj_ild3 dX8_spreadPart_87 ?_
        refine sj_iastJ (p + 1) (by assumption) (by omega) (by omega) (by omega) dX8_spreadPart_88 ?_
        refine sj_ald0 dX8_spreadPart_89 ?_
        refine sj_getR fl_X8_9 (by assumption) rfl (wR_0 _) dX8_spreadPart_90 ?_
        refine sj_ald1 dX8_spreadPart_93 ?_
        refine sj_getR fl_X8_39 (by assumption) rfl (tR_2 _) dX8_spreadPart_94 ?_
        refine sj_ild2 dX8_spreadPart_97 ?_
        refine sj_iconst dX8_spreadPart_98 ?_
        refine sj_iadd dX8_spreadPart_99 ?_
        refine sj_ialdJ (p + 1) (by assumption) (by omega) (by omega) (by omega) dX8_spreadPart_100 ?_
        rw [sj_up_row (by omega), g']
        refine sj_ild3 dX8_spreadPart_101 ?_
        refine sj_iastJ (jEe T (p + 1)) (by assumption) (by omega) (by omega) (by omega) dX8_spreadPart_102 ?_
        refine sj_goto 280 dX8_spreadPart_103 (by decide) ?_
        exact sj_vret dX8_spreadPart_280 rfl (Nat.le_of_ble_eq_true rfl) (Nat.le_of_ble_eq_true rfl) ⟨rfl, rfl, spO.two a hx g.2.2.1 g.2.2.2⟩
      · refine sj_iconst dX8_spreadPart_13 ?_
        refine sj_goto 18 dX8_spreadPart_14 (by decide) ?_
        refine sj_ist5 (by decide) rfl dX8_spreadPart_18 ?_
        refine sj_ild4 dX8_spreadPart_20 ?_
        refine sj_lookup (off := 58) 80 dX8_spreadPart_22 (by decide) (by omega) (by rfl) (by decide) ?_
        refine sj_ald0 dX8_spreadPart_80 ?_
        refine sj_getR fl_X8_9 (by assumption) rfl (wR_0 _) dX8_spreadPart_81 ?_
        refine sj_ild2 dX8_spreadPart_84 ?_
        refine sj_iconst dX8_spreadPart_85 ?_
        refine sj_iadd dX8_spreadPart_86 ?_
        refine sj_ild3 dX8_spreadPart_87 ?_
        refine sj_iastJ (p + 1) (by assumption) (by omega) (by omega) (by omega) dX8_spreadPart_88 ?_
        refine sj_ald0 dX8_spreadPart_89 ?_
        refine sj_getR fl_X8_9 (by assumption) rfl (wR_0 _) dX8_spreadPart_90 ?_
        refine sj_ald1 dX8_spreadPart_93 ?_
        refine sj_getR fl_X8_39 (by assumption) rfl (tR_2 _) dX8_spreadPart_94 ?_
        refine sj_ild2 dX8_spreadPart_97 ?_
        refine sj_iconst dX8_spreadPart_98 ?_
        refine sj_iadd dX8_spreadPart_99 ?_
        refine sj_ialdJ (p + 1) (by assumption) (by omega) (by omega) (by omega) dX8_spreadPart_100 ?_
        rw [sj_up_row (by omega), g']
        refine sj_ild3 dX8_spreadPart_101 ?_
        refine sj_iastJ (jEe T (p + 1)) (by assumption) (by omega) (by omega) (by omega) dX8_spreadPart_102 ?_
        refine sj_goto 280 dX8_spreadPart_103 (by decide) ?_
        exact sj_vret dX8_spreadPart_280 rfl (Nat.le_of_ble_eq_true rfl) (Nat.le_of_ble_eq_true rfl) ⟨rfl, rfl, spO.two a hx g.2.2.1 g.2.2.2⟩
    · refine sj_ald1 dX8_spreadPart_0 ?_
      refine sj_getR fl_X8_36 (by assumption) rfl (tR_1 _) dX8_spreadPart_1 ?_
      refine sj_ild2 dX8_spreadPart_4 ?_
      refine sj_ialdJ (p) (by assumption) (by omega) (by omega) (by omega) dX8_spreadPart_5 ?_
      rw [hcd]
      refine sj_ist4 (by decide) rfl dX8_spreadPart_6 ?_
      refine sj_ild3 dX8_spreadPart_8 ?_
      refine sj_iconst dX8_spreadPart_9 ?_
      refine sj_icmp_eq 17 dX8_spreadPart_10 (by decide) (by omega) (by omega) (fun c_10 => ?_) (fun c_10 => ?_)
      · refine sj_iconst dX8_spreadPart_17 ?_
        refine sj_ist5 (by decide) rfl dX8_spreadPart_18 ?_
        refine sj_ild4 dX8_spreadPart_20 ?_
        refine sj_lookup (off := 58) 80 dX8_spreadPart_22 (by decide) (by omega) (by rfl) (by decide) ?_
        refine sj_ald0 dX8_spreadPart_80 ?_
        refine sj_getR fl_X8_9 (by assumption) rfl (wR_0 _) dX8_spreadPart_81 ?_
        refine sj_ild2 dX8_spreadPart_84 ?_
        refine sj_iconst dX8_spreadPart_85 ?_
        refine sj_iadd dX8_spreadPart_86 ?_
        refine sj_ild3 dX8_spreadPart_87 ?_
        refine sj_iastJ (p + 1) (by assumption) (by omega) (by omega) (by omega) dX8_spreadPart_88 ?_
        refine sj_ald0 dX8_spreadPart_89 ?_
        refine sj_getR fl_X8_9 (by assumption) rfl (wR_0 _) dX8_spreadPart_90 ?_
        refine sj_ald1 dX8_spreadPart_93 ?_
        refine sj_getR fl_X8_39 (by assumption) rfl (tR_2 _) dX8_spreadPart_94 ?_
        refine sj_ild2 dX8_spreadPart_97 ?_
        refine sj_iconst dX8_spreadPart_98 ?_
        refine sj_iadd dX8_spreadPart_99 ?_
        refine sj_ialdJ (p + 1) (by assumption) (by omega) (by omega) (by omega) dX8_spreadPart_100 ?_
        rw [sj_up_row (by omega), g']
        refine sj_ild3 dX8_spreadPart_101 ?_
        refine sj_iastJ (jEe T (p + 1)) (by assumption) (by omega) (by omega) (by omega) dX8_spreadPart_102 ?_
        refine sj_goto 280 dX8_spreadPart_103 (by decide) ?_
        exact sj_vret dX8_spreadPart_280 rfl (Nat.le_of_ble_eq_true rfl) (Nat.le_of_ble_eq_true rfl) ⟨rfl, rfl, spO.two a hx g.2.2.1 g.2.2.2⟩
      · refine sj_iconst dX8_spreadPart_13 ?_
        refine sj_goto 18 dX8_spreadPart_14 (by decide) ?_
        refine sj_ist5 (by decide) rfl dX8_spreadPart_18 ?_
        refine sj_ild4 dX8_spreadPart_20 ?_
        refine sj_lookup (off := 58) 80 dX8_spreadPart_22 (by decide) (by omega) (by rfl) (by decide) ?_
        refine sj_ald0 dX8_spreadPart_80 ?_
        refine sj_getR fl_X8_9 (by assumption) rfl (wR_0 _) dX8_spreadPart_81 ?_
        refine sj_ild2 dX8_spreadPart_84 ?_
        refine sj_iconst dX8_spreadPart_85 ?_
        refine sj_iadd dX8_spreadPart_86 ?_
        refine sj_ild3 dX8_spreadPart_87 ?_
        refine sj_iastJ (p + 1) (by assumption) (by omega) (by omega) (by omega) dX8_spreadPart_88 ?_
        refine sj_ald0 dX8_spreadPart_89 ?_
        refine sj_getR fl_X8_9 (by assumption) rfl (wR_0 _) dX8_spreadPart_90 ?_
        refine sj_ald1 dX8_spreadPart_93 ?_
        refine sj_getR fl_X8_39 (by assumption) rfl (tR_2 _) dX8_spreadPart_94 ?_
        refine sj_ild2 dX8_spreadPart_97 ?_
        refine sj_iconst dX8_spreadPart_98 ?_
        refine sj_iadd dX8_spreadPart_99 ?_
        refine sj_ialdJ (p + 1) (by assumption) (by omega) (by omega) (by omega) dX8_spreadPart_100 ?_
        rw [sj_up_row (by omega), g']
        refine sj_ild3 dX8_spreadPart_101 ?_
        refine sj_iastJ (jEe T (p + 1)) (by assumption) (by omega) (by omega) (by omega) dX8_spreadPart_102 ?_
        refine sj_goto 280 dX8_spreadPart_103 (by decide) ?_
        exact sj_vret dX8_spreadPart_280 rfl (Nat.le_of_ble_eq_true rfl) (Nat.le_of_ble_eq_true rfl) ⟨rfl, rfl, spO.two a hx g.2.2.1 g.2.2.2⟩
  · obtain ⟨g, g'⟩ := two a
    have hx := chI_z (s := s)
    by_cases e : s = -1
    · subst e
      rw [if_pos rfl] at hx
      refine sj_ald1 dX8_spreadPart_0 ?_
      refine sj_getR fl_X8_36 (by assumption) rfl (tR_1 _) dX8_spreadPart_1 ?_
      refine sj_ild2 dX8_spreadPart_4 ?_
      refine sj_ialdJ (p) (by assumption) (by omega) (by omega) (by omega) dX8_spreadPart_5 ?_
      rw [hcd]
      refine sj_ist4 (by decide) rfl dX8_spreadPart_6 ?_
      refine sj_ild3 dX8_spreadPart_8 ?_
      refine sj_iconst dX8_spreadPart_9 ?_
      refine sj_icmp_eq 17 dX8_spreadPart_10 (by decide) (by omega) (by omega) (fun c_10 => ?_) (fun c_10 => ?_)
      rotate_left
      · (exfalso; omega)
      refine sj_iconst dX8_spreadPart_17 ?_
      refine sj_ist5 (by decide) rfl dX8_spreadPart_18 ?_
      refine sj_ild4 dX8_spreadPart_20 ?_
      refine sj_lookup (off := 84) 106 dX8_spreadPart_22 (by decide) (by omega) (by rfl) (by decide) ?_
      refine sj_ild3 dX8_spreadPart_106 ?_
      refine sj_iconst dX8_spreadPart_107 ?_
      refine sj_irem1 dX8_spreadPart_108 ?_
      refine sj_if_ne 116 dX8_spreadPart_109 (by decide) (by omega) (fun c_109 => ?_) (fun c_109 => ?_)
      rotate_left
      · (exfalso; omega)
      refine sj_iconst dX8_spreadPart_116 ?_
      refine sj_ist6 (by decide) rfl dX8_spreadPart_117 ?_
      refine sj_ald0 dX8_spreadPart_119 ?_
      refine sj_getR fl_X8_9 (by assumption) rfl (wR_0 _) dX8_spreadPart_120 ?_
      refine sj_ild2 dX8_spreadPart_123 ?_
      refine sj_iconst dX8_spreadPart_124 ?_
      refine sj_iadd dX8_spreadPart_125 ?_
      refine sj_ild5 dX8_spreadPart_126 ?_
      refine sj_if_eq 142 dX8_spreadPart_128 (by decide) (by omega) (fun c_128 => ?_) (fun c_128 => ?_)
      rotate_left
      · (exfalso; omega)
      refine sj_iconst dX8_spreadPart_142 ?_
      refine sj_iastJ (p + 1) (by assumption) (by omega) (by omega) (by omega) dX8_spreadPart_143 ?_
      refine sj_ald0 dX8_spreadPart_144 ?_
      refine sj_getR fl_X8_9 (by assumption) rfl (wR_0 _) dX8_spreadPart_145 ?_
      refine sj_ald1 dX8_spreadPart_148 ?_
      refine sj_getR fl_X8_39 (by assumption) rfl (tR_2 _) dX8_spreadPart_149 ?_
      refine sj_ild2 dX8_spreadPart_152 ?_
      refine sj_iconst dX8_spreadPart_153 ?_
      refine sj_iadd dX8_spreadPart_154 ?_
      refine sj_ialdJ (p + 1) (by assumption) (by omega) (by omega) (by omega) dX8_spreadPart_155 ?_
      rw [sj_up_row (by omega), g']
      refine sj_ild5 dX8_spreadPart_156 ?_
      refine sj_if_eq 172 dX8_spreadPart_158 (by decide) (by omega) (fun c_158 => ?_) (fun c_158 => ?_)
      rotate_left
      · (exfalso; omega)
      refine sj_iconst dX8_spreadPart_172 ?_
      refine sj_iastJ (jEe T (p + 1)) (by assumption) (by omega) (by omega) (by omega) dX8_spreadPart_173 ?_
      refine sj_goto 280 dX8_spreadPart_174 (by decide) ?_
      exact sj_vret dX8_spreadPart_280 rfl (Nat.le_of_ble_eq_true rfl) (Nat.le_of_ble_eq_true rfl) ⟨rfl, rfl, spO.two a hx g.2.2.1 g.2.2.2⟩
    · rw [if_neg e] at hx
      by_cases e2 : s % 2 = 0
      · rw [if_pos e2] at hx
        refine sj_ald1 dX8_spreadPart_0 ?_
        refine sj_getR fl_X8_36 (by assumption) rfl (tR_1 _) dX8_spreadPart_1 ?_
        refine sj_ild2 dX8_spreadPart_4 ?_
        refine sj_ialdJ (p) (by assumption) (by omega) (by omega) (by omega) dX8_spreadPart_5 ?_
        rw [hcd]
        refine sj_ist4 (by decide) rfl dX8_spreadPart_6 ?_
        refine sj_ild3 dX8_spreadPart_8 ?_
        refine sj_iconst dX8_spreadPart_9 ?_
        refine sj_icmp_eq 17 dX8_spreadPart_10 (by decide) (by omega) (by omega) (fun c_10 => ?_) (fun c_10 => ?_)
        · (exfalso; omega)
        refine sj_iconst dX8_spreadPart_13 ?_
        refine sj_goto 18 dX8_spreadPart_14 (by decide) ?_
        refine sj_ist5 (by decide) rfl dX8_spreadPart_18 ?_
        refine sj_ild4 dX8_spreadPart_20 ?_
        refine sj_lookup (off := 84) 106 dX8_spreadPart_22 (by decide) (by omega) (by rfl) (by decide) ?_
        refine sj_ild3 dX8_spreadPart_106 ?_
        refine sj_iconst dX8_spreadPart_107 ?_
        refine sj_irem dX8_spreadPart_108 (by omega) (by omega) ?_
        refine sj_if_ne 116 dX8_spreadPart_109 (by decide) (by omega) (fun c_109 => ?_) (fun c_109 => ?_)
        · (exfalso; omega)
        refine sj_iconst dX8_spreadPart_112 ?_
        refine sj_goto 117 dX8_spreadPart_113 (by decide) ?_
        refine sj_ist6 (by decide) rfl dX8_spreadPart_117 ?_
        refine sj_ald0 dX8_spreadPart_119 ?_
        refine sj_getR fl_X8_9 (by assumption) rfl (wR_0 _) dX8_spreadPart_120 ?_
        refine sj_ild2 dX8_spreadPart_123 ?_
        refine sj_iconst dX8_spreadPart_124 ?_
        refine sj_iadd dX8_spreadPart_125 ?_
        refine sj_ild5 dX8_spreadPart_126 ?_
        refine sj_if_eq 142 dX8_spreadPart_128 (by decide) (by omega) (fun c_128 => ?_) (fun c_128 => ?_)
        · (exfalso; omega)
        refine sj_ild6 dX8_spreadPart_131 ?_
        refine sj_if_eq 142 dX8_spreadPart_133 (by decide) (by omega) (fun c_133 => ?_) (fun c_133 => ?_)
        · (exfalso; omega)
        refine sj_ild3 dX8_spreadPart_136 ?_
        refine sj_iconst dX8_spreadPart_137 ?_
        refine sj_idiv dX8_spreadPart_138 (by omega) (by omega) ?_
        refine sj_goto 143 dX8_spreadPart_139 (by decide) ?_
        refine sj_iastJ (p + 1) (by assumption) (by omega) (by omega) (by omega) dX8_spreadPart_143 ?_
        refine sj_ald0 dX8_spreadPart_144 ?_
        refine sj_getR fl_X8_9 (by assumption) rfl (wR_0 _) dX8_spreadPart_145 ?_
        refine sj_ald1 dX8_spreadPart_148 ?_
        refine sj_getR fl_X8_39 (by assumption) rfl (tR_2 _) dX8_spreadPart_149 ?_
        refine sj_ild2 dX8_spreadPart_152 ?_
        refine sj_iconst dX8_spreadPart_153 ?_
        refine sj_iadd dX8_spreadPart_154 ?_
        refine sj_ialdJ (p + 1) (by assumption) (by omega) (by omega) (by omega) dX8_spreadPart_155 ?_
        rw [sj_up_row (by omega), g']
        refine sj_ild5 dX8_spreadPart_156 ?_
        refine sj_if_eq 172 dX8_spreadPart_158 (by decide) (by omega) (fun c_158 => ?_) (fun c_158 => ?_)
        · (exfalso; omega)
        refine sj_ild6 dX8_spreadPart_161 ?_
        refine sj_if_ne 172 dX8_spreadPart_163 (by decide) (by omega) (fun c_163 => ?_) (fun c_163 => ?_)
        rotate_left
        · (exfalso; omega)
        refine sj_iconst dX8_spreadPart_172 ?_
        refine sj_iastJ (jEe T (p + 1)) (by assumption) (by omega) (by omega) (by omega) dX8_spreadPart_173 ?_
        refine sj_goto 280 dX8_spreadPart_174 (by decide) ?_
        exact sj_vret dX8_spreadPart_280 rfl (Nat.le_of_ble_eq_true rfl) (Nat.le_of_ble_eq_true rfl) ⟨rfl, rfl, spO.two a hx g.2.2.1 g.2.2.2⟩
      · rw [if_neg e2] at hx
        refine sj_ald1 dX8_spreadPart_0 ?_
        refine sj_getR fl_X8_36 (by assumption) rfl (tR_1 _) dX8_spreadPart_1 ?_
        refine sj_ild2 dX8_spreadPart_4 ?_
        refine sj_ialdJ (p) (by assumption) (by omega) (by omega) (by omega) dX8_spreadPart_5 ?_
        rw [hcd]
        refine sj_ist4 (by decide) rfl dX8_spreadPart_6 ?_
        refine sj_ild3 dX8_spreadPart_8 ?_
        refine sj_iconst dX8_spreadPart_9 ?_
        refine sj_icmp_eq 17 dX8_spreadPart_10 (by decide) (by omega) (by omega) (fun c_10 => ?_) (fun c_10 => ?_)
        · (exfalso; omega)
        refine sj_iconst dX8_spreadPart_13 ?_
        refine sj_goto 18 dX8_spreadPart_14 (by decide) ?_
        refine sj_ist5 (by decide) rfl dX8_spreadPart_18 ?_
        refine sj_ild4 dX8_spreadPart_20 ?_
        refine sj_lookup (off := 84) 106 dX8_spreadPart_22 (by decide) (by omega) (by rfl) (by decide) ?_
        refine sj_ild3 dX8_spreadPart_106 ?_
        refine sj_iconst dX8_spreadPart_107 ?_
        refine sj_irem dX8_spreadPart_108 (by omega) (by omega) ?_
        refine sj_if_ne 116 dX8_spreadPart_109 (by decide) (by omega) (fun c_109 => ?_) (fun c_109 => ?_)
        rotate_left
        · (exfalso; omega)
        refine sj_iconst dX8_spreadPart_116 ?_
        refine sj_ist6 (by decide) rfl dX8_spreadPart_117 ?_
        refine sj_ald0 dX8_spreadPart_119 ?_
        refine sj_getR fl_X8_9 (by assumption) rfl (wR_0 _) dX8_spreadPart_120 ?_
        refine sj_ild2 dX8_spreadPart_123 ?_
        refine sj_iconst dX8_spreadPart_124 ?_
        refine sj_iadd dX8_spreadPart_125 ?_
        refine sj_ild5 dX8_spreadPart_126 ?_
        refine sj_if_eq 142 dX8_spreadPart_128 (by decide) (by omega) (fun c_128 => ?_) (fun c_128 => ?_)
        · (exfalso; omega)
        refine sj_ild6 dX8_spreadPart_131 ?_
        refine sj_if_eq 142 dX8_spreadPart_133 (by decide) (by omega) (fun c_133 => ?_) (fun c_133 => ?_)
        rotate_left
        · (exfalso; omega)
        refine sj_iconst dX8_spreadPart_142 ?_
        refine sj_iastJ (p + 1) (by assumption) (by omega) (by omega) (by omega) dX8_spreadPart_143 ?_
        refine sj_ald0 dX8_spreadPart_144 ?_
        refine sj_getR fl_X8_9 (by assumption) rfl (wR_0 _) dX8_spreadPart_145 ?_
        refine sj_ald1 dX8_spreadPart_148 ?_
        refine sj_getR fl_X8_39 (by assumption) rfl (tR_2 _) dX8_spreadPart_149 ?_
        refine sj_ild2 dX8_spreadPart_152 ?_
        refine sj_iconst dX8_spreadPart_153 ?_
        refine sj_iadd dX8_spreadPart_154 ?_
        refine sj_ialdJ (p + 1) (by assumption) (by omega) (by omega) (by omega) dX8_spreadPart_155 ?_
        rw [sj_up_row (by omega), g']
        refine sj_ild5 dX8_spreadPart_156 ?_
        refine sj_if_eq 172 dX8_spreadPart_158 (by decide) (by omega) (fun c_158 => ?_) (fun c_158 => ?_)
        · (exfalso; omega)
        refine sj_ild6 dX8_spreadPart_161 ?_
        refine sj_if_ne 172 dX8_spreadPart_163 (by decide) (by omega) (fun c_163 => ?_) (fun c_163 => ?_)
        · (exfalso; omega)
        refine sj_ild3 dX8_spreadPart_166 ?_
        refine sj_iconst dX8_spreadPart_167 ?_
        refine sj_idiv dX8_spreadPart_168 (by omega) (by omega) ?_
        refine sj_goto 173 dX8_spreadPart_169 (by decide) ?_
        refine sj_iastJ (jEe T (p + 1)) (by assumption) (by omega) (by omega) (by omega) dX8_spreadPart_173 ?_
        refine sj_goto 280 dX8_spreadPart_174 (by decide) ?_
        exact sj_vret dX8_spreadPart_280 rfl (Nat.le_of_ble_eq_true rfl) (Nat.le_of_ble_eq_true rfl) ⟨rfl, rfl, spO.two a hx g.2.2.1 g.2.2.2⟩
  · have g := one a
    have hx := chI_t (s := s)
    by_cases e : s = -1
    · subst e
      rw [if_pos rfl] at hx
      refine sj_ald1 dX8_spreadPart_0 ?_
      refine sj_getR fl_X8_36 (by assumption) rfl (tR_1 _) dX8_spreadPart_1 ?_
      refine sj_ild2 dX8_spreadPart_4 ?_
      refine sj_ialdJ (p) (by assumption) (by omega) (by omega) (by omega) dX8_spreadPart_5 ?_
      rw [hcd]
      refine sj_ist4 (by decide) rfl dX8_spreadPart_6 ?_
      refine sj_ild3 dX8_spreadPart_8 ?_
      refine sj_iconst dX8_spreadPart_9 ?_
      refine sj_icmp_eq 17 dX8_spreadPart_10 (by decide) (by omega) (by omega) (fun c_10 => ?_) (fun c_10 => ?_)
      rotate_left
      · (exfalso; omega)
      refine sj_iconst dX8_spreadPart_17 ?_
      refine sj_ist5 (by decide) rfl dX8_spreadPart_18 ?_
      refine sj_ild4 dX8_spreadPart_20 ?_
      refine sj_lookup (off := 155) 177 dX8_spreadPart_22 (by decide) (by omega) (by rfl) (by decide) ?_
      refine sj_ald0 dX8_spreadPart_177 ?_
      refine sj_getR fl_X8_9 (by assumption) rfl (wR_0 _) dX8_spreadPart_178 ?_
      refine sj_ild2 dX8_spreadPart_181 ?_
      refine sj_iconst dX8_spreadPart_182 ?_
      refine sj_iadd dX8_spreadPart_183 ?_
      refine sj_ild5 dX8_spreadPart_184 ?_
      refine sj_if_eq 195 dX8_spreadPart_186 (by decide) (by omega) (fun c_186 => ?_) (fun c_186 => ?_)
      rotate_left
      · (exfalso; omega)
      refine sj_iconst dX8_spreadPart_195 ?_
      refine sj_iastJ (p + 1) (by assumption) (by omega) (by omega) (by omega) dX8_spreadPart_196 ?_
      refine sj_goto 280 dX8_spreadPart_197 (by decide) ?_
      exact sj_vret dX8_spreadPart_280 rfl (Nat.le_of_ble_eq_true rfl) (Nat.le_of_ble_eq_true rfl) ⟨rfl, rfl, spO.one a hx g.2⟩
    · rw [if_neg e] at hx
      refine sj_ald1 dX8_spreadPart_0 ?_
      refine sj_getR fl_X8_36 (by assumption) rfl (tR_1 _) dX8_spreadPart_1 ?_
      refine sj_ild2 dX8_spreadPart_4 ?_
      refine sj_ialdJ (p) (by assumption) (by omega) (by omega) (by omega) dX8_spreadPart_5 ?_
      rw [hcd]
      refine sj_ist4 (by decide) rfl dX8_spreadPart_6 ?_
      refine sj_ild3 dX8_spreadPart_8 ?_
      refine sj_iconst dX8_spreadPart_9 ?_
      refine sj_icmp_eq 17 dX8_spreadPart_10 (by decide) (by omega) (by omega) (fun c_10 => ?_) (fun c_10 => ?_)
      · (exfalso; omega)
      refine sj_iconst dX8_spreadPart_13 ?_
      refine sj_goto 18 dX8_spreadPart_14 (by decide) ?_
      refine sj_ist5 (by decide) rfl dX8_spreadPart_18 ?_
      refine sj_ild4 dX8_spreadPart_20 ?_
      refine sj_lookup (off := 155) 177 dX8_spreadPart_22 (by decide) (by omega) (by rfl) (by decide) ?_
      refine sj_ald0 dX8_spreadPart_177 ?_
      refine sj_getR fl_X8_9 (by assumption) rfl (wR_0 _) dX8_spreadPart_178 ?_
      refine sj_ild2 dX8_spreadPart_181 ?_
      refine sj_iconst dX8_spreadPart_182 ?_
      refine sj_iadd dX8_spreadPart_183 ?_
      refine sj_ild5 dX8_spreadPart_184 ?_
      refine sj_if_eq 195 dX8_spreadPart_186 (by decide) (by omega) (fun c_186 => ?_) (fun c_186 => ?_)
      · (exfalso; omega)
      refine sj_ild3 dX8_spreadPart_189 ?_
      refine sj_iconst dX8_spreadPart_190 ?_
      refine sj_iadd dX8_spreadPart_191 ?_
      refine sj_goto 196 dX8_spreadPart_192 (by decide) ?_
      refine sj_iastJ (p + 1) (by assumption) (by omega) (by omega) (by omega) dX8_spreadPart_196 ?_
      refine sj_goto 280 dX8_spreadPart_197 (by decide) ?_
      exact sj_vret dX8_spreadPart_280 rfl (Nat.le_of_ble_eq_true rfl) (Nat.le_of_ble_eq_true rfl) ⟨rfl, rfl, spO.one a hx g.2⟩
  · have g := one a
    have hx := chI_e (s := s)
    by_cases e : s = -1
    · subst e
      rw [if_pos rfl] at hx
      refine sj_ald1 dX8_spreadPart_0 ?_
      refine sj_getR fl_X8_36 (by assumption) rfl (tR_1 _) dX8_spreadPart_1 ?_
      refine sj_ild2 dX8_spreadPart_4 ?_
      refine sj_ialdJ (p) (by assumption) (by omega) (by omega) (by omega) dX8_spreadPart_5 ?_
      rw [hcd]
      refine sj_ist4 (by decide) rfl dX8_spreadPart_6 ?_
      refine sj_ild3 dX8_spreadPart_8 ?_
      refine sj_iconst dX8_spreadPart_9 ?_
      refine sj_icmp_eq 17 dX8_spreadPart_10 (by decide) (by omega) (by omega) (fun c_10 => ?_) (fun c_10 => ?_)
      rotate_left
      · (exfalso; omega)
      refine sj_iconst dX8_spreadPart_17 ?_
      refine sj_ist5 (by decide) rfl dX8_spreadPart_18 ?_
      refine sj_ild4 dX8_spreadPart_20 ?_
      refine sj_lookup (off := 178) 200 dX8_spreadPart_22 (by decide) (by omega) (by rfl) (by decide) ?_
      refine sj_ald0 dX8_spreadPart_200 ?_
      refine sj_getR fl_X8_9 (by assumption) rfl (wR_0 _) dX8_spreadPart_201 ?_
      refine sj_ild2 dX8_spreadPart_204 ?_
      refine sj_iconst dX8_spreadPart_205 ?_
      refine sj_iadd dX8_spreadPart_206 ?_
      refine sj_ild5 dX8_spreadPart_207 ?_
      refine sj_if_eq 218 dX8_spreadPart_209 (by decide) (by omega) (fun c_209 => ?_) (fun c_209 => ?_)
      rotate_left
      · (exfalso; omega)
      refine sj_iconst dX8_spreadPart_218 ?_
      refine sj_iastJ (p + 1) (by assumption) (by omega) (by omega) (by omega) dX8_spreadPart_219 ?_
      refine sj_goto 280 dX8_spreadPart_220 (by decide) ?_
      exact sj_vret dX8_spreadPart_280 rfl (Nat.le_of_ble_eq_true rfl) (Nat.le_of_ble_eq_true rfl) ⟨rfl, rfl, spO.one a hx g.2⟩
    · rw [if_neg e] at hx
      refine sj_ald1 dX8_spreadPart_0 ?_
      refine sj_getR fl_X8_36 (by assumption) rfl (tR_1 _) dX8_spreadPart_1 ?_
      refine sj_ild2 dX8_spreadPart_4 ?_
      refine sj_ialdJ (p) (by assumption) (by omega) (by omega) (by omega) dX8_spreadPart_5 ?_
      rw [hcd]
      refine sj_ist4 (by decide) rfl dX8_spreadPart_6 ?_
      refine sj_ild3 dX8_spreadPart_8 ?_
      refine sj_iconst dX8_spreadPart_9 ?_
      refine sj_icmp_eq 17 dX8_spreadPart_10 (by decide) (by omega) (by omega) (fun c_10 => ?_) (fun c_10 => ?_)
      · (exfalso; omega)
      refine sj_iconst dX8_spreadPart_13 ?_
      refine sj_goto 18 dX8_spreadPart_14 (by decide) ?_
      refine sj_ist5 (by decide) rfl dX8_spreadPart_18 ?_
      refine sj_ild4 dX8_spreadPart_20 ?_
      refine sj_lookup (off := 178) 200 dX8_spreadPart_22 (by decide) (by omega) (by rfl) (by decide) ?_
      refine sj_ald0 dX8_spreadPart_200 ?_
      refine sj_getR fl_X8_9 (by assumption) rfl (wR_0 _) dX8_spreadPart_201 ?_
      refine sj_ild2 dX8_spreadPart_204 ?_
      refine sj_iconst dX8_spreadPart_205 ?_
      refine sj_iadd dX8_spreadPart_206 ?_
      refine sj_ild5 dX8_spreadPart_207 ?_
      refine sj_if_eq 218 dX8_spreadPart_209 (by decide) (by omega) (fun c_209 => ?_) (fun c_209 => ?_)
      · (exfalso; omega)
      refine sj_iconst dX8_spreadPart_212 ?_
      refine sj_ild3 dX8_spreadPart_213 ?_
      refine sj_imul dX8_spreadPart_214 ?_
      refine sj_goto 219 dX8_spreadPart_215 (by decide) ?_
      refine sj_iastJ (p + 1) (by assumption) (by omega) (by omega) (by omega) dX8_spreadPart_219 ?_
      refine sj_goto 280 dX8_spreadPart_220 (by decide) ?_
      exact sj_vret dX8_spreadPart_280 rfl (Nat.le_of_ble_eq_true rfl) (Nat.le_of_ble_eq_true rfl) ⟨rfl, rfl, spO.one a hx g.2⟩
  · have g := one a
    have hx := chI_o (s := s)
    by_cases e : s = -1
    · subst e
      rw [if_pos rfl] at hx
      refine sj_ald1 dX8_spreadPart_0 ?_
      refine sj_getR fl_X8_36 (by assumption) rfl (tR_1 _) dX8_spreadPart_1 ?_
      refine sj_ild2 dX8_spreadPart_4 ?_
      refine sj_ialdJ (p) (by assumption) (by omega) (by omega) (by omega) dX8_spreadPart_5 ?_
      rw [hcd]
      refine sj_ist4 (by decide) rfl dX8_spreadPart_6 ?_
      refine sj_ild3 dX8_spreadPart_8 ?_
      refine sj_iconst dX8_spreadPart_9 ?_
      refine sj_icmp_eq 17 dX8_spreadPart_10 (by decide) (by omega) (by omega) (fun c_10 => ?_) (fun c_10 => ?_)
      rotate_left
      · (exfalso; omega)
      refine sj_iconst dX8_spreadPart_17 ?_
      refine sj_ist5 (by decide) rfl dX8_spreadPart_18 ?_
      refine sj_ild4 dX8_spreadPart_20 ?_
      refine sj_lookup (off := 201) 223 dX8_spreadPart_22 (by decide) (by omega) (by rfl) (by decide) ?_
      refine sj_ald0 dX8_spreadPart_223 ?_
      refine sj_getR fl_X8_9 (by assumption) rfl (wR_0 _) dX8_spreadPart_224 ?_
      refine sj_ild2 dX8_spreadPart_227 ?_
      refine sj_iconst dX8_spreadPart_228 ?_
      refine sj_iadd dX8_spreadPart_229 ?_
      refine sj_ild5 dX8_spreadPart_230 ?_
      refine sj_if_eq 243 dX8_spreadPart_232 (by decide) (by omega) (fun c_232 => ?_) (fun c_232 => ?_)
      rotate_left
      · (exfalso; omega)
      refine sj_iconst dX8_spreadPart_243 ?_
      refine sj_iastJ (p + 1) (by assumption) (by omega) (by omega) (by omega) dX8_spreadPart_244 ?_
      refine sj_goto 280 dX8_spreadPart_245 (by decide) ?_
      exact sj_vret dX8_spreadPart_280 rfl (Nat.le_of_ble_eq_true rfl) (Nat.le_of_ble_eq_true rfl) ⟨rfl, rfl, spO.one a hx g.2⟩
    · rw [if_neg e] at hx
      refine sj_ald1 dX8_spreadPart_0 ?_
      refine sj_getR fl_X8_36 (by assumption) rfl (tR_1 _) dX8_spreadPart_1 ?_
      refine sj_ild2 dX8_spreadPart_4 ?_
      refine sj_ialdJ (p) (by assumption) (by omega) (by omega) (by omega) dX8_spreadPart_5 ?_
      rw [hcd]
      refine sj_ist4 (by decide) rfl dX8_spreadPart_6 ?_
      refine sj_ild3 dX8_spreadPart_8 ?_
      refine sj_iconst dX8_spreadPart_9 ?_
      refine sj_icmp_eq 17 dX8_spreadPart_10 (by decide) (by omega) (by omega) (fun c_10 => ?_) (fun c_10 => ?_)
      · (exfalso; omega)
      refine sj_iconst dX8_spreadPart_13 ?_
      refine sj_goto 18 dX8_spreadPart_14 (by decide) ?_
      refine sj_ist5 (by decide) rfl dX8_spreadPart_18 ?_
      refine sj_ild4 dX8_spreadPart_20 ?_
      refine sj_lookup (off := 201) 223 dX8_spreadPart_22 (by decide) (by omega) (by rfl) (by decide) ?_
      refine sj_ald0 dX8_spreadPart_223 ?_
      refine sj_getR fl_X8_9 (by assumption) rfl (wR_0 _) dX8_spreadPart_224 ?_
      refine sj_ild2 dX8_spreadPart_227 ?_
      refine sj_iconst dX8_spreadPart_228 ?_
      refine sj_iadd dX8_spreadPart_229 ?_
      refine sj_ild5 dX8_spreadPart_230 ?_
      refine sj_if_eq 243 dX8_spreadPart_232 (by decide) (by omega) (fun c_232 => ?_) (fun c_232 => ?_)
      · (exfalso; omega)
      refine sj_iconst dX8_spreadPart_235 ?_
      refine sj_ild3 dX8_spreadPart_236 ?_
      refine sj_imul dX8_spreadPart_237 ?_
      refine sj_iconst dX8_spreadPart_238 ?_
      refine sj_iadd dX8_spreadPart_239 ?_
      refine sj_goto 244 dX8_spreadPart_240 (by decide) ?_
      refine sj_iastJ (p + 1) (by assumption) (by omega) (by omega) (by omega) dX8_spreadPart_244 ?_
      refine sj_goto 280 dX8_spreadPart_245 (by decide) ?_
      exact sj_vret dX8_spreadPart_280 rfl (Nat.le_of_ble_eq_true rfl) (Nat.le_of_ble_eq_true rfl) ⟨rfl, rfl, spO.one a hx g.2⟩
  · have g := one a
    have hx := chI_f (s := s) k.1
    have e1 : ¬ 42 = c := by omega
    have e2 : ¬ 43 = c := by omega
    have e3 : ¬ 101 = c := by omega
    have e4 : ¬ 111 = c := by omega
    have e5 : ¬ 116 = c := by omega
    have e6 : ¬ 122 = c := by omega
    by_cases e : 0 < s
    · rw [if_pos e] at hx
      refine sj_ald1 dX8_spreadPart_0 ?_
      refine sj_getR fl_X8_36 (by assumption) rfl (tR_1 _) dX8_spreadPart_1 ?_
      refine sj_ild2 dX8_spreadPart_4 ?_
      refine sj_ialdJ (p) (by assumption) (by omega) (by omega) (by omega) dX8_spreadPart_5 ?_
      rw [hcd]
      refine sj_ist4 (by decide) rfl dX8_spreadPart_6 ?_
      refine sj_ild3 dX8_spreadPart_8 ?_
      refine sj_iconst dX8_spreadPart_9 ?_
      refine sj_icmp_eq 17 dX8_spreadPart_10 (by decide) (by omega) (by omega) (fun c_10 => ?_) (fun c_10 => ?_)
      · (exfalso; omega)
      refine sj_iconst dX8_spreadPart_13 ?_
      refine sj_goto 18 dX8_spreadPart_14 (by decide) ?_
      refine sj_ist5 (by decide) rfl dX8_spreadPart_18 ?_
      refine sj_ild4 dX8_spreadPart_20 ?_
      refine sj_lookup (off := 226) 248 dX8_spreadPart_22 (by decide) (by omega) (by simp [Op.lookupswitch.offset_cons, Op.lookupswitch.offset_nil, e1, e2, e3, e4, e5, e6]) (by decide) ?_
      refine sj_ild4 dX8_spreadPart_248 ?_
      refine sj_sipush dX8_spreadPart_250 (by decide) ?_
      refine sj_icmp_lt 280 dX8_spreadPart_253 (by decide) (by omega) (by omega) (fun c_253 => ?_) (fun c_253 => ?_)
      · (exfalso; omega)
      refine sj_ald0 dX8_spreadPart_256 ?_
      refine sj_getR fl_X8_9 (by assumption) rfl (wR_0 _) dX8_spreadPart_257 ?_
      refine sj_ild2 dX8_spreadPart_260 ?_
      refine sj_iconst dX8_spreadPart_261 ?_
      refine sj_iadd dX8_spreadPart_262 ?_
      refine sj_ild5 dX8_spreadPart_263 ?_
      refine sj_if_eq 278 dX8_spreadPart_265 (by decide) (by omega) (fun c_265 => ?_) (fun c_265 => ?_)
      · (exfalso; omega)
      refine sj_ild3 dX8_spreadPart_268 ?_
      refine sj_if_le 278 dX8_spreadPart_269 (by decide) (by omega) (fun c_269 => ?_) (fun c_269 => ?_)
      · (exfalso; omega)
      refine sj_ild3 dX8_spreadPart_272 ?_
      refine sj_iconst dX8_spreadPart_273 ?_
      refine sj_isub dX8_spreadPart_274 ?_
      refine sj_goto 279 dX8_spreadPart_275 (by decide) ?_
      refine sj_iastJ (p + 1) (by assumption) (by omega) (by omega) (by omega) dX8_spreadPart_279 ?_
      exact sj_vret dX8_spreadPart_280 rfl (Nat.le_of_ble_eq_true rfl) (Nat.le_of_ble_eq_true rfl) ⟨rfl, rfl, spO.one a hx g.2⟩
    · rw [if_neg e] at hx
      refine sj_ald1 dX8_spreadPart_0 ?_
      refine sj_getR fl_X8_36 (by assumption) rfl (tR_1 _) dX8_spreadPart_1 ?_
      refine sj_ild2 dX8_spreadPart_4 ?_
      refine sj_ialdJ (p) (by assumption) (by omega) (by omega) (by omega) dX8_spreadPart_5 ?_
      rw [hcd]
      refine sj_ist4 (by decide) rfl dX8_spreadPart_6 ?_
      refine sj_ild3 dX8_spreadPart_8 ?_
      refine sj_iconst dX8_spreadPart_9 ?_
      refine sj_icmp_eq 17 dX8_spreadPart_10 (by decide) (by omega) (by omega) (fun c_10 => ?_) (fun c_10 => ?_)
      · refine sj_iconst dX8_spreadPart_17 ?_
        refine sj_ist5 (by decide) rfl dX8_spreadPart_18 ?_
        refine sj_ild4 dX8_spreadPart_20 ?_
        refine sj_lookup (off := 226) 248 dX8_spreadPart_22 (by decide) (by omega) (by simp [Op.lookupswitch.offset_cons, Op.lookupswitch.offset_nil, e1, e2, e3, e4, e5, e6]) (by decide) ?_
        refine sj_ild4 dX8_spreadPart_248 ?_
        refine sj_sipush dX8_spreadPart_250 (by decide) ?_
        refine sj_icmp_lt 280 dX8_spreadPart_253 (by decide) (by omega) (by omega) (fun c_253 => ?_) (fun c_253 => ?_)
        · (exfalso; omega)
        refine sj_ald0 dX8_spreadPart_256 ?_
        refine sj_getR fl_X8_9 (by assumption) rfl (wR_0 _) dX8_spreadPart_257 ?_
        refine sj_ild2 dX8_spreadPart_260 ?_
        refine sj_iconst dX8_spreadPart_261 ?_
        refine sj_iadd dX8_spreadPart_262 ?_
        refine sj_ild5 dX8_spreadPart_263 ?_
        refine sj_if_eq 278 dX8_spreadPart_265 (by decide) (by omega) (fun c_265 => ?_) (fun c_265 => ?_)
        · refine sj_iconst dX8_spreadPart_278 ?_
          refine sj_iastJ (p + 1) (by assumption) (by omega) (by omega) (by omega) dX8_spreadPart_279 ?_
          exact sj_vret dX8_spreadPart_280 rfl (Nat.le_of_ble_eq_true rfl) (Nat.le_of_ble_eq_true rfl) ⟨rfl, rfl, spO.one a hx g.2⟩
        · refine sj_ild3 dX8_spreadPart_268 ?_
          refine sj_if_le 278 dX8_spreadPart_269 (by decide) (by omega) (fun c_269 => ?_) (fun c_269 => ?_)
          rotate_left
          · (exfalso; omega)
          refine sj_iconst dX8_spreadPart_278 ?_
          refine sj_iastJ (p + 1) (by assumption) (by omega) (by omega) (by omega) dX8_spreadPart_279 ?_
          exact sj_vret dX8_spreadPart_280 rfl (Nat.le_of_ble_eq_true rfl) (Nat.le_of_ble_eq_true rfl) ⟨rfl, rfl, spO.one a hx g.2⟩
      · refine sj_iconst dX8_spreadPart_13 ?_
        refine sj_goto 18 dX8_spreadPart_14 (by decide) ?_
        refine sj_ist5 (by decide) rfl dX8_spreadPart_18 ?_
        refine sj_ild4 dX8_spreadPart_20 ?_
        refine sj_lookup (off := 226) 248 dX8_spreadPart_22 (by decide) (by omega) (by simp [Op.lookupswitch.offset_cons, Op.lookupswitch.offset_nil, e1, e2, e3, e4, e5, e6]) (by decide) ?_
        refine sj_ild4 dX8_spreadPart_248 ?_
        refine sj_sipush dX8_spreadPart_250 (by decide) ?_
        refine sj_icmp_lt 280 dX8_spreadPart_253 (by decide) (by omega) (by omega) (fun c_253 => ?_) (fun c_253 => ?_)
        · (exfalso; omega)
        refine sj_ald0 dX8_spreadPart_256 ?_
        refine sj_getR fl_X8_9 (by assumption) rfl (wR_0 _) dX8_spreadPart_257 ?_
        refine sj_ild2 dX8_spreadPart_260 ?_
        refine sj_iconst dX8_spreadPart_261 ?_
        refine sj_iadd dX8_spreadPart_262 ?_
        refine sj_ild5 dX8_spreadPart_263 ?_
        refine sj_if_eq 278 dX8_spreadPart_265 (by decide) (by omega) (fun c_265 => ?_) (fun c_265 => ?_)
        · refine sj_iconst dX8_spreadPart_278 ?_
          refine sj_iastJ (p + 1) (by assumption) (by omega) (by omega) (by omega) dX8_spreadPart_279 ?_
          exact sj_vret dX8_spreadPart_280 rfl (Nat.le_of_ble_eq_true rfl) (Nat.le_of_ble_eq_true rfl) ⟨rfl, rfl, spO.one a hx g.2⟩
        · refine sj_ild3 dX8_spreadPart_268 ?_
          refine sj_if_le 278 dX8_spreadPart_269 (by decide) (by omega) (fun c_269 => ?_) (fun c_269 => ?_)
          rotate_left
          · (exfalso; omega)
          refine sj_iconst dX8_spreadPart_278 ?_
          refine sj_iastJ (p + 1) (by assumption) (by omega) (by omega) (by omega) dX8_spreadPart_279 ?_
          exact sj_vret dX8_spreadPart_280 rfl (Nat.le_of_ble_eq_true rfl) (Nat.le_of_ble_eq_true rfl) ⟨rfl, rfl, spO.one a hx g.2⟩
theorem cx8_spread {w t i : Nat} {T : List Int} (hS : wSh σ w) (h : tm σ I t T) (hi : i < 400) : sj_Con l yX8_spread mX8_spread G σ I [.ref w, .ref t, .int (zI i)] (fun v σ' I' => σ = σ' ∧ (∀ q, q ≠ w + 1 → I' q = I q) ∧ ((v = some (.int (zI 0)) ∧ ∃ s ∈ jGx chI T [(i : Int)], 1000000000 < s) ∨ (v = some (.int (zI 1)) ∧ (∀ s ∈ jGx chI T [(i : Int)], s ≤ 1000000000) ∧ ∀ p, p < T.length → I' (w + 1) p = (jGx chI T [(i : Int)]).getD p 0))) := by
  obtain ⟨s0, s1, s2, s3, s4⟩ := id hS
  obtain ⟨t0, t1, t2, t3⟩ := h.1
  have hok := h.2.2.2.2.2.1
  have hn := h.2.2.2.2.2.2
  have hoff := h.offW hS
  have hgl : (jGx chI T [(i : Int)]).length = T.length := jGx_len chI_len T [(i : Int)] hok
  have hge := jGx_ge T [(i : Int)] (fun s hs => by rw [List.mem_singleton.mp hs]; omega)
  have gmem : ∀ p, p < T.length → (jGx chI T [(i : Int)]).getD p 0 ∈ jGx chI T [(i : Int)] := fun p hp => by
    rw [List.getD_eq_getElem?_getD, List.getElem?_eq_getElem (by rw [hgl]; exact hp)]
    exact List.getElem_mem _
  refine sj_con_of (L0 := [some (.ref w), some (.ref t), some (.int (zI i)), none]) (by decide) rfl rfl rfl (Nat.le_of_ble_eq_true rfl) rfl (fun Γ => ?_)
  have lp : ∀ (d p : Nat) (J : sjI) (S : List Int), p + d = T.length → (∀ q, q ≠ w + 1 → J q = I q) → gInv chI T i (J (w + 1)) p S → (∀ x ∈ S, x ≤ 2000000001) → (∀ q, q < p → (jGx chI T [(i : Int)]).getD q 0 ≤ 1000000000) → sj_V l Γ mX8_spread G (fun v σ' I' => σ = σ' ∧ (∀ q, q ≠ w + 1 → I' q = I q) ∧ ((v = some (.int (zI 0)) ∧ ∃ s ∈ jGx chI T [(i : Int)], 1000000000 < s) ∨ (v = some (.int (zI 1)) ∧ (∀ s ∈ jGx chI T [(i : Int)], s ≤ 1000000000) ∧ ∀ p, p < T.length → I' (w + 1) p = (jGx chI T [(i : Int)]).getD p 0))) σ J 0 0 9 [some (.ref w), some (.ref t), some (.int (zI i)), some (.int (zI p))] [] := by
    intro d
    induction d with
    | zero =>
      intro p J S hp hJ hG hub hle
      have hJt : J t 0 = T.length := by rw [hJ t (by omega)]; exact h.2.1
      refine sj_ild3 dX8_spread_9 ?_
      refine sj_ald1 dX8_spread_10 ?_
      refine sj_getI fl_X8_25 (by assumption) rfl dX8_spread_11 ?_
      rw [hJt]
      refine sj_icmp_ge 48 dX8_spread_14 (by decide) (by omega) (by omega) (fun c_14 => ?_) (fun c_14 => ?_)
      rotate_left
      · (exfalso; omega)
      refine sj_iconst dX8_spread_48 ?_
      exact sj_iret dX8_spread_49 rfl (by decide) (Nat.le_of_ble_eq_true rfl) (Nat.le_of_ble_eq_true rfl) ⟨rfl, hJ, Or.inr ⟨rfl, fun s hs => by
        obtain ⟨q, hq, rfl⟩ := List.getElem_of_mem hs
        have := hle q (by omega)
        rw [List.getD_eq_getElem?_getD, List.getElem?_eq_getElem hq] at this
        exact this, fun q hq => hG.1 q (by omega)⟩⟩
    | succ d ih =>
      intro p J S hp hJ hG hub hle
      have hJt : J t 0 = T.length := by rw [hJ t (by omega)]; exact h.2.1
      obtain ⟨c, L, hd, hc, hd2, hcm⟩ := dropEx (T := T) (k := p) (by omega)
      obtain ⟨s, S', rfl, hs1, hs2, hst⟩ := hG.step chI_len hok hd
      have hgp := gmem p (by omega)
      rw [hs2] at hgp
      have hs0 := hge s hgp
      have htJ : tm σ J t T := h.keep (fun q q1 q2 => ⟨rfl, hJ q (by omega)⟩)
      have hup := hub s List.mem_cons_self
      refine sj_ild3 dX8_spread_9 ?_
      refine sj_ald1 dX8_spread_10 ?_
      refine sj_getI fl_X8_25 (by assumption) rfl dX8_spread_11 ?_
      rw [hJt]
      refine sj_icmp_ge 48 dX8_spread_14 (by decide) (by omega) (by omega) (fun c_14 => ?_) (fun c_14 => ?_)
      · (exfalso; omega)
      refine sj_ald0 dX8_spread_17 ?_
      refine sj_getR fl_X8_9 (by assumption) rfl (wR_0 _) dX8_spread_18 ?_
      refine sj_ild3 dX8_spread_21 ?_
      refine sj_ialdJ (p) (by assumption) (by omega) (by omega) (by omega) dX8_spread_22 ?_
      rw [hs1]
      refine sj_ldc kd_X8_31 dX8_spread_23 ?_
      refine sj_icmp_le 30 dX8_spread_25 (by decide) (by omega) (by omega) (fun c_25 => ?_) (fun c_25 => ?_)
      · refine sj_ald0 dX8_spread_30 ?_
        refine sj_ald1 dX8_spread_31 ?_
        refine sj_ild3 dX8_spread_32 ?_
        refine sj_ald0 dX8_spread_33 ?_
        refine sj_getR fl_X8_9 (by assumption) rfl (wR_0 _) dX8_spread_34 ?_
        refine sj_ild3 dX8_spread_37 ?_
        refine sj_ialdJ (p) (by assumption) (by omega) (by omega) (by omega) dX8_spread_38 ?_
        rw [hs1]
        refine sj_callV (cx8_spreadPart hS htJ hd (by omega) (by omega)) kc_X8_32 (by assumption) rfl rfl rfl rfl (Nat.le_of_ble_eq_true rfl) dX8_spread_39 (fun r_39 σ_39 I_39 hp_39 => ?_)
        obtain ⟨rfl, rfl, x1, x2, x3, x4, x5⟩ := hp_39
        refine sj_inc3 (by decide) rfl dX8_spread_42 ?_
        refine sj_goto 9 dX8_spread_45 (by decide) ?_
        exact ih (p + 1) _ _ (by omega) (fun q hq => by rw [x1 q hq]; exact hJ q hq) (hst _ x2 x3 x4 x5) (fun x hx => by
          rcases List.mem_append.mp hx with hx | hx
          · exact chI_le (by omega) x hx
          · exact hub x (List.mem_cons_of_mem _ hx)) (fun q hq => by
          by_cases e : q = p
          · rw [e, hs2]; omega
          · exact hle q (by omega))
      · refine sj_iconst dX8_spread_28 ?_
        exact sj_iret dX8_spread_29 rfl (by decide) (Nat.le_of_ble_eq_true rfl) (Nat.le_of_ble_eq_true rfl) ⟨rfl, hJ, Or.inl ⟨rfl, s, hgp, by omega⟩⟩
  refine sj_ald0 dX8_spread_0 ?_
  refine sj_getR fl_X8_9 (by assumption) rfl (wR_0 _) dX8_spread_1 ?_
  refine sj_iconst dX8_spread_4 ?_
  refine sj_ild2 dX8_spread_5 ?_
  refine sj_iastJ (0) s1 (by have := jOk_len T 1 hok; omega) (by omega) (by omega) dX8_spread_6 ?_
  refine sj_iconst dX8_spread_7 ?_
  refine sj_ist3 (by decide) rfl dX8_spread_8 ?_
  exact lp T.length 0 _ _ (by omega) (fun q hq => sj_up_row hq) (gInv.init hok (sj_up_self _ _ _ _)) (fun x hx => by rw [List.mem_singleton.mp hx]; omega) (fun q hq => absurd hq (by omega))
theorem cx8_isNeeded {w p : Nat} {s : Int} (hS : wSh σ w) (hp : p < 120) (hs : I (w + 1) p = s) (hr : -1 ≤ s ∧ s ≤ 1000000000) : sj_Con l yX8_isNeeded mX8_isNeeded G σ I [.ref w, .int (zI p)] (fun v σ' I' => v = some (.int (zI (if s = -1 then 0 else 1))) ∧ σ = σ' ∧ I = I') := by
  obtain ⟨s0, s1, s2, s3, s4⟩ := id hS
  refine sj_con_of (L0 := [some (.ref w), some (.int (zI p))]) (by decide) rfl rfl rfl (Nat.le_of_ble_eq_true rfl) rfl (fun Γ => ?_)
  refine sj_ald0 dX8_isNeeded_0 ?_
  refine sj_getR fl_X8_9 (by assumption) rfl (wR_0 _) dX8_isNeeded_1 ?_
  refine sj_ild1 dX8_isNeeded_4 ?_
  refine sj_ialdJ (p) (by assumption) (by omega) (by omega) (by omega) dX8_isNeeded_5 ?_
  rw [hs]
  refine sj_iconst dX8_isNeeded_6 ?_
  refine sj_icmp_eq 14 dX8_isNeeded_7 (by decide) (by omega) (by omega) (fun c_7 => ?_) (fun c_7 => ?_)
  · refine sj_iconst dX8_isNeeded_14 ?_
    exact sj_iret dX8_isNeeded_15 rfl (by decide) (Nat.le_of_ble_eq_true rfl) (Nat.le_of_ble_eq_true rfl) ⟨by first | rw [if_pos (by omega)] | rw [if_neg (by omega)], rfl, rfl⟩
  · refine sj_iconst dX8_isNeeded_10 ?_
    refine sj_goto 15 dX8_isNeeded_11 (by decide) ?_
    exact sj_iret dX8_isNeeded_15 rfl (by decide) (Nat.le_of_ble_eq_true rfl) (Nat.le_of_ble_eq_true rfl) ⟨by first | rw [if_pos (by omega)] | rw [if_neg (by omega)], rfl, rfl⟩
end WORK1
