/-! shifts: the streams that a plain term names, each with its shift -/
def jMn : List Int → List Int → List (Int × Int)
  | [], _ => []
  | _ :: _, [] => []
  | c :: L, s :: S => if 65 ≤ c ∧ c ≤ 72 then (c, s) :: jMn L S else if 48 ≤ c ∧ c ≤ 57 then jMn L S else if c = 43 ∨ c = 42 then jMn L (s :: s :: S) else if c = 116 then jMn L ((s + 1) :: S) else jMn L ((s - 1) :: S)
theorem jMn_let {c s : Int} {L S : List Int} (h : 65 ≤ c ∧ c ≤ 72) : jMn (c :: L) (s :: S) = (c, s) :: jMn L S := by rw [jMn, if_pos h]
theorem jMn_dig {c s : Int} {L S : List Int} (h : 48 ≤ c ∧ c ≤ 57) : jMn (c :: L) (s :: S) = jMn L S := by rw [jMn, if_neg (by omega), if_pos h]
theorem jMn_pair {c s : Int} {L S : List Int} (h : c = 43 ∨ c = 42) : jMn (c :: L) (s :: S) = jMn L (s :: s :: S) := by rw [jMn, if_neg (by omega), if_neg (by omega), if_pos h]
theorem jMn_t {c s : Int} {L S : List Int} (h : c = 116) : jMn (c :: L) (s :: S) = jMn L ((s + 1) :: S) := by rw [jMn, if_neg (by omega), if_neg (by omega), if_neg (by omega), if_pos h]
theorem jMn_front {c s : Int} {L S : List Int} (h : 128 ≤ c) : jMn (c :: L) (s :: S) = jMn L ((s - 1) :: S) := by rw [jMn, if_neg (by omega), if_neg (by omega), if_neg (by omega), if_neg (by omega)]
theorem jAr_cases (c : Int) : (jAr c = 2 ∧ (c = 43 ∨ c = 42 ∨ c = 122)) ∨ (jAr c = 0 ∧ ((48 ≤ c ∧ c ≤ 57) ∨ (65 ≤ c ∧ c ≤ 72))) ∨ (jAr c = 1 ∧ ¬ (c = 43 ∨ c = 42 ∨ c = 122) ∧ ¬ ((48 ≤ c ∧ c ≤ 57) ∨ (65 ≤ c ∧ c ≤ 72))) := by
  unfold jAr
  split
  · exact Or.inl ⟨rfl, by assumption⟩
  · split
    · exact Or.inr (Or.inl ⟨rfl, by assumption⟩)
    · exact Or.inr (Or.inr ⟨rfl, by assumption, by assumption⟩)
/-- the greater one at a place -/
def jSu (f : Nat → Int) (k : Nat) (s : Int) : Nat → Int := fun j => if j = k ∧ f j < s then s else f j
theorem jSu_ne {f : Nat → Int} {k j : Nat} {s : Int} (h : j ≠ k) : jSu f k s j = f j := if_neg (fun e => h e.1)
theorem jSu_lt {f : Nat → Int} {k : Nat} {s : Int} (h : f k < s) : jSu f k s k = s := if_pos ⟨rfl, h⟩
theorem jSu_ge {f : Nat → Int} {k : Nat} {s : Int} (h : ¬ f k < s) (j : Nat) : jSu f k s j = f j := by
  unfold jSu
  rw [if_neg]
  rintro ⟨rfl, h2⟩
  exact h h2
def jFd (a : Nat) : List (Int × Int) → (Nat → Int) → (Nat → Int)
  | [], f => f
  | p :: l, f => jFd a l (jSu f (8 * a + (p.1 - 65).toNat) p.2)
theorem jFd_at {a j : Nat} : ∀ (l : List (Int × Int)) (f g : Nat → Int), f j = g j → jFd a l f j = jFd a l g j
  | [], f, g, h => h
  | p :: l, f, g, h => jFd_at l _ _ (by unfold jSu; rw [h])
/-- the stack of shifts -/
def mAr (o : Nat) (J : sjI) : List Int → Prop
  | [] => True
  | s :: S => J (o + 16) S.length = s ∧ mAr o J S
theorem mAr.up {o j : Nat} {J : sjI} {v : Int} : ∀ {S : List Int}, mAr o J S → S.length ≤ j → mAr o (sj_up J (o + 16) j v) S
  | [], _, _ => trivial
  | s :: S, h, hl => by
    simp only [List.length_cons] at hl
    exact ⟨by rw [sj_up_ne (by omega)]; exact h.1, mAr.up h.2 (by omega)⟩
theorem mAr.row {o : Nat} {J K : sjI} (e : K (o + 16) = J (o + 16)) : ∀ {S : List Int}, mAr o J S → mAr o K S
  | [], _ => trivial
  | s :: S, h => ⟨by rw [e]; exact h.1, mAr.row e h.2⟩
section MODEL31
variable {l : Launch} {G : sjG} {σ : sjS} {I : sjI}
theorem cm_layShifts {o a : Nat} {T : List Int} {f : Nat → Int} (hS : mSh σ o) (ha : a < 8) (hW : mW (I (o + 1))) (hT : mB (I (o + 1)) a = jEnc T ∧ (T ≠ [] → jOk 1 T) ∧ T.length ≤ 120 ∧ ∀ c ∈ T, c ≠ 122 ∧ c ≠ 101 ∧ c ≠ 111) (hf : ∀ j, j < 64 → I (o + 15) j = f j) (hr : ∀ j, j < 64 → -1000 ≤ f j ∧ f j ≤ 1000) : sj_Con l yX10_layShifts mX10_layShifts G σ I [.ref o, .int (zI a)] (fun r σ' I' => r = none ∧ σ = σ' ∧ (∀ b, b ≠ o + 15 → b ≠ o + 16 → I' b = I b) ∧ ∀ j, j < 64 → I' (o + 15) j = jFd a (jMn T [0]) f j) := by
  obtain ⟨h_o, h_w, h_past, h_images, h_text, h_read, h_made, h_old, h_values, h_ranks, h_operator, h_indexAt, h_second, h_first, h_needed, h_shifts, h_around, h_best, h_isNeeded, h_toSee, h_held, h_there⟩ := id hS
  refine sj_con_of (L0 := [some (.ref o), some (.int (zI a)), none, none, none, none]) (by decide) rfl rfl rfl (Nat.le_of_ble_eq_true rfl) rfl (fun Γ => ?_)
  have hn := (hW a ha).1
  obtain ⟨hT1, hT2, hT3, hT4⟩ := hT
  have hlen : I (o + 1) (1 + 250 * a) = (jEnc T).length := by rw [← hT1, mB_len]; omega
  have lp : ∀ (L S : List Int) (k : Nat) (J : sjI) (g : Nat → Int) (op sh : Int), op + 1 = S.length → sh = S.headD 0 → (L ≠ [] → jOk S.length L) → (∀ c ∈ L, c ≠ 122 ∧ c ≠ 101 ∧ c ≠ 111) → lst (I (o + 1)) k (jEnc L).length = jEnc L → k + (jEnc L).length = 2 + 250 * a + (jEnc T).length → (∀ s ∈ S, s + L.length ≤ 120 ∧ L.length ≤ s + 120) → (∀ b, b ≠ o + 15 → b ≠ o + 16 → J b = I b) → mAr o J S.tail → (∀ j, j < 64 → J (o + 15) j = g j) → (∀ j, j < 64 → -1000 ≤ g j ∧ g j ≤ 1000) → jFd a (jMn L S) g = jFd a (jMn T [0]) f → sj_V l Γ mX10_layShifts G (fun r σ' I' => r = none ∧ σ = σ' ∧ (∀ b, b ≠ o + 15 → b ≠ o + 16 → I' b = I b) ∧ ∀ j, j < 64 → I' (o + 15) j = jFd a (jMn T [0]) f j) σ J 0 0 10 [some (.ref o), some (.int (zI a)), some (.int (zI op)), some (.int (zI sh)), some (.int (zI k)), none] [] := by
    intro L
    induction L with
    | nil =>
      intro S k J g op sh hop hsh hok hpl hen hk hrg hJ hst hg hgr hfd
      have hfd2 : g = jFd a (jMn T [0]) f := by rw [← hfd]; cases S <;> rfl
      simp only [jEnc_nil, List.length_nil] at hk
      refine sj_ild4 dX10_layShifts_10 ?_
      refine sj_ild1 dX10_layShifts_12 ?_
      refine sj_callS (cm_begin) kc_X10_106 rfl rfl (Nat.le_of_ble_eq_true rfl) dX10_layShifts_13 (fun r_13 σ_13 I_13 hp_13 => ?_)
      obtain ⟨rfl, rfl, rfl⟩ := hp_13
      refine sj_ald0 dX10_layShifts_16 ?_
      refine sj_ild1 dX10_layShifts_17 ?_
      refine sj_callV (cm_bytes' hS ha) kc_X10_78 (by assumption) rfl rfl rfl rfl (Nat.le_of_ble_eq_true rfl) dX10_layShifts_18 (fun r_18 σ_18 I_18 hp_18 => ?_)
      obtain ⟨rfl, rfl, rfl⟩ := hp_18
      rw [hJ (o + 1) (by omega) (by omega), hlen]
      refine sj_iadd dX10_layShifts_21 ?_
      refine sj_icmp_ge 157 dX10_layShifts_22 (by decide) (by omega) (by omega) (fun c_22 => ?_) (fun c_22 => ?_)
      rotate_left
      · exact absurd (by omega) c_22
      exact sj_vret dX10_layShifts_157 rfl (Nat.le_of_ble_eq_true rfl) (Nat.le_of_ble_eq_true rfl) ⟨rfl, rfl, hJ, fun j hj => by rw [hg j hj, hfd2]⟩
    | cons c L ih =>
      intro S k J g op sh hop hsh hok hpl hen hk hrg hJ hst hg hgr hfd
      have hok1 := hok (by simp)
      obtain ⟨s, S', rfl⟩ : ∃ s S', S = s :: S' := by
        cases S with
        | nil => exact hok1.elim
        | cons s S' => exact ⟨s, S', rfl⟩
      have hSl : S'.length + 1 ≤ L.length + 1 := jOk_len (c :: L) _ hok1
      rw [List.length_cons] at hop
      have hop2 : op = S'.length := by omega
      subst hop2
      rw [show sh = s from hsh]
      obtain ⟨hvc, hok2⟩ : jVc c ∧ jOk (S'.length + jAr c) L := hok1
      unfold jVc at hvc
      have hpc := hpl c List.mem_cons_self
      have hpl2 : ∀ x ∈ L, x ≠ 122 ∧ x ≠ 101 ∧ x ≠ 111 := fun x hx => hpl x (List.mem_cons_of_mem _ hx)
      have har := jAr_cases c
      obtain ⟨hb1, hb2, hb3⟩ := lst_code hen
      have hlc : (jEnc (c :: L)).length = (jE c).length + (jEnc L).length := by rw [jEnc_cons, List.length_append]
      have hjl := jE_len c
      have hJ' := hJ
      obtain ⟨v, hvd⟩ : ∃ v : Int, (if 128 ≤ c then (58 : Int) else c) = v := ⟨_, rfl⟩
      rw [hvd] at hb1
      have hv : (128 ≤ c ∧ v = 58 ∧ (jE c).length = 2) ∨ (c < 128 ∧ v = c ∧ (jE c).length = 1) := by
        by_cases h1 : 128 ≤ c
        · rw [if_pos h1] at hvd hjl; exact Or.inl ⟨h1, hvd.symm, hjl⟩
        · rw [if_neg h1] at hvd hjl; exact Or.inr ⟨by omega, hvd.symm, hjl⟩
      have hrs := hrg s List.mem_cons_self
      simp only [List.length_cons] at hrs hrg
      have hrg2 : ∀ x ∈ S', x + L.length ≤ 120 ∧ L.length ≤ x + 120 := fun x hx => by have := hrg x (List.mem_cons_of_mem _ hx); omega
      have leaf : ∀ (K : sjI) (g' : Nat → Int), jAr c = 0 → (jE c).length = 1 → (∀ b, b ≠ o + 15 → b ≠ o + 16 → K b = I b) → K (o + 16) = J (o + 16) → (∀ j, j < 64 → K (o + 15) j = g' j) → (∀ j, j < 64 → -1000 ≤ g' j ∧ g' j ≤ 1000) → jFd a (jMn L S') g' = jFd a (jMn T [0]) f → sj_V l Γ mX10_layShifts G (fun r σ' I' => r = none ∧ σ = σ' ∧ (∀ b, b ≠ o + 15 → b ≠ o + 16 → I' b = I b) ∧ ∀ j, j < 64 → I' (o + 15) j = jFd a (jMn T [0]) f j) σ K 0 0 133 [some (.ref o), some (.int (zI a)), some (.int (zI (S'.length : Int))), some (.int (zI s)), some (.int (zI k)), some (.int (zI v))] [] := by
        intro K g' h0 h1 hK h16 hg' hgr' hfd'
        rw [h0] at hok2
        have go : ∀ y x : Int, y = S'.headD 0 → x + 1 = S'.length → sj_V l Γ mX10_layShifts G (fun r σ' I' => r = none ∧ σ = σ' ∧ (∀ b, b ≠ o + 15 → b ≠ o + 16 → I' b = I b) ∧ ∀ j, j < 64 → I' (o + 15) j = jFd a (jMn T [0]) f j) σ K 0 0 10 [some (.ref o), some (.int (zI a)), some (.int (zI x)), some (.int (zI y)), some (.int (zI ((k : Int) + 1))), none] [] := by
          intro y x hy hx
          exact ih S' (k + 1) K g' x y hx hy (fun _ => hok2) hpl2 (by rw [h1] at hb3; exact hb3) (by omega) hrg2 hK (by
            cases S' with
            | nil => trivial
            | cons x X => exact (hst.row h16).2) hg' hgr' hfd'
        cases S' with
        | nil =>
          refine sj_inc2 (by decide) rfl dX10_layShifts_133 ?_
          refine sj_ild2 dX10_layShifts_136 ?_
          refine sj_if_lt 149 dX10_layShifts_137 (by decide) (by simp only [List.length_nil]; omega) (fun c_137 => ?_) (fun c_137 => ?_)
          rotate_left
          · (exfalso; simp only [List.length_nil] at c_137; omega)
          refine sj_iconst dX10_layShifts_149 ?_
          refine sj_ist3 (by decide) rfl dX10_layShifts_150 ?_
          refine sj_inc4 (by decide) rfl dX10_layShifts_151 ?_
          refine sj_goto 10 dX10_layShifts_154 (by decide) ?_
          refine sj_fg5 ?_
          exact go 0 _ rfl (by simp only [List.length_nil]; omega)
        | cons x X =>
          refine sj_inc2 (by decide) rfl dX10_layShifts_133 ?_
          refine sj_ild2 dX10_layShifts_136 ?_
          refine sj_if_lt 149 dX10_layShifts_137 (by decide) (by simp only [List.length_cons] at hSl ⊢; omega) (fun c_137 => ?_) (fun c_137 => ?_)
          · (exfalso; simp only [List.length_cons] at c_137; omega)
          refine sj_ald0 dX10_layShifts_140 ?_
          refine sj_getR fl_X10_55 (by assumption) rfl (mr_25 _) dX10_layShifts_141 ?_
          refine sj_ild2 dX10_layShifts_144 ?_
          refine sj_ialdJ X.length h_around (by simp only [List.length_cons] at hSl ⊢; omega) (by omega) (by simp only [List.length_cons]; omega) dX10_layShifts_145 ?_
          refine sj_goto 150 dX10_layShifts_146 (by decide) ?_
          refine sj_ist3 (by decide) rfl dX10_layShifts_150 ?_
          refine sj_inc4 (by decide) rfl dX10_layShifts_151 ?_
          refine sj_goto 10 dX10_layShifts_154 (by decide) ?_
          refine sj_fg5 ?_
          exact go _ _ (by rw [h16]; exact hst.1) (by omega)
      refine sj_ild4 dX10_layShifts_10 ?_
      refine sj_ild1 dX10_layShifts_12 ?_
      refine sj_callS (cm_begin) kc_X10_106 rfl rfl (Nat.le_of_ble_eq_true rfl) dX10_layShifts_13 (fun r_13 σ_13 I_13 hp_13 => ?_)
      obtain ⟨rfl, rfl, rfl⟩ := hp_13
      refine sj_ald0 dX10_layShifts_16 ?_
      refine sj_ild1 dX10_layShifts_17 ?_
      refine sj_callV (cm_bytes' hS ha) kc_X10_78 (by assumption) rfl rfl rfl rfl (Nat.le_of_ble_eq_true rfl) dX10_layShifts_18 (fun r_18 σ_18 I_18 hp_18 => ?_)
      obtain ⟨rfl, rfl, rfl⟩ := hp_18
      rw [hJ (o + 1) (by omega) (by omega), hlen]
      refine sj_iadd dX10_layShifts_21 ?_
      refine sj_icmp_ge 157 dX10_layShifts_22 (by decide) (by omega) (by omega) (fun c_22 => ?_) (fun c_22 => ?_)
      · exact absurd c_22 (by omega)
      refine sj_ald0 dX10_layShifts_25 ?_
      refine sj_getR fl_X10_7 (by assumption) rfl (mr_0 _) dX10_layShifts_26 ?_
      refine sj_ild4 dX10_layShifts_29 ?_
      refine sj_ialdJ (k) (by assumption) (by omega) (by omega) (by omega) dX10_layShifts_31 ?_
      rw [hJ (o + 1) (by omega) (by omega), hb1]
      refine sj_ist5 (by decide) rfl dX10_layShifts_32 ?_
      refine sj_ild5 dX10_layShifts_34 ?_
      refine sj_bipush dX10_layShifts_36 (by decide) ?_
      refine sj_icmp_eq 48 dX10_layShifts_38 (by decide) (by omega) (by omega) (fun c_38 => ?_) (fun c_38 => ?_)
      · refine sj_ald0 dX10_layShifts_48 ?_
        refine sj_getR fl_X10_55 (by assumption) rfl (mr_25 _) dX10_layShifts_49 ?_
        refine sj_ild2 dX10_layShifts_52 ?_
        refine sj_ild3 dX10_layShifts_53 ?_
        refine sj_iastJ (S'.length) (by assumption) (by omega) (by omega) (by omega) dX10_layShifts_54 ?_
        refine sj_inc2 (by decide) rfl dX10_layShifts_55 ?_
        refine sj_goto 151 dX10_layShifts_58 (by decide) ?_
        refine sj_inc4 (by decide) rfl dX10_layShifts_151 ?_
        refine sj_goto 10 dX10_layShifts_154 (by decide) ?_
        refine sj_fg5 ?_
        first
         | exact ih (s :: s :: S') (k + 1) _ g _ _ (by simp only [List.length_cons]; omega) rfl (fun _ => by rw [show jAr c = 2 by omega] at hok2; exact hok2) hpl2 (by rw [show (jE c).length = 1 by omega] at hb3; exact hb3) (by omega) (fun x hx => by
            rcases List.mem_cons.mp hx with rfl | hx
            · omega
            · rcases List.mem_cons.mp hx with rfl | hx
              · omega
              · exact hrg2 x hx) (fun b e1 e2 => by rw [sj_up_row e2]; exact hJ b e1 e2) ⟨by rw [sj_up_self], mAr.up hst (Nat.le_refl _)⟩ (fun j hj => by rw [sj_up_ne (by omega)]; exact hg j hj) hgr (by rw [← hfd, jMn_pair (by omega)])
         | exact ih ((s + 1) :: S') (k + 1) _ g _ _ (by simp only [List.length_cons]; omega) rfl (fun _ => by rw [show jAr c = 1 by omega] at hok2; exact hok2) hpl2 (by rw [show (jE c).length = 1 by omega] at hb3; exact hb3) (by omega) (fun x hx => by
            rcases List.mem_cons.mp hx with rfl | hx
            · omega
            · exact hrg2 x hx) hJ hst hg hgr (by rw [← hfd, jMn_t (by omega)])
         | exact ih ((s - 1) :: S') (k + 2) _ g _ _ (by simp only [List.length_cons]; omega) (by show _ = s - 1; omega) (fun _ => by rw [show jAr c = 1 by omega] at hok2; exact hok2) hpl2 (by rw [show (jE c).length = 2 by omega] at hb3; exact hb3) (by omega) (fun x hx => by
            rcases List.mem_cons.mp hx with rfl | hx
            · omega
            · exact hrg2 x hx) hJ hst hg hgr (by rw [← hfd, jMn_front (by omega)])
      · refine sj_ild5 dX10_layShifts_41 ?_
        refine sj_bipush dX10_layShifts_43 (by decide) ?_
        refine sj_icmp_ne 61 dX10_layShifts_45 (by decide) (by omega) (by omega) (fun c_45 => ?_) (fun c_45 => ?_)
        · refine sj_ild5 dX10_layShifts_61 ?_
          refine sj_bipush dX10_layShifts_63 (by decide) ?_
          refine sj_icmp_ne 74 dX10_layShifts_65 (by decide) (by omega) (by omega) (fun c_65 => ?_) (fun c_65 => ?_)
          · refine sj_ild5 dX10_layShifts_74 ?_
            refine sj_bipush dX10_layShifts_76 (by decide) ?_
            refine sj_icmp_ne 90 dX10_layShifts_78 (by decide) (by omega) (by omega) (fun c_78 => ?_) (fun c_78 => ?_)
            · refine sj_ild5 dX10_layShifts_90 ?_
              refine sj_callS (cm_isLetter (by omega)) kc_X10_97 rfl rfl (Nat.le_of_ble_eq_true rfl) dX10_layShifts_92 (fun r_92 σ_92 I_92 hp_92 => ?_)
              obtain ⟨rfl, rfl, rfl⟩ := hp_92
              refine sj_if_eq 133 dX10_layShifts_95 (by decide) (by omega) (fun c_95 => ?_) (fun c_95 => ?_)
              · first
                 | exact leaf _ g (by omega) (by omega) hJ rfl hg hgr (by rw [← hfd, jMn_dig (by omega)])
                 | exact leaf _ (jSu g (8 * a + (c - 65).toNat) s) (by omega) (by omega) hJ rfl (fun j hj => by rw [hg j hj, jSu_ge]; omega) (fun j hj => by rw [jSu_ge]; exact hgr j hj; omega) (by rw [← hfd, jMn_let (by omega)]; rfl)
                 | exact leaf _ (jSu g (8 * a + (c - 65).toNat) s) (by omega) (by omega) (fun b e1 e2 => by rw [sj_up_row e1]; exact hJ b e1 e2) (by rw [sj_up_row (by omega)]) (fun j hj => by
                    by_cases e : j = 8 * a + (c - 65).toNat
                    · subst e; rw [sj_up_self, jSu_lt (by omega)]
                    · rw [sj_up_ne (by omega), jSu_ne e]; exact hg j hj) (fun j hj => by
                    by_cases e : j = 8 * a + (c - 65).toNat
                    · subst e; rw [jSu_lt (by omega)]; omega
                    · rw [jSu_ne e]; exact hgr j hj) (by rw [← hfd, jMn_let (by omega)]; rfl)
              · refine sj_ild3 dX10_layShifts_98 ?_
                refine sj_ald0 dX10_layShifts_99 ?_
                refine sj_getR fl_X10_52 (by assumption) rfl (mr_24 _) dX10_layShifts_100 ?_
                refine sj_bipush dX10_layShifts_103 (by decide) ?_
                refine sj_ild1 dX10_layShifts_105 ?_
                refine sj_imul dX10_layShifts_106 ?_
                refine sj_ild5 dX10_layShifts_107 ?_
                refine sj_iadd dX10_layShifts_109 ?_
                refine sj_bipush dX10_layShifts_110 (by decide) ?_
                refine sj_isub dX10_layShifts_112 ?_
                refine sj_ialdJ (8 * a + (c - 65).toNat) (by assumption) (by omega) (by omega) (by omega) dX10_layShifts_113 ?_
                rw [hg (8 * a + (c - 65).toNat) (by omega)]
                have hgr1 := hgr (8 * a + (c - 65).toNat) (by omega)
                refine sj_icmp_le 133 dX10_layShifts_114 (by decide) (by omega) (by omega) (fun c_114 => ?_) (fun c_114 => ?_)
                · first
                   | exact leaf _ g (by omega) (by omega) hJ rfl hg hgr (by rw [← hfd, jMn_dig (by omega)])
                   | exact leaf _ (jSu g (8 * a + (c - 65).toNat) s) (by omega) (by omega) hJ rfl (fun j hj => by rw [hg j hj, jSu_ge]; omega) (fun j hj => by rw [jSu_ge]; exact hgr j hj; omega) (by rw [← hfd, jMn_let (by omega)]; rfl)
                   | exact leaf _ (jSu g (8 * a + (c - 65).toNat) s) (by omega) (by omega) (fun b e1 e2 => by rw [sj_up_row e1]; exact hJ b e1 e2) (by rw [sj_up_row (by omega)]) (fun j hj => by
                      by_cases e : j = 8 * a + (c - 65).toNat
                      · subst e; rw [sj_up_self, jSu_lt (by omega)]
                      · rw [sj_up_ne (by omega), jSu_ne e]; exact hg j hj) (fun j hj => by
                      by_cases e : j = 8 * a + (c - 65).toNat
                      · subst e; rw [jSu_lt (by omega)]; omega
                      · rw [jSu_ne e]; exact hgr j hj) (by rw [← hfd, jMn_let (by omega)]; rfl)
                · refine sj_ald0 dX10_layShifts_117 ?_
                  refine sj_getR fl_X10_52 (by assumption) rfl (mr_24 _) dX10_layShifts_118 ?_
                  refine sj_bipush dX10_layShifts_121 (by decide) ?_
                  refine sj_ild1 dX10_layShifts_123 ?_
                  refine sj_imul dX10_layShifts_124 ?_
                  refine sj_ild5 dX10_layShifts_125 ?_
                  refine sj_iadd dX10_layShifts_127 ?_
                  refine sj_bipush dX10_layShifts_128 (by decide) ?_
                  refine sj_isub dX10_layShifts_130 ?_
                  refine sj_ild3 dX10_layShifts_131 ?_
                  refine sj_iastJ (8 * a + (c - 65).toNat) (by assumption) (by omega) (by omega) (by omega) dX10_layShifts_132 ?_
                  first
                   | exact leaf _ g (by omega) (by omega) hJ rfl hg hgr (by rw [← hfd, jMn_dig (by omega)])
                   | exact leaf _ (jSu g (8 * a + (c - 65).toNat) s) (by omega) (by omega) hJ rfl (fun j hj => by rw [hg j hj, jSu_ge]; omega) (fun j hj => by rw [jSu_ge]; exact hgr j hj; omega) (by rw [← hfd, jMn_let (by omega)]; rfl)
                   | exact leaf _ (jSu g (8 * a + (c - 65).toNat) s) (by omega) (by omega) (fun b e1 e2 => by rw [sj_up_row e1]; exact hJ b e1 e2) (by rw [sj_up_row (by omega)]) (fun j hj => by
                      by_cases e : j = 8 * a + (c - 65).toNat
                      · subst e; rw [sj_up_self, jSu_lt (by omega)]
                      · rw [sj_up_ne (by omega), jSu_ne e]; exact hg j hj) (fun j hj => by
                      by_cases e : j = 8 * a + (c - 65).toNat
                      · subst e; rw [jSu_lt (by omega)]; omega
                      · rw [jSu_ne e]; exact hgr j hj) (by rw [← hfd, jMn_let (by omega)]; rfl)
            · refine sj_inc3 (by decide) rfl dX10_layShifts_81 ?_
              refine sj_inc4 (by decide) rfl dX10_layShifts_84 ?_
              refine sj_goto 151 dX10_layShifts_87 (by decide) ?_
              refine sj_inc4 (by decide) rfl dX10_layShifts_151 ?_
              refine sj_goto 10 dX10_layShifts_154 (by decide) ?_
              refine sj_fg5 ?_
              first
               | exact ih (s :: s :: S') (k + 1) _ g _ _ (by simp only [List.length_cons]; omega) rfl (fun _ => by rw [show jAr c = 2 by omega] at hok2; exact hok2) hpl2 (by rw [show (jE c).length = 1 by omega] at hb3; exact hb3) (by omega) (fun x hx => by
                  rcases List.mem_cons.mp hx with rfl | hx
                  · omega
                  · rcases List.mem_cons.mp hx with rfl | hx
                    · omega
                    · exact hrg2 x hx) (fun b e1 e2 => by rw [sj_up_row e2]; exact hJ b e1 e2) ⟨by rw [sj_up_self], mAr.up hst (Nat.le_refl _)⟩ (fun j hj => by rw [sj_up_ne (by omega)]; exact hg j hj) hgr (by rw [← hfd, jMn_pair (by omega)])
               | exact ih ((s + 1) :: S') (k + 1) _ g _ _ (by simp only [List.length_cons]; omega) rfl (fun _ => by rw [show jAr c = 1 by omega] at hok2; exact hok2) hpl2 (by rw [show (jE c).length = 1 by omega] at hb3; exact hb3) (by omega) (fun x hx => by
                  rcases List.mem_cons.mp hx with rfl | hx
                  · omega
                  · exact hrg2 x hx) hJ hst hg hgr (by rw [← hfd, jMn_t (by omega)])
               | exact ih ((s - 1) :: S') (k + 2) _ g _ _ (by simp only [List.length_cons]; omega) (by show _ = s - 1; omega) (fun _ => by rw [show jAr c = 1 by omega] at hok2; exact hok2) hpl2 (by rw [show (jE c).length = 2 by omega] at hb3; exact hb3) (by omega) (fun x hx => by
                  rcases List.mem_cons.mp hx with rfl | hx
                  · omega
                  · exact hrg2 x hx) hJ hst hg hgr (by rw [← hfd, jMn_front (by omega)])
          · refine sj_inc3 (by decide) rfl dX10_layShifts_68 ?_
            refine sj_goto 151 dX10_layShifts_71 (by decide) ?_
            refine sj_inc4 (by decide) rfl dX10_layShifts_151 ?_
            refine sj_goto 10 dX10_layShifts_154 (by decide) ?_
            refine sj_fg5 ?_
            first
             | exact ih (s :: s :: S') (k + 1) _ g _ _ (by simp only [List.length_cons]; omega) rfl (fun _ => by rw [show jAr c = 2 by omega] at hok2; exact hok2) hpl2 (by rw [show (jE c).length = 1 by omega] at hb3; exact hb3) (by omega) (fun x hx => by
                rcases List.mem_cons.mp hx with rfl | hx
                · omega
                · rcases List.mem_cons.mp hx with rfl | hx
                  · omega
                  · exact hrg2 x hx) (fun b e1 e2 => by rw [sj_up_row e2]; exact hJ b e1 e2) ⟨by rw [sj_up_self], mAr.up hst (Nat.le_refl _)⟩ (fun j hj => by rw [sj_up_ne (by omega)]; exact hg j hj) hgr (by rw [← hfd, jMn_pair (by omega)])
             | exact ih ((s + 1) :: S') (k + 1) _ g _ _ (by simp only [List.length_cons]; omega) rfl (fun _ => by rw [show jAr c = 1 by omega] at hok2; exact hok2) hpl2 (by rw [show (jE c).length = 1 by omega] at hb3; exact hb3) (by omega) (fun x hx => by
                rcases List.mem_cons.mp hx with rfl | hx
                · omega
                · exact hrg2 x hx) hJ hst hg hgr (by rw [← hfd, jMn_t (by omega)])
             | exact ih ((s - 1) :: S') (k + 2) _ g _ _ (by simp only [List.length_cons]; omega) (by show _ = s - 1; omega) (fun _ => by rw [show jAr c = 1 by omega] at hok2; exact hok2) hpl2 (by rw [show (jE c).length = 2 by omega] at hb3; exact hb3) (by omega) (fun x hx => by
                rcases List.mem_cons.mp hx with rfl | hx
                · omega
                · exact hrg2 x hx) hJ hst hg hgr (by rw [← hfd, jMn_front (by omega)])
        · refine sj_ald0 dX10_layShifts_48 ?_
          refine sj_getR fl_X10_55 (by assumption) rfl (mr_25 _) dX10_layShifts_49 ?_
          refine sj_ild2 dX10_layShifts_52 ?_
          refine sj_ild3 dX10_layShifts_53 ?_
          refine sj_iastJ (S'.length) (by assumption) (by omega) (by omega) (by omega) dX10_layShifts_54 ?_
          refine sj_inc2 (by decide) rfl dX10_layShifts_55 ?_
          refine sj_goto 151 dX10_layShifts_58 (by decide) ?_
          refine sj_inc4 (by decide) rfl dX10_layShifts_151 ?_
          refine sj_goto 10 dX10_layShifts_154 (by decide) ?_
          refine sj_fg5 ?_
          first
           | exact ih (s :: s :: S') (k + 1) _ g _ _ (by simp only [List.length_cons]; omega) rfl (fun _ => by rw [show jAr c = 2 by omega] at hok2; exact hok2) hpl2 (by rw [show (jE c).length = 1 by omega] at hb3; exact hb3) (by omega) (fun x hx => by
              rcases List.mem_cons.mp hx with rfl | hx
              · omega
              · rcases List.mem_cons.mp hx with rfl | hx
                · omega
                · exact hrg2 x hx) (fun b e1 e2 => by rw [sj_up_row e2]; exact hJ b e1 e2) ⟨by rw [sj_up_self], mAr.up hst (Nat.le_refl _)⟩ (fun j hj => by rw [sj_up_ne (by omega)]; exact hg j hj) hgr (by rw [← hfd, jMn_pair (by omega)])
           | exact ih ((s + 1) :: S') (k + 1) _ g _ _ (by simp only [List.length_cons]; omega) rfl (fun _ => by rw [show jAr c = 1 by omega] at hok2; exact hok2) hpl2 (by rw [show (jE c).length = 1 by omega] at hb3; exact hb3) (by omega) (fun x hx => by
              rcases List.mem_cons.mp hx with rfl | hx
              · omega
              · exact hrg2 x hx) hJ hst hg hgr (by rw [← hfd, jMn_t (by omega)])
           | exact ih ((s - 1) :: S') (k + 2) _ g _ _ (by simp only [List.length_cons]; omega) (by show _ = s - 1; omega) (fun _ => by rw [show jAr c = 1 by omega] at hok2; exact hok2) hpl2 (by rw [show (jE c).length = 2 by omega] at hb3; exact hb3) (by omega) (fun x hx => by
              rcases List.mem_cons.mp hx with rfl | hx
              · omega
              · exact hrg2 x hx) hJ hst hg hgr (by rw [← hfd, jMn_front (by omega)])
  refine sj_iconst dX10_layShifts_0 ?_
  refine sj_ist2 (by decide) rfl dX10_layShifts_1 ?_
  refine sj_iconst dX10_layShifts_2 ?_
  refine sj_ist3 (by decide) rfl dX10_layShifts_3 ?_
  refine sj_ild1 dX10_layShifts_4 ?_
  refine sj_callS (cm_begin) kc_X10_106 rfl rfl (Nat.le_of_ble_eq_true rfl) dX10_layShifts_5 (fun r_5 σ_5 I_5 hp_5 => ?_)
  obtain ⟨rfl, rfl, rfl⟩ := hp_5
  refine sj_ist4 (by decide) rfl dX10_layShifts_8 ?_
  exact lp T [0] (2 + 250 * a) I f 0 0 rfl rfl hT2 hT4 (by rw [← hT1, mB_len]; rfl) rfl (fun x hx => by rw [List.mem_singleton.mp hx]; omega) (fun _ _ _ => rfl) trivial hf hr rfl
end MODEL31
