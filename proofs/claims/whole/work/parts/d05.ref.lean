theorem jStr_congr2 {v v' : Nat → Int} {a : Nat} {u : Int} (h : ∀ k, k < 400 → v (400 * a + k) = v' (400 * a + k)) : jStr v a u = jStr v' a u := by
  have e := jRh_congr h 400 0 (by omega)
  have hle := jRh_le v' (400 * a) 400 0
  unfold jStr
  rw [e, jDs_congr _ (fun k hk => h k (by omega)), jSm_congr _ (fun k hk => h k (by omega)), jPd_congr (fun k hk => h k (by omega)) _ 100 1 (by omega)]
theorem jBits : ∀ F : Nat, F < 4 → ∀ i : Nat, i < 2 → (F ||| 2 ^ i) < 4 ∧ ∀ k : Nat, k < 2 → ((F ||| 2 ^ i) / 2 ^ k % 2 = 1 ↔ (k = i ∨ F / 2 ^ k % 2 = 1)) := by decide
section REFZ
variable {l : Launch} {G : sjG} {σ : sjS} {I : sjI} {o : Nat} {Q : aQ} {a b c i u : Int}
theorem rPost.same {r : Option Value} {z : Int} (h : rI σ I o Q) (hr : r = some (.int (zI z))) : rPost σ I o (z, Q) r σ I := ⟨rfl, fun _ _ => rfl, hr, h⟩
theorem rz_write (h : rI σ I o Q) (hc : -2147483648 ≤ c ∧ c < 2147483648) : sj_Con l yX10_write mX10_write G σ I [.ref o, .int (zI c)] (rPost σ I o (sp_write c Q)) := by
  obtain ⟨t1, t2, t3, t4⟩ := h.2.2.1
  refine (cm_write h.1 hc (by omega)).weak (fun r σ' I' hp => ?_)
  obtain ⟨rfl, hp⟩ := hp
  show rPost σ I o (sp_write c Q) r σ I'
  unfold sp_write
  rcases hp with ⟨g, hr, rfl⟩ | ⟨g1, g2, hr, rfl⟩ | ⟨g1, g2, hr, rfl⟩
  · rw [if_pos g]; exact rPost.same h hr
  · rw [if_neg (fun z => z g1), if_pos (by omega)]; exact rPost.same h hr
  · rw [if_neg (fun z => z g1), if_neg (by omega)]
    have ht : (I o 6).toNat = Q.1.length := by omega
    refine ⟨rfl, fun q hq => by rw [sj_up_row (by omega), sj_up_row (by omega)], by rw [hr, t1], ?_⟩
    refine h.txt (fun q q1 q2 => by rw [sj_up_row q1, sj_up_row q2]) (fun j hj => by rw [sj_up_ne (by omega), sj_up_ne (by omega)]) ⟨by rw [sj_up_self, t1, List.length_append]; rfl, by rw [List.length_append, List.length_singleton]; omega, ?_, fun d hd => ?_⟩
    · rw [List.length_append, List.length_singleton, sj_up_row (by omega), ht]
      have := lst_up_succ (I := I) (a := o + 4) (s := 0) (n := Q.1.length) (v := c)
      rw [Nat.zero_add] at this
      rw [this, t3]
    · rcases List.mem_append.mp hd with hd | hd
      · exact t4 d hd
      · rw [List.mem_singleton.mp hd]; exact g1
theorem rz_wipe (h : rI σ I o Q) : sj_Con l yX10_wipe mX10_wipe G σ I [.ref o] (rPost σ I o (sp_wipe Q)) := by
  obtain ⟨t1, t2, t3, t4⟩ := h.2.2.1
  refine (cm_wipe h.1).weak (fun r σ' I' hp => ?_)
  obtain ⟨hr, rfl, rfl⟩ := hp
  refine ⟨rfl, fun q hq => sj_up_row (by omega), by rw [hr, t1]; rfl, ?_⟩
  exact h.txt (fun q q1 q2 => sj_up_row q1) (fun j hj => sj_up_ne (by omega)) ⟨by rw [sj_up_self]; rfl, by simp, rfl, fun d hd => by cases hd⟩
theorem rz_fault (h : rI σ I o Q) : sj_Con l yX10_fault mX10_fault G σ I [.ref o] (rPost σ I o (sp_fault Q)) := by
  obtain ⟨t1, t2, t3, t4⟩ := h.2.2.1
  refine (cm_fault h.1 ⟨t1, t2⟩ t3 t4).weak (fun r σ' I' hp => ?_)
  obtain ⟨hr, rfl, k1, k2, _⟩ := hp
  refine ⟨rfl, fun q hq => k1 q (by omega) (by omega), hr, ?_⟩
  exact h.kp ⟨fun q hq => k1 q (by omega) (by omega), ⟨k2 2 (by decide), k2 4 (by decide), k2 6 (by decide), k2 15 (by decide)⟩, fun q hq => k1 q (by omega) (by omega)⟩
theorem rI.past (h : rI σ I o Q) : 0 ≤ I o 2 ∧ I o 2 ≤ 8 := by
  have := h.2.2.2.1.1
  have := h.2.2.2.1.2.1
  omega
theorem rPost.kp {I' : sjI} {r : Option Value} {z : Int} (h : rI σ I o Q) (hk : mKp o I I') (hr : r = some (.int (zI z))) : rPost σ I o (z, Q) r σ I' := ⟨rfl, hk.2.2, hr, h.kp hk⟩
theorem rPost.chg {I' : sjI} {r : Option Value} {z : Int} {S : aSt} (h : rI σ I o Q) (hk : mChg o I I') (hS : mSt (I' (o + 1)) S) (hr : r = some (.int (zI z))) : rPost σ I o (z, sp_to Q S) r σ I' := ⟨rfl, hk.2.2.1, hr, rI.chg (X := Q.1) (S := Q.2.1) (H := Q.2.2.1) (im := Q.2.2.2) h hk hS⟩
theorem rz_define (h : rI σ I o Q) (ha : -2147483648 ≤ a ∧ a < 2147483648) : sj_Con l yX10_define mX10_define G σ I [.ref o, .int (zI a)] (rPost σ I o (sp_define a Q)) := by
  obtain ⟨t1, t2, t3, t4⟩ := h.2.2.1
  refine (cm_define h.1 h.past h.2.1.2.2.1 ⟨t1, t2⟩ t3 t4 ha).weak (fun r σ' I' hp => ?_)
  obtain ⟨rfl, hp⟩ := hp
  show rPost σ I o (sp_define a Q) r σ I'
  unfold sp_define
  rcases hp with ⟨g, hr, k⟩ | ⟨g1, g2, hr, k⟩ | ⟨g1, g2, hr, k, ks⟩
  · rw [if_pos g]; exact rPost.kp h k hr
  · rw [if_neg (fun z => z g1), if_pos g2]; exact rPost.kp h k hr
  · rw [if_neg (fun z => z g1), if_neg (fun z => z g2)]
    obtain ⟨q1, q2⟩ := (jCd_ok Q.1 1 0 (by decide)).1 g2
    have q3 := jCd_len Q.1 false
    rw [← q2] at ks hr
    exact rPost.chg h k (h.2.1.set (by omega) ks q1 (by omega)) (by rw [hr, jSz_enc _ 0 (by decide) (jOk_vc _ 1 q1)])
theorem rz_undefine (h : rI σ I o Q) (ha : -2147483648 ≤ a ∧ a < 2147483648) : sj_Con l yX10_undefine mX10_undefine G σ I [.ref o, .int (zI a)] (rPost σ I o (sp_undefine a Q)) := by
  refine (cm_undefine h.1 h.past h.2.1.2.2.1 ha).weak (fun r σ' I' hp => ?_)
  obtain ⟨rfl, hp⟩ := hp
  show rPost σ I o (sp_undefine a Q) r σ I'
  unfold sp_undefine
  rcases hp with ⟨g, hr, rfl⟩ | ⟨g1, g2, hr, rfl⟩ | ⟨g1, g2, hr, k, ks⟩
  · rw [if_pos g]; exact rPost.same h hr
  · rw [if_neg (fun z => z g1)]
    rcases h.2.1.term (a := a.toNat) (by omega) with ⟨q1, q2, _⟩ | ⟨T, q1, q2, _⟩
    · rw [q1]; exact rPost.same h hr
    · omega
  · rw [if_neg (fun z => z g1)]
    rcases h.2.1.term (a := a.toNat) (by omega) with ⟨q1, q2, _⟩ | ⟨T, q1, q2, q3, q4, _⟩
    · omega
    · rw [q1]; exact rPost.chg h k (h.2.1.del (by omega) ks) (by rw [hr, q3, jSz_enc T 0 (by decide) (jOk_vc T 1 q4)])
theorem rz_setModulus (h : rI σ I o Q) (ha : -2147483648 ≤ a ∧ a < 2147483648) : sj_Con l yX10_setModulus mX10_setModulus G σ I [.ref o, .int (zI a)] (rPost σ I o (sp_setModulus a Q)) := by
  refine (cm_setModulus h.1 h.past ha).weak (fun r σ' I' hp => ?_)
  obtain ⟨rfl, hp⟩ := hp
  show rPost σ I o (sp_setModulus a Q) r σ I'
  unfold sp_setModulus
  rcases hp with ⟨g, hr, rfl⟩ | ⟨g1, hr, k, ks⟩
  · rw [if_pos g]; exact rPost.same h hr
  · rw [if_neg (fun z => z g1)]
    exact rPost.chg h k (by rw [ks]; exact h.2.1.mod g1) (by rw [hr, h.2.1.1])
theorem rz_insert (h : rI σ I o Q) (ha : -2147483648 ≤ a ∧ a < 2147483648) (hb : -2147483648 ≤ b ∧ b < 2147483648) : sj_Con l yX10_insert mX10_insert G σ I [.ref o, .int (zI a), .int (zI b)] (rPost σ I o (sp_insert a b Q)) := by
  by_cases hg : (0 ≤ a ∧ a ≤ 7) ∧ (0 ≤ b ∧ b ≤ 7)
  · have key : ∀ T U, Q.2.1.2 a.toNat = some T → Q.2.1.2 b.toNat = some U → jSz 0 (mB (I (o + 1)) a.toNat) + jOc (65 + b) (mB (I (o + 1)) a.toNat) * (jSz 0 (mB (I (o + 1)) b.toNat) - 1) = ((jIns (65 + b) U T).length : Int) ∧ jIns (65 + b) (mB (I (o + 1)) b.toNat) (mB (I (o + 1)) a.toNat) = jEnc (jIns (65 + b) U T) ∧ jOk 1 (jIns (65 + b) U T) := fun T U e1 e2 => by
      have s1 := h.2.1.sz (a := a.toNat) (by omega)
      have s2 := h.2.1.sz (a := b.toNat) (by omega)
      have s3 := h.2.1.enc (a := a.toNat) (by omega)
      have s4 := h.2.1.enc (a := b.toNat) (by omega)
      have s5 := h.2.1.vc (a := a.toNat) (by omega)
      rw [e1] at s1 s3 s5
      rw [e2] at s2 s4
      have s1' : jSz 0 (mB (I (o + 1)) a.toNat) = (T.length : Int) := s1
      have s2' : jSz 0 (mB (I (o + 1)) b.toNat) = (U.length : Int) := s2
      have s3' : mB (I (o + 1)) a.toNat = jEnc T := s3
      have s4' : mB (I (o + 1)) b.toNat = jEnc U := s4
      have s5' : ∀ c ∈ T, jVc c := s5
      have o1 : jOk 1 T := by
        rcases h.2.1.term (a := a.toNat) (by omega) with ⟨q1, _⟩ | ⟨T', q1, _, _, q4, _⟩
        · rw [e1] at q1; cases q1
        · rw [e1] at q1; cases q1; exact q4
      have o2 : jOk 1 U := by
        rcases h.2.1.term (a := b.toNat) (by omega) with ⟨q1, _⟩ | ⟨T', q1, _, _, q4, _⟩
        · rw [e2] at q1; cases q1
        · rw [e2] at q1; cases q1; exact q4
      refine ⟨?_, ?_, jIns_ok (by omega) o2 T 1 o1⟩
      · rw [s1', s2', s3', jOc_enc (by omega) T s5', jIns_len]
      · rw [s3', s4', jIns_enc (by omega) U T s5']
    refine (cm_insert h.1 h.past h.2.1.2.2.1 ha hb (fun hsz hp hq => ?_)).weak (fun r σ' I' hp => ?_)
    · rcases h.2.1.term (a := a.toNat) (by omega) with ⟨q1, q2, _⟩ | ⟨T, q1, _⟩
      · omega
      · rcases h.2.1.term (a := b.toNat) (by omega) with ⟨p1, p2, _⟩ | ⟨U, p1, _⟩
        · omega
        · obtain ⟨k1, k2, _⟩ := key T U q1 p1
          have := jEnc_len (jIns (65 + b) U T)
          rw [k2]
          omega
    · obtain ⟨rfl, hp⟩ := hp
      show rPost σ I o (sp_insert a b Q) r σ I'
      unfold sp_insert
      rw [if_neg (fun z => z hg)]
      rcases h.2.1.term (a := a.toNat) (by omega) with ⟨q1, q2, _⟩ | ⟨T, q1, q2, _⟩
      · rcases hp with ⟨g, _⟩ | ⟨g1, g2, hr, rfl⟩ | ⟨g1, g2, _⟩ | ⟨g1, g2, _⟩
        · exact absurd hg g
        · rw [q1]; exact rPost.same h hr
        · omega
        · omega
      · rcases h.2.1.term (a := b.toNat) (by omega) with ⟨p1, p2, _⟩ | ⟨U, p1, p2, _⟩
        · rcases hp with ⟨g, _⟩ | ⟨g1, g2, hr, rfl⟩ | ⟨g1, g2, _⟩ | ⟨g1, g2, _⟩
          · exact absurd hg g
          · rw [q1, p1]; exact rPost.same h hr
          · omega
          · omega
        · obtain ⟨k1, k2, k3⟩ := key T U q1 p1
          rw [q1, p1]
          show rPost σ I o (if 120 < (jIns (65 + b) U T).length then ((-3 : Int), Q) else (((jIns (65 + b) U T).length : Int), sp_to Q (Q.2.1.1, jSe Q.2.1.2 a.toNat (some (jIns (65 + b) U T))))) r σ I'
          rcases hp with ⟨g, _⟩ | ⟨g1, g2, hr, rfl⟩ | ⟨g1, g2, g3, hr, rfl⟩ | ⟨g1, g2, g3, hr, kc, ks⟩
          · exact absurd hg g
          · exact absurd ⟨q2, p2⟩ g2
          · rw [if_pos (by omega)]; exact rPost.same h hr
          · rw [if_neg (by omega)]
            rw [k2] at ks hr
            exact rPost.chg h kc (h.2.1.set (by omega) ks k3 (by omega)) (by rw [hr, jSz_enc _ 0 (by decide) (jOk_vc _ 1 k3)])
  · refine (cm_insert_out h.1 ha hb hg).weak (fun r σ' I' hp => ?_)
    obtain ⟨hr, rfl, rfl⟩ := hp
    show rPost σ I o (sp_insert a b Q) r σ I
    unfold sp_insert
    rw [if_pos hg]; exact rPost.same h hr
theorem rz_simplify (h : rI σ I o Q) (ha : -2147483648 ≤ a ∧ a < 2147483648) : sj_Con l yX10_simplify mX10_simplify G σ I [.ref o, .int (zI a)] (rPost σ I o (sp_simplify a Q)) := by
  refine (cm_simplify (N := 1000000) (T := (Q.2.1.2 a.toNat).getD []) h.1 h.past h.2.1.2.2.1 ha (Nat.le_refl _) (fun g1 g2 => ?_)).weak (fun r σ' I' hp => ?_)
  · rcases h.2.1.term (a := a.toNat) (by omega) with ⟨q1, q2, _⟩ | ⟨T, q1, q2, q3, q4, q5⟩
    · omega
    · rw [q1]; exact ⟨q3, q4, q5, jTer_all q4 q5⟩
  · obtain ⟨rfl, hp⟩ := hp
    show rPost σ I o (sp_simplify a Q) r σ I'
    unfold sp_simplify
    generalize (1000000 : Nat) = N at hp ⊢
    rcases hp with ⟨g, hr, k⟩ | ⟨g1, g2, hr, k⟩ | ⟨g1, g2, g3, hr, k⟩ | ⟨n, U, g1, g2, g3, hr, k, ks⟩
    · rw [if_pos g]; exact rPost.kp h k hr
    · rw [if_neg (fun z => z g1)]
      rcases h.2.1.term (a := a.toNat) (by omega) with ⟨q1, q2, _⟩ | ⟨T, q1, q2, q3, q4, q5⟩
      · rw [q1]; exact rPost.kp h k hr
      · omega
    · rw [if_neg (fun z => z g1)]
      rcases h.2.1.term (a := a.toNat) (by omega) with ⟨q1, q2, _⟩ | ⟨T, q1, q2, q3, q4, q5⟩
      · omega
      · rw [q1] at g3 ⊢
        have g3' : jSi N T = none := g3
        simp only [g3']
        exact rPost.kp h k hr
    · rw [if_neg (fun z => z g1)]
      rcases h.2.1.term (a := a.toNat) (by omega) with ⟨q1, q2, _⟩ | ⟨T, q1, q2, q3, q4, q5⟩
      · omega
      · rw [q1] at g3 ⊢
        have g3' : jSi N T = some (n, U) := g3
        obtain ⟨u1, u2⟩ := jSi_ok N T n U q4 q5 g3'
        simp only [g3']
        exact rPost.chg h k (h.2.1.set (by omega) ks u1 u2) hr
theorem rz_undo (h : rI σ I o Q) : sj_Con l yX10_undo mX10_undo G σ I [.ref o] (rPost σ I o (sp_undo Q)) := by
  obtain ⟨t1, t2, t3⟩ := h.2.2.2.1
  refine (cm_undo h.1 h.past).weak (fun r σ' I' hp => ?_)
  obtain ⟨rfl, hp⟩ := hp
  show rPost σ I o (sp_undo Q) r σ I'
  unfold sp_undo
  rcases hp with ⟨g, hr, rfl⟩ | ⟨g, hr, rfl⟩
  · rw [List.length_eq_zero_iff.mp (show Q.2.2.1.length = 0 by omega)]
    exact rPost.same h hr
  · cases hl : Q.2.2.1.getLast? with
    | none =>
      rw [List.getLast?_eq_none_iff] at hl
      rw [hl] at t1
      have : I o 2 = 0 := t1
      omega
    | some S' =>
      have hl2 : Q.2.2.1[Q.2.2.1.length - 1]? = some S' := by rw [← List.getLast?_eq_getElem?]; exact hl
      have e1 : (I o 2 - 1).toNat = Q.2.2.1.length - 1 := by omega
      have hm := t3 _ _ hl2
      have hlt : 0 < Q.2.2.1.length := by omega
      refine ⟨rfl, fun q hq => by rw [sj_up_row (by omega), sj_ur_ne (by omega), sj_up_row (by omega)], by rw [hr]; show some (Value.int (zI (I o 2 - 1))) = some (.int (zI ((Q.2.2.1.length - 1 : Nat) : Int))); rw [show I o 2 - 1 = ((Q.2.2.1.length - 1 : Nat) : Int) by omega], ?_⟩
      have row : ∀ q, q ≠ o → q ≠ o + 1 → sj_up (sj_ur (sj_up I o 2 (I o 2 - 1)) (o + 1) (va_cpy (I (o + 2)) (I (o + 1)) (2001 * (I o 2 - 1).toNat) 0 2001)) o 15 0 q = I q := fun q q1 q2 => by rw [sj_up_row q1, sj_ur_ne q2, sj_up_row q1]
      have fld : ∀ j, j ≠ 2 → j ≠ 15 → sj_up (sj_ur (sj_up I o 2 (I o 2 - 1)) (o + 1) (va_cpy (I (o + 2)) (I (o + 1)) (2001 * (I o 2 - 1).toNat) 0 2001)) o 15 0 o j = I o j := fun j j1 j2 => by rw [sj_up_ne (by omega), sj_ur_ne (by omega), sj_up_ne (by omega)]
      obtain ⟨h1, h2, h3, h4, h5, h7⟩ := h
      unfold rI
      rw [row (o + 2) (by omega) (by omega), row (o + 3) (by omega) (by omega), row (o + 4) (by omega) (by omega), fld 6 (by decide) (by decide), fld 4 (by decide) (by decide)]
      refine ⟨h1, ?_, h3, ⟨?_, ?_, fun k S2 hk => ?_⟩, h5, Or.inl (sj_up_self _ _ _ _)⟩
      · rw [sj_up_row (by omega), sj_ur_self, e1]
        refine hm.congr (fun j hj => ?_)
        have := cpy_in (f := I (o + 2)) (g := I (o + 1)) (sp := 2001 * (Q.2.2.1.length - 1)) (dp := 0) (n := 2001) (j := j) hj
        rw [Nat.zero_add] at this
        exact this
      · rw [sj_up_ne (by omega), sj_ur_ne (by omega), sj_up_self]
        show I o 2 - 1 = ((Q.2.2.1.dropLast.length : Nat) : Int)
        rw [List.length_dropLast]
        omega
      · show Q.2.2.1.dropLast.length ≤ 8
        rw [List.length_dropLast]
        omega
      · refine t3 k S2 ?_
        have hk' : Q.2.2.1.dropLast[k]? = some S2 := hk
        rw [List.getElem?_dropLast] at hk'
        split at hk'
        · exact hk'
        · cases hk'
theorem rz_listing (h : rI σ I o Q) (ha : -2147483648 ≤ a ∧ a < 2147483648) (hb : -2147483648 ≤ b ∧ b < 2147483648) : sj_Con l yX10_listing mX10_listing G σ I [.ref o, .int (zI a), .int (zI b)] (rPost σ I o (sp_listing a b Q)) := by
  refine (cm_listing h.1 h.2.1.2.2.1 ha hb).weak (fun r σ' I' hp => ?_)
  obtain ⟨hr, rfl, rfl⟩ := hp
  refine rPost.same h ?_
  rw [hr]
  by_cases hg : (0 ≤ a ∧ a ≤ 7) ∧ 0 ≤ b
  · rw [if_pos hg, if_pos hg]
    have e := h.2.1.enc (a := a.toNat) (by omega)
    have hw := (h.2.1.2.2.1 a.toNat (by omega)).1
    rw [← e]
    have hl : (mB (I (o + 1)) a.toNat).length = (I (o + 1) (1 + 250 * a.toNat)).toNat := lst_len _ _ _
    rw [hl]
    by_cases hk : b < I (o + 1) (1 + 250 * a.toNat)
    · rw [if_pos hk, if_pos (by omega)]
      have := lst_getD (f := I (o + 1)) (s := 2 + 250 * a.toNat) (n := (I (o + 1) (1 + 250 * a.toNat)).toNat) (j := b.toNat) (L := mB (I (o + 1)) a.toNat) rfl (by omega)
      rw [this]
    · rw [if_neg hk, if_neg (by omega)]
  · rw [if_neg hg, if_neg hg]
theorem rz_uses (h : rI σ I o Q) (ha : -2147483648 ≤ a ∧ a < 2147483648) : sj_Con l yX10_uses mX10_uses G σ I [.ref o, .int (zI a)] (rPost σ I o (sp_uses a Q)) := by
  refine (cm_uses h.1 h.2.1.2.2.1 ha).weak (fun r σ' I' hp => ?_)
  obtain ⟨hr, rfl, rfl⟩ := hp
  refine rPost.same h ?_
  rw [hr]
  by_cases hg : 0 ≤ a ∧ a ≤ 7
  · rw [if_pos hg, if_pos hg]
    rcases h.2.1.term (a := a.toNat) (by omega) with ⟨q1, q2, _⟩ | ⟨T, q1, q2, q3, q4, _⟩
    · rw [if_neg (by omega), q1]
    · rw [if_pos q2, q1, q3]
  · rw [if_neg hg, if_neg hg]
theorem rz_cycle (h : rI σ I o Q) (ha : -2147483648 ≤ a ∧ a < 2147483648) : sj_Con l yX10_cycle mX10_cycle G σ I [.ref o, .int (zI a)] (rPost σ I o (sp_cycle a Q)) := by
  have e := h.2.1.pl 8 (by omega)
  refine (cm_cycle h.1 ha h.2.1.2.2.1 h.2.1.2.2.2).weak (fun r σ' I' hp => ?_)
  obtain ⟨rfl, hp⟩ := hp
  rw [e] at hp
  show rPost σ I o (sp_cycle a Q) r σ I'
  unfold sp_cycle
  rcases hp with ⟨g, hr, rfl⟩ | ⟨g, g2, hr, rfl⟩ | ⟨g, g2, hr, k⟩
  · rw [if_pos g]; exact rPost.same h hr
  · rw [if_neg (show ¬ ¬ (0 ≤ a ∧ a ≤ 7) from fun z => z g), if_pos g2]; exact rPost.same h hr
  · rw [if_neg (show ¬ ¬ (0 ≤ a ∧ a ≤ 7) from fun z => z g), if_neg (show ¬ ¬ jPe Q.2.1.2 8 = true from fun z => z g2)]
    have k0 := k o (by omega) (by omega) (by omega)
    exact rPost.kp h ⟨fun q hq => k q (by omega) (by omega) (by omega), by rw [k0]; exact ⟨rfl, rfl, rfl, rfl⟩, fun q hq => k q (by omega) (by omega) (by omega)⟩ hr
end REFZ
