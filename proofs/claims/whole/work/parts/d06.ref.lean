theorem jTld_eq {f : Nat → Int} {X : List Int} {S : aSt} {H : List aSt} {q : Int} (h : mSt f S) : jTld f X.length H.length q = jTlc X S H q := by
  unfold jTld jTlc
  rw [h.1, h.cnt 8 (by omega), h.all 8 (by omega), h.pl 8 (by omega)]
section REFV
variable {l : Launch} {G : sjG} {σ : sjS} {I : sjI} {o : Nat} {Q : aQ} {a b c i u : Int}
theorem rPost.ne {I' : sjI} {r : Option Value} {z : Int} (h : rI σ I o Q) (hn : mNe o I I') (h15 : I' o 15 = 1) (hL : mLd o Q.2.1.1 Q.2.1.2 I') (hr : r = some (.int (zI z))) : rPost σ I o (z, Q) r σ I' := ⟨rfl, hn.out, hr, h.ne hn h15 hL⟩
theorem rz_told (h : rI σ I o Q) (ha : -2147483648 ≤ a ∧ a < 2147483648) : sj_Con l yX10_told mX10_told G σ I [.ref o, .int (zI a)] (rPost σ I o (sp_told a Q)) := by
  refine (cm_told h.1 h.2.1.2.2.1 h.2.1.2.2.2 h.2.1.1 h.2.1.2.1 h.2.2.2.2.2 ha).weak (fun r σ' I' hp => ?_)
  obtain ⟨rfl, hp⟩ := hp
  show rPost σ I o (sp_told a Q) r σ I'
  unfold sp_told
  rcases hp with ⟨g, hr, k, k15, kL⟩ | ⟨g, rfl, hr⟩
  · rw [if_pos g]
    exact rPost.ne h k.ne k15 kL (by rw [hr, jEnd_congr (fun q hq => kL.val h.2.1.2.1.1 hq) 8 (by omega)])
  · rw [if_neg g]
    refine rPost.same h ?_
    rw [hr, h.2.2.1.1, h.2.2.2.1.1, jTld_eq h.2.1]
theorem rz_value (h : rI σ I o Q) (ha : -2147483648 ≤ a ∧ a < 2147483648) (hb : -2147483648 ≤ b ∧ b < 2147483648) : sj_Con l yX10_value mX10_value G σ I [.ref o, .int (zI a), .int (zI b)] (rPost σ I o (sp_value a b Q)) := by
  refine (cm_value h.1 h.2.1.2.2.1 h.2.1.2.2.2 h.2.1.1 h.2.1.2.1 h.2.2.2.2.2 ha hb).weak (fun r σ' I' hp => ?_)
  obtain ⟨rfl, hp⟩ := hp
  show rPost σ I o (sp_value a b Q) r σ I'
  unfold sp_value
  rcases hp with ⟨g, hr, rfl⟩ | ⟨g, hr, k, k15, kL⟩
  · rw [if_neg g]; exact rPost.same h hr
  · rw [if_pos g]
    exact rPost.ne h k.ne k15 kL (by rw [hr, kL.val h.2.1.2.1.1 (by omega)])
theorem rz_stream (h : rI σ I o Q) (ha : -2147483648 ≤ a ∧ a < 2147483648) (hb : -2147483648 ≤ b ∧ b < 2147483648) : sj_Con l yX10_stream mX10_stream G σ I [.ref o, .int (zI a), .int (zI b)] (rPost σ I o (sp_stream a b Q)) := by
  refine (cm_stream h.1 h.2.1.2.2.1 h.2.1.2.2.2 h.2.1.1 h.2.1.2.1 h.2.2.2.2.2 ha hb).weak (fun r σ' I' hp => ?_)
  obtain ⟨rfl, hp⟩ := hp
  show rPost σ I o (sp_stream a b Q) r σ I'
  unfold sp_stream
  rcases hp with ⟨g, hr, rfl⟩ | ⟨g, g2, hr, rfl⟩ | ⟨g, g2, hr, k, k15, kL⟩
  · rw [if_pos g]; exact rPost.same h hr
  · rw [if_neg (fun z => z ⟨g, by omega⟩), if_pos g2]
    refine rPost.same h ?_
    rw [hr]
    rcases h.2.1.term (a := a.toNat) (by omega) with ⟨q1, q2, _⟩ | ⟨T, q1, q2, q3, q4, _⟩
    · rw [if_neg (by omega), q1]
    · rw [if_pos q2, q1, q3, jSz_enc T 0 (by decide) (jOk_vc T 1 q4)]
  · rw [if_neg (fun z => z ⟨g, by omega⟩), if_neg (by omega)]
    exact rPost.ne h k.ne k15 kL (by rw [hr, jStr_congr2 (fun q hq => kL.val h.2.1.2.1.1 (by omega))])
theorem rz_parting (h : rI σ I o Q) (ha : -2147483648 ≤ a ∧ a < 2147483648) (hb : -2147483648 ≤ b ∧ b < 2147483648) : sj_Con l yX10_parting mX10_parting G σ I [.ref o, .int (zI a), .int (zI b)] (rPost σ I o (sp_parting a b Q)) := by
  refine (cm_parting h.1 h.2.1.2.2.1 h.2.1.2.2.2 h.2.1.1 h.2.1.2.1 h.2.2.2.2.2 ha hb).weak (fun r σ' I' hp => ?_)
  obtain ⟨rfl, hp⟩ := hp
  show rPost σ I o (sp_parting a b Q) r σ I'
  unfold sp_parting
  rcases hp with ⟨g, hr, rfl⟩ | ⟨g, hr, k, k15, kL⟩
  · rw [if_pos g]; exact rPost.same h hr
  · rw [if_neg (fun z => z g)]
    exact rPost.ne h k.ne k15 kL (by rw [hr, jPr_congr (fun q hq => ⟨kL.val h.2.1.2.1.1 (by omega), kL.val h.2.1.2.1.1 (by omega)⟩) 400 0 (by omega)])
theorem rz_alike (h : rI σ I o Q) (ha : -2147483648 ≤ a ∧ a < 2147483648) : sj_Con l yX10_alike mX10_alike G σ I [.ref o, .int (zI a)] (rPost σ I o (sp_alike a Q)) := by
  refine (cm_alike h.1 h.2.1.2.2.1 h.2.1.2.2.2 h.2.1.1 h.2.1.2.1 h.2.2.2.2.2 ha).weak (fun r σ' I' hp => ?_)
  obtain ⟨rfl, hp⟩ := hp
  show rPost σ I o (sp_alike a Q) r σ I'
  unfold sp_alike
  rcases hp with ⟨g, hr, rfl⟩ | ⟨g, hr, k, k15, kL⟩
  · rw [if_pos g]; exact rPost.same h hr
  · rw [if_neg (fun z => z g)]
    exact rPost.ne h k.ne k15 kL (by rw [hr, jAl_congr (by omega) (fun q hq => kL.val h.2.1.2.1.1 hq) 8 (by omega)])
theorem rz_needs (h : rI σ I o Q) (ha : -2147483648 ≤ a ∧ a < 2147483648) (hb : -2147483648 ≤ b ∧ b < 2147483648) (hu : -2147483648 ≤ u ∧ u < 2147483648) : sj_Con l yX10_needs mX10_needs G σ I [.ref o, .int (zI a), .int (zI b), .int (zI u)] (rPost σ I o (sp_needs a b u Q)) := by
  refine (cm_needs h.1 h.2.1.2.2.1 h.2.1.2.2.2 h.2.1.1 h.2.1.2.1 h.2.2.2.2.2 ha hb hu).weak (fun r σ' I' hp => ?_)
  obtain ⟨rfl, hp⟩ := hp
  show rPost σ I o (sp_needs a b u Q) r σ I'
  unfold sp_needs
  rcases hp with ⟨g, hr, rfl⟩ | ⟨g, hr, k, k15, kL⟩
  · rw [if_pos g]; exact rPost.same h hr
  · rw [if_neg (fun z => z g)]
    exact rPost.ne h k k15 kL (by rw [hr, jNe_congr (M := Q.2.1.1) (kL.val h.2.1.2.1.1 (by omega)) (fun z => kL.2.2.1 _ (by omega) z)])
theorem rz_keep (h : rI σ I o Q) (ha : -2147483648 ≤ a ∧ a < 2147483648) : sj_Con l yX10_keep mX10_keep G σ I [.ref o, .int (zI a)] (rPost σ I o (sp_keep a Q)) := by
  obtain ⟨F, f1, f2, f3⟩ := h.2.2.2.2.1
  refine (cmr_keep h.1 f1 f2 h.2.1.2.2.1 ha).weak (fun r σ' I' hp => ?_)
  obtain ⟨rfl, hp⟩ := hp
  show rPost σ I o (sp_keep a Q) r σ I'
  unfold sp_keep
  rcases hp with ⟨g, hr, rfl⟩ | ⟨g, hr, rfl⟩
  · rw [if_pos g]; exact rPost.same h hr
  · rw [if_neg (fun z => z g)]
    obtain ⟨ii, rfl⟩ := jNat (a := a) (by omega)
    rw [show (ii : Int).toNat = ii from rfl]
    refine ⟨rfl, fun q hq => by rw [sj_up_row (by omega), sj_ur_ne (by omega)], by rw [hr, h.2.1.cnt 8 (by omega)], ?_⟩
    obtain ⟨g1, g2⟩ := jBits F f2 ii (by omega)
    have row : ∀ q, q ≠ o → q ≠ o + 3 → sj_up (sj_ur I (o + 3) (va_cpy (I (o + 1)) (I (o + 3)) 0 (2001 * ii) 2001)) o 4 ((F ||| 2 ^ ii : Nat) : Int) q = I q := fun q q1 q2 => by rw [sj_up_row q1, sj_ur_ne q2]
    have fld : ∀ j, j ≠ 4 → sj_up (sj_ur I (o + 3) (va_cpy (I (o + 1)) (I (o + 3)) 0 (2001 * ii) 2001)) o 4 ((F ||| 2 ^ ii : Nat) : Int) o j = I o j := fun j j1 => by rw [sj_up_ne (by omega), sj_ur_ne (by omega)]
    obtain ⟨h1, h2, h3, h4, h5, h7⟩ := h
    unfold rI
    rw [row (o + 1) (by omega) (by omega), row (o + 2) (by omega) (by omega), row (o + 4) (by omega) (by omega), fld 6 (by decide), fld 2 (by decide), fld 15 (by decide)]
    refine ⟨h1, h2, h3, h4, ⟨F ||| 2 ^ ii, sj_up_self _ _ _ _, g1, fun k hk => ⟨?_, fun S' hS' => ?_⟩⟩, h7.imp id (fun q => ⟨q.1, q.2.of_rows (row (o + 8) (by omega) (by omega)) (row (o + 9) (by omega) (by omega))⟩)⟩
    · rw [g2 k hk]
      show (k = ii ∨ F / 2 ^ k % 2 = 1) ↔ (if k = ii then some Q.2.1 else Q.2.2.2 k) ≠ none
      by_cases e : k = ii
      · rw [if_pos e]; exact ⟨fun _ z => (by cases z), fun _ => Or.inl e⟩
      · rw [if_neg e, ← (f3 k hk).1]
        exact ⟨fun z => z.elim (fun q => absurd q e) id, Or.inr⟩
    · rw [sj_up_row (by omega), sj_ur_self]
      have hS2 : (if k = ii then some Q.2.1 else Q.2.2.2 k) = some S' := hS'
      by_cases e : k = ii
      · rw [if_pos e] at hS2
        cases hS2
        rw [e]
        exact h2.congr (fun j hj => by rw [cpy_in hj, Nat.zero_add])
      · rw [if_neg e] at hS2
        exact ((f3 k hk).2 S' hS2).congr (fun j hj => cpy_out (by omega))
theorem rz_back (h : rI σ I o Q) (ha : -2147483648 ≤ a ∧ a < 2147483648) : sj_Con l yX10_back mX10_back G σ I [.ref o, .int (zI a)] (rPost σ I o (sp_back a Q)) := by
  obtain ⟨F, f1, f2, f3⟩ := h.2.2.2.2.1
  refine (cm_back h.1 h.past f1 f2 ha (fun g1 g2 => ?_)).weak (fun r σ' I' hp => ?_)
  · have z := f3 a.toNat (by omega)
    cases e : Q.2.2.2 a.toNat with
    | none => exact absurd e (z.1.mp g2)
    | some S' => exact (z.2 S' e).2.2.1
  · obtain ⟨rfl, hp⟩ := hp
    show rPost σ I o (sp_back a Q) r σ I'
    unfold sp_back
    rcases hp with ⟨g, hr, rfl⟩ | ⟨g, g2, hr, rfl⟩ | ⟨g, g2, hr, k, ks⟩
    · rw [if_pos g]; exact rPost.same h hr
    · rw [if_neg (fun z => z g)]
      have z := f3 a.toNat (by omega)
      cases e : Q.2.2.2 a.toNat with
      | none => exact rPost.same h hr
      | some S' => exact absurd (z.1.mpr (by rw [e]; exact fun q => by cases q)) g2
    · rw [if_neg (fun z => z g)]
      have z := f3 a.toNat (by omega)
      cases e : Q.2.2.2 a.toNat with
      | none => exact absurd e (z.1.mp g2)
      | some S' =>
        have hm : mSt (I' (o + 1)) S' := (z.2 S' e).congr ks
        exact rPost.chg h k hm (by rw [hr, hm.cnt 8 (by omega)])
theorem rz_changed (h : rI σ I o Q) (ha : -2147483648 ≤ a ∧ a < 2147483648) (hb : -2147483648 ≤ b ∧ b < 2147483648) : sj_Con l yX10_changed mX10_changed G σ I [.ref o, .int (zI a), .int (zI b)] (rPost σ I o (sp_changed a b Q)) := by
  obtain ⟨F, f1, f2, f3⟩ := h.2.2.2.2.1
  refine (cm_changed (M2 := ((Q.2.2.2 b.toNat).getD (2, fun _ => none)).1) (E2 := ((Q.2.2.2 b.toNat).getD (2, fun _ => none)).2) h.1 h.2.1.2.2.1 h.2.1.2.2.2 h.2.1.1 h.2.1.2.1 f1 f2 ha hb (fun g1 g2 => ?_)).weak (fun r σ' I' hp => ?_)
  · have z := f3 b.toNat (by omega)
    cases e : Q.2.2.2 b.toNat with
    | none => exact absurd e (z.1.mp g2)
    | some S' =>
      have hm := z.2 S' e
      exact ⟨hm.2.2.1, hm.2.2.2, hm.1, hm.2.1⟩
  · obtain ⟨rfl, hp⟩ := hp
    show rPost σ I o (sp_changed a b Q) r σ I'
    unfold sp_changed
    rcases hp with ⟨g, hr, rfl⟩ | ⟨g, g2, hr, rfl⟩ | ⟨g, g2, hr, k, k15, kL⟩
    · rw [if_pos g]; exact rPost.same h hr
    · rw [if_neg (fun z => z g)]
      have z := f3 b.toNat (by omega)
      cases e : Q.2.2.2 b.toNat with
      | none => exact rPost.same h hr
      | some S' => exact absurd (z.1.mpr (by rw [e]; exact fun q => by cases q)) g2
    · rw [if_neg (fun z => z g)]
      have z := f3 b.toNat (by omega)
      cases e : Q.2.2.2 b.toNat with
      | none => exact absurd e (z.1.mp g2)
      | some S' =>
        rw [e] at hr
        refine ⟨rfl, fun q hq => k.1 q (by omega), hr, ?_⟩
        obtain ⟨h1, h2, h3, h4, h5, h7⟩ := h
        unfold rI
        rw [k.1 (o + 2) (by omega), k.1 (o + 3) (by omega), k.1 (o + 4) (by omega), k.2.1 2 (by omega), k.2.1 4 (by omega), k.2.1 6 (by omega)]
        exact ⟨h1, h2.congr (fun j hj => k.2.2 j hj), h3, h4, h5, Or.inr ⟨k15, kL⟩⟩
theorem rI_new (hS : mSh σ o) (hn : mNew I o) : rI σ I o ([], (2, fun _ => none), [], fun _ => none) := by
  have r1 : ∀ j, I (o + 1) j = if j = 0 then 2 else 0 := fun j => by
    rw [hn.2 1 (by omega) (by omega) j]
    by_cases e : j = 0
    · rw [if_pos ⟨rfl, e⟩, if_pos e]
    · rw [if_neg (fun z => e z.2), if_neg e]
  refine ⟨hS, ⟨r1 0, by decide, fun a ha => ?_, fun a _ => rfl, fun a ha => Or.inl ⟨rfl, ?_⟩⟩, ⟨hn.1 6, by simp, rfl, fun c hc => by cases hc⟩, ⟨hn.1 2, by simp, fun k S' hk => by cases hk⟩, ⟨0, hn.1 4, by decide, fun i hi => ⟨?_, fun S' hS' => by cases hS'⟩⟩, Or.inl (hn.1 15)⟩
  · rw [r1, if_neg (by omega)]
    exact ⟨by decide, fun j hj => by omega⟩
  · rw [r1, if_neg (by omega)]
  · rw [Nat.zero_div]
    exact ⟨fun z => (by cases z), fun z => absurd rfl z⟩
end REFV
