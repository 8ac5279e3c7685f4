theorem jDs_congr {v v' : Nat → Int} {s : Nat} : ∀ n, (∀ k, k < n → v (s + k) = v' (s + k)) → jDs v s n = jDs v' s n
  | 0, _ => rfl
  | n + 1, h => by
    unfold jDs
    rw [jDs_congr n (fun k hk => h k (by omega)), h n (by omega)]
theorem jSm_congr {v v' : Nat → Int} {s : Nat} : ∀ n, (∀ k, k < n → v (s + k) = v' (s + k)) → jSm v s n = jSm v' s n
  | 0, _ => rfl
  | n + 1, h => by
    unfold jSm
    rw [jSm_congr n (fun k hk => h k (by omega)), h n (by omega)]
theorem jAh_congr {v v' : Nat → Int} {s : Nat} (h : ∀ k, k < 200 → v (s + k) = v' (s + k)) (p : Nat) : ∀ q, q + p ≤ 200 → jAh v s p q = jAh v' s p q
  | 0, _ => rfl
  | q + 1, hq => by
    unfold jAh
    rw [h q (by omega), h (q + p) (by omega), jAh_congr h p q (by omega)]
theorem jAq_congr {v v' : Nat → Int} {s : Nat} (h : ∀ k, k < 200 → v (s + k) = v' (s + k)) {p : Nat} (hp : p ≤ 200) : jAq v s p = jAq v' s p := by
  unfold jAq
  rw [jAh_congr h p (200 - p) (by omega)]
theorem jPd_congr {v v' : Nat → Int} {s : Nat} (h : ∀ k, k < 200 → v (s + k) = v' (s + k)) (w : Bool) : ∀ d p, p + d ≤ 200 → jPd v s w d p = jPd v' s w d p
  | 0, _, _ => rfl
  | d + 1, p, hp => by
    unfold jPd
    rw [jAq_congr h (p := p) (by omega), jPd_congr h w d (p + 1) (by omega)]
theorem jStr_congr {v v' : Nat → Int} {a n : Nat} {u : Int} (hn : n ≤ 400) (h1 : ∀ k, k < n → v (400 * a + k) = v' (400 * a + k) ∧ v (400 * a + k) ≠ -9) (h2 : n < 400 → v (400 * a + n) = v' (400 * a + n) ∧ v (400 * a + n) = -9) : jStr v a u = jStr v' a u := by
  have e1 : jRh v (400 * a) 400 0 = n := jRh_is hn (fun k hk => (h1 k hk).2) (fun q => (h2 q).2) 400 0 (by omega) (by omega)
  have e2 : jRh v' (400 * a) 400 0 = n := jRh_is hn (fun k hk => by rw [← (h1 k hk).1]; exact (h1 k hk).2) (fun q => by rw [← (h2 q).1]; exact (h2 q).2) 400 0 (by omega) (by omega)
  unfold jStr
  rw [e1, e2, jDs_congr n (fun k hk => (h1 k hk).1), jSm_congr n (fun k hk => (h1 k hk).1)]
  by_cases e : n < 200
  · rw [if_pos e, if_pos e]
  · rw [if_neg e, if_neg e, jPd_congr (v := v) (v' := v') (fun k hk => (h1 k (by omega)).1) _ 100 1 (by omega)]
theorem jAl_congr {v v' : Nat → Int} {a : Nat} (ha : a < 8) (h : ∀ k, k < 3200 → v k = v' k) : ∀ n, n ≤ 8 → jAl v a n = jAl v' a n
  | 0, _ => rfl
  | n + 1, hn => by
    unfold jAl
    rw [jAl_congr ha h n (by omega), jRh_congr (s := 400 * n) (fun k hk => h _ (by omega)) 400 0 (by omega), jRh_congr (s := 400 * a) (fun k hk => h _ (by omega)) 400 0 (by omega), jPr_congr (s := 400 * a) (t := 400 * n) (fun k hk => ⟨h _ (by omega), h _ (by omega)⟩) 400 0 (by omega)]
theorem jNe_congr {M : Int} {E : Nat → Option (List Int)} {f g : Nat → Int} {k : Nat} {u : Int} (h1 : f k = jVal M E k) (h2 : f k ≠ -9 → ∃ n, jStg M E n k = some (f k, g k)) : jNe E f g k u = jNe E (jVal M E) (jRnk M E) k u := by
  unfold jNe
  rw [← h1]
  by_cases e : f k = -9
  · rw [if_pos e, if_pos e]
  · obtain ⟨n, hn⟩ := h2 e
    rw [if_neg e, if_neg e, jVal_stg hn]
def cPost (σ : sjS) (I : sjI) (x : Nat) (z : Int × aQ) : sjP := fun r σ' I' => rC σ I σ' I' x ∧ r = some (.int (zI z.1)) ∧ cQ σ' I' x z.2
section CLS
variable {l : Launch} {G : sjG} {σ : sjS} {I : sjI} {x : Nat} {Q : aQ} {a b c i u : Int}
theorem cz_write (h : cQ σ I x Q) (hc : -2147483648 ≤ c ∧ c < 2147483648) : sj_Con l yX9_write mX9_write G σ I [.ref x, .int (zI c)] (cPost σ I x (sp_write c Q)) := by
  refine (cx9_write h hc).weak (fun r σ' I' hp => ?_)
  obtain ⟨rfl, k, hp⟩ := hp
  have hC : rC σ I σ I' x := fun q q1 q2 => ⟨rfl, k q (by omega)⟩
  show rC σ I σ I' x ∧ r = some (.int (zI (sp_write c Q).1)) ∧ cQ σ I' x (sp_write c Q).2
  unfold sp_write
  rcases hp with ⟨g, rfl, e⟩ | ⟨g1, g2, rfl, e⟩ | ⟨g1, g2, rfl, e⟩
  · rw [if_pos g]; exact ⟨hC, rfl, e⟩
  · rw [if_neg (fun z => z g1), if_pos g2]; exact ⟨hC, rfl, e⟩
  · rw [if_neg (fun z => z g1), if_neg (by omega)]; exact ⟨hC, rfl, e⟩
theorem cz_wipe (h : cQ σ I x Q) : sj_Con l yX9_wipe mX9_wipe G σ I [.ref x] (cPost σ I x (sp_wipe Q)) := by
  refine (cx9_wipe h).weak (fun r σ' I' hp => ?_)
  obtain ⟨rfl, k, rfl, e⟩ := hp
  exact ⟨fun q q1 q2 => ⟨rfl, k q (by omega)⟩, rfl, e⟩
theorem cz_fault (h : cQ σ I x Q) : sj_Con l yX9_fault mX9_fault G σ I [.ref x] (cPost σ I x (sp_fault Q)) := by
  refine (cx9_fault h).weak (fun r σ' I' hp => ?_)
  obtain ⟨rfl, rfl, rfl⟩ := hp
  exact ⟨rC.rf _ _ _, rfl, h⟩
theorem cz_define (h : cQ σ I x Q) (hR : rB σ x) (ha : -2147483648 ≤ a ∧ a < 2147483648) : sj_Con l yX9_define mX9_define G σ I [.ref x, .int (zI a)] (cPost σ I x (sp_define a Q)) := by
  refine (cx9_define h hR ha).weak (fun r σ' I' hp => ?_)
  obtain ⟨hC, hp⟩ := hp
  show rC σ I σ' I' x ∧ r = some (.int (zI (sp_define a Q).1)) ∧ cQ σ' I' x (sp_define a Q).2
  unfold sp_define
  rcases hp with ⟨g, rfl, e⟩ | ⟨g1, g2, rfl, e⟩ | ⟨g1, g2, rfl, e⟩
  · rw [if_pos g]; exact ⟨hC, rfl, e⟩
  · rw [if_neg (fun z => z g1), if_pos g2]; exact ⟨hC, rfl, e⟩
  · rw [if_neg (fun z => z g1), if_neg (fun z => z g2)]; exact ⟨hC, rfl, e⟩
theorem cz_undefine (h : cQ σ I x Q) (hR : rB σ x) (ha : -2147483648 ≤ a ∧ a < 2147483648) : sj_Con l yX9_undefine mX9_undefine G σ I [.ref x, .int (zI a)] (cPost σ I x (sp_undefine a Q)) := by
  refine (cx9_undefine h hR ha).weak (fun r σ' I' hp => ?_)
  obtain ⟨hC, hp⟩ := hp
  show rC σ I σ' I' x ∧ r = some (.int (zI (sp_undefine a Q).1)) ∧ cQ σ' I' x (sp_undefine a Q).2
  unfold sp_undefine
  rcases hp with ⟨g, rfl, e⟩ | ⟨g1, g2, rfl, e⟩ | ⟨T, g1, g2, rfl, e⟩
  · rw [if_pos g]; exact ⟨hC, rfl, e⟩
  · rw [if_neg (fun z => z g1), g2]; exact ⟨hC, rfl, e⟩
  · rw [if_neg (fun z => z g1), g2]; exact ⟨hC, rfl, e⟩
theorem cz_setModulus (h : cQ σ I x Q) (hR : rB σ x) (ha : -2147483648 ≤ a ∧ a < 2147483648) : sj_Con l yX9_setModulus mX9_setModulus G σ I [.ref x, .int (zI a)] (cPost σ I x (sp_setModulus a Q)) := by
  refine (cx9_setModulus h hR ha).weak (fun r σ' I' hp => ?_)
  obtain ⟨hC, hp⟩ := hp
  show rC σ I σ' I' x ∧ r = some (.int (zI (sp_setModulus a Q).1)) ∧ cQ σ' I' x (sp_setModulus a Q).2
  unfold sp_setModulus
  rcases hp with ⟨g, rfl, e⟩ | ⟨g1, rfl, e⟩
  · rw [if_pos g]; exact ⟨hC, rfl, e⟩
  · rw [if_neg (fun z => z g1)]; exact ⟨hC, rfl, e⟩
theorem cz_insert (h : cQ σ I x Q) (hR : rB σ x) (ha : -2147483648 ≤ a ∧ a < 2147483648) (hb : -2147483648 ≤ b ∧ b < 2147483648) : sj_Con l yX9_insert mX9_insert G σ I [.ref x, .int (zI a), .int (zI b)] (cPost σ I x (sp_insert a b Q)) := by
  refine (cx9_insert h hR ha hb).weak (fun r σ' I' hp => ?_)
  obtain ⟨hC, hp⟩ := hp
  show rC σ I σ' I' x ∧ r = some (.int (zI (sp_insert a b Q).1)) ∧ cQ σ' I' x (sp_insert a b Q).2
  unfold sp_insert
  rcases hp with ⟨g, rfl, e⟩ | ⟨g1, g2, rfl, e⟩ | ⟨T, U, g1, g2, g3, g4⟩
  · rw [if_pos g]; exact ⟨hC, rfl, e⟩
  · rw [if_neg (fun z => z g1)]
    rcases g2 with g2 | g2
    · rw [g2]; exact ⟨hC, rfl, e⟩
    · rw [g2]
      cases Q.2.1.2 a.toNat with
      | none => exact ⟨hC, rfl, e⟩
      | some _ => exact ⟨hC, rfl, e⟩
  · rw [if_neg (fun z => z g1), g2, g3]
    show rC σ I σ' I' x ∧ r = some (.int (zI (if 120 < (jIns (65 + b) U T).length then ((-3 : Int), Q) else (((jIns (65 + b) U T).length : Int), sp_to Q (Q.2.1.1, jSe Q.2.1.2 a.toNat (some (jIns (65 + b) U T))))).1)) ∧ cQ σ' I' x (if 120 < (jIns (65 + b) U T).length then ((-3 : Int), Q) else (((jIns (65 + b) U T).length : Int), sp_to Q (Q.2.1.1, jSe Q.2.1.2 a.toNat (some (jIns (65 + b) U T))))).2
    rcases g4 with ⟨g5, rfl, e⟩ | ⟨g5, rfl, e⟩
    · rw [if_pos g5]; exact ⟨hC, rfl, e⟩
    · rw [if_neg (by omega)]; exact ⟨hC, rfl, e⟩
theorem cz_simplify (h : cQ σ I x Q) (hR : rB σ x) (ha : -2147483648 ≤ a ∧ a < 2147483648) : sj_Con l yX9_simplify mX9_simplify G σ I [.ref x, .int (zI a)] (cPost σ I x (sp_simplify a Q)) := by
  refine (cx9_simplify h hR ha).weak (fun r σ' I' hp => ?_)
  obtain ⟨hC, hp⟩ := hp
  show rC σ I σ' I' x ∧ r = some (.int (zI (sp_simplify a Q).1)) ∧ cQ σ' I' x (sp_simplify a Q).2
  unfold sp_simplify
  generalize (1000000 : Nat) = N at hp ⊢
  rcases hp with ⟨g, rfl, e⟩ | ⟨g1, g2, rfl, e⟩ | ⟨T, g1, g2, g4⟩
  · rw [if_pos g]; exact ⟨hC, rfl, e⟩
  · rw [if_neg (fun z => z g1), g2]; exact ⟨hC, rfl, e⟩
  · rw [if_neg (fun z => z g1), g2]
    rcases g4 with ⟨g5, rfl, e⟩ | ⟨n, U, g5, rfl, e⟩
    · simp only [g5]; exact ⟨hC, trivial, e⟩
    · simp only [g5]; exact ⟨hC, trivial, e⟩
theorem cz_undo (h : cQ σ I x Q) (hR : rB σ x) : sj_Con l yX9_undo mX9_undo G σ I [.ref x] (cPost σ I x (sp_undo Q)) := by
  refine (cx9_undo h hR).weak (fun r σ' I' hp => ?_)
  obtain ⟨hC, hp⟩ := hp
  show rC σ I σ' I' x ∧ r = some (.int (zI (sp_undo Q).1)) ∧ cQ σ' I' x (sp_undo Q).2
  unfold sp_undo
  rcases hp with ⟨g, rfl, e⟩ | ⟨S', g1, g2, rfl, e⟩
  · rw [List.length_eq_zero_iff.mp g]
    exact ⟨hC, rfl, e⟩
  · rw [g2]; exact ⟨hC, rfl, e⟩
theorem cz_told (h : cQ σ I x Q) (hR : rB σ x) (ha : -2147483648 ≤ a ∧ a < 2147483648) : sj_Con l yX9_told mX9_told G σ I [.ref x, .int (zI a)] (cPost σ I x (sp_told a Q)) := by
  refine (cx9_told h hR ha).weak (fun r σ' I' hp => ?_)
  obtain ⟨hC, e, hp⟩ := hp
  refine ⟨hC, ?_, e⟩
  unfold sp_told
  rcases hp with ⟨g, rfl⟩ | ⟨g, rfl⟩
  · rw [if_pos g]
  · rw [if_neg g]
theorem cz_listing (h : cQ σ I x Q) (ha : -2147483648 ≤ a ∧ a < 2147483648) (hb : -2147483648 ≤ b ∧ b < 2147483648) : sj_Con l yX9_listing mX9_listing G σ I [.ref x, .int (zI a), .int (zI b)] (cPost σ I x (sp_listing a b Q)) := by
  refine (cx9_listing h ha hb).weak (fun r σ' I' hp => ?_)
  obtain ⟨rfl, rfl, rfl⟩ := hp
  exact ⟨rC.rf _ _ _, rfl, h⟩
theorem cz_uses (h : cQ σ I x Q) (ha : -2147483648 ≤ a ∧ a < 2147483648) : sj_Con l yX9_uses mX9_uses G σ I [.ref x, .int (zI a)] (cPost σ I x (sp_uses a Q)) := by
  refine (cx9_uses h ha).weak (fun r σ' I' hp => ?_)
  obtain ⟨rfl, rfl, rfl⟩ := hp
  exact ⟨rC.rf _ _ _, rfl, h⟩
theorem cz_cycle (h : cQ σ I x Q) (hR : rB σ x) (ha : -2147483648 ≤ a ∧ a < 2147483648) : sj_Con l yX9_cycle mX9_cycle G σ I [.ref x, .int (zI a)] (cPost σ I x (sp_cycle a Q)) := by
  refine (cx9_cycle h hR ha).weak (fun r σ' I' hp => ?_)
  obtain ⟨hC, e, hp⟩ := hp
  refine ⟨hC, ?_, e⟩
  unfold sp_cycle
  rcases hp with ⟨g, rfl⟩ | ⟨g, g2, rfl⟩ | ⟨g, g2, rfl⟩
  · rw [if_pos g]
  · rw [if_neg (fun z => z g), if_pos g2]
  · rw [if_neg (show ¬ ¬ (0 ≤ a ∧ a ≤ 7) from fun z => z g), if_neg (show ¬ ¬ jPe Q.2.1.2 8 = true from fun z => z g2)]
theorem cz_value (h : cQ σ I x Q) (hR : rB σ x) (ha : -2147483648 ≤ a ∧ a < 2147483648) (hb : -2147483648 ≤ b ∧ b < 2147483648) : sj_Con l yX9_value mX9_value G σ I [.ref x, .int (zI a), .int (zI b)] (cPost σ I x (sp_value a b Q)) := by
  refine (cx9_value h hR ha hb).weak (fun r σ' I' hp => ?_)
  obtain ⟨hC, e, rfl⟩ := hp
  exact ⟨hC, rfl, e⟩
theorem cz_stream (h : cQ σ I x Q) (hR : rB σ x) (ha : -2147483648 ≤ a ∧ a < 2147483648) (hb : -2147483648 ≤ b ∧ b < 2147483648) : sj_Con l yX9_stream mX9_stream G σ I [.ref x, .int (zI a), .int (zI b)] (cPost σ I x (sp_stream a b Q)) := by
  refine (cx9_stream h hR ha hb).weak (fun r σ' I' hp => ?_)
  obtain ⟨hC, e, hp⟩ := hp
  refine ⟨hC, ?_, e⟩
  unfold sp_stream
  rcases hp with ⟨g, rfl⟩ | ⟨g, g2, g3⟩ | ⟨g, g2, f, n, h1, h2, h3, rfl⟩
  · rw [if_pos g]
  · rw [if_neg (fun z => z ⟨g, by omega⟩), if_pos g2]
    rcases g3 with ⟨g4, rfl⟩ | ⟨T, g4, rfl⟩
    · rw [g4]
    · rw [g4]
  · rw [if_neg (fun z => z ⟨g, by omega⟩), if_neg (by omega), jStr_congr h1 h2 h3]
theorem cz_parting (h : cQ σ I x Q) (hR : rB σ x) (ha : -2147483648 ≤ a ∧ a < 2147483648) (hb : -2147483648 ≤ b ∧ b < 2147483648) : sj_Con l yX9_parting mX9_parting G σ I [.ref x, .int (zI a), .int (zI b)] (cPost σ I x (sp_parting a b Q)) := by
  refine (cx9_parting h hR ha hb).weak (fun r σ' I' hp => ?_)
  obtain ⟨hC, e, hp⟩ := hp
  refine ⟨hC, ?_, e⟩
  unfold sp_parting
  rcases hp with ⟨g, rfl⟩ | ⟨g, f, h1, rfl⟩
  · rw [if_pos g]
  · rw [if_neg (fun z => z g), jPr_congr h1 400 0 (by omega)]
theorem cz_alike (h : cQ σ I x Q) (hR : rB σ x) (ha : -2147483648 ≤ a ∧ a < 2147483648) : sj_Con l yX9_alike mX9_alike G σ I [.ref x, .int (zI a)] (cPost σ I x (sp_alike a Q)) := by
  refine (cx9_alike h hR ha).weak (fun r σ' I' hp => ?_)
  obtain ⟨hC, e, hp⟩ := hp
  refine ⟨hC, ?_, e⟩
  unfold sp_alike
  rcases hp with ⟨g, rfl⟩ | ⟨g, f, h1, rfl⟩
  · rw [if_pos g]
  · rw [if_neg (fun z => z g), jAl_congr (by omega) h1 8 (by omega)]
theorem cz_needs (h : cQ σ I x Q) (hR : rB σ x) (ha : -2147483648 ≤ a ∧ a < 2147483648) (hb : -2147483648 ≤ b ∧ b < 2147483648) (hu : -2147483648 ≤ u ∧ u < 2147483648) : sj_Con l yX9_needs mX9_needs G σ I [.ref x, .int (zI a), .int (zI b), .int (zI u)] (cPost σ I x (sp_needs a b u Q)) := by
  refine (cx9_needs h hR ha hb hu).weak (fun r σ' I' hp => ?_)
  obtain ⟨hC, e, hp⟩ := hp
  refine ⟨hC, ?_, e⟩
  unfold sp_needs
  rcases hp with ⟨g, rfl⟩ | ⟨g, f, k, h1, h2, rfl⟩
  · rw [if_pos g]
  · rw [if_neg (fun z => z g), jNe_congr h1 h2]
theorem cz_keep (h : cQ σ I x Q) (hR : rB σ x) (ha : -2147483648 ≤ a ∧ a < 2147483648) : sj_Con l yX9_keep mX9_keep G σ I [.ref x, .int (zI a)] (cPost σ I x (sp_keep a Q)) := by
  refine (cx9_keep h hR ha).weak (fun r σ' I' hp => ?_)
  obtain ⟨hC, hp⟩ := hp
  show rC σ I σ' I' x ∧ r = some (.int (zI (sp_keep a Q).1)) ∧ cQ σ' I' x (sp_keep a Q).2
  unfold sp_keep
  rcases hp with ⟨g, rfl, e⟩ | ⟨g1, rfl, e⟩
  · rw [if_pos g]; exact ⟨hC, rfl, e⟩
  · rw [if_neg (fun z => z g1)]; exact ⟨hC, rfl, e⟩
theorem cz_back (h : cQ σ I x Q) (hR : rB σ x) (ha : -2147483648 ≤ a ∧ a < 2147483648) : sj_Con l yX9_back mX9_back G σ I [.ref x, .int (zI a)] (cPost σ I x (sp_back a Q)) := by
  refine (cx9_back h hR ha).weak (fun r σ' I' hp => ?_)
  obtain ⟨hC, hp⟩ := hp
  show rC σ I σ' I' x ∧ r = some (.int (zI (sp_back a Q).1)) ∧ cQ σ' I' x (sp_back a Q).2
  unfold sp_back
  rcases hp with ⟨g, rfl, e⟩ | ⟨g1, g2, rfl, e⟩ | ⟨S', g1, g2, rfl, e⟩
  · rw [if_pos g]; exact ⟨hC, rfl, e⟩
  · rw [if_neg (fun z => z g1), g2]; exact ⟨hC, rfl, e⟩
  · rw [if_neg (fun z => z g1), g2]; exact ⟨hC, rfl, e⟩
theorem cz_changed (h : cQ σ I x Q) (hR : rB σ x) (ha : -2147483648 ≤ a ∧ a < 2147483648) (hb : -2147483648 ≤ b ∧ b < 2147483648) : sj_Con l yX9_changed mX9_changed G σ I [.ref x, .int (zI a), .int (zI b)] (cPost σ I x (sp_changed a b Q)) := by
  refine (cx9_changed h hR ha hb).weak (fun r σ' I' hp => ?_)
  obtain ⟨hC, e, hp⟩ := hp
  refine ⟨hC, ?_, e⟩
  unfold sp_changed
  rcases hp with ⟨g, rfl⟩ | ⟨g, g2, rfl⟩ | ⟨Si, g, g2, rfl⟩
  · rw [if_pos g]
  · rw [if_neg (fun z => z g), g2]
  · rw [if_neg (fun z => z g), g2]
end CLS
