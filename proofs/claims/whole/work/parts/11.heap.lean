/-! what the tables say of the classes -/
def sj_clOk (κ : Nat) (q : vw_C) : Prop := (∀ w ∈ u_ws q.1 q.2.1 q.2.2, sj_in w) ∧ ∃ ty : Nat → FieldType, (∀ k, k < q.2.2 → parseFieldDescriptor (q.2.1 k).2.2.1 = some (ty k)) ∧ (∀ a, a < q.2.2 → ∀ b, b < q.2.2 → a ≠ b → (q.2.1 a).2.1 ≠ (q.2.1 b).2.1) ∧ (∀ k, k < q.2.2 → defaultValue (ty k) = sj_fv κ (fun _ => none) (fun _ => 0) k)
theorem sj_lay {C : String} {T : u_T} {N : Nat} (h : ∀ k, k < N → u_lay C T k ∈ lw_tbl ∧ sj_good (u_lay C T k) = true) : ∀ w ∈ u_ws C T N, sj_in w := by
  intro w hw
  obtain ⟨k, hk, rfl⟩ := List.mem_map.mp hw
  exact h k (List.mem_range.mp hk)
theorem sj_cl0 : sj_clOk 0 (RX1, TX1, 3) := ⟨sj_lay (by decide +kernel), tyX1, tyX1_ok, nmX1, by decide +kernel⟩
theorem sj_cl1 : sj_clOk 1 (RX2, TX2, 2) := ⟨sj_lay (by decide +kernel), tyX2, tyX2_ok, nmX2, by decide +kernel⟩
theorem sj_cl2 : sj_clOk 2 (RX3, TX3, 3) := ⟨sj_lay (by decide +kernel), tyX3, tyX3_ok, nmX3, by decide +kernel⟩
theorem sj_cl3 : sj_clOk 3 (RX4, TX4, 4) := ⟨sj_lay (by decide +kernel), tyX4, tyX4_ok, nmX4, by decide +kernel⟩
theorem sj_cl4 : sj_clOk 4 (RX5, TX5, 4) := ⟨sj_lay (by decide +kernel), tyX5, tyX5_ok, nmX5, by decide +kernel⟩
theorem sj_cl5 : sj_clOk 5 (RX6, TX6, 3) := ⟨sj_lay (by decide +kernel), tyX6, tyX6_ok, nmX6, by decide +kernel⟩
theorem sj_cl6 : sj_clOk 6 (RX7, TX7, 4) := ⟨sj_lay (by decide +kernel), tyX7, tyX7_ok, nmX7, by decide +kernel⟩
theorem sj_cl7 : sj_clOk 7 (RX8, TX8, 4) := ⟨sj_lay (by decide +kernel), tyX8, tyX8_ok, nmX8, by decide +kernel⟩
theorem sj_cl8 : sj_clOk 8 (RX9, TX9, 9) := ⟨sj_lay (by decide +kernel), tyX9, tyX9_ok, nmX9, by decide +kernel⟩
theorem sj_cl9 : sj_clOk 9 (RX10, TX10, 31) := ⟨sj_lay (by decide +kernel), tyX10, tyX10_ok, nmX10, by decide +kernel⟩
theorem sj_cl (κ : Nat) (q : vw_C) (h : vwCl[κ]? = some q) : κ < 10 ∧ sj_clOk κ q := by
  match κ, h with
  | 0, h => cases h; exact ⟨by decide, sj_cl0⟩
  | 1, h => cases h; exact ⟨by decide, sj_cl1⟩
  | 2, h => cases h; exact ⟨by decide, sj_cl2⟩
  | 3, h => cases h; exact ⟨by decide, sj_cl3⟩
  | 4, h => cases h; exact ⟨by decide, sj_cl4⟩
  | 5, h => cases h; exact ⟨by decide, sj_cl5⟩
  | 6, h => cases h; exact ⟨by decide, sj_cl6⟩
  | 7, h => cases h; exact ⟨by decide, sj_cl7⟩
  | 8, h => cases h; exact ⟨by decide, sj_cl8⟩
  | 9, h => cases h; exact ⟨by decide, sj_cl9⟩
  | k + 10, h => simp [vwCl] at h
def sj_fl (own : String) (idx κ k : Nat) (ty : FieldType) (fin : Bool) : Prop := ∃ q : vw_C, vwCl[κ]? = some q ∧ k < q.2.2 ∧ sj_in (.fieldLink own idx (q.2.1 k).1 (q.2.1 k).2.1 (q.2.1 k).2.2.1) ∧ parseFieldDescriptor (q.2.1 k).2.2.1 = some ty ∧ (q.2.1 k).2.2.2 = fin ∧ (q.2.1 k).1 = q.1
def sj_fn (own : String) (idx κ k : Nat) : Prop := ∃ (q : vw_C) (host : String), vwCl[κ]? = some q ∧ k < q.2.2 ∧ sj_in (.fieldLinkNest own idx (q.2.1 k).1 (q.2.1 k).2.1 (q.2.1 k).2.2.1 host)
def sj_ru (ρ : Nat → Option Nat) (k : Nat) (b : Option Nat) : Nat → Option Nat := fun j => if j = k then b else ρ j
theorem sj_obj {G : sjG} {H : Heap} {a κ n0 : Nat} {ρ : Nat → Option Nat} {f : Nat → Int} {q : vw_C} (hq : vwCl[κ]? = some q) (h : sj_cell G H a (κ, n0, ρ) f) : t_OB a (G.1 κ) q.2.2 (G.2.1 κ) H (sj_fv κ ρ f) := by
  unfold sj_cell at h
  rw [if_pos (sj_cl κ q hq).1] at h
  obtain ⟨r, h1, h2⟩ := h
  cases hq.symm.trans h1
  exact h2
theorem sj_obj' {G : sjG} {H : Heap} {a κ n0 : Nat} {ρ : Nat → Option Nat} {f : Nat → Int} {q : vw_C} (hq : vwCl[κ]? = some q) (h : t_OB a (G.1 κ) q.2.2 (G.2.1 κ) H (sj_fv κ ρ f)) : sj_cell G H a (κ, n0, ρ) f := by
  unfold sj_cell
  rw [if_pos (sj_cl κ q hq).1]
  exact ⟨q, hq, h⟩
section HEAP
variable {l : Launch} {Γ : sjC} {cc : ByteArray} {own nm : String} {nL : Nat} {ret : Option FieldType} {R : Room} {G : sjG} {post : sjP} {σ : sjS} {I : sjI} {k n pc : Nat} {L : List (Option Value)} {st : List Value}
theorem sj_getV {idx κ j n0 a : Nat} {ρ : Nat → Option Nat} {ty : FieldType} {fin : Bool} (f : sj_fl own idx κ j ty fin) (hσ : σ.2 a = some (κ, n0, ρ)) (d : decode cc pc = .ok (.getfield idx, 3)) (kk : sj_V l Γ (cc, own, nL, ret, nm, R) G post σ I k n (pc + 3) L (sj_fv κ ρ (I a) j :: st)) : sj_V l Γ (cc, own, nL, ret, nm, R) G post σ I k n pc L (.ref a :: st) := by
  obtain ⟨p, e, s, m, args, below, meth, c, Q⟩ := Γ
  intro hC hK hr H locs ls hR hlo hL
  obtain ⟨hx, hb, hml, hown, hnm⟩ := id hC
  obtain ⟨q, hq, hk, hw, -, -, -⟩ := f
  obtain ⟨cell, q1, q2, q3, q4⟩ := sj_obj hq (hR.2.2 a _ hσ).2
  obtain ⟨hS, hfc, kC, hkC, hkind⟩ := hK.1.1 κ _ hq
  obtain ⟨cf, kf, fi, f, hi, hsl⟩ := hS j hk
  have hlay := u_lays (fun w h => hK.word ((sj_cl κ q hq).2.1 w h) args) (fun _ h => h) hk
  refine W.getf hx hb hown (hK.word hw args) hi (u_facts hfc hkC hlay hi).1 q1 (by rw [q3]; exact fun h => by cases h) (v := sj_fv κ ρ (I a) j) ?_ rfl rfl d (kk hC hK hr H locs ls hR hlo hL)
  have hsl' : f.slot = G.2.1 κ j := hsl
  rw [hsl']
  exact q4 j hk
theorem sj_getVN {idx κ j n0 a : Nat} {ρ : Nat → Option Nat} (f : sj_fn own idx κ j) (hσ : σ.2 a = some (κ, n0, ρ)) (d : decode cc pc = .ok (.getfield idx, 3)) (kk : sj_V l Γ (cc, own, nL, ret, nm, R) G post σ I k n (pc + 3) L (sj_fv κ ρ (I a) j :: st)) : sj_V l Γ (cc, own, nL, ret, nm, R) G post σ I k n pc L (.ref a :: st) := by
  obtain ⟨p, e, s, m, args, below, meth, c, Q⟩ := Γ
  intro hC hK hr H locs ls hR hlo hL
  obtain ⟨hx, hb, hml, hown, hnm⟩ := id hC
  obtain ⟨q, host, hq, hk, hw⟩ := f
  obtain ⟨cell, q1, q2, q3, q4⟩ := sj_obj hq (hR.2.2 a _ hσ).2
  obtain ⟨hS, hfc, kC, hkC, hkind⟩ := hK.1.1 κ _ hq
  obtain ⟨cf, kf, fi, f, hi, hsl⟩ := hS j hk
  have hlay := u_lays (fun w h => hK.word ((sj_cl κ q hq).2.1 w h) args) (fun _ h => h) hk
  refine va_Wgetf hx hb hown (hK.word hw args) hi (u_facts hfc hkC hlay hi).1 q1 (by rw [q3]; exact fun h => by cases h) (v := sj_fv κ ρ (I a) j) ?_ rfl rfl d (kk hC hK hr H locs ls hR hlo hL)
  have hsl' : f.slot = G.2.1 κ j := hsl
  rw [hsl']
  exact q4 j hk
theorem sj_fvI {κ j : Nat} {ρ : Nat → Option Nat} {f : Nat → Int} (h : sj_rf κ j = false) : sj_fv κ ρ f j = .int (zI (f j)) := by simp [sj_fv, h]
theorem sj_fvR {κ j b : Nat} {ρ : Nat → Option Nat} {f : Nat → Int} (h : sj_rf κ j = true) (hb : ρ j = some b) : sj_fv κ ρ f j = .ref b := by simp [sj_fv, h, hb, va_rf]
theorem sj_fvN {κ j : Nat} {ρ : Nat → Option Nat} {f : Nat → Int} (h : sj_rf κ j = true) (hb : ρ j = none) : sj_fv κ ρ f j = .null := by simp [sj_fv, h, hb, va_rf]
theorem sj_getI {idx κ j n0 a : Nat} {ρ : Nat → Option Nat} {ty : FieldType} {fin : Bool} (f : sj_fl own idx κ j ty fin) (hσ : σ.2 a = some (κ, n0, ρ)) (hj : sj_rf κ j = false) (d : decode cc pc = .ok (.getfield idx, 3)) (kk : sj_V l Γ (cc, own, nL, ret, nm, R) G post σ I k n (pc + 3) L (.int (zI (I a j)) :: st)) : sj_V l Γ (cc, own, nL, ret, nm, R) G post σ I k n pc L (.ref a :: st) := sj_getV f hσ d (by rw [sj_fvI hj]; exact kk)
theorem sj_getR {idx κ j n0 a : Nat} {ρ : Nat → Option Nat} {ty : FieldType} {fin : Bool} {b : Nat} (f : sj_fl own idx κ j ty fin) (hσ : σ.2 a = some (κ, n0, ρ)) (hj : sj_rf κ j = true) (hb : ρ j = some b) (d : decode cc pc = .ok (.getfield idx, 3)) (kk : sj_V l Γ (cc, own, nL, ret, nm, R) G post σ I k n (pc + 3) L (.ref b :: st)) : sj_V l Γ (cc, own, nL, ret, nm, R) G post σ I k n pc L (.ref a :: st) := sj_getV f hσ d (by rw [sj_fvR hj hb]; exact kk)
theorem sj_getNull {idx κ j n0 a : Nat} {ρ : Nat → Option Nat} {ty : FieldType} {fin : Bool} (f : sj_fl own idx κ j ty fin) (hσ : σ.2 a = some (κ, n0, ρ)) (hj : sj_rf κ j = true) (hb : ρ j = none) (d : decode cc pc = .ok (.getfield idx, 3)) (kk : sj_V l Γ (cc, own, nL, ret, nm, R) G post σ I k n (pc + 3) L (.null :: st)) : sj_V l Γ (cc, own, nL, ret, nm, R) G post σ I k n pc L (.ref a :: st) := sj_getV f hσ d (by rw [sj_fvN hj hb]; exact kk)
theorem sj_getIN {idx κ j n0 a : Nat} {ρ : Nat → Option Nat} (f : sj_fn own idx κ j) (hσ : σ.2 a = some (κ, n0, ρ)) (hj : sj_rf κ j = false) (d : decode cc pc = .ok (.getfield idx, 3)) (kk : sj_V l Γ (cc, own, nL, ret, nm, R) G post σ I k n (pc + 3) L (.int (zI (I a j)) :: st)) : sj_V l Γ (cc, own, nL, ret, nm, R) G post σ I k n pc L (.ref a :: st) := sj_getVN f hσ d (by rw [sj_fvI hj]; exact kk)
theorem sj_getRN {idx κ j n0 a : Nat} {ρ : Nat → Option Nat} {b : Nat} (f : sj_fn own idx κ j) (hσ : σ.2 a = some (κ, n0, ρ)) (hj : sj_rf κ j = true) (hb : ρ j = some b) (d : decode cc pc = .ok (.getfield idx, 3)) (kk : sj_V l Γ (cc, own, nL, ret, nm, R) G post σ I k n (pc + 3) L (.ref b :: st)) : sj_V l Γ (cc, own, nL, ret, nm, R) G post σ I k n pc L (.ref a :: st) := sj_getVN f hσ d (by rw [sj_fvR hj hb]; exact kk)
theorem sj_getNullN {idx κ j n0 a : Nat} {ρ : Nat → Option Nat} (f : sj_fn own idx κ j) (hσ : σ.2 a = some (κ, n0, ρ)) (hj : sj_rf κ j = true) (hb : ρ j = none) (d : decode cc pc = .ok (.getfield idx, 3)) (kk : sj_V l Γ (cc, own, nL, ret, nm, R) G post σ I k n (pc + 3) L (.null :: st)) : sj_V l Γ (cc, own, nL, ret, nm, R) G post σ I k n pc L (.ref a :: st) := sj_getVN f hσ d (by rw [sj_fvN hj hb]; exact kk)
theorem sj_putV {idx κ j n0 a : Nat} {ρ ρ' : Nat → Option Nat} {g : Nat → Int} {ty : FieldType} {v : Value} (f : sj_fl own idx κ j ty false) (hσ : σ.2 a = some (κ, n0, ρ)) (hn : narrow ty v = v) (hfit : fits ty v = true) (hv : ∀ i, sj_fv κ ρ' g i = if i = j then v else sj_fv κ ρ (I a) i) (d : decode cc pc = .ok (.putfield idx, 3)) (kk : sj_V l Γ (cc, own, nL, ret, nm, R) G post (sj_us σ a (κ, n0, ρ')) (sj_ur I a g) k n (pc + 3) L st) : sj_V l Γ (cc, own, nL, ret, nm, R) G post σ I k n pc L (v :: .ref a :: st) := by
  obtain ⟨p, e, s, m, args, below, meth, c, Q⟩ := Γ
  intro hC hK hr H locs ls hR hlo hL
  obtain ⟨hx, hb, hml, hown, hnm⟩ := id hC
  obtain ⟨q, hq, hk, hw, hty, hfin, hdecl⟩ := f
  
  obtain ⟨hlo2, hcell⟩ := hR.2.2 a _ hσ
  obtain ⟨cell, q1, q2, q3, q4⟩ := sj_obj hq hcell
  obtain ⟨hS, hfc, kC, hkC, hkind⟩ := hK.1.1 κ _ hq
  obtain ⟨hws, tys, hty2, hnmm, -⟩ := (sj_cl κ q hq).2
  obtain ⟨cf, kf, fi, f, hi, hsl⟩ := hS j hk
  have hsl' : f.slot = G.2.1 κ j := hsl
  have hts : ∀ w ∈ u_ws q.1 q.2.1 q.2.2, w.before args s = true := fun w h => hK.word (hws w h) args
  have hlays := hts _ (u_in_lay hk)
  have hlay := u_lays hts (fun _ h => h) hk
  have hap := va_apart (own := own) (D := (G.1, G.2.1)) (ci := κ) hts (fun _ h => h) tys hty2 hnmm hK.1 hq
  have h6 := u_store hfc hkC hkind (by have h := hlays; unfold u_lay at h; rw [if_neg (by rw [hfin]; decide)] at h; exact h) hi hty hn hfit
  refine W.putK hx hb (f := f) ⟨hown, hK.word hw args, ⟨_, _, _, hi⟩, (u_facts hfc hkC hlay hi).1⟩ (by rw [q2]; exact h6) q1 q3 (by rw [hsl']; exact k2_hasslot (q4 j hk)) rfl rfl d fun H1 e1 e2 e3 => ?_
  rw [hsl'] at e1
  have hob : t_OB a (G.1 κ) q.2.2 (G.2.1 κ) H1 (sj_fv κ ρ' g) := t_OB.to ⟨_, e1, q2, q3, t_set q4 hap hk v⟩ (fun i _ => by rw [hv i]; rfl)
  exact kk hC hK hr H1 _ ls (hR.put hlo2 e2 e3 (sj_obj' hq hob)) (fun z hz => by
    rcases List.mem_append.mp hz with h | h
    · exact hlo z h
    · rw [List.mem_singleton.mp h]; exact hlo2) hL
theorem sj_putI {idx κ j n0 a : Nat} {ρ : Nat → Option Nat} {ty : FieldType} {x : Int} (f : sj_fl own idx κ j ty false) (hσ : σ.2 a = some (κ, n0, ρ)) (hj : sj_rf κ j = false) (hn : narrow ty (.int (zI x)) = .int (zI x)) (hfit : fits ty (.int (zI x)) = true) (d : decode cc pc = .ok (.putfield idx, 3)) (kk : sj_V l Γ (cc, own, nL, ret, nm, R) G post σ (sj_up I a j x) k n (pc + 3) L st) : sj_V l Γ (cc, own, nL, ret, nm, R) G post σ I k n pc L (.int (zI x) :: .ref a :: st) := by
  refine sj_putV (ρ' := ρ) (g := fun i => if i = j then x else I a i) f hσ hn hfit (fun i => ?_) d ?_
  · by_cases h : i = j
    · subst h; rw [if_pos rfl, sj_fvI hj, if_pos rfl]
    · rw [if_neg h]; simp [sj_fv, h]
  · rw [sj_us_same hσ, sj_ur_up]; exact kk
theorem sj_putR {idx κ j n0 a : Nat} {ρ : Nat → Option Nat} {ty : FieldType} {b : Nat} (f : sj_fl own idx κ j ty false) (hσ : σ.2 a = some (κ, n0, ρ)) (hj : sj_rf κ j = true) (hn : narrow ty (.ref b) = .ref b) (hfit : fits ty (.ref b) = true) (d : decode cc pc = .ok (.putfield idx, 3)) (kk : sj_V l Γ (cc, own, nL, ret, nm, R) G post (sj_us σ a (κ, n0, sj_ru ρ j (some b))) I k n (pc + 3) L st) : sj_V l Γ (cc, own, nL, ret, nm, R) G post σ I k n pc L (.ref b :: .ref a :: st) := by
  refine sj_putV (ρ' := sj_ru ρ j (some b)) (g := I a) f hσ hn hfit (fun i => ?_) d ?_
  · by_cases h : i = j
    · subst h; rw [if_pos rfl]; simp [sj_fv, sj_ru, hj, va_rf]
    · rw [if_neg h]; simp [sj_fv, sj_ru, h]
  · rw [sj_ur_same]; exact kk
theorem sj_putNull {idx κ j n0 a : Nat} {ρ : Nat → Option Nat} {ty : FieldType} (f : sj_fl own idx κ j ty false) (hσ : σ.2 a = some (κ, n0, ρ)) (hj : sj_rf κ j = true) (hn : narrow ty (.null) = .null) (hfit : fits ty (.null) = true) (d : decode cc pc = .ok (.putfield idx, 3)) (kk : sj_V l Γ (cc, own, nL, ret, nm, R) G post (sj_us σ a (κ, n0, sj_ru ρ j (none))) I k n (pc + 3) L st) : sj_V l Γ (cc, own, nL, ret, nm, R) G post σ I k n pc L (.null :: .ref a :: st) := by
  refine sj_putV (ρ' := sj_ru ρ j (none)) (g := I a) f hσ hn hfit (fun i => ?_) d ?_
  · by_cases h : i = j
    · subst h; rw [if_pos rfl]; simp [sj_fv, sj_ru, hj, va_rf]
    · rw [if_neg h]; simp [sj_fv, sj_ru, h]
  · rw [sj_ur_same]; exact kk
theorem sj_putVF {idx κ j n0 a : Nat} {ρ ρ' : Nat → Option Nat} {g : Nat → Int} {ty : FieldType} {v : Value} (f : sj_fl own idx κ j ty true) (hσ : σ.2 a = some (κ, n0, ρ)) (hn : narrow ty v = v) (hfit : fits ty v = true) (hin : nm = "<init>") (hcq : ∀ q : vw_C, vwCl[κ]? = some q → q.1 = own) (hv : ∀ i, sj_fv κ ρ' g i = if i = j then v else sj_fv κ ρ (I a) i) (d : decode cc pc = .ok (.putfield idx, 3)) (kk : sj_V l Γ (cc, own, nL, ret, nm, R) G post (sj_us σ a (κ, n0, ρ')) (sj_ur I a g) k n (pc + 3) L st) : sj_V l Γ (cc, own, nL, ret, nm, R) G post σ I k n pc L (v :: .ref a :: st) := by
  obtain ⟨p, e, s, m, args, below, meth, c, Q⟩ := Γ
  intro hC hK hr H locs ls hR hlo hL
  obtain ⟨hx, hb, hml, hown, hnm⟩ := id hC
  obtain ⟨q, hq, hk, hw, hty, hfin, hdecl⟩ := f
  have hcq := hcq q hq
  obtain ⟨hlo2, hcell⟩ := hR.2.2 a _ hσ
  obtain ⟨cell, q1, q2, q3, q4⟩ := sj_obj hq hcell
  obtain ⟨hS, hfc, kC, hkC, hkind⟩ := hK.1.1 κ _ hq
  obtain ⟨hws, tys, hty2, hnmm, -⟩ := (sj_cl κ q hq).2
  obtain ⟨cf, kf, fi, f, hi, hsl⟩ := hS j hk
  have hsl' : f.slot = G.2.1 κ j := hsl
  have hts : ∀ w ∈ u_ws q.1 q.2.1 q.2.2, w.before args s = true := fun w h => hK.word (hws w h) args
  have hlays := hts _ (u_in_lay hk)
  have hlay := u_lays hts (fun _ h => h) hk
  have hap := va_apart (own := own) (D := (G.1, G.2.1)) (ci := κ) hts (fun _ h => h) tys hty2 hnmm hK.1 hq
  have hlf : (Cond.laysFinal q.1 (q.2.1 j).1 (q.2.1 j).2.1 (q.2.1 j).2.2.1).before args s = true := by have h := hlays; unfold u_lay at h; rw [if_pos hfin] at h; exact h
  have hcf : m.cls = cf := by
    obtain ⟨_, _, c', _, _, _, -, -, hf', -, -, -, hown2, -⟩ := Cond.laysFinal_spec hlf
    have e1 : c' = cf := by have := hi.symm.trans hf'; simp at this; exact this.1.symm
    rw [hdecl, hcq] at hown2
    rw [← e1]; exact Option.some.inj (hown.symm.trans hown2)
  have h6 := u_fits hfc hkC hkind (Or.inr hlf) hi hty hn hfit
  refine W.putFinK hx hb hown (hK.word hw args) hi (u_facts hfc hkC hlay hi).1 hcf (hnm.trans hin) (by rw [q2]; exact h6) q1 q3 (by rw [hsl']; exact k2_hasslot (q4 j hk)) rfl rfl d fun H1 e1 e2 e3 => ?_
  rw [hsl'] at e1
  have hob : t_OB a (G.1 κ) q.2.2 (G.2.1 κ) H1 (sj_fv κ ρ' g) := t_OB.to ⟨_, e1, q2, q3, t_set q4 hap hk v⟩ (fun i _ => by rw [hv i]; rfl)
  exact kk hC hK hr H1 _ ls (hR.put hlo2 e2 e3 (sj_obj' hq hob)) (fun z hz => by
    rcases List.mem_append.mp hz with h | h
    · exact hlo z h
    · rw [List.mem_singleton.mp h]; exact hlo2) hL
theorem sj_putIF {idx κ j n0 a : Nat} {ρ : Nat → Option Nat} {ty : FieldType} {x : Int} (f : sj_fl own idx κ j ty true) (hσ : σ.2 a = some (κ, n0, ρ)) (hj : sj_rf κ j = false) (hn : narrow ty (.int (zI x)) = .int (zI x)) (hfit : fits ty (.int (zI x)) = true) (hin : nm = "<init>") (hcq : ∀ q : vw_C, vwCl[κ]? = some q → q.1 = own) (d : decode cc pc = .ok (.putfield idx, 3)) (kk : sj_V l Γ (cc, own, nL, ret, nm, R) G post σ (sj_up I a j x) k n (pc + 3) L st) : sj_V l Γ (cc, own, nL, ret, nm, R) G post σ I k n pc L (.int (zI x) :: .ref a :: st) := by
  refine sj_putVF (ρ' := ρ) (g := fun i => if i = j then x else I a i) f hσ hn hfit hin hcq (fun i => ?_) d ?_
  · by_cases h : i = j
    · subst h; rw [if_pos rfl, sj_fvI hj, if_pos rfl]
    · rw [if_neg h]; simp [sj_fv, h]
  · rw [sj_us_same hσ, sj_ur_up]; exact kk
theorem sj_putRF {idx κ j n0 a : Nat} {ρ : Nat → Option Nat} {ty : FieldType} {b : Nat} (f : sj_fl own idx κ j ty true) (hσ : σ.2 a = some (κ, n0, ρ)) (hj : sj_rf κ j = true) (hn : narrow ty (.ref b) = .ref b) (hfit : fits ty (.ref b) = true) (hin : nm = "<init>") (hcq : ∀ q : vw_C, vwCl[κ]? = some q → q.1 = own) (d : decode cc pc = .ok (.putfield idx, 3)) (kk : sj_V l Γ (cc, own, nL, ret, nm, R) G post (sj_us σ a (κ, n0, sj_ru ρ j (some b))) I k n (pc + 3) L st) : sj_V l Γ (cc, own, nL, ret, nm, R) G post σ I k n pc L (.ref b :: .ref a :: st) := by
  refine sj_putVF (ρ' := sj_ru ρ j (some b)) (g := I a) f hσ hn hfit hin hcq (fun i => ?_) d ?_
  · by_cases h : i = j
    · subst h; rw [if_pos rfl]; simp [sj_fv, sj_ru, hj, va_rf]
    · rw [if_neg h]; simp [sj_fv, sj_ru, h]
  · rw [sj_ur_same]; exact kk
theorem sj_putNullF {idx κ j n0 a : Nat} {ρ : Nat → Option Nat} {ty : FieldType} (f : sj_fl own idx κ j ty true) (hσ : σ.2 a = some (κ, n0, ρ)) (hj : sj_rf κ j = true) (hn : narrow ty (.null) = .null) (hfit : fits ty (.null) = true) (hin : nm = "<init>") (hcq : ∀ q : vw_C, vwCl[κ]? = some q → q.1 = own) (d : decode cc pc = .ok (.putfield idx, 3)) (kk : sj_V l Γ (cc, own, nL, ret, nm, R) G post (sj_us σ a (κ, n0, sj_ru ρ j (none))) I k n (pc + 3) L st) : sj_V l Γ (cc, own, nL, ret, nm, R) G post σ I k n pc L (.null :: .ref a :: st) := by
  refine sj_putVF (ρ' := sj_ru ρ j (none)) (g := I a) f hσ hn hfit hin hcq (fun i => ?_) d ?_
  · by_cases h : i = j
    · subst h; rw [if_pos rfl]; simp [sj_fv, sj_ru, hj, va_rf]
    · rw [if_neg h]; simp [sj_fv, sj_ru, h]
  · rw [sj_ur_same]; exact kk
theorem sj_arr {G : sjG} {H : Heap} {a κ n0 : Nat} {ρ : Nat → Option Nat} {f : Nat → Int} (h1 : κ = 10 ∨ κ = 12) (h : sj_cell G H a (κ, n0, ρ) f) : H[a]? = some (arrV (G.2.2.1 κ) n0 (fun j => .int (zI (f j)))) := by
  unfold sj_cell at h
  rw [if_neg (by show ¬ κ < 10; omega), if_neg (by show ¬ κ = 11; omega), if_pos h1] at h
  exact h
theorem sj_arr' {G : sjG} {H : Heap} {a κ n0 : Nat} {ρ : Nat → Option Nat} {f : Nat → Int} (h1 : κ = 10 ∨ κ = 12) (h : H[a]? = some (arrV (G.2.2.1 κ) n0 (fun j => .int (zI (f j))))) : sj_cell G H a (κ, n0, ρ) f := by
  unfold sj_cell
  rw [if_neg (by show ¬ κ < 10; omega), if_neg (by show ¬ κ = 11; omega), if_pos h1]
  exact h
theorem sj_arrL {G : sjG} {H : Heap} {a n0 : Nat} {ρ : Nat → Option Nat} {f : Nat → Int} : sj_cell G H a (11, n0, ρ) f ↔ H[a]? = some (arrV (G.2.2.1 11) n0 (fun j => .long (zL (f j)))) := by
  unfold sj_cell
  rw [if_neg (by show ¬ 11 < 10; omega), if_pos rfl]
theorem sj_arrQ {G : sjG} {H : Heap} {a κ n0 : Nat} {ρ : Nat → Option Nat} {f : Nat → Int} (h1 : 13 ≤ κ) : sj_cell G H a (κ, n0, ρ) f ↔ H[a]? = some (arrV (G.2.2.1 κ) n0 (fun j => va_rf (ρ j))) := by
  unfold sj_cell
  rw [if_neg (by show ¬ κ < 10; omega), if_neg (by show ¬ κ = 11; omega), if_neg (by show ¬ (κ = 10 ∨ κ = 12); omega)]
theorem sj_iald {a n0 : Nat} {ρ : Nat → Option Nat} {i : Int} (hσ : σ.2 a = some (10, n0, ρ)) (hi : 0 ≤ i ∧ i < n0) (hz : n0 ≤ 2147483647) (d : decode cc pc = .ok (.iaload, 1)) (kk : sj_V l Γ (cc, own, nL, ret, nm, R) G post σ I k n (pc + 1) L (.int (zI (I a i.toNat)) :: st)) : sj_V l Γ (cc, own, nL, ret, nm, R) G post σ I k n pc L (.int (zI i) :: .ref a :: st) := by
  obtain ⟨p, e, s, m, args, below, meth, c, Q⟩ := Γ
  intro hC hK hr H locs ls hR hlo hL
  obtain ⟨hx, hb, hml, hown, hnm⟩ := id hC
  have hc := sj_arr (by decide) (hR.2.2 a _ hσ).2
  refine W.iald hx hb hc ((hK.1.2 0 _ rfl).1 n0 _) (fun q => by cases q) (by rw [arrV_size]; exact zI_in hi hz) (v := .int (zI (I a i.toNat))) (by rw [zI_cl (by omega), arrV_read _ _ (by omega)]) rfl rfl d (kk hC hK hr H locs ls hR hlo hL)
theorem sj_zald {a n0 : Nat} {ρ : Nat → Option Nat} {i : Int} (hσ : σ.2 a = some (12, n0, ρ)) (hi : 0 ≤ i ∧ i < n0) (hz : n0 ≤ 2147483647) (d : decode cc pc = .ok (.baload, 1)) (kk : sj_V l Γ (cc, own, nL, ret, nm, R) G post σ I k n (pc + 1) L (.int (zI (I a i.toNat)) :: st)) : sj_V l Γ (cc, own, nL, ret, nm, R) G post σ I k n pc L (.int (zI i) :: .ref a :: st) := by
  obtain ⟨p, e, s, m, args, below, meth, c, Q⟩ := Γ
  intro hC hK hr H locs ls hR hlo hL
  obtain ⟨hx, hb, hml, hown, hnm⟩ := id hC
  have hc := sj_arr (by decide) (hR.2.2 a _ hσ).2
  refine W.zald hx hb hc ((hK.1.2 2 _ rfl).1 n0 _) (fun q => by cases q) (by rw [arrV_size]; exact zI_in hi hz) (v := .int (zI (I a i.toNat))) (by rw [zI_cl (by omega), arrV_read _ _ (by omega)]) rfl rfl d (kk hC hK hr H locs ls hR hlo hL)
theorem sj_iast {a n0 : Nat} {ρ : Nat → Option Nat} {i x : Int} (hσ : σ.2 a = some (10, n0, ρ)) (hi : 0 ≤ i ∧ i < n0) (hz : n0 ≤ 2147483647) (d : decode cc pc = .ok (.iastore, 1)) (kk : sj_V l Γ (cc, own, nL, ret, nm, R) G post σ (sj_up I a i.toNat x) k n (pc + 1) L st) : sj_V l Γ (cc, own, nL, ret, nm, R) G post σ I k n pc L (.int (zI x) :: .int (zI i) :: .ref a :: st) := by
  obtain ⟨p, e, s, m, args, below, meth, c, Q⟩ := Γ
  intro hC hK hr H locs ls hR hlo hL
  obtain ⟨hx, hb, hml, hown, hnm⟩ := id hC
  obtain ⟨hlo2, hcell⟩ := hR.2.2 a _ hσ
  have hc := sj_arr (by decide) hcell
  refine W.iast hx hb hc ((hK.1.2 0 _ rfl).1 n0 _) (fun q => by cases q) (by rw [arrV_size]; exact zI_in hi hz) rfl rfl d fun H1 e1 e2 e3 => ?_
  rw [zI_cl (by omega), arrV_store] at e1
  have hc2 : sj_cell G H1 a (10, n0, ρ) (fun j => if j = i.toNat then x else I a j) := by
    refine sj_arr' (by decide) (e1.trans ?_)
    congr 2
    funext j
    by_cases h : j = i.toNat
    · subst h; simp [updV]
    · simp [updV, h]
  have hR2 := hR.put hlo2 e2 e3 hc2
  rw [sj_us_same hσ, sj_ur_up] at hR2
  exact kk hC hK hr H1 _ ls hR2 (fun z hz => by
    rcases List.mem_append.mp hz with h | h
    · exact hlo z h
    · rw [List.mem_singleton.mp h]; exact hlo2) hL
theorem sj_zast {a n0 : Nat} {ρ : Nat → Option Nat} {i x : Int} (hσ : σ.2 a = some (12, n0, ρ)) (hi : 0 ≤ i ∧ i < n0) (hz : n0 ≤ 2147483647) (hn : narrow .boolean (.int (zI x)) = .int (zI x)) (d : decode cc pc = .ok (.bastore, 1)) (kk : sj_V l Γ (cc, own, nL, ret, nm, R) G post σ (sj_up I a i.toNat x) k n (pc + 1) L st) : sj_V l Γ (cc, own, nL, ret, nm, R) G post σ I k n pc L (.int (zI x) :: .int (zI i) :: .ref a :: st) := by
  obtain ⟨p, e, s, m, args, below, meth, c, Q⟩ := Γ
  intro hC hK hr H locs ls hR hlo hL
  obtain ⟨hx, hb, hml, hown, hnm⟩ := id hC
  obtain ⟨hlo2, hcell⟩ := hR.2.2 a _ hσ
  have hc := sj_arr (by decide) hcell
  refine W.zast hx hb hc ((hK.1.2 2 _ rfl).1 n0 _) (fun q => by cases q) (by rw [arrV_size]; exact zI_in hi hz) rfl rfl d fun H1 e1 e2 e3 => ?_
  rw [zI_cl (by omega), hn, arrV_store] at e1
  have hc2 : sj_cell G H1 a (12, n0, ρ) (fun j => if j = i.toNat then x else I a j) := by
    refine sj_arr' (by decide) (e1.trans ?_)
    congr 2
    funext j
    by_cases h : j = i.toNat
    · subst h; simp [updV]
    · simp [updV, h]
  have hR2 := hR.put hlo2 e2 e3 hc2
  rw [sj_us_same hσ, sj_ur_up] at hR2
  exact kk hC hK hr H1 _ ls hR2 (fun z hz => by
    rcases List.mem_append.mp hz with h | h
    · exact hlo z h
    · rw [List.mem_singleton.mp h]; exact hlo2) hL
theorem sj_lald {a n0 : Nat} {ρ : Nat → Option Nat} {i : Int} (hσ : σ.2 a = some (11, n0, ρ)) (hi : 0 ≤ i ∧ i < n0) (hz : n0 ≤ 2147483647) (d : decode cc pc = .ok (.laload, 1)) (kk : sj_V l Γ (cc, own, nL, ret, nm, R) G post σ I k n (pc + 1) L (.long (zL (I a i.toNat)) :: st)) : sj_V l Γ (cc, own, nL, ret, nm, R) G post σ I k n pc L (.int (zI i) :: .ref a :: st) := by
  obtain ⟨p, e, s, m, args, below, meth, c, Q⟩ := Γ
  intro hC hK hr H locs ls hR hlo hL
  obtain ⟨hx, hb, hml, hown, hnm⟩ := id hC
  have hc := sj_arrL.mp (hR.2.2 a _ hσ).2
  refine W.lald hx hb hc ((hK.1.2 1 _ rfl).1 n0 _) (fun q => by cases q) (by rw [arrV_size]; exact zI_in hi hz) (v := .long (zL (I a i.toNat))) (by rw [zI_cl (by omega), arrV_read _ _ (by omega)]) rfl rfl d (kk hC hK hr H locs ls hR hlo hL)
theorem sj_last {a n0 : Nat} {ρ : Nat → Option Nat} {i x : Int} (hσ : σ.2 a = some (11, n0, ρ)) (hi : 0 ≤ i ∧ i < n0) (hz : n0 ≤ 2147483647) (d : decode cc pc = .ok (.lastore, 1)) (kk : sj_V l Γ (cc, own, nL, ret, nm, R) G post σ (sj_up I a i.toNat x) k n (pc + 1) L st) : sj_V l Γ (cc, own, nL, ret, nm, R) G post σ I k n pc L (.long (zL x) :: .int (zI i) :: .ref a :: st) := by
  obtain ⟨p, e, s, m, args, below, meth, c, Q⟩ := Γ
  intro hC hK hr H locs ls hR hlo hL
  obtain ⟨hx, hb, hml, hown, hnm⟩ := id hC
  obtain ⟨hlo2, hcell⟩ := hR.2.2 a _ hσ
  have hc := sj_arrL.mp hcell
  refine W.last hx hb hc ((hK.1.2 1 _ rfl).1 n0 _) (fun q => by cases q) (by rw [arrV_size]; exact zI_in hi hz) rfl rfl d fun H1 e1 e2 e3 => ?_
  rw [zI_cl (by omega), arrV_store] at e1
  have hc2 : sj_cell G H1 a (11, n0, ρ) (fun j => if j = i.toNat then x else I a j) := by
    refine sj_arrL.mpr (e1.trans ?_)
    congr 2
    funext j
    by_cases h : j = i.toNat
    · subst h; simp [updV]
    · simp [updV, h]
  have hR2 := hR.put hlo2 e2 e3 hc2
  rw [sj_us_same hσ, sj_ur_up] at hR2
  exact kk hC hK hr H1 _ ls hR2 (fun z hz => by
    rcases List.mem_append.mp hz with h | h
    · exact hlo z h
    · rw [List.mem_singleton.mp h]; exact hlo2) hL
/-- the arrays of references: kind, class of what they hold (kind), its name -/
def sj_q : Nat → Option (Nat × String)
  | 13 => some (4, "StreamJudge$Term")
  | 14 => some (1, "StreamJudge$Equations")
  | 15 => some (6, "StreamJudge$Values")
  | _ => none
theorem sj_qK {G : sjG} {s : State} (hK : sj_K G s) {κ κ' : Nat} {C : String} (h : sj_q κ = some (κ', C)) : 13 ≤ κ ∧ (ArrOfT s (G.2.2.1 κ) (.object C) ∧ va_RA s (G.2.2.1 κ) (.object C)) ∧ ∃ q : vw_C, vwCl[κ']? = some q ∧ q.1 = C := by
  unfold sj_q at h
  split at h
  · cases h; exact ⟨by decide, hK.1.2 3 _ rfl, _, rfl, rfl⟩
  · cases h; exact ⟨by decide, hK.1.2 4 _ rfl, _, rfl, rfl⟩
  · cases h; exact ⟨by decide, hK.1.2 5 _ rfl, _, rfl, rfl⟩
  · cases h
theorem sj_aaldV {a n0 κ κ2 : Nat} {C : String} {ρ : Nat → Option Nat} {i : Int} (hq : sj_q κ = some (κ2, C)) (hσ : σ.2 a = some (κ, n0, ρ)) (hi : 0 ≤ i ∧ i < n0) (hz : n0 ≤ 2147483647) (d : decode cc pc = .ok (.aaload, 1)) (kk : sj_V l Γ (cc, own, nL, ret, nm, R) G post σ I k n (pc + 1) L (va_rf (ρ i.toNat) :: st)) : sj_V l Γ (cc, own, nL, ret, nm, R) G post σ I k n pc L (.int (zI i) :: .ref a :: st) := by
  obtain ⟨p, e, s, m, args, below, meth, c, Q⟩ := Γ
  intro hC hK hr H locs ls hR hlo hL
  obtain ⟨hx, hb, hml, hown, hnm⟩ := id hC
  obtain ⟨h13, ⟨hAr, -⟩, -⟩ := sj_qK hK hq
  have hc := (sj_arrQ h13).mp (hR.2.2 a _ hσ).2
  refine W.aald hx hb hc (hAr n0 _) rfl (fun q => by cases q) (by rw [arrV_size]; exact zI_in hi hz) (v := va_rf (ρ i.toNat)) (by rw [zI_cl (by omega), arrV_read _ _ (by omega)]) rfl rfl d (kk hC hK hr H locs ls hR hlo hL)
theorem sj_aald {a n0 κ κ2 b : Nat} {C : String} {ρ : Nat → Option Nat} {i : Int} (hq : sj_q κ = some (κ2, C)) (hσ : σ.2 a = some (κ, n0, ρ)) (hi : 0 ≤ i ∧ i < n0) (hz : n0 ≤ 2147483647) (hb : ρ i.toNat = some b) (d : decode cc pc = .ok (.aaload, 1)) (kk : sj_V l Γ (cc, own, nL, ret, nm, R) G post σ I k n (pc + 1) L (.ref b :: st)) : sj_V l Γ (cc, own, nL, ret, nm, R) G post σ I k n pc L (.int (zI i) :: .ref a :: st) := sj_aaldV hq hσ hi hz d (by rw [hb]; exact kk)
theorem sj_aaldN {a n0 κ κ2 : Nat} {C : String} {ρ : Nat → Option Nat} {i : Int} (hq : sj_q κ = some (κ2, C)) (hσ : σ.2 a = some (κ, n0, ρ)) (hi : 0 ≤ i ∧ i < n0) (hz : n0 ≤ 2147483647) (hb : ρ i.toNat = none) (d : decode cc pc = .ok (.aaload, 1)) (kk : sj_V l Γ (cc, own, nL, ret, nm, R) G post σ I k n (pc + 1) L (.null :: st)) : sj_V l Γ (cc, own, nL, ret, nm, R) G post σ I k n pc L (.int (zI i) :: .ref a :: st) := sj_aaldV hq hσ hi hz d (by rw [hb]; exact kk)
theorem sj_aast {a n0 κ κ2 b n1 : Nat} {C : String} {ρ ρ1 : Nat → Option Nat} {i : Int} (hq : sj_q κ = some (κ2, C)) (hσ : σ.2 a = some (κ, n0, ρ)) (hb2 : σ.2 b = some (κ2, n1, ρ1)) (hi : 0 ≤ i ∧ i < n0) (hz : n0 ≤ 2147483647) (d : decode cc pc = .ok (.aastore, 1)) (kk : sj_V l Γ (cc, own, nL, ret, nm, R) G post (sj_us σ a (κ, n0, sj_ru ρ i.toNat (some b))) I k n (pc + 1) L st) : sj_V l Γ (cc, own, nL, ret, nm, R) G post σ I k n pc L (.ref b :: .int (zI i) :: .ref a :: st) := by
  obtain ⟨p, e, s, m, args, below, meth, c, Q⟩ := Γ
  intro hC hK hr H locs ls hR hlo hL
  obtain ⟨hx, hb, hml, hown, hnm⟩ := id hC
  obtain ⟨h13, ⟨hAr, hRA⟩, q, hq1, hq2⟩ := sj_qK hK hq
  obtain ⟨hlo2, hcell⟩ := hR.2.2 a _ hσ
  have hc := (sj_arrQ h13).mp hcell
  obtain ⟨cellV, g1, g2, g3, -⟩ := sj_obj hq1 (hR.2.2 b _ hb2).2
  have hcls := (hK.1.1 κ2 q hq1).2
  obtain ⟨kA, comp, k1, k2, k3, -⟩ := hRA
  have hcomp : comp = G.1 κ2 := Option.some.inj (k3.symm.trans (by rw [← hq2]; exact hcls.1))
  subst hcomp
  obtain ⟨kC, hkC, hkk⟩ := hcls.2
  refine W.aast hx hb hc (fun q h => by cases h) (fun h => by cases h) k1 k2 rfl hkC ⟨by rw [zI_0, zI_lt (by omega) (by omega)]; omega, by rw [arrV_size, zI_cl (by omega)]; omega⟩ g1 (fun q h => by rw [g3] at h; cases h) (by rw [g2]; exact hkC) (by rw [g2]; exact va_assign ⟨hcls.1, kC, hkC, hkk⟩) rfl rfl d fun H1 e1 e2 e3 => ?_
  rw [zI_cl (by omega), arrV_store] at e1
  have hc2 : sj_cell G H1 a (κ, n0, sj_ru ρ i.toNat (some b)) (I a) := by
    refine (sj_arrQ h13).mpr (e1.trans ?_)
    congr 2
    funext j
    by_cases h : j = i.toNat
    · subst h; simp [updV, sj_ru, va_rf]
    · simp [updV, sj_ru, h]
  have hR2 := hR.put hlo2 e2 e3 hc2
  rw [sj_ur_same] at hR2
  exact kk hC hK hr H1 _ ls hR2 (fun z hz => by
    rcases List.mem_append.mp hz with h | h
    · exact hlo z h
    · rw [List.mem_singleton.mp h]; exact hlo2) hL
theorem sj_aastN {a n0 κ κ2 : Nat} {C : String} {ρ : Nat → Option Nat} {i : Int} (hq : sj_q κ = some (κ2, C)) (hσ : σ.2 a = some (κ, n0, ρ)) (hi : 0 ≤ i ∧ i < n0) (hz : n0 ≤ 2147483647) (d : decode cc pc = .ok (.aastore, 1)) (kk : sj_V l Γ (cc, own, nL, ret, nm, R) G post (sj_us σ a (κ, n0, sj_ru ρ i.toNat none)) I k n (pc + 1) L st) : sj_V l Γ (cc, own, nL, ret, nm, R) G post σ I k n pc L (.null :: .int (zI i) :: .ref a :: st) := by
  obtain ⟨p, e, s, m, args, below, meth, c, Q⟩ := Γ
  intro hC hK hr H locs ls hR hlo hL
  obtain ⟨hx, hb, hml, hown, hnm⟩ := id hC
  obtain ⟨h13, ⟨hAr, hRA⟩, -⟩ := sj_qK hK hq
  obtain ⟨hlo2, hcell⟩ := hR.2.2 a _ hσ
  have hc := (sj_arrQ h13).mp hcell
  refine va_WaastN hx hb hc (hAr n0 _) (fun h => by cases h) (by rw [arrV_size]; exact zI_in hi hz) rfl rfl d fun H1 e1 e2 e3 => ?_
  rw [zI_cl (by omega), arrV_store] at e1
  have hc2 : sj_cell G H1 a (κ, n0, sj_ru ρ i.toNat (none)) (I a) := by
    refine (sj_arrQ h13).mpr (e1.trans ?_)
    congr 2
    funext j
    by_cases h : j = i.toNat
    · subst h; simp [updV, sj_ru, va_rf]
    · simp [updV, sj_ru, h]
  have hR2 := hR.put hlo2 e2 e3 hc2
  rw [sj_ur_same] at hR2
  exact kk hC hK hr H1 _ ls hR2 (fun z hz => by
    rcases List.mem_append.mp hz with h | h
    · exact hlo z h
    · rw [List.mem_singleton.mp h]; exact hlo2) hL
/-- the length of an array -/
theorem sj_len {G : sjG} {s : State} (hK : sj_K G s) {H : Heap} {a κ n0 : Nat} {ρ : Nat → Option Nat} {f : Nat → Int} (h10 : 10 ≤ κ ∧ κ ≤ 15) (h : sj_cell G H a (κ, n0, ρ) f) : ∃ (cell : Cell) (ty : FieldType), H[a]? = some cell ∧ s.isArrayOf cell ty ∧ cell.slots.size = n0 := by
  rcases (show κ = 10 ∨ κ = 11 ∨ κ = 12 ∨ κ = 13 ∨ κ = 14 ∨ κ = 15 by omega) with e | e | e | e | e | e <;> subst e
  · exact ⟨_, _, sj_arr (by decide) h, (hK.1.2 0 _ rfl).1 n0 _, arrV_size _ _ _⟩
  · exact ⟨_, _, sj_arrL.mp h, (hK.1.2 1 _ rfl).1 n0 _, arrV_size _ _ _⟩
  · exact ⟨_, _, sj_arr (by decide) h, (hK.1.2 2 _ rfl).1 n0 _, arrV_size _ _ _⟩
  · exact ⟨_, _, (sj_arrQ (by decide)).mp h, (hK.1.2 3 _ rfl).1 n0 _, arrV_size _ _ _⟩
  · exact ⟨_, _, (sj_arrQ (by decide)).mp h, (hK.1.2 4 _ rfl).1 n0 _, arrV_size _ _ _⟩
  · exact ⟨_, _, (sj_arrQ (by decide)).mp h, (hK.1.2 5 _ rfl).1 n0 _, arrV_size _ _ _⟩
theorem sj_alen {a n0 κ : Nat} {ρ : Nat → Option Nat} (hσ : σ.2 a = some (κ, n0, ρ)) (h10 : 10 ≤ κ ∧ κ ≤ 15) (d : decode cc pc = .ok (.arraylength, 1)) (kk : sj_V l Γ (cc, own, nL, ret, nm, R) G post σ I k n (pc + 1) L (.int (zI (n0 : Int)) :: st)) : sj_V l Γ (cc, own, nL, ret, nm, R) G post σ I k n pc L (.ref a :: st) := by
  obtain ⟨p, e, s, m, args, below, meth, c, Q⟩ := Γ
  intro hC hK hr H locs ls hR hlo hL
  obtain ⟨hx, hb, hml, hown, hnm⟩ := id hC
  obtain ⟨cell, ty, h1, h2, h3⟩ := sj_len hK h10 (hR.2.2 a _ hσ).2
  refine W.alen hx hb h1 h2 (n := zI (n0 : Int)) (by rw [h3]; exact zI_n n0) rfl rfl d (kk hC hK hr H locs ls hR hlo hL)
theorem sj_newI {x : Int} (hw : sj_in (.arrayClass .int)) (d : decode cc pc = .ok (.newarray .int, 2)) (hx2 : 0 ≤ x ∧ x ≤ 60000000) (hk : k + 1 ≤ R.cells) (hs : n + x.toNat ≤ R.slots) (kk : sj_V l Γ (cc, own, nL, ret, nm, R) G post (sj_nw σ (10, x.toNat, fun _ => none)) (sj_ur I σ.1 (fun _ => 0)) (k + 1) (n + x.toNat) (pc + 2) L (.ref σ.1 :: st)) : sj_V l Γ (cc, own, nL, ret, nm, R) G post σ I k n pc L (.int (zI x) :: st) := by
  obtain ⟨p, e, s, m, args, below, meth, c, Q⟩ := Γ
  intro hC hK hr H locs ls hR hlo hL
  obtain ⟨hx, hb, hml, hown, hnm⟩ := id hC
  refine va_newaK (atype := .int) (N := x.toNat) hx hb (hK.word hw args) rfl d rfl (by rw [zI_0, zI_lt (by omega) (by omega)]; omega) (zI_cl (by omega)) (by show x.toNat * 4 ≤ _; omega) hk hs rfl fun H1 cA e1 e2 e3 hAr hfc => ?_
  have hcA : cA = G.2.2.1 10 := Option.some.inj (hfc.symm.trans (hK.1.2 0 _ rfl).2)
  subst hcA
  have hR2 := hR.new e2 e3 (x := (10, x.toNat, fun _ => none)) (f := fun _ => 0) (sj_arr' (by decide) e1)
  rw [← hR.1.1]
  exact kk hC hK hr H1 _ ls hR2 hlo hL
theorem sj_newJ {x : Int} (hw : sj_in (.arrayClass .long)) (d : decode cc pc = .ok (.newarray .long, 2)) (hx2 : 0 ≤ x ∧ x ≤ 60000000) (hk : k + 1 ≤ R.cells) (hs : n + x.toNat ≤ R.slots) (kk : sj_V l Γ (cc, own, nL, ret, nm, R) G post (sj_nw σ (11, x.toNat, fun _ => none)) (sj_ur I σ.1 (fun _ => 0)) (k + 1) (n + x.toNat) (pc + 2) L (.ref σ.1 :: st)) : sj_V l Γ (cc, own, nL, ret, nm, R) G post σ I k n pc L (.int (zI x) :: st) := by
  obtain ⟨p, e, s, m, args, below, meth, c, Q⟩ := Γ
  intro hC hK hr H locs ls hR hlo hL
  obtain ⟨hx, hb, hml, hown, hnm⟩ := id hC
  refine va_newaK (atype := .long) (N := x.toNat) hx hb (hK.word hw args) rfl d rfl (by rw [zI_0, zI_lt (by omega) (by omega)]; omega) (zI_cl (by omega)) (by show x.toNat * 8 ≤ _; omega) hk hs rfl fun H1 cA e1 e2 e3 hAr hfc => ?_
  have hcA : cA = G.2.2.1 11 := Option.some.inj (hfc.symm.trans (hK.1.2 1 _ rfl).2)
  subst hcA
  have hR2 := hR.new e2 e3 (x := (11, x.toNat, fun _ => none)) (f := fun _ => 0) (sj_arrL.mpr e1)
  rw [← hR.1.1]
  exact kk hC hK hr H1 _ ls hR2 hlo hL
theorem sj_newZ {x : Int} (hw : sj_in (.arrayClass .boolean)) (d : decode cc pc = .ok (.newarray .boolean, 2)) (hx2 : 0 ≤ x ∧ x ≤ 60000000) (hk : k + 1 ≤ R.cells) (hs : n + x.toNat ≤ R.slots) (kk : sj_V l Γ (cc, own, nL, ret, nm, R) G post (sj_nw σ (12, x.toNat, fun _ => none)) (sj_ur I σ.1 (fun _ => 0)) (k + 1) (n + x.toNat) (pc + 2) L (.ref σ.1 :: st)) : sj_V l Γ (cc, own, nL, ret, nm, R) G post σ I k n pc L (.int (zI x) :: st) := by
  obtain ⟨p, e, s, m, args, below, meth, c, Q⟩ := Γ
  intro hC hK hr H locs ls hR hlo hL
  obtain ⟨hx, hb, hml, hown, hnm⟩ := id hC
  refine va_newaK (atype := .boolean) (N := x.toNat) hx hb (hK.word hw args) rfl d rfl (by rw [zI_0, zI_lt (by omega) (by omega)]; omega) (zI_cl (by omega)) (by show x.toNat * 1 ≤ _; omega) hk hs rfl fun H1 cA e1 e2 e3 hAr hfc => ?_
  have hcA : cA = G.2.2.1 12 := Option.some.inj (hfc.symm.trans (hK.1.2 2 _ rfl).2)
  subst hcA
  have hR2 := hR.new e2 e3 (x := (12, x.toNat, fun _ => none)) (f := fun _ => 0) (sj_arr' (by decide) e1)
  rw [← hR.1.1]
  exact kk hC hK hr H1 _ ls hR2 hlo hL
theorem sj_newQ {idx κ κ2 : Nat} {C : String} {x : Int} (hq : sj_q κ = some (κ2, C)) (hw : sj_in (.classLink own idx C)) (hw2 : sj_in (.arrayOver (.object C))) (d : decode cc pc = .ok (.anewarray idx, 3)) (hx2 : 0 ≤ x ∧ x ≤ 60000000) (hk : k + 1 ≤ R.cells) (hs : n + x.toNat ≤ R.slots) (kk : sj_V l Γ (cc, own, nL, ret, nm, R) G post (sj_nw σ (κ, x.toNat, fun _ => none)) (sj_ur I σ.1 (fun _ => 0)) (k + 1) (n + x.toNat) (pc + 3) L (.ref σ.1 :: st)) : sj_V l Γ (cc, own, nL, ret, nm, R) G post σ I k n pc L (.int (zI x) :: st) := by
  obtain ⟨p, e, s, m, args, below, meth, c, Q⟩ := Γ
  intro hC hK hr H locs ls hR hlo hL
  obtain ⟨hx, hb, hml, hown, hnm⟩ := id hC
  obtain ⟨h13, ⟨hAr, hRA⟩, -⟩ := sj_qK hK hq
  have hcl : (zI x).toNatClampNeg = x.toNat := zI_cl (by omega)
  refine W.anew hx hb hown (hK.word hw args) (hK.word hw2 args) rfl d rfl (by rw [zI_0, zI_lt (by omega) (by omega)]; omega) (by rw [hcl]; omega) hk (by rw [hcl]; exact hs) fun cA kA comp f1 f2 f3 f4 => ?_
  have hcA : cA = G.2.2.1 κ := by
    obtain ⟨_, _, _, _, _, h4⟩ := hRA
    exact Option.some.inj (f1.symm.trans h4)
  subst hcA
  rw [hcl]
  generalize hH1 : H.push ({ cls := G.2.2.1 κ, slots := Array.replicate x.toNat .null, vm := .none } : Cell) = H1
  have e2 : H1.size = H.size + 1 := by rw [← hH1, Array.size_push]
  have e1 : H1[H.size]? = some (arrV (G.2.2.1 κ) x.toNat (fun _ => .null)) := by rw [← hH1, Array.getElem?_push_size, ← arrV_new]
  have e3 : ∀ q : Nat, q < H.size → H1[q]? = H[q]? := fun q hq => by rw [← hH1, Array.getElem?_push, if_neg (Nat.ne_of_lt hq)]
  have hR2 := hR.new e2 e3 (x := (κ, x.toNat, fun _ => none)) (f := fun _ => 0) ((sj_arrQ h13).mpr e1)
  rw [← hR.1.1]
  exact kk hC hK hr H1 _ ls hR2 hlo hL
theorem sj_new {idx κ : Nat} {q : vw_C} (hq : vwCl[κ]? = some q) (hw : sj_in (.classLink own idx q.1)) (hw2 : sj_in (.instantiable q.1 q.2.2)) (hw3 : sj_in (.initialized q.1)) (d : decode cc pc = .ok (.new idx, 3)) (hk : k + 1 ≤ R.cells) (hs : n + q.2.2 ≤ R.slots) (kk : sj_V l Γ (cc, own, nL, ret, nm, R) G post (sj_nw σ (κ, 0, fun _ => none)) (sj_ur I σ.1 (fun _ => 0)) (k + 1) (n + q.2.2) (pc + 3) L (.ref σ.1 :: st)) : sj_V l Γ (cc, own, nL, ret, nm, R) G post σ I k n pc L st := by
  obtain ⟨p, e, s, m, args, below, meth, c, Q⟩ := Γ
  intro hC hK hr H locs ls hR hlo hL
  obtain ⟨hx, hb, hml, hown, hnm⟩ := id hC
  have hKn := hK.1.1 κ _ hq
  obtain ⟨hws, tys, hty2, hnmm, hdf⟩ := (sj_cl κ q hq).2
  refine W.newcK hx hb hown (hK.word hw args) (hK.word hw2 args) (hK.word hw3 args) rfl d hk hs hKn.2.1 rfl fun H1 kC hkC e1 e2 e3 => ?_
  have hob := u_born tys (fun w h => hK.word (hws w h) args) (fun _ h => h) hKn hkC e1 hty2
  have hR2 := hR.new e2 e3 (x := (κ, 0, fun _ => none)) (f := fun _ => 0) (sj_obj' hq (hob.to hdf))
  rw [← hR.1.1]
  exact kk hC hK hr H1 _ ls hR2 hlo hL
end HEAP
