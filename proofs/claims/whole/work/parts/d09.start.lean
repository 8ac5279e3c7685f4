/-! THE CLAIM OUT OF ONE WALK OF THE LAW'S BODY. Your part is whole_start (and what it stands on); all else here is the same for every law, but numbers. -/
def R_law : String := "StreamJudgeLaw"
def lw_P (b : Addr) (xs : List Int32) (args : Array Value) (s : State) : Prop := args = #[.ref b] ∧ s.IntsAt b xs ∧ xs.length ≤ 2048 ∧ (Jvm.Cond.and given_1 narrow_1).before args s = true
def lw_Q (_ : Array Value) (s : State) (o : Outcome) (t : State) : Prop := o = .returned (some (.int 1)) ∧ Framed s o t [] 600000 7302250
def lw_Z (below : List Frame) (a : Array Value) (s : State) : State → Prop := fun t => ∃ o, t.status = .running ∧ Ended t below o ∧ lw_Q a s o t
/-- the law's own end, with 1 on the stack, nothing written that was there before, its room as the claim has it -/
theorem lw_ret {p : Program} {l : Launch} {e : Env} {s : State} {m : MethodId} {below : List Frame} {meth : Method} {c : Code} {b : Nat} (hx : p.tables.exec = Jvm.exec) (hb : c.code = code) (hr : meth.sig.returnType = ret) (hlocks : meth.locks = false) {pc : Nat} {H : Heap} {ls : Array Slot} (hdg : decode code pc = .ok (.ireturn, 1)) : W p l e room_1 s m #[Value.ref b] below meth c H [] 600000 7302250 (lw_Z below #[Value.ref b] s) (F0 m pc ls [.int 1]) := by
  intro T hT X
  obtain ⟨fs, hret, hrun, hended, hW, hframe⟩ := X.leave (v := some (.int 1)) (hlocks := hlocks) (fun h => by rw [hr] at h; cases h)
  have hmeth' : T.vm.method? m = some meth := X.method'
  refine ⟨T.setFrames fs, ?_, .returned (some (.int 1)), hrun, hended, rfl, ⟨_, rfl⟩, hW, hframe⟩
  jvm_step X.here [X.here.top, hx, hb, hdg, hmeth', hr, ret, narrow_b1]
  (try refine ⟨rfl, ?_⟩); (try refine ⟨rfl, ?_⟩)
  first | (intro acts; rw [hret _ acts rfl rfl rfl]) | rw [hret _ _ rfl rfl rfl]
  exact Steps.refl _
/-- what holds at the law's entry: the machine, the code, the tables' words (any of lw_tbl by 'hts w (by decide +kernel)'), the script of L ints xs at the cell b, what the Statement gives of the start (any of its parts by flat_of_before) -/
def lw_At (p : Program) (s : State) (m : MethodId) (meth : Method) (c : Code) (b L : Nat) (xs : Nat → Int32) : Prop :=
  p.tables.exec = Jvm.exec ∧ c.code = code ∧ meth.sig.returnType = ret ∧ c.maxLocals = 4 ∧ s.vm.findClass R_law = some m.cls ∧ (∀ w ∈ lw_tbl, w.before #[Value.ref b] s = true) ∧ va_X b L xs s s.heap ∧ b < s.heap.size ∧ meth.locks = false ∧ (Jvm.Cond.and given_1 narrow_1).before #[Value.ref b] s = true
theorem sj_cold {w : Cond} (hg : sj_good w = true) {s : State} {a : Array Value} (h : w.before a s = true) : w.before #[] s = true := by
  unfold sj_good at hg
  split at hg
  · exact va_Nw.of rfl h
  · exact va_Nw.of rfl h
  · exact va_Nw.of rfl h
  · exact va_AO.of h
  · exact word_at (State.WarmedH.refl s) (good_of_word hg) h
theorem sj_arrP {s : State} {ty : FieldType} (h : (Cond.arrayClass ty).before #[] s = true) : ∃ cA : ClassId, ArrOfT s cA ty ∧ s.vm.findClass ("[" ++ ty.toString) = some cA := by
  obtain ⟨c, k, comp, h1, h2, h3⟩ := Cond.arrayClass_spec h
  exact ⟨c, fun n z => ⟨fun k h => (by cases h), k, h2, comp, h3⟩, h1⟩
theorem sj_arrO {s : State} {C : String} (h : (Cond.arrayOver (.object C)).before #[] s = true) : ∃ cA : ClassId, ArrOfT s cA (.object C) ∧ va_RA s cA (.object C) := by
  obtain ⟨comp, c, k, h1, h2, h3, h4, h5⟩ := Cond.arrayOver_spec h
  exact ⟨c, fun n z => ⟨fun k h => (by cases h), k, h3, comp, h4⟩, k, comp, h3, h4, h1, h5⟩
theorem sj_kn {s : State} {κ : Nat} {C : String} {T : u_T} {N : Nat} (hw : ∀ w, sj_in w → w.before #[] s = true) (h1 : sj_clOk κ (C, T, N)) (h2 : sj_in (.instantiable C N)) : ∃ (cC : ClassId) (iS : Nat → Nat), u_Kn s C T N cC iS :=
  u_known (ws := u_ws C T N) (args := #[]) (fun w h => hw w (h1.1 w h)) (fun _ h => h) (hw _ h2)
theorem sj_start {s : State} {a : Array Value} (hts : ∀ w ∈ lw_tbl, w.before a s = true) (H : Heap) : ∃ G : sjG, G.2.2.2 = H ∧ sj_K G s := by
  have hw : ∀ w, sj_in w → w.before #[] s = true := fun w hw => sj_cold hw.2 (hts w hw.1)
  obtain ⟨c0, i0, k0⟩ := sj_kn hw sj_cl0 wi_0
  obtain ⟨c1, i1, k1⟩ := sj_kn hw sj_cl1 wi_1
  obtain ⟨c2, i2, k2⟩ := sj_kn hw sj_cl2 wi_2
  obtain ⟨c3, i3, k3⟩ := sj_kn hw sj_cl3 wi_3
  obtain ⟨c4, i4, k4⟩ := sj_kn hw sj_cl4 wi_4
  obtain ⟨c5, i5, k5⟩ := sj_kn hw sj_cl5 wi_5
  obtain ⟨c6, i6, k6⟩ := sj_kn hw sj_cl6 wi_6
  obtain ⟨c7, i7, k7⟩ := sj_kn hw sj_cl7 wi_7
  obtain ⟨c8, i8, k8⟩ := sj_kn hw sj_cl8 wi_8
  obtain ⟨c9, i9, k9⟩ := sj_kn hw sj_cl9 wi_9
  obtain ⟨b0, p0, q0⟩ := sj_arrP (hw _ wa_int)
  obtain ⟨b1, p1, q1⟩ := sj_arrP (hw _ wa_long)
  obtain ⟨b2, p2, q2⟩ := sj_arrP (hw _ wa_boolean)
  obtain ⟨b3, p3, q3⟩ := sj_arrO (hw _ wo_4)
  obtain ⟨b4, p4, q4⟩ := sj_arrO (hw _ wo_1)
  obtain ⟨b5, p5, q5⟩ := sj_arrO (hw _ wo_6)
  refine ⟨(fun k => [c0, c1, c2, c3, c4, c5, c6, c7, c8, c9].getD k c0, fun k => [i0, i1, i2, i3, i4, i5, i6, i7, i8, i9].getD k i0, fun k => [b0, b1, b2, b3, b4, b5].getD (k - 10) b0, H), rfl, ⟨fun k q hq => ?_, fun k q hq => ?_⟩, hw⟩
  · match k, hq with
    | 0, hq => cases hq; exact k0
    | 1, hq => cases hq; exact k1
    | 2, hq => cases hq; exact k2
    | 3, hq => cases hq; exact k3
    | 4, hq => cases hq; exact k4
    | 5, hq => cases hq; exact k5
    | 6, hq => cases hq; exact k6
    | 7, hq => cases hq; exact k7
    | 8, hq => cases hq; exact k8
    | 9, hq => cases hq; exact k9
    | k + 10, hq => simp [vwCl] at hq
  · match k, hq with
    | 0, hq => cases hq; exact ⟨p0, q0⟩
    | 1, hq => cases hq; exact ⟨p1, q1⟩
    | 2, hq => cases hq; exact ⟨p2, q2⟩
    | 3, hq => cases hq; exact ⟨p3, q3⟩
    | 4, hq => cases hq; exact ⟨p4, q4⟩
    | 5, hq => cases hq; exact ⟨p5, q5⟩
    | k + 6, hq => simp at hq
theorem lw_body {l : Launch} {Γ : sjC} {nm : String} {G : sjG} {b Ln : Nat} {xs : Nat → Int} (hX : lwX Γ G b Ln xs) : sj_V l Γ (cL_law, RL, 4, some .boolean, nm, room_1) G lwP (G.2.2.2.size, fun _ => none) (fun _ _ => 0) 0 0 0 [some (.ref b), none, none, none] [] := by
  have hLn := hX.2.2.1
  refine sj_new (κ := 8) rfl kl_L_7 wi_8 wz_8 dL_law_0 (Nat.le_of_ble_eq_true rfl) (Nat.le_of_ble_eq_true rfl) ?_
  refine sj_dup dL_law_3 rfl ?_
  refine sj_callI (cx9_init (x := G.2.2.2.size) (sj_nw_self _ _) rfl) kc_L_9 rfl rfl (Nat.le_of_ble_eq_true rfl) dL_law_4 (fun r1 σ1 I1 hp1 => ?_)
  obtain ⟨rfl, z1, _, hc1⟩ := hp1
  refine sj_ast1 (by decide) rfl dL_law_7 ?_
  refine sj_wfV (fun hwf => ?_)
  refine sj_new (κ := 9) rfl kl_L_10 wi_9 wz_9 dL_law_8 (Nat.le_of_ble_eq_true rfl) (Nat.le_of_ble_eq_true rfl) ?_
  rw [z1]
  refine sj_dup dL_law_11 rfl ?_
  refine sj_callI (cm_init (o := G.2.2.2.size + 14) (by rw [← z1]; exact sj_nw_self _ _) (by show σ1.1 + 1 = _; omega) (fun j => by rw [sj_ur_self])) kc_L_12 rfl rfl (Nat.le_of_ble_eq_true rfl) dL_law_12 (fun r2 σ2 I2 hp2 => ?_)
  obtain ⟨rfl, z2, hcl, hS, hN⟩ := hp2
  refine sj_ast2 (by decide) rfl dL_law_15 ?_
  refine sj_iconst dL_law_16 ?_
  refine sj_ist3 (by decide) rfl dL_law_17 ?_
  have hc2 : cQ σ2 I2 G.2.2.2.size ([], (2, fun _ => none), [], fun _ => none) := by
    obtain ⟨pv, ws, cy, η, ξ, μ, od, hj⟩ := hc1
    exact ⟨pv, ws, cy, η, ξ, μ, od, (hj.grow hwf (fun q hq => ⟨by rw [(hcl q (by omega)).1, sj_nw_ne (by omega)], fun _ => by rw [(hcl q (by omega)).2, sj_ur_ne (by omega)]⟩)).1⟩
  have z := lw_loop (l := l) (nm := nm) hX 512 0 σ2 I2 _ 36 41856 (by omega) (by omega) (by omega) (by omega) hc2 (rI_new hS hN)
  rw [show 4 * ((0 : Nat) : Int) = 0 from rfl] at z
  exact sj_more (Nat.le_of_ble_eq_true rfl) (Nat.le_of_ble_eq_true rfl) z
theorem whole_start {p : Program} {e : Env} {s : State} {m : MethodId} {below : List Frame} {meth : Method} {c : Code} (l : Launch) (hflags : l.flags = flags0) {b L : Nat} {xs : Nat → Int32} (hL : L ≤ 2048) (C0 : lw_At p s m meth c b L xs) : W p l e room_1 s m #[Value.ref b] below meth c s.heap [] 0 0 (lw_Z below #[Value.ref b] s) (entryFrame m ([Value.ref b] : List Value).toArray 4) := by
  obtain ⟨hx, hb, hr, hml, hown, hts, hX, hbl, hlocks, hgv⟩ := id C0
  obtain ⟨G, hG, hK⟩ := sj_start hts s.heap
  have hl := lv_entry ([.ref b]) (n := 4) (Nat.le_of_ble_eq_true rfl)
  rw [lg_entry_eq]
  generalize (lg_sl ([.ref b]) ++ List.replicate (4 - (lg_sl ([.ref b])).length) Slot.unset).toArray = ls at hl ⊢
  have hxs : (fun j => zI (xs j).toInt) = xs := funext fun j => zI_of _
  have hX2 : lwX (p, e, s, m, #[Value.ref b], below, meth, c, lw_Z below #[Value.ref b] s) G b L (fun j => (xs j).toInt) := ⟨by show va_X b L (fun j => zI (xs j).toInt) s G.2.2.2; rw [hG, hxs]; exact hX, by rw [hG]; exact hbl, hL, fun j => ⟨Int32.le_toInt _, Int32.toInt_lt _⟩⟩
  refine lw_body (l := l) (nm := meth.name) hX2 ⟨hx, hb, hml, hown, rfl⟩ hK ?_ s.heap [] ls ⟨⟨by show G.2.2.2.size = s.heap.size; rw [hG], by rw [hG]; exact Nat.le_refl _⟩, fun q hq => by rw [hG], fun a h z => by cases z⟩ (fun q h => by cases h) (sj_L.entry (av := [.ref b]) (sj_cat_ok _ rfl) hl)
  intro H locs k n pc ls σ' I' hR hlo hk hn
  refine ⟨fun v ty hd hty hnr hp => ?_, fun hd hty hp => (by cases hty), fun v ty hd hty ht hv hp => ?_⟩
  · have hv : some (Value.int v) = some (.int (zI 1)) := hp
    injection hv with hv
    injection hv with hv
    subst hv
    refine W.widen hk hn ?_
    refine va_forget (by rw [← hG]; exact hlo) ?_
    exact lw_ret hx hb hr hlocks hd
  · cases hty
    rcases ht with ⟨_, q⟩ | ⟨_, q⟩ <;> cases q
