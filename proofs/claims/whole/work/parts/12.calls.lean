/-! calls -/
/-- what a call site needs of the tables: kind 0 invokevirtual, 1 invokestatic, 2 invokespecial <init>, 3 the same of a nest mate -/
def sj_cw (kind : Nat) (own : String) (idx : Nat) (y : MethodName) (μ : sjM) (na : Nat) : Prop :=
  (if kind = 3 then ∃ host, sj_in (.methodLinkNest own idx y host) else sj_in (.methodLink own idx y)) ∧ sj_in (.initialized y.cls) ∧ sj_in (.code y μ.1 μ.2.2.1 μ.2.2.2.1) ∧ (if kind = 1 then sj_in (.static y) else sj_in (.instanceMethod y)) ∧ (kind = 0 → sj_in (.selects y.cls y y)) ∧ (2 ≤ kind → y.name = "<init>" ∧ μ.2.2.2.1 = none) ∧
  (y.cls ≠ "java/lang/invoke/MethodHandle" ∧ y.cls ≠ "java/lang/invoke/VarHandle") ∧ (parseMethodDescriptor y.desc).map (fun d => d.parameters.length) = some na
/-- room for a call -/
def sj_rm (R R' : Room) (nL' k n : Nat) : Bool := Nat.ble (R'.frames + 1) R.frames && (Nat.ble (8 + (nL' + 11) + R'.locals) R.locals && (Nat.ble (k + R'.cells) R.cells && Nat.ble (n + R'.slots) R.slots))
section CALLS
variable {l : Launch} {Γ : sjC} {cc : ByteArray} {own nm : String} {nL : Nat} {ret : Option FieldType} {R : Room} {G : sjG} {post : sjP} {σ : sjS} {I : sjI} {k n pc : Nat} {L : List (Option Value)} {st : List Value}
theorem sj_rm_ok {R R' : Room} {nL' k n : Nat} (h : sj_rm R R' nL' k n = true) : (R'.frames + 1 ≤ R.frames ∧ 8 + (nL' + 11) + R'.locals ≤ R.locals) ∧ k + R'.cells ≤ R.cells ∧ n + R'.slots ≤ R.slots := by
  unfold sj_rm at h
  simp only [Bool.and_eq_true] at h
  exact ⟨⟨Nat.le_of_ble_eq_true h.1, Nat.le_of_ble_eq_true h.2.1⟩, Nat.le_of_ble_eq_true h.2.2.1, Nat.le_of_ble_eq_true h.2.2.2⟩
theorem sj_wcode {G : sjG} {s : State} (hK : sj_K G s) {w : Cond} (hw : sj_in w) : ∀ v ∈ [w], ∀ (a' : Array Value) (U : State), s.WarmedH U.vm → v.before a' U = true := by
  intro v hv a' U hW
  rw [List.mem_singleton.mp hv]
  exact (hK.warm hW).word hw a'
theorem sj_len' {y : MethodName} {na : Nat} (h : (parseMethodDescriptor y.desc).map (fun d => d.parameters.length) = some na) : ∀ sig, parseMethodDescriptor y.desc = some sig → na = sig.parameters.length := by
  intro sig hs
  rw [hs] at h
  exact (Option.some.inj h).symm
theorem sj_go {p : Program} {e : Env} {s : State} {m : MethodId} {args : Array Value} {below : List Frame} {meth : Method} {c : Code} {Q : State → Prop} {H : Heap} {locs : List Loc} {mc ms : Nat} {ls : Array Slot} {st0 rest : List Value} {a : Array Value} {post' : sjP}
    (hr : va_Run p l e R s m args below meth c H locs k n mc ms (F0 m pc ls st0) rest (sj_Post G post' a) (fun q => G.2.2.2.size ≤ q)) (hlo : ∀ q ∈ locs, G.2.2.2.size ≤ q.base)
    (kk : ∀ (r : Option Value) (σ' : sjS) (I' : sjI) (H1 : Heap) (locs1 : List Loc), post' r σ' I' → sj_Rep G σ' I' H1 → (∀ q ∈ locs1, G.2.2.2.size ≤ q.base) → W p l e R s m args below meth c H1 locs1 (k + mc) (n + ms) Q (F0 m (pc + 3) ls (r.toList ++ rest))) : W p l e R s m args below meth c H locs k n Q (F0 m pc ls st0) := by
  intro T hT X
  obtain ⟨v, st₀, t, T', L1, h0, X', hL, e1, e2, ⟨r, σ', I', hv, hp, hk, hRep⟩, st⟩ := hr T hT X
  cases hv
  obtain ⟨t2, a1, b1⟩ := kk v σ' I' T'.heap (locs ++ L1) hp (by rw [e1]; exact hRep) (fun q hq => by
    rcases List.mem_append.mp hq with h | h
    · exact hlo q h
    · exact hL q h) T' rfl X'
  exact ⟨t2, st t2 a1, b1⟩
theorem sj_callS {idx : Nat} {y : MethodName} {μ : sjM} {As st0 rest : List Value} {post' : sjP} (hc : sj_Con l y μ G σ I As post') (hw : sj_cw 1 own idx y μ As.length) (hrm : sj_rm R μ.2.2.2.2.2 μ.2.2.1 k n = true) (hst : st0 = As.reverse ++ rest) (hcat : (rest.map fun v => v.category).sum ≤ 8) (d : decode cc pc = .ok (.invokestatic idx, 3)) (kk : ∀ (r : Option Value) (σ' : sjS) (I' : sjI), post' r σ' I' → sj_V l Γ (cc, own, nL, ret, nm, R) G post σ' I' (k + μ.2.2.2.2.2.cells) (n + μ.2.2.2.2.2.slots) (pc + 3) L (r.toList ++ rest)) : sj_V l Γ (cc, own, nL, ret, nm, R) G post σ I k n pc L st0 := by
  obtain ⟨p, e, s, m, args, below, meth, c, Q⟩ := Γ
  intro hC hK hr H locs ls hR hlo hL
  obtain ⟨hx, hb, hml, hown, hnm⟩ := id hC
  obtain ⟨w1, w2, w3, w4, -, -, w7, w8⟩ := hw
  obtain ⟨r1, r2⟩ := sj_rm_ok hrm
  rw [if_neg (by decide)] at w1
  rw [if_pos rfl] at w4
  refine sj_go (va_runS (Ts := []) (As := As) (rest := rest) ⟨hx, hb, hml, hown, fun _ h => by cases h⟩ hc ⟨⟨rfl, rfl, r1.1, r1.2, sj_wcode hK w3, List.mem_singleton.mpr rfl, hK.word w3 args, hK.word w2 args, w7, sj_len' w8, hK.word w1 args⟩, hK.word w4 args⟩ ⟨sj_Pre.blind G σ I As, fun U hU hW => ⟨rfl, hK.warm hW, by rw [hU]; exact hR⟩⟩ rfl rfl hL.1 hst (lv_room hcat) d r2) hlo (fun r σ' I' H1 locs1 hp hR1 hl1 => kk r σ' I' hp hC hK hr H1 locs1 ls hR1 hl1 hL)
theorem sj_callV {idx κ n0 : Nat} {ρ : Nat → Option Nat} {q : vw_C} {y : MethodName} {μ : sjM} {b : Nat} {As st0 rest : List Value} {post' : sjP} (hc : sj_Con l y μ G σ I (.ref b :: As) post') (hw : sj_cw 0 own idx y μ As.length) (hσ : σ.2 b = some (κ, n0, ρ)) (hq : vwCl[κ]? = some q) (hqy : q.1 = y.cls) (hrm : sj_rm R μ.2.2.2.2.2 μ.2.2.1 k n = true) (hst : st0 = As.reverse ++ .ref b :: rest) (hcat : (rest.map fun v => v.category).sum ≤ 8) (d : decode cc pc = .ok (.invokevirtual idx, 3)) (kk : ∀ (r : Option Value) (σ' : sjS) (I' : sjI), post' r σ' I' → sj_V l Γ (cc, own, nL, ret, nm, R) G post σ' I' (k + μ.2.2.2.2.2.cells) (n + μ.2.2.2.2.2.slots) (pc + 3) L (r.toList ++ rest)) : sj_V l Γ (cc, own, nL, ret, nm, R) G post σ I k n pc L st0 := by
  obtain ⟨p, e, s, m, args, below, meth, c, Q⟩ := Γ
  intro hC hK hr H locs ls hR hlo hL
  obtain ⟨hx, hb, hml, hown, hnm⟩ := id hC
  obtain ⟨w1, w2, w3, w4, w5, -, w7, w8⟩ := hw
  obtain ⟨r1, r2⟩ := sj_rm_ok hrm
  rw [if_neg (by decide)] at w1
  rw [if_neg (by decide)] at w4
  obtain ⟨cell, q1, q2, q3, q4⟩ := sj_obj hq (hR.2.2 b _ hσ).2
  refine sj_go (va_runV (Ts := []) (C := y.cls) (b := b) (As := As) (rest := rest) ⟨hx, hb, hml, hown, fun _ h => by cases h⟩ hc ⟨⟨rfl, rfl, r1.1, r1.2, sj_wcode hK w3, List.mem_singleton.mpr rfl, hK.word w3 args, hK.word w2 args, w7, sj_len' w8, hK.word w1 args⟩, hK.word w4 args, hK.word (w5 rfl) args⟩ ⟨sj_Pre.blind G σ I (.ref b :: As), ⟨cell, q1, by rw [q3]; rfl, by rw [q2, ← hqy]; exact (hK.1.1 κ q hq).2.1⟩, fun U hU hW => ⟨rfl, hK.warm hW, by rw [hU]; exact hR⟩⟩ rfl rfl hL.1 hst (lv_room hcat) d r2) hlo (fun r σ' I' H1 locs1 hp hR1 hl1 => kk r σ' I' hp hC hK hr H1 locs1 ls hR1 hl1 hL)
theorem sj_callI {idx : Nat} {y : MethodName} {cc' : ByteArray} {own' nm' : String} {nL' : Nat} {R' : Room} {b : Nat} {As st0 rest : List Value} {post' : sjP} (hc : sj_Con l y (cc', own', nL', none, nm', R') G σ I (.ref b :: As) post') (hw : sj_cw 2 own idx y (cc', own', nL', none, nm', R') As.length) (hrm : sj_rm R R' nL' k n = true) (hst : st0 = As.reverse ++ .ref b :: rest) (hcat : (rest.map fun v => v.category).sum ≤ 8) (d : decode cc pc = .ok (.invokespecial idx, 3)) (kk : ∀ (r : Option Value) (σ' : sjS) (I' : sjI), post' r σ' I' → sj_V l Γ (cc, own, nL, ret, nm, R) G post σ' I' (k + R'.cells) (n + R'.slots) (pc + 3) L (r.toList ++ rest)) : sj_V l Γ (cc, own, nL, ret, nm, R) G post σ I k n pc L st0 := by
  obtain ⟨p, e, s, m, args, below, meth, c, Q⟩ := Γ
  intro hC hK hr H locs ls hR hlo hL
  obtain ⟨hx, hb, hml, hown, hnm⟩ := id hC
  obtain ⟨w1, w2, w3, w4, -, w6, w7, w8⟩ := hw
  obtain ⟨r1, r2⟩ := sj_rm_ok hrm
  rw [if_neg (by decide)] at w1
  rw [if_neg (by decide)] at w4
  refine sj_go (va_runI (Ts := []) (b := b) (As := As) (rest := rest) ⟨hx, hb, hml, hown, fun _ h => by cases h⟩ hc ⟨⟨rfl, rfl, r1.1, r1.2, sj_wcode hK w3, List.mem_singleton.mpr rfl, hK.word w3 args, hK.word w2 args, w7, sj_len' w8, hK.word w1 args⟩, (w6 (by decide)).1, hK.word w4 args⟩ ⟨sj_Pre.blind G σ I (.ref b :: As), fun U hU hW => ⟨rfl, hK.warm hW, by rw [hU]; exact hR⟩⟩ rfl rfl hL.1 hst (lv_room hcat) d r2) hlo (fun r σ' I' H1 locs1 hp hR1 hl1 => kk r σ' I' hp hC hK hr H1 locs1 ls hR1 hl1 hL)
theorem sj_callIN {idx : Nat} {y : MethodName} {cc' : ByteArray} {own' nm' : String} {nL' : Nat} {R' : Room} {b : Nat} {As st0 rest : List Value} {post' : sjP} (hc : sj_Con l y (cc', own', nL', none, nm', R') G σ I (.ref b :: As) post') (hw : sj_cw 3 own idx y (cc', own', nL', none, nm', R') As.length) (hrm : sj_rm R R' nL' k n = true) (hst : st0 = As.reverse ++ .ref b :: rest) (hcat : (rest.map fun v => v.category).sum ≤ 8) (d : decode cc pc = .ok (.invokespecial idx, 3)) (kk : ∀ (r : Option Value) (σ' : sjS) (I' : sjI), post' r σ' I' → sj_V l Γ (cc, own, nL, ret, nm, R) G post σ' I' (k + R'.cells) (n + R'.slots) (pc + 3) L (r.toList ++ rest)) : sj_V l Γ (cc, own, nL, ret, nm, R) G post σ I k n pc L st0 := by
  obtain ⟨p, e, s, m, args, below, meth, c, Q⟩ := Γ
  intro hC hK hr H locs ls hR hlo hL
  obtain ⟨hx, hb, hml, hown, hnm⟩ := id hC
  obtain ⟨w1, w2, w3, w4, -, w6, w7, w8⟩ := hw
  obtain ⟨r1, r2⟩ := sj_rm_ok hrm
  rw [if_pos rfl] at w1
  rw [if_neg (by decide)] at w4
  obtain ⟨host, w1⟩ := w1
  refine sj_go (va_runIN (Ts := []) (host := host) (b := b) (As := As) (rest := rest) ⟨hx, hb, hml, hown, fun _ h => by cases h⟩ hc ⟨⟨⟨rfl, rfl, r1.1, r1.2, sj_wcode hK w3, List.mem_singleton.mpr rfl⟩, hK.word w3 args, hK.word w2 args, w7, sj_len' w8, hK.word w1 args⟩, (w6 (by decide)).1, hK.word w4 args⟩ ⟨sj_Pre.blind G σ I (.ref b :: As), fun U hU hW => ⟨rfl, hK.warm hW, by rw [hU]; exact hR⟩⟩ rfl rfl hL.1 hst (lv_room hcat) d r2) hlo (fun r σ' I' H1 locs1 hp hR1 hl1 => kk r σ' I' hp hC hK hr H1 locs1 ls hR1 hl1 hL)
theorem sj_oinit {idx : Nat} {b : Nat} (hw : sj_in (.methodLink own idx Lib.objectInit)) (hw2 : sj_in (.instanceMethod Lib.objectInit)) (hw3 : sj_in (.code Lib.objectInit ⟨#[0xb1]⟩ 1 none)) (hf : 1 ≤ R.frames) (hl : (st.map fun v => v.category).sum + 12 ≤ R.locals) (d : decode cc pc = .ok (.invokespecial idx, 3)) (kk : sj_V l Γ (cc, own, nL, ret, nm, R) G post σ I k n (pc + 3) L st) : sj_V l Γ (cc, own, nL, ret, nm, R) G post σ I k n pc L (.ref b :: st) := by
  obtain ⟨p, e, s, m, args, below, meth, c, Q⟩ := Γ
  intro hC hK hr H locs ls hR hlo hL
  obtain ⟨hx, hb, hml, hown, hnm⟩ := id hC
  exact W.objInit hx hb hown (hK.word hw args) (hK.word hw2 args) (hK.word hw3 args) rfl (by rw [hml]; exact hL.1) rfl d hf (by show 2 * 0 + _ + 12 ≤ _; omega) (kk hC hK hr H locs ls hR hlo hL)
theorem sj_max {idx : Nat} {a b : Int} (hw : sj_in (.methodLink own idx Lib.Math.max.name)) (hw2 : sj_in (.static Lib.Math.max.name)) (hw3 : sj_in (.initialized "java/lang/Math")) (hw4 : sj_in (.code Lib.Math.max.name Lib.Math.max.code 2 (some .int))) (hf : 1 ≤ R.frames) (hl : (st.map fun v => v.category).sum + 13 ≤ R.locals) (hk : k ≤ R.cells) (hs : n ≤ R.slots) (ha : -2147483648 ≤ a ∧ a < 2147483648) (hb2 : -2147483648 ≤ b ∧ b < 2147483648) (d : decode cc pc = .ok (.invokestatic idx, 3)) (kk : sj_V l Γ (cc, own, nL, ret, nm, R) G post σ I k n (pc + 3) L (.int (zI (max a b)) :: st)) : sj_V l Γ (cc, own, nL, ret, nm, R) G post σ I k n pc L (.int (zI b) :: .int (zI a) :: st) := by
  obtain ⟨p, e, s, m, args, below, meth, c, Q⟩ := Γ
  intro hC hK hr H locs ls hR hlo hL
  obtain ⟨hx, hb, hml, hown, hnm⟩ := id hC
  refine va_mmax hx hb (by rw [hml]; exact hL.1.symm) hown (hK.word hw args) (hK.word hw2 args) (hK.word hw3 args) (hK.word hw4 args) hf hl hk hs d ?_
  rw [show (if zI a < zI b then zI b else zI a) = zI (max a b) by
    by_cases h : a < b
    · rw [if_pos ((zI_lt ha hb2).mpr h)]; congr 1; omega
    · rw [if_neg (fun q => h ((zI_lt ha hb2).mp q))]; congr 1; omega]
  exact kk hC hK hr H locs ls hR hlo hL
theorem sj_min {idx : Nat} {a b : Int} (hw : sj_in (.methodLink own idx Lib.Math.min.name)) (hw2 : sj_in (.static Lib.Math.min.name)) (hw3 : sj_in (.initialized "java/lang/Math")) (hw4 : sj_in (.code Lib.Math.min.name Lib.Math.min.code 2 (some .int))) (hf : 1 ≤ R.frames) (hl : (st.map fun v => v.category).sum + 13 ≤ R.locals) (hk : k ≤ R.cells) (hs : n ≤ R.slots) (ha : -2147483648 ≤ a ∧ a < 2147483648) (hb2 : -2147483648 ≤ b ∧ b < 2147483648) (d : decode cc pc = .ok (.invokestatic idx, 3)) (kk : sj_V l Γ (cc, own, nL, ret, nm, R) G post σ I k n (pc + 3) L (.int (zI (min a b)) :: st)) : sj_V l Γ (cc, own, nL, ret, nm, R) G post σ I k n pc L (.int (zI b) :: .int (zI a) :: st) := by
  obtain ⟨p, e, s, m, args, below, meth, c, Q⟩ := Γ
  intro hC hK hr H locs ls hR hlo hL
  obtain ⟨hx, hb, hml, hown, hnm⟩ := id hC
  refine va_mmin hx hb (by rw [hml]; exact hL.1.symm) hown (hK.word hw args) (hK.word hw2 args) (hK.word hw3 args) (hK.word hw4 args) hf hl hk hs d ?_
  rw [show (if zI b < zI a then zI b else zI a) = zI (min a b) by
    by_cases h : b < a
    · rw [if_pos ((zI_lt hb2 ha).mpr h)]; congr 1; omega
    · rw [if_neg (fun q => h ((zI_lt hb2 ha).mp q))]; congr 1; omega]
  exact kk hC hK hr H locs ls hR hlo hL
theorem sj_nn {z : Int} (h : 0 ≤ z ∧ z < 2147483648) : ¬ zI z < 0 := by
  rw [zI_0, zI_lt (by omega) (by omega)]; omega
theorem sj_acopy {idx a0 a1 n0 n1 : Nat} {ρ0 ρ1 : Nat → Option Nat} {sp dp x : Int} (hw : sj_in (.methodLink own idx arraycopyName)) (hw2 : sj_in (.native arraycopyName)) (hw3 : sj_in (.static arraycopyName)) (hw4 : sj_in (.initialized "java/lang/System")) (h0 : σ.2 a0 = some (10, n0, ρ0)) (h1 : σ.2 a1 = some (10, n1, ρ1)) (hsp : 0 ≤ sp ∧ 0 ≤ dp ∧ 0 ≤ x) (hn0 : sp + x ≤ n0 ∧ n0 < 2147483648) (hn1 : dp + x ≤ n1 ∧ n1 < 2147483648) (hf : 1 ≤ R.frames) (hl : (st.map fun v => v.category).sum + 18 ≤ R.locals) (d : decode cc pc = .ok (.invokestatic idx, 3)) (kk : sj_V l Γ (cc, own, nL, ret, nm, R) G post σ (sj_ur I a1 (va_cpy (I a0) (I a1) sp.toNat dp.toNat x.toNat)) k n (pc + 3) L st) : sj_V l Γ (cc, own, nL, ret, nm, R) G post σ I k n pc L (.int (zI x) :: .int (zI dp) :: .ref a1 :: .int (zI sp) :: .ref a0 :: st) := by
  obtain ⟨p, e, s, m, args, below, meth, c, Q⟩ := Γ
  intro hC hK hr H locs ls hR hlo hL
  obtain ⟨hx, hb, hml, hown, hnm⟩ := id hC
  have hcs := sj_arr (by decide) (hR.2.2 a0 _ h0).2
  obtain ⟨hlo2, hcell⟩ := hR.2.2 a1 _ h1
  have hcd := sj_arr (by decide) hcell
  intro T hT X
  obtain ⟨-, k0, hk0, cm0, hkk0⟩ := (hK.1.2 0 _ rfl).1 n0 (fun j => .int (zI (I a0 j)))
  obtain ⟨-, k1, hk1, cm1, hkk1⟩ := (hK.1.2 0 _ rfl).1 n1 (fun j => .int (zI (I a1 j)))
  obtain ⟨vm', X', step⟩ := X.arraycopy hx hown (hK.word hw args) (hK.word hw2 args) (hK.word hw3 args) (hK.word hw4 args) (src := a0) (dst := a1) (cs := arrV (G.2.2.1 10) n0 (fun j => .int (zI (I a0 j)))) (cd := arrV (G.2.2.1 10) n1 (fun j => .int (zI (I a1 j)))) (srcPos := zI sp) (destPos := zI dp) (n := zI x) (by rw [hT]; exact hcs) (by rw [hT]; exact hcd)
    (fun _ h => by cases h) (fun _ h => by cases h) (fun h => by cases h) (fun h => by cases h) hk0 hk1 hkk0 hkk1 (by simp [refKind]) (sj_nn (by omega)) (sj_nn (by omega)) (sj_nn (by omega))
    (by rw [zI_toInt (by omega), zI_toInt (by omega), arrV_size]; omega)
    (by rw [zI_toInt (by omega), zI_toInt (by omega), arrV_size]; omega)
    (fun vm₁ _ i hi => by
      rw [zI_cl (by omega)] at hi
      have e : (arrV (G.2.2.1 10) n0 (fun j => Value.int (zI (I a0 j)))).slots.getD ((zI sp).toNatClampNeg + i) .null = .int (zI (I a0 (sp.toNat + i))) := by
        rw [zI_cl (by omega), Array.getD_eq_getD_getElem?, arrV_read _ _ (by omega)]
        rfl
      refine ⟨?_, ?_⟩
      · rw [e]
        rfl
      · rw [e]
        exact trivial)
    (g := F0 m pc ls (.int (zI x) :: .int (zI dp) :: .ref a1 :: .int (zI sp) :: .ref a0 :: st)) rfl (by rw [hml]; exact hL.1) (rest := st) rfl (by rw [hb]; exact d) hf (by show 2 * 0 + _ + 18 ≤ _; omega)
  have e1 : copied (arrV (G.2.2.1 10) n0 (fun j => Value.int (zI (I a0 j)))) (arrV (G.2.2.1 10) n1 (fun j => Value.int (zI (I a1 j)))) (zI sp) (zI dp) (zI x) = arrV (G.2.2.1 10) n1 (fun j => .int (zI (va_cpy (I a0) (I a1) sp.toNat dp.toNat x.toNat j))) := by
    have := va_copied (fun z => .int (zI z)) (G.2.2.1 10) (G.2.2.1 10) (n0 := n0) (n1 := n1) (sp := (zI sp).toNatClampNeg) (dp := (zI dp).toNatClampNeg) (n := (zI x).toNatClampNeg) (I a0) (I a1) (by rw [zI_cl (by omega), zI_cl (by omega)]; omega)
    rw [zI_cl (by omega), zI_cl (by omega), zI_cl (by omega)] at this
    rw [← this]
    unfold copied
    rw [zI_cl (by omega), zI_cl (by omega), zI_cl (by omega)]
  rw [e1] at X' step
  have hl : a1 < H.size := (Array.getElem?_eq_some_iff.mp hcd).1
  generalize hcc : arrV (G.2.2.1 10) n1 (fun j => Value.int (zI (va_cpy (I a0) (I a1) sp.toNat dp.toNat x.toNat j))) = cell1 at X' step
  have hheap : ((T.setVm vm').setCell a1 cell1).heap = H.setIfInBounds a1 cell1 := by rw [← hT]; rfl
  have e2 : (H.setIfInBounds a1 cell1).size = H.size := by simp
  have e3 : ∀ q : Nat, q ≠ a1 → (H.setIfInBounds a1 cell1)[q]? = H[q]? := fun q hq => by simp [Array.getElem?_setIfInBounds, Ne.symm hq]
  have e4 : (H.setIfInBounds a1 cell1)[a1]? = some cell1 := by simp [Array.getElem?_setIfInBounds, hl]
  have hR2 := hR.put hlo2 e2 e3 (x := (10, n1, ρ1)) (f := va_cpy (I a0) (I a1) sp.toNat dp.toNat x.toNat) (sj_arr' (by decide) (by rw [hcc]; exact e4))
  rw [sj_us_same h1] at hR2
  obtain ⟨t, a1', b1⟩ := kk hC hK hr _ _ ls hR2 (fun q hq => by
      rcases List.mem_append.mp hq with h | h
      · exact hlo q h
      · obtain ⟨z, -, hz⟩ := List.mem_map.mp h
        rw [← hz]
        exact hlo2) hL _ hheap X'
  exact ⟨t, step t a1' , b1⟩
theorem sj_clone {idx a0 n0 : Nat} {ρ0 : Nat → Option Nat} (hw : sj_in (.methodLink own idx ⟨"[I", "clone", "()Ljava/lang/Object;"⟩)) (hw2 : sj_in (.sameMethod "[I" "java/lang/Object" "clone" "()Ljava/lang/Object;")) (hw3 : sj_in (.native ⟨"java/lang/Object", "clone", "()Ljava/lang/Object;"⟩)) (hw4 : sj_in (.instanceMethod ⟨"java/lang/Object", "clone", "()Ljava/lang/Object;"⟩)) (hw5 : sj_in (.selects "[I" ⟨"[I", "clone", "()Ljava/lang/Object;"⟩ ⟨"java/lang/Object", "clone", "()Ljava/lang/Object;"⟩)) (hw6 : sj_in (.castable "[I" "java/lang/Cloneable")) (h0 : σ.2 a0 = some (10, n0, ρ0)) (hf : 1 ≤ R.frames) (hl : (st.map fun v => v.category).sum + 14 ≤ R.locals) (hk : k + 1 ≤ R.cells) (hs : n + n0 ≤ R.slots) (d : decode cc pc = .ok (.invokevirtual idx, 3)) (kk : sj_V l Γ (cc, own, nL, ret, nm, R) G post (sj_nw σ (10, n0, fun _ => none)) (sj_ur I σ.1 (I a0)) (k + 1) (n + n0) (pc + 3) L (.ref σ.1 :: st)) : sj_V l Γ (cc, own, nL, ret, nm, R) G post σ I k n pc L (.ref a0 :: st) := by
  obtain ⟨p, e, s, m, args, below, meth, c, Q⟩ := Γ
  intro hC hK hr H locs ls hR hlo hL
  obtain ⟨hx, hb, hml, hown, hnm⟩ := id hC
  have hcs := sj_arr (by decide) (hR.2.2 a0 _ h0).2
  generalize hcc : arrV (G.2.2.1 10) n0 (fun j => Value.int (zI (I a0 j))) = cell at hcs
  have hsz : cell.slots.size = n0 := by rw [← hcc]; exact arrV_size _ _ _
  have hvm0 : cell.vm = .none := by rw [← hcc]; rfl
  have hcl0 : cell.cls = G.2.2.1 10 := by rw [← hcc]; rfl
  have hcellE : ({ cls := cell.cls, slots := cell.slots } : Cell) = cell := by rw [← hcc]; rfl
  have hnm2 : s.vm.findClass "[I" = some (G.2.2.1 10) := (hK.1.2 0 _ rfl).2
  obtain ⟨c0, t0', f1, f2, f3⟩ := Cond.castable_spec (hK.word hw6 args)
  cases hnm2.symm.trans f1
  intro T hT X
  have hcellT : T.heap[a0]? = some cell := by rw [hT]; exact hcs
  obtain ⟨-, kA, hkA, comp, hkind⟩ := State.isArrayOf_alike X.warmed.alike ((hK.1.2 0 _ rfl).1 0 (fun _ => .null))
  obtain ⟨-, kS, hkS, compS, hkindS⟩ := (hK.1.2 0 _ rfl).1 0 (fun _ => .null)
  obtain ⟨vm', X', st2⟩ := X.cloneArray hx hown (hK.word hw args) (hK.word hw2 args) (hK.word hw3 args) (hK.word hw4 args) (hK.word hw5 args) (a := a0) (cell := cell) hcellT (fun k h => by rw [hvm0] at h; cases h) (by rw [hvm0]; exact fun h => by cases h) (by rw [hcl0]; exact hnm2) f2 (by rw [hcl0]; exact f3)
    (fun i v hv => by
      rw [hcl0]
      have hk' : T.vm.classes[G.2.2.1 10]? = some kA := hkA
      have hi : i < n0 := by have := (Array.getElem?_eq_some_iff.mp hv).1; omega
      rw [← hcc, arrV_read _ _ hi] at hv
      cases hv
      simp [State.fitsSlot, State.slotType?, hk', hkind, hvm0, fits])
    (g := F0 m pc ls (.ref a0 :: st)) rfl (by rw [hml]; exact hL.1) rfl (by rw [hb]; exact d) hf (by show 2 * 0 + _ + 14 ≤ _; omega) hk (by rw [hsz]; exact hs) (hloader := by rw [hcl0]; exact Vm.clonesLoader_of_array hkS hkindS)
  rw [hcellE, hsz] at X'
  generalize hH1 : H.push cell = H1
  have z1 : H1.size = H.size + 1 := by rw [← hH1, Array.size_push]
  have e1 : H1[H.size]? = some cell := by rw [← hH1, Array.getElem?_push_size]
  have o1 : ∀ q : Nat, q < H.size → H1[q]? = H[q]? := fun q hq => by rw [← hH1, Array.getElem?_push, if_neg (Nat.ne_of_lt hq)]
  have hR2 := hR.new z1 o1 (x := (10, n0, fun _ => none)) (f := I a0) (sj_arr' (by decide) (by rw [hcc]; exact e1))
  obtain ⟨t, b1, b2⟩ := kk hC hK hr H1 _ ls hR2 hlo hL ((T.setVm vm').pushCell cell) (by rw [← hH1, ← hT]; rfl) X'
  refine ⟨t, st2 t ?_, b2⟩
  rw [hcellE, hT, ← hR.1.1]
  exact b1
theorem sj_castI {idx a0 n0 : Nat} {ρ0 : Nat → Option Nat} (hw : sj_in (.classLink own idx "[I")) (h0 : σ.2 a0 = some (10, n0, ρ0)) (d : decode cc pc = .ok (.checkcast idx, 3)) (kk : sj_V l Γ (cc, own, nL, ret, nm, R) G post σ I k n (pc + 3) L (.ref a0 :: st)) : sj_V l Γ (cc, own, nL, ret, nm, R) G post σ I k n pc L (.ref a0 :: st) := by
  obtain ⟨p, e, s, m, args, below, meth, c, Q⟩ := Γ
  intro hC hK hr H locs ls hR hlo hL
  obtain ⟨hx, hb, hml, hown, hnm⟩ := id hC
  have hcs := sj_arr (by decide) (hR.2.2 a0 _ h0).2
  exact va_castA (D := (G.1, G.2.1)) (cl := vwCl) (ws := [(a0, .inl (G.2.2.1 10, n0, .inl (fun j => zI (I a0 j))))]) hx hb hown (hK.word hw args) (fun k q hq => by
    match k, hq with
    | 0, hq => cases hq; exact hcs
    | k + 1, hq => simp at hq) 0 rfl (hK.1.2 0 _ rfl).2 d (kk hC hK hr H locs ls hR hlo hL)
theorem sj_lookup {dflt : Int} {ps : Array (Int × Int)} {len : Nat} {x off : Int} (tgt : Nat) (d : decode cc pc = .ok (.lookupswitch dflt ps, len)) (hp : (ps.toList.zip (ps.toList.drop 1)).all (fun (a, next) => a.1 < next.1) = true) (hx2 : -2147483648 ≤ x ∧ x < 2147483648) (ho : Op.lookupswitch.offset ps.toList dflt x = off) (ht : (pc : Int) + off = (tgt : Int)) (kk : sj_V l Γ (cc, own, nL, ret, nm, R) G post σ I k n tgt L st) : sj_V l Γ (cc, own, nL, ret, nm, R) G post σ I k n pc L (.int (zI x) :: st) := by
  obtain ⟨p, e, s, m, args, below, meth, c, Q⟩ := Γ
  intro hC hK hr H locs ls hR hlo hL
  obtain ⟨hx, hb, hml, hown, hnm⟩ := id hC
  exact lv_lookup hx hb d hp (by rw [zI_toInt hx2]; exact ho) ht (kk hC hK hr H locs ls hR hlo hL)
theorem sj_tout {dflt lo hi : Int} {offs : Array Int} {len : Nat} {x : Int} (tgt : Nat) (d : decode cc pc = .ok (.tableswitch dflt lo hi offs, len)) (hx2 : -2147483648 ≤ x ∧ x < 2147483648) (h : x < lo ∨ hi < x) (ht : (pc : Int) + dflt = (tgt : Int)) (kk : sj_V l Γ (cc, own, nL, ret, nm, R) G post σ I k n tgt L st) : sj_V l Γ (cc, own, nL, ret, nm, R) G post σ I k n pc L (.int (zI x) :: st) := by
  obtain ⟨p, e, s, m, args, below, meth, c, Q⟩ := Γ
  intro hC hK hr H locs ls hR hlo hL
  obtain ⟨hx, hb, hml, hown, hnm⟩ := id hC
  exact lv_tableOut hx hb d (by rw [zI_toInt hx2]; exact h) ht (kk hC hK hr H locs ls hR hlo hL)
theorem sj_tin {dflt lo hi : Int} {offs : Array Int} {len : Nat} {x off : Int} (tgt : Nat) (d : decode cc pc = .ok (.tableswitch dflt lo hi offs, len)) (hx2 : -2147483648 ≤ x ∧ x < 2147483648) (h : lo ≤ x ∧ x ≤ hi) (ho : offs[(x - lo).toNat]? = some off) (ht : (pc : Int) + off = (tgt : Int)) (kk : sj_V l Γ (cc, own, nL, ret, nm, R) G post σ I k n tgt L st) : sj_V l Γ (cc, own, nL, ret, nm, R) G post σ I k n pc L (.int (zI x) :: st) := by
  obtain ⟨p, e, s, m, args, below, meth, c, Q⟩ := Γ
  intro hC hK hr H locs ls hR hlo hL
  obtain ⟨hx, hb, hml, hown, hnm⟩ := id hC
  exact lv_tableIn hx hb d (by rw [zI_toInt hx2]; omega) (by rw [zI_toInt hx2]; omega) (by rw [zI_toInt hx2]; exact ho) ht (kk hC hK hr H locs ls hR hlo hL)
theorem sj_ishl {a b x : Int} (d : decode cc pc = .ok (.ishl, 1)) (h : zI a <<< (zI b &&& 31) = zI x) (kk : sj_V l Γ (cc, own, nL, ret, nm, R) G post σ I k n (pc + 1) L (.int (zI x) :: st)) : sj_V l Γ (cc, own, nL, ret, nm, R) G post σ I k n pc L (.int (zI b) :: .int (zI a) :: st) := by
  obtain ⟨p, e, s, m, args, below, meth, c, Q⟩ := Γ
  intro hC hK hr H locs ls hR hlo hL
  obtain ⟨hx, hb, hml, hown, hnm⟩ := id hC
  refine lv_ishl hx hb d ?_
  rw [h]
  exact kk hC hK hr H locs ls hR hlo hL
theorem sj_ishr {a b x : Int} (d : decode cc pc = .ok (.ishr, 1)) (h : zI a >>> (zI b &&& 31) = zI x) (kk : sj_V l Γ (cc, own, nL, ret, nm, R) G post σ I k n (pc + 1) L (.int (zI x) :: st)) : sj_V l Γ (cc, own, nL, ret, nm, R) G post σ I k n pc L (.int (zI b) :: .int (zI a) :: st) := by
  obtain ⟨p, e, s, m, args, below, meth, c, Q⟩ := Γ
  intro hC hK hr H locs ls hR hlo hL
  obtain ⟨hx, hb, hml, hown, hnm⟩ := id hC
  refine lv_ishr hx hb d ?_
  rw [h]
  exact kk hC hK hr H locs ls hR hlo hL
theorem sj_iushr {a b x : Int} (d : decode cc pc = .ok (.iushr, 1)) (h : ((zI a).toUInt32 >>> ((zI b).toUInt32 &&& Int32.toUInt32 31)).toInt32 = zI x) (kk : sj_V l Γ (cc, own, nL, ret, nm, R) G post σ I k n (pc + 1) L (.int (zI x) :: st)) : sj_V l Γ (cc, own, nL, ret, nm, R) G post σ I k n pc L (.int (zI b) :: .int (zI a) :: st) := by
  obtain ⟨p, e, s, m, args, below, meth, c, Q⟩ := Γ
  intro hC hK hr H locs ls hR hlo hL
  obtain ⟨hx, hb, hml, hown, hnm⟩ := id hC
  exact lv_iushr hx hb d h (kk hC hK hr H locs ls hR hlo hL)
theorem sj_lconst {z : Fin 2} {x : Int} (d : decode cc pc = .ok (.lconst z, 1)) (h : Int64.ofNat (z : Nat) = zL x) (kk : sj_V l Γ (cc, own, nL, ret, nm, R) G post σ I k n (pc + 1) L (.long (zL x) :: st)) : sj_V l Γ (cc, own, nL, ret, nm, R) G post σ I k n pc L st := by
  obtain ⟨p, e, s, m, args, below, meth, c, Q⟩ := Γ
  intro hC hK hr H locs ls hR hlo hL
  obtain ⟨hx, hb, hml, hown, hnm⟩ := id hC
  exact lv_lconst hx hb d h (kk hC hK hr H locs ls hR hlo hL)
theorem sj_lshl {a b x : Int} (d : decode cc pc = .ok (.lshl, 1)) (h : zL a <<< ((zI b).toInt64 &&& 63) = zL x) (kk : sj_V l Γ (cc, own, nL, ret, nm, R) G post σ I k n (pc + 1) L (.long (zL x) :: st)) : sj_V l Γ (cc, own, nL, ret, nm, R) G post σ I k n pc L (.int (zI b) :: .long (zL a) :: st) := by
  obtain ⟨p, e, s, m, args, below, meth, c, Q⟩ := Γ
  intro hC hK hr H locs ls hR hlo hL
  obtain ⟨hx, hb, hml, hown, hnm⟩ := id hC
  exact lv_lshl hx hb d h (kk hC hK hr H locs ls hR hlo hL)
theorem sj_land {a b x : Int} (d : decode cc pc = .ok (.land, 1)) (h : zL a &&& zL b = zL x) (kk : sj_V l Γ (cc, own, nL, ret, nm, R) G post σ I k n (pc + 1) L (.long (zL x) :: st)) : sj_V l Γ (cc, own, nL, ret, nm, R) G post σ I k n pc L (.long (zL b) :: .long (zL a) :: st) := by
  obtain ⟨p, e, s, m, args, below, meth, c, Q⟩ := Γ
  intro hC hK hr H locs ls hR hlo hL
  obtain ⟨hx, hb, hml, hown, hnm⟩ := id hC
  refine lv_land hx hb d ?_
  rw [h]
  exact kk hC hK hr H locs ls hR hlo hL
theorem sj_lor {a b x : Int} (d : decode cc pc = .ok (.lor, 1)) (h : zL a ||| zL b = zL x) (kk : sj_V l Γ (cc, own, nL, ret, nm, R) G post σ I k n (pc + 1) L (.long (zL x) :: st)) : sj_V l Γ (cc, own, nL, ret, nm, R) G post σ I k n pc L (.long (zL b) :: .long (zL a) :: st) := by
  obtain ⟨p, e, s, m, args, below, meth, c, Q⟩ := Γ
  intro hC hK hr H locs ls hR hlo hL
  obtain ⟨hx, hb, hml, hown, hnm⟩ := id hC
  refine lv_lor hx hb d ?_
  rw [h]
  exact kk hC hK hr H locs ls hR hlo hL
theorem sj_lcmp {a b x : Int} (d : decode cc pc = .ok (.lcmp, 1)) (h : lg_cmp (zL a) (zL b) = zI x) (kk : sj_V l Γ (cc, own, nL, ret, nm, R) G post σ I k n (pc + 1) L (.int (zI x) :: st)) : sj_V l Γ (cc, own, nL, ret, nm, R) G post σ I k n pc L (.long (zL b) :: .long (zL a) :: st) := by
  obtain ⟨p, e, s, m, args, below, meth, c, Q⟩ := Γ
  intro hC hK hr H locs ls hR hlo hL
  obtain ⟨hx, hb, hml, hown, hnm⟩ := id hC
  refine W.lcmp hx hb d ?_
  rw [h]
  exact kk hC hK hr H locs ls hR hlo hL
theorem sj_dup2 {v u : Value} (d : decode cc pc = .ok (.dup2, 1)) (hv : v.category = 1) (hu : u.category = 1) (kk : sj_V l Γ (cc, own, nL, ret, nm, R) G post σ I k n (pc + 1) L (v :: u :: v :: u :: st)) : sj_V l Γ (cc, own, nL, ret, nm, R) G post σ I k n pc L (v :: u :: st) := by
  obtain ⟨p, e, s, m, args, below, meth, c, Q⟩ := Γ
  intro hC hK hr H locs ls hR hlo hL
  obtain ⟨hx, hb, hml, hown, hnm⟩ := id hC
  exact lv_dup2_11 hx hb d hv hu (kk hC hK hr H locs ls hR hlo hL)
theorem sj_lld1 {a0 : Option Value} {v : Int64} {tl : List (Option Value)} (d : decode cc pc = .ok (.lload_n 1, 1)) (kk : sj_V l Γ (cc, own, nL, ret, nm, R) G post σ I k n (pc + 1) (a0 :: some (.long v) :: tl) (.long v :: st)) : sj_V l Γ (cc, own, nL, ret, nm, R) G post σ I k n pc (a0 :: some (.long v) :: tl) st := by
  obtain ⟨p, e, s, m, args, below, meth, c, Q⟩ := Γ
  intro hC hK hr H locs ls hR hlo hL
  obtain ⟨hx, hb, hml, hown, hnm⟩ := id hC
  exact lv_lload_n hx hb d rfl (hL.2.2 1 _ rfl) (kk hC hK hr H locs ls hR hlo hL)
theorem sj_lld2 {a0 a1 : Option Value} {v : Int64} {tl : List (Option Value)} (d : decode cc pc = .ok (.lload_n 2, 1)) (kk : sj_V l Γ (cc, own, nL, ret, nm, R) G post σ I k n (pc + 1) (a0 :: a1 :: some (.long v) :: tl) (.long v :: st)) : sj_V l Γ (cc, own, nL, ret, nm, R) G post σ I k n pc (a0 :: a1 :: some (.long v) :: tl) st := by
  obtain ⟨p, e, s, m, args, below, meth, c, Q⟩ := Γ
  intro hC hK hr H locs ls hR hlo hL
  obtain ⟨hx, hb, hml, hown, hnm⟩ := id hC
  exact lv_lload_n hx hb d rfl (hL.2.2 2 _ rfl) (kk hC hK hr H locs ls hR hlo hL)
theorem sj_lst2 {a0 a1 x y : Option Value} {v : Int64} (hi : nL = 4) (hc : sj_c1 a1 = true) (d : decode cc pc = .ok (.lstore_n 2, 1)) (kk : sj_V l Γ (cc, own, nL, ret, nm, R) G post σ I k n (pc + 1) [a0, a1, some (.long v), none] st) : sj_V l Γ (cc, own, nL, ret, nm, R) G post σ I k n pc [a0, a1, x, y] (.long v :: st) := by
  obtain ⟨p, e, s, m, args, below, meth, c, Q⟩ := Γ
  intro hC hK hr H locs ls hR hlo hL
  obtain ⟨hx, hb, hml, hown, hnm⟩ := id hC
  refine lv_lstore_n hx hb d rfl hL.has (by omega) rfl (fun ls' hl' => kk hC hK hr H locs ls' hR hlo ?_)
  refine ⟨hl'.1, hl'.2.1, fun j w hj => ?_⟩
  match j, hj with
  | 0, hj =>
    refine hl'.2.2 (0, w) (List.mem_cons_of_mem _ (List.mem_filter.mpr ⟨sj_al_mem.mpr ?_, rfl⟩))
    exact hj
  | 1, hj =>
    refine hl'.2.2 (1, w) (List.mem_cons_of_mem _ (List.mem_filter.mpr ⟨sj_al_mem.mpr ?_, ?_⟩))
    · exact hj
    · have h2 := sj_c1_ok hc (Option.some.inj hj)
      simp [h2]
  | 2, hj =>
    cases hj
    exact hl'.2.2 (2, .long v) List.mem_cons_self
  | 3, hj => cases hj
  | j + 4, hj => simp at hj
end CALLS
