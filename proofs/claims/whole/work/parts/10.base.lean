/-! numbers: an int by its number -/
def zI (z : Int) : Int32 := Int32.ofInt z
def zL (z : Int) : Int64 := Int64.ofInt z
theorem zI_toInt {z : Int} (h : -2147483648 ≤ z ∧ z < 2147483648) : (zI z).toInt = z := Int32.toInt_ofInt_of_le (by omega) (by omega)
theorem zI_of (x : Int32) : zI x.toInt = x := Int32.ofInt_toInt x
theorem zI_ex (x : Int32) : ∃ z : Int, (-2147483648 ≤ z ∧ z < 2147483648) ∧ x = zI z := ⟨x.toInt, ⟨Int32.le_toInt x, Int32.toInt_lt x⟩, (zI_of x).symm⟩
theorem zI_add (a b : Int) : zI a + zI b = zI (a + b) := (Int32.ofInt_add a b).symm
theorem zI_sub (a b : Int) : zI a - zI b = zI (a - b) := (Int32.ofInt_sub a b).symm
theorem zI_mul (a b : Int) : zI a * zI b = zI (a * b) := (Int32.ofInt_mul a b).symm
theorem zI_lt {a b : Int} (ha : -2147483648 ≤ a ∧ a < 2147483648) (hb : -2147483648 ≤ b ∧ b < 2147483648) : zI a < zI b ↔ a < b := by
  rw [Int32.lt_iff_toInt_lt, zI_toInt ha, zI_toInt hb]
theorem zI_le {a b : Int} (ha : -2147483648 ≤ a ∧ a < 2147483648) (hb : -2147483648 ≤ b ∧ b < 2147483648) : zI a ≤ zI b ↔ a ≤ b := by
  rw [Int32.le_iff_toInt_le, zI_toInt ha, zI_toInt hb]
theorem zI_eq {a b : Int} (ha : -2147483648 ≤ a ∧ a < 2147483648) (hb : -2147483648 ≤ b ∧ b < 2147483648) : zI a = zI b ↔ a = b := by
  rw [← Int32.toInt_inj, zI_toInt ha, zI_toInt hb]
theorem zI_0 : (0 : Int32) = zI 0 := rfl
theorem zI_cl {a : Int} (h : 0 ≤ a ∧ a < 2147483648) : (zI a).toNatClampNeg = a.toNat := by
  show (zI a).toInt.toNat = a.toNat
  rw [zI_toInt (by omega)]
theorem zI_in {a : Int} {n : Nat} (h : 0 ≤ a ∧ a < n) (hn : n ≤ 2147483647) : ¬ (zI a < 0 ∨ n ≤ (zI a).toNatClampNeg) := by
  rw [zI_cl (by omega), zI_0, zI_lt (by omega) (by omega)]
  omega
theorem zI_rem {a b : Int} (ha : 0 ≤ a ∧ a < 2147483648) (hb : 0 < b ∧ b < 2147483648) : zI a % zI b = zI (a % b) := by
  have hm : 0 ≤ a % b := Int.emod_nonneg a (by omega)
  have hm2 : a % b < b := Int.emod_lt_of_pos a (by omega)
  apply Int32.toInt_inj.mp
  rw [Int32.toInt_mod, zI_toInt (by omega), zI_toInt (by omega), zI_toInt (by omega), Int.tmod_eq_emod_of_nonneg (by omega)]
theorem zI_div {a b : Int} (ha : 0 ≤ a ∧ a < 2147483648) (hb : 0 < b ∧ b < 2147483648) : zI a / zI b = zI (a / b) := by
  have hm : 0 ≤ a / b := Int.ediv_nonneg (by omega) (by omega)
  have hm2 : a / b ≤ a := Int.ediv_le_self b (by omega)
  apply Int32.toInt_inj.mp
  rw [Int32.toInt_div_of_ne_right _ _ (by
    intro h
    have h2 := congrArg Int32.toInt h
    rw [zI_toInt (by omega)] at h2
    have h3 : (-1 : Int32).toInt = -1 := by decide
    omega), zI_toInt (by omega), zI_toInt (by omega), zI_toInt (by omega), Int.tdiv_eq_ediv_of_nonneg (by omega)]
theorem zI_n (n : Nat) : Int32.ofNat n = zI (n : Int) := Int32.ofInt_eq_ofNat.symm
/-! words of the tables that hold everywhere -/
def sj_good : Cond → Bool
  | .fieldLinkNest _ _ _ _ _ _ => true
  | .methodLinkNest _ _ _ _ => true
  | .castable _ _ => true
  | .arrayOver (.object _) => true
  | w => goodWord w
def sj_in (w : Cond) : Prop := w ∈ lw_tbl ∧ sj_good w = true
theorem sj_warm {w : Cond} (hg : sj_good w = true) {s U : State} (hW : s.WarmedH U.vm) (h : w.before #[] s = true) (a : Array Value) : w.before a U = true := by
  unfold sj_good at hg
  split at hg
  · exact va_Nw.use rfl (va_Nw.warmF hW h)
  · exact va_Nw.use rfl (va_Nw.warmM hW h)
  · exact va_Nw.use rfl (va_Nw.warmC hW h)
  · exact va_AO.use (va_AO.moved hW.alike h)
  · exact word_at hW (good_of_word hg) h
/-! memory: what stands at an address (kind, length, references), and its numbers. Kinds 0 to 9: objects of vwCl; 10 int[], 11 long[], 12 boolean[], 13 Term[], 14 Equations[], 15 Values[] -/
abbrev sjSh : Type := Nat × Nat × (Nat → Option Nat)
/-- the next address, and what stands where -/
abbrev sjS : Type := Nat × (Nat → Option sjSh)
abbrev sjI : Type := Nat → Nat → Int
/-- class ids, slots, array class ids, the heap at the law's start -/
abbrev sjG : Type := (Nat → ClassId) × (Nat → Nat → Nat) × (Nat → ClassId) × Heap
/-- is the field a reference -/
def sj_rf : Nat → Nat → Bool
  | 0, _ => true
  | 1, k => k != 0
  | 2, k => k == 0
  | 3, k => k != 3
  | 4, k => k != 0
  | 5, k => k != 2
  | 6, k => k != 3
  | 7, _ => true
  | 8, _ => true
  | _, k => !(k == 2 || k == 4 || k == 6 || k == 8 || k == 11 || k == 12 || k == 15 || k == 21 || k == 22 || k == 23)
def sj_fv (κ : Nat) (ρ : Nat → Option Nat) (f : Nat → Int) (k : Nat) : Value := if sj_rf κ k = true then va_rf (ρ k) else .int (zI (f k))
def sj_cell (G : sjG) (H : Heap) (a : Nat) (h : sjSh) (f : Nat → Int) : Prop :=
  if h.1 < 10 then ∃ r : vw_C, vwCl[h.1]? = some r ∧ t_OB a (G.1 h.1) r.2.2 (G.2.1 h.1) H (sj_fv h.1 h.2.2 f)
  else if h.1 = 11 then H[a]? = some (arrV (G.2.2.1 11) h.2.1 (fun j => .long (zL (f j))))
  else if h.1 = 10 ∨ h.1 = 12 then H[a]? = some (arrV (G.2.2.1 h.1) h.2.1 (fun j => .int (zI (f j))))
  else H[a]? = some (arrV (G.2.2.1 h.1) h.2.1 (fun j => va_rf (h.2.2 j)))
def sj_Rep (G : sjG) (σ : sjS) (I : sjI) (H : Heap) : Prop :=
  (σ.1 = H.size ∧ G.2.2.2.size ≤ H.size) ∧ (∀ q : Nat, q < G.2.2.2.size → H[q]? = G.2.2.2[q]?) ∧ ∀ (a : Nat) (h : sjSh), σ.2 a = some h → G.2.2.2.size ≤ a ∧ sj_cell G H a h (I a)
abbrev sj_tys (G : sjG) : List (ClassId × FieldType) := [(G.2.2.1 10, .int), (G.2.2.1 11, .long), (G.2.2.1 12, .boolean), (G.2.2.1 13, .object "StreamJudge$Term"), (G.2.2.1 14, .object "StreamJudge$Equations"), (G.2.2.1 15, .object "StreamJudge$Values")]
def sj_K (G : sjG) (U : State) : Prop := va_K (G.1, G.2.1) vwCl (sj_tys G) U ∧ ∀ w : Cond, sj_in w → w.before #[] U = true
theorem sj_K.warm {G : sjG} {s U : State} (h : sj_K G s) (hW : s.WarmedH U.vm) : sj_K G U :=
  ⟨va_K.moved hW.alike h.1, fun w hw => sj_warm hw.2 hW (h.2 w hw) #[]⟩
theorem sj_K.word {G : sjG} {s : State} (h : sj_K G s) {w : Cond} (hw : sj_in w) (a : Array Value) : w.before a s = true := sj_warm hw.2 (State.WarmedH.refl s) (h.2 w hw) a
def sj_up (I : sjI) (a j : Nat) (v : Int) : sjI := fun q i => if q = a ∧ i = j then v else I q i
theorem sj_up_self (I : sjI) (a j : Nat) (v : Int) : sj_up I a j v a j = v := by simp [sj_up]
theorem sj_up_ne {I : sjI} {a j q i : Nat} {v : Int} (h : ¬ (q = a ∧ i = j)) : sj_up I a j v q i = I q i := by simp [sj_up, h]
theorem sj_up_row {I : sjI} {a j q : Nat} {v : Int} (h : q ≠ a) : sj_up I a j v q = I q := by funext i; simp [sj_up, h]
def sj_us (σ : sjS) (a : Nat) (h : sjSh) : sjS := (σ.1, fun q => if q = a then some h else σ.2 q)
/-- a new cell -/
def sj_nw (σ : sjS) (h : sjSh) : sjS := (σ.1 + 1, fun q => if q = σ.1 then some h else σ.2 q)
theorem sj_nw_self (σ : sjS) (h : sjSh) : (sj_nw σ h).2 σ.1 = some h := by simp [sj_nw]
theorem sj_nw_ne {σ : sjS} {q : Nat} {h : sjSh} (hn : q ≠ σ.1) : (sj_nw σ h).2 q = σ.2 q := by simp [sj_nw, hn]
theorem sj_us_self (σ : sjS) (a : Nat) (h : sjSh) : (sj_us σ a h).2 a = some h := by simp [sj_us]
theorem sj_us_ne {σ : sjS} {a q : Nat} {h : sjSh} (hn : q ≠ a) : (sj_us σ a h).2 q = σ.2 q := by simp [sj_us, hn]
/-- a whole row of numbers anew -/
def sj_ur (I : sjI) (a : Nat) (f : Nat → Int) : sjI := fun q => if q = a then f else I q
theorem sj_ur_self (I : sjI) (a : Nat) (f : Nat → Int) : sj_ur I a f a = f := by simp [sj_ur]
theorem sj_ur_ne {I : sjI} {a q : Nat} {f : Nat → Int} (hn : q ≠ a) : sj_ur I a f q = I q := by simp [sj_ur, hn]
theorem sj_cell.lt {G : sjG} {H : Heap} {a : Nat} {h : sjSh} {f : Nat → Int} (c : sj_cell G H a h f) : a < H.size := by
  unfold sj_cell at c
  split at c
  · obtain ⟨r, -, cell, q, -⟩ := c
    exact (Array.getElem?_eq_some_iff.mp q).1
  · split at c
    · exact (Array.getElem?_eq_some_iff.mp c).1
    · split at c
      · exact (Array.getElem?_eq_some_iff.mp c).1
      · exact (Array.getElem?_eq_some_iff.mp c).1
theorem sj_cell.kept {G : sjG} {H H1 : Heap} {a : Nat} {h : sjSh} {f : Nat → Int} (c : sj_cell G H a h f) (e : H1[a]? = H[a]?) : sj_cell G H1 a h f := by
  unfold sj_cell at c ⊢
  split
  · rename_i h1
    rw [if_pos h1] at c
    obtain ⟨r, h2, h3⟩ := c
    exact ⟨r, h2, h3.kept e⟩
  · rename_i h1
    rw [if_neg h1] at c
    rw [e]
    exact c
theorem sj_Rep.lt {G : sjG} {σ : sjS} {I : sjI} {H : Heap} (h : sj_Rep G σ I H) {a : Nat} {x : sjSh} (e : σ.2 a = some x) : a < σ.1 := by
  rw [h.1.1]; exact (h.2.2 a x e).2.lt
/-- one cell is written -/
theorem sj_Rep.put {G : sjG} {σ : sjS} {I : sjI} {H H1 : Heap} (h : sj_Rep G σ I H) {a : Nat} (ha : G.2.2.2.size ≤ a) (hz : H1.size = H.size) (ho : ∀ q : Nat, q ≠ a → H1[q]? = H[q]?) {x : sjSh} {f : Nat → Int} (hc : sj_cell G H1 a x f) : sj_Rep G (sj_us σ a x) (sj_ur I a f) H1 := by
  refine ⟨⟨by rw [hz]; exact h.1.1, by rw [hz]; exact h.1.2⟩, fun q hq => by rw [ho q (by omega)]; exact h.2.1 q hq, fun q y hy => ?_⟩
  by_cases e : q = a
  · subst e
    rw [sj_us_self] at hy
    cases hy
    rw [sj_ur_self]
    exact ⟨ha, hc⟩
  · rw [sj_us_ne e] at hy
    rw [sj_ur_ne e]
    exact ⟨(h.2.2 q y hy).1, (h.2.2 q y hy).2.kept (ho q e)⟩
/-- one cell is new -/
theorem sj_Rep.new {G : sjG} {σ : sjS} {I : sjI} {H H1 : Heap} (h : sj_Rep G σ I H) (hz : H1.size = H.size + 1) (ho : ∀ q : Nat, q < H.size → H1[q]? = H[q]?) {x : sjSh} {f : Nat → Int} (hc : sj_cell G H1 H.size x f) : sj_Rep G (sj_nw σ x) (sj_ur I σ.1 f) H1 := by
  have h0 := h.1.1
  refine ⟨⟨by show σ.1 + 1 = _; omega, by have := h.1.2; omega⟩, fun q hq => by rw [ho q (by have := h.1.2; omega)]; exact h.2.1 q hq, fun q y hy => ?_⟩
  by_cases e : q = σ.1
  · subst e
    rw [sj_nw_self] at hy
    cases hy
    rw [sj_ur_self, h0]
    exact ⟨h.1.2, hc⟩
  · rw [sj_nw_ne e] at hy
    rw [sj_ur_ne e]
    have hq := (h.2.2 q y hy).2.lt
    exact ⟨(h.2.2 q y hy).1, (h.2.2 q y hy).2.kept (ho q hq)⟩
theorem sj_us_same {σ : sjS} {a : Nat} {h : sjSh} (e : σ.2 a = some h) : sj_us σ a h = σ := by
  refine Prod.ext rfl ?_
  funext q
  by_cases c : q = a
  · subst c; rw [sj_us_self, e]
  · rw [sj_us_ne c]
theorem sj_ur_up (I : sjI) (a j : Nat) (v : Int) : sj_ur I a (fun i => if i = j then v else I a i) = sj_up I a j v := by
  funext q i
  by_cases c : q = a
  · subst c; simp [sj_ur, sj_up]
  · simp [sj_ur, sj_up, c]
theorem sj_ur_same (I : sjI) (a : Nat) : sj_ur I a (I a) = I := by
  funext q i
  by_cases c : q = a
  · subst c; simp [sj_ur]
  · simp [sj_ur, c]
/-! the judgement -/
/-- locals: what is known of them -/
def sj_L (ls : Array Slot) (nL : Nat) (L : List (Option Value)) : Prop := ls.size = nL ∧ lv_wf ls ∧ ∀ (i : Nat) (v : Value), L[i]? = some (some v) → ls[i]? = some (.val v)
abbrev sjC : Type := Program × Env × State × MethodId × Array Value × List Frame × Method × Code × (State → Prop)
abbrev sjM : Type := ByteArray × String × Nat × Option FieldType × String × Room
abbrev sjP : Type := Option Value → sjS → sjI → Prop
/-- how the method may end -/
def sj_ret (l : Launch) (Γ : sjC) (μ : sjM) (G : sjG) (post : sjP) : Prop := match Γ, μ with
  | (p, e, s, m, args, below, meth, c, Q), (cc, _, _, ret, _, R) => ∀ (H : Heap) (locs : List Loc) (k n pc : Nat) (ls : Array Slot) (σ : sjS) (I : sjI), sj_Rep G σ I H → (∀ q ∈ locs, G.2.2.2.size ≤ q.base) → k ≤ R.cells → n ≤ R.slots →
    (∀ (v : Int32) (ty : FieldType), decode cc pc = .ok (.ireturn, 1) → ret = some ty → narrow ty (.int v) = .int v → post (some (.int v)) σ I → W p l e R s m args below meth c H locs k n Q (F0 m pc ls [.int v])) ∧
    (decode cc pc = .ok (.return_, 1) → ret = none → post none σ I → W p l e R s m args below meth c H locs k n Q (F0 m pc ls [])) ∧
    (∀ (v : Value) (ty : FieldType), decode cc pc = .ok (.areturn, 1) → ret = some ty → ((∃ x, ty = .object x) ∨ ∃ t, ty = .array t) → (v = .null ∨ ∃ a, v = .ref a) → post (some v) σ I → W p l e R s m args below meth c H locs k n Q (F0 m pc ls [v]))
def sj_V (l : Launch) (Γ : sjC) (μ : sjM) (G : sjG) (post : sjP) (σ : sjS) (I : sjI) (k n pc : Nat) (L : List (Option Value)) (st : List Value) : Prop := match Γ, μ with
  | (p, e, s, m, args, below, meth, c, Q), (cc, own, nL, ret, nm, R) => (p.tables.exec = Jvm.exec ∧ c.code = cc ∧ c.maxLocals = nL ∧ s.vm.findClass own = some m.cls ∧ meth.name = nm) → sj_K G s → sj_ret l (p, e, s, m, args, below, meth, c, Q) (cc, own, nL, ret, nm, R) G post →
    ∀ (H : Heap) (locs : List Loc) (ls : Array Slot), sj_Rep G σ I H → (∀ q ∈ locs, G.2.2.2.size ≤ q.base) → sj_L ls nL L → W p l e R s m args below meth c H locs k n Q (F0 m pc ls st)
def sj_Pre (G : sjG) (σ : sjS) (I : sjI) (av : List Value) : Array Value → State → Prop := fun v U => v = av.toArray ∧ sj_K G U ∧ sj_Rep G σ I U.heap
def sj_Post (G : sjG) (post : sjP) : Array Value → State → Outcome → State → Prop := fun _ _ oc t => ∃ (r : Option Value) (σ' : sjS) (I' : sjI), oc = .returned r ∧ post r σ' I' ∧ sj_K G t ∧ sj_Rep G σ' I' t.heap
def sj_Con (l : Launch) (y : MethodName) (μ : sjM) (G : sjG) (σ : sjS) (I : sjI) (av : List Value) (post : sjP) : Prop :=
  Met l y [.code y μ.1 μ.2.2.1 μ.2.2.2.1] μ.2.2.2.2.2 (sj_Pre G σ I av) (sj_Post G post) μ.2.2.2.2.2.cells μ.2.2.2.2.2.slots (fun q => G.2.2.2.size ≤ q)
theorem sj_Pre.blind (G : sjG) (σ : sjS) (I : sjI) (av : List Value) : FrameBlind (sj_Pre G σ I av) := fun a U g mk h =>
  ⟨h.1, h.2.1.warm (U := U.calling g mk a) (State.WarmedH.refl U), h.2.2⟩
theorem sj_args {ls : Array Slot} {nL : Nat} : ∀ (av : List Value) (i : Nat), (∀ v ∈ av, v.category = 1) → ∀ (j : Nat) (v : Value), av[j]? = some v → (i + j, v) ∈ lv_args i av
  | [], _, _, j, v, h => by simp at h
  | x :: xs, i, hc, 0, v, h => by
    simp at h
    subst h
    exact List.mem_cons_self
  | x :: xs, i, hc, j + 1, v, h => by
    have h1 : x.category = 1 := hc x List.mem_cons_self
    have h2 := sj_args (ls := ls) (nL := nL) xs (i + 1) (fun w hw => hc w (List.mem_cons_of_mem _ hw)) j v (by simpa using h)
    show (i + (j + 1), v) ∈ (i, x) :: lv_args (if x.category = 2 then i + 2 else i + 1) xs
    rw [if_neg (by omega), show i + (j + 1) = i + 1 + j by omega]
    exact List.mem_cons_of_mem _ h2
theorem sj_L.entry {ls : Array Slot} {nL : Nat} {av : List Value} (hc : ∀ v ∈ av, v.category = 1) (h : lv_has ls nL (lv_args 0 av)) : sj_L ls nL (av.map some ++ List.replicate (nL - av.length) none) := by
  refine ⟨h.1, h.2.1, fun i v hv => ?_⟩
  have h1 : av[i]? = some v := by
    by_cases hi : i < av.length
    · rw [List.getElem?_append_left (by simpa using hi)] at hv
      simpa using hv
    · rw [List.getElem?_append_right (by simpa using hi)] at hv
      simp [List.getElem?_replicate] at hv
  have h2 := sj_args (ls := ls) (nL := nL) av 0 hc i v h1
  rw [Nat.zero_add] at h2
  exact h.2.2 _ h2
set_option maxHeartbeats 1000000 in
/-- a contract out of the walk of the method's body -/
theorem sj_con_of' {l : Launch} {y : MethodName} {cc : ByteArray} {own nm : String} {nL : Nat} {ret : Option FieldType} {R : Room} {G : sjG} {σ : sjS} {I : sjI} {av : List Value} {post : sjP} {L0 : List (Option Value)} (hy : plainName y.cls = true) (hyc : y.cls = own) (hyn : y.name = nm) (hlen : (lg_sl av).length ≤ nL)
    (hL0 : ∀ ls : Array Slot, lv_has ls nL (lv_args 0 av) → sj_L ls nL L0) (h : ∀ Γ : sjC, sj_V l Γ (cc, own, nL, ret, nm, R) G post σ I 0 0 0 L0 []) : sj_Con l y (cc, own, nL, ret, nm, R) G σ I av post := by
  refine Met.ofW (cc := cc) (maxL := nL) (ret := ret) hy rfl ?_
  intro p e s m args below meth c s₁ B hml hv
  obtain ⟨rfl, hK, hRep⟩ := hv
  have hx := B.exec
  have hb := B.bytes
  have hr := B.returns
  have hlocks := B.notSynchronized
  have hown : s.vm.findClass own = some m.cls := by rw [← hyc]; exact findClass_of_methodNamed B.named
  have hnm : meth.name = nm := by rw [← hyn]; exact (name_of_methodNamed B.named B.method).1
  have hl := lv_entry av (n := nL) hlen
  rw [lg_entry_eq]
  generalize (lg_sl av ++ List.replicate (nL - (lg_sl av).length) Slot.unset).toArray = ls at hl ⊢
  refine h (p, e, s, m, av.toArray, below, meth, c, MQ below (sj_Post G post) av.toArray s R.cells R.slots (fun q => G.2.2.2.size ≤ q)) ⟨hx, hb, hml, hown, hnm⟩ hK ?_ s.heap [] ls hRep (fun q h => by cases h) (hL0 ls hl)
  intro H locs k n pc ls σ' I' hR hlo hk hn
  refine ⟨fun v ty hd hty hnr hp => ?_, fun hd hty hp => ?_, fun v ty hd hty ht hv hp => ?_⟩
  · refine W.widen hk hn ?_
    exact W.zret hx hb (by rw [hr, hty]) hnr (fun t ht hW => ⟨_, σ', I', rfl, hp, hK.warm hW, by rw [ht]; exact hR⟩) hlo hd
  · refine W.widen hk hn ?_
    exact W.vret hx hb (by rw [hr, hty]) (fun t ht hW => ⟨_, σ', I', rfl, hp, hK.warm hW, by rw [ht]; exact hR⟩) hlo hd
  · refine W.widen hk hn ?_
    exact W.aret hx hb (by rw [hr, hty]) ht hv (fun t ht hW => ⟨_, σ', I', rfl, hp, hK.warm hW, by rw [ht]; exact hR⟩) hlo hd
theorem sj_sl1 : ∀ (av : List Value), (∀ v ∈ av, v.category = 1) → (lg_sl av).length = av.length
  | [], _ => rfl
  | x :: xs, h => by
    have h1 : x.category = 1 := h x List.mem_cons_self
    have h2 := sj_sl1 xs (fun v hv => h v (List.mem_cons_of_mem _ hv))
    unfold lg_sl at h2 ⊢
    rw [List.flatMap_cons, if_neg (by omega), List.length_append, h2]
    simp
    omega
def sj_cat : List Value → Bool
  | [] => true
  | .int _ :: r => sj_cat r
  | .ref _ :: r => sj_cat r
  | .null :: r => sj_cat r
  | _ => false
theorem sj_cat_ok : ∀ (av : List Value), sj_cat av = true → ∀ v ∈ av, v.category = 1
  | [], _, v, h => by cases h
  | .int _ :: r, h, v, hv => by
    rcases List.mem_cons.mp hv with rfl | hv
    · rfl
    · exact sj_cat_ok r h v hv
  | .ref _ :: r, h, v, hv => by
    rcases List.mem_cons.mp hv with rfl | hv
    · rfl
    · exact sj_cat_ok r h v hv
  | .null :: r, h, v, hv => by
    rcases List.mem_cons.mp hv with rfl | hv
    · rfl
    · exact sj_cat_ok r h v hv
  | .long _ :: r, h, v, hv => by cases h
  | .float _ :: r, h, v, hv => by cases h
  | .double _ :: r, h, v, hv => by cases h
  | .retAddr _ :: r, h, v, hv => by cases h
theorem sj_con_of {l : Launch} {y : MethodName} {cc : ByteArray} {own nm : String} {nL : Nat} {ret : Option FieldType} {R : Room} {G : sjG} {σ : sjS} {I : sjI} {av : List Value} {post : sjP} {L0 : List (Option Value)} (hy : plainName y.cls = true) (hyc : y.cls = own) (hyn : y.name = nm) (hc : sj_cat av = true) (hlen : av.length ≤ nL)
    (hL0 : av.map some ++ List.replicate (nL - av.length) none = L0) (h : ∀ Γ : sjC, sj_V l Γ (cc, own, nL, ret, nm, R) G post σ I 0 0 0 L0 []) : sj_Con l y (cc, own, nL, ret, nm, R) G σ I av post :=
  sj_con_of' hy hyc hyn (by rw [sj_sl1 av (sj_cat_ok av hc)]; exact hlen) (fun ls hl => by rw [← hL0]; exact sj_L.entry (sj_cat_ok av hc) hl) h
/-! locals -/
def sj_c1 : Option Value → Bool
  | some (.long _) => false
  | some (.double _) => false
  | _ => true
theorem sj_c1_ok {o : Option Value} (h : sj_c1 o = true) {w : Value} (e : o = some w) : w.category ≠ 2 := by
  subst e
  cases w <;> first | (intro q; cases q; done) | cases h
def sj_al (L : List (Option Value)) : List (Nat × Value) := (List.range L.length).filterMap (fun i => (L.getD i none).map (fun v => (i, v)))
theorem sj_al_mem {L : List (Option Value)} {i : Nat} {v : Value} : (i, v) ∈ sj_al L ↔ L[i]? = some (some v) := by
  unfold sj_al
  rw [List.mem_filterMap]
  constructor
  · rintro ⟨j, hj, h⟩
    rw [List.mem_range] at hj
    rw [Option.map_eq_some_iff] at h
    obtain ⟨w, h1, h2⟩ := h
    cases h2
    rw [List.getD_eq_getElem?_getD, List.getElem?_eq_getElem hj] at h1
    rw [List.getElem?_eq_getElem hj]
    simpa using h1
  · intro h
    have hi : i < L.length := (List.getElem?_eq_some_iff.mp h).1
    refine ⟨i, List.mem_range.mpr hi, ?_⟩
    rw [List.getD_eq_getElem?_getD, h]
    rfl
theorem sj_L.has {ls : Array Slot} {nL : Nat} {L : List (Option Value)} (h : sj_L ls nL L) : lv_has ls nL (sj_al L) := ⟨h.1, h.2.1, fun q hq => h.2.2 q.1 q.2 (sj_al_mem.mp hq)⟩
/-- a store of one word at place i -/
theorem sj_L.stored {ls' : Array Slot} {nL i : Nat} {L : List (Option Value)} {v : Value} (hp : ∀ w : Value, 0 < i → L[i - 1]? = some (some w) → w.category ≠ 2) (h : lv_has ls' nL ((i, v) :: (sj_al L).filter (fun q => !(q.1 == i) && !(q.1 + 1 == i && q.2.category == 2)))) : sj_L ls' nL (L.set i (some v)) := by
  refine ⟨h.1, h.2.1, fun j w hj => ?_⟩
  by_cases e : j = i
  · subst e
    have hi : j < L.length := by
      have := (List.getElem?_eq_some_iff.mp hj).1
      simpa using this
    rw [List.getElem?_set_self hi] at hj
    cases hj
    exact h.2.2 (j, v) List.mem_cons_self
  · rw [List.getElem?_set_ne (fun q => e q.symm)] at hj
    refine h.2.2 (j, w) (List.mem_cons_of_mem _ (List.mem_filter.mpr ⟨sj_al_mem.mpr hj, ?_⟩))
    simp only [Bool.and_eq_true, Bool.not_eq_true', beq_eq_false_iff_ne, ne_eq, Bool.and_eq_false_iff]
    refine ⟨e, ?_⟩
    by_cases e2 : j + 1 = i
    · right
      exact hp w (by omega) (by rw [show i - 1 = j by omega]; exact hj)
    · exact Or.inl e2

section ROWS
variable {l : Launch} {Γ : sjC} {cc : ByteArray} {own nm : String} {nL : Nat} {ret : Option FieldType} {R : Room} {G : sjG} {post : sjP} {σ : sjS} {I : sjI} {k n pc : Nat} {L : List (Option Value)} {st : List Value}

theorem sj_iconst {z : Int} (d : decode cc pc = .ok (.iconst z, 1)) (kk : sj_V l Γ (cc, own, nL, ret, nm, R) G post σ I k n (pc + 1) L (.int (zI z) :: st)) : sj_V l Γ (cc, own, nL, ret, nm, R) G post σ I k n pc L (st) := by
  obtain ⟨p, e, s, m, args, below, meth, c, Q⟩ := Γ
  intro hC hK hr H locs ls hR hlo hL
  obtain ⟨hx, hb, hml, hown, hnm⟩ := id hC
  exact lv_iconst (v := zI z) hx hb d rfl (kk hC hK hr H locs ls hR hlo hL)
theorem sj_bipush {z : Int} (d : decode cc pc = .ok (.bipush z, 2)) (hz : (Int8.ofInt z).toInt32 = zI z) (kk : sj_V l Γ (cc, own, nL, ret, nm, R) G post σ I k n (pc + 2) L (.int (zI z) :: st)) : sj_V l Γ (cc, own, nL, ret, nm, R) G post σ I k n pc L (st) := by
  obtain ⟨p, e, s, m, args, below, meth, c, Q⟩ := Γ
  intro hC hK hr H locs ls hR hlo hL
  obtain ⟨hx, hb, hml, hown, hnm⟩ := id hC
  exact lv_bipush (v := zI z) hx hb d hz (kk hC hK hr H locs ls hR hlo hL)
theorem sj_sipush {z : Int} (d : decode cc pc = .ok (.sipush z, 3)) (hz : (Int16.ofInt z).toInt32 = zI z) (kk : sj_V l Γ (cc, own, nL, ret, nm, R) G post σ I k n (pc + 3) L (.int (zI z) :: st)) : sj_V l Γ (cc, own, nL, ret, nm, R) G post σ I k n pc L (st) := by
  obtain ⟨p, e, s, m, args, below, meth, c, Q⟩ := Γ
  intro hC hK hr H locs ls hR hlo hL
  obtain ⟨hx, hb, hml, hown, hnm⟩ := id hC
  exact lv_sipush (v := zI z) hx hb d hz (kk hC hK hr H locs ls hR hlo hL)
theorem sj_ldc {idx : Nat} {z : Int} (hw : sj_in (.constant own idx (zI z))) (d : decode cc pc = .ok (.ldc idx, 2)) (kk : sj_V l Γ (cc, own, nL, ret, nm, R) G post σ I k n (pc + 2) L (.int (zI z) :: st)) : sj_V l Γ (cc, own, nL, ret, nm, R) G post σ I k n pc L (st) := by
  obtain ⟨p, e, s, m, args, below, meth, c, Q⟩ := Γ
  intro hC hK hr H locs ls hR hlo hL
  obtain ⟨hx, hb, hml, hown, hnm⟩ := id hC
  exact lv_ldc hx hb hown (hK.word hw args) d (kk hC hK hr H locs ls hR hlo hL)
theorem sj_ldcw {idx : Nat} {z : Int} (hw : sj_in (.constant own idx (zI z))) (d : decode cc pc = .ok (.ldc_w idx, 3)) (kk : sj_V l Γ (cc, own, nL, ret, nm, R) G post σ I k n (pc + 3) L (.int (zI z) :: st)) : sj_V l Γ (cc, own, nL, ret, nm, R) G post σ I k n pc L (st) := by
  obtain ⟨p, e, s, m, args, below, meth, c, Q⟩ := Γ
  intro hC hK hr H locs ls hR hlo hL
  obtain ⟨hx, hb, hml, hown, hnm⟩ := id hC
  exact lv_ldcw hx hb hown (hK.word hw args) d (kk hC hK hr H locs ls hR hlo hL)
theorem sj_null (d : decode cc pc = .ok (.aconst_null, 1)) (kk : sj_V l Γ (cc, own, nL, ret, nm, R) G post σ I k n (pc + 1) L (.null :: st)) : sj_V l Γ (cc, own, nL, ret, nm, R) G post σ I k n pc L (st) := by
  obtain ⟨p, e, s, m, args, below, meth, c, Q⟩ := Γ
  intro hC hK hr H locs ls hR hlo hL
  obtain ⟨hx, hb, hml, hown, hnm⟩ := id hC
  exact lv_null hx hb d (kk hC hK hr H locs ls hR hlo hL)
theorem sj_iadd {a b : Int} (d : decode cc pc = .ok (.iadd, 1)) (kk : sj_V l Γ (cc, own, nL, ret, nm, R) G post σ I k n (pc + 1) L (.int (zI (a + b)) :: st)) : sj_V l Γ (cc, own, nL, ret, nm, R) G post σ I k n pc L (.int (zI b) :: .int (zI a) :: st) := by
  obtain ⟨p, e, s, m, args, below, meth, c, Q⟩ := Γ
  intro hC hK hr H locs ls hR hlo hL
  obtain ⟨hx, hb, hml, hown, hnm⟩ := id hC
  refine lv_iadd hx hb d ?_
  rw [zI_add]
  exact kk hC hK hr H locs ls hR hlo hL
theorem sj_isub {a b : Int} (d : decode cc pc = .ok (.isub, 1)) (kk : sj_V l Γ (cc, own, nL, ret, nm, R) G post σ I k n (pc + 1) L (.int (zI (a - b)) :: st)) : sj_V l Γ (cc, own, nL, ret, nm, R) G post σ I k n pc L (.int (zI b) :: .int (zI a) :: st) := by
  obtain ⟨p, e, s, m, args, below, meth, c, Q⟩ := Γ
  intro hC hK hr H locs ls hR hlo hL
  obtain ⟨hx, hb, hml, hown, hnm⟩ := id hC
  refine lv_isub hx hb d ?_
  rw [zI_sub]
  exact kk hC hK hr H locs ls hR hlo hL
theorem sj_imul {a b : Int} (d : decode cc pc = .ok (.imul, 1)) (kk : sj_V l Γ (cc, own, nL, ret, nm, R) G post σ I k n (pc + 1) L (.int (zI (a * b)) :: st)) : sj_V l Γ (cc, own, nL, ret, nm, R) G post σ I k n pc L (.int (zI b) :: .int (zI a) :: st) := by
  obtain ⟨p, e, s, m, args, below, meth, c, Q⟩ := Γ
  intro hC hK hr H locs ls hR hlo hL
  obtain ⟨hx, hb, hml, hown, hnm⟩ := id hC
  refine lv_imul hx hb d ?_
  rw [zI_mul]
  exact kk hC hK hr H locs ls hR hlo hL
theorem sj_nz {b : Int} (hb : 0 < b ∧ b < 2147483648) : zI b ≠ 0 := by
  intro h
  rw [zI_0, zI_eq (by omega) (by omega)] at h
  omega
theorem sj_irem {a b : Int} (d : decode cc pc = .ok (.irem, 1)) (ha : 0 ≤ a ∧ a < 2147483648) (hb2 : 0 < b ∧ b < 2147483648) (kk : sj_V l Γ (cc, own, nL, ret, nm, R) G post σ I k n (pc + 1) L (.int (zI (a % b)) :: st)) : sj_V l Γ (cc, own, nL, ret, nm, R) G post σ I k n pc L (.int (zI b) :: .int (zI a) :: st) := by
  obtain ⟨p, e, s, m, args, below, meth, c, Q⟩ := Γ
  intro hC hK hr H locs ls hR hlo hL
  obtain ⟨hx, hb, hml, hown, hnm⟩ := id hC
  refine lv_irem hx hb d (sj_nz hb2) ?_
  rw [zI_div ha hb2, zI_mul, zI_sub, show a - a / b * b = a % b by rw [Int.emod_def, Int.mul_comm]]
  exact kk hC hK hr H locs ls hR hlo hL
theorem sj_idiv {a b : Int} (d : decode cc pc = .ok (.idiv, 1)) (ha : 0 ≤ a ∧ a < 2147483648) (hb2 : 0 < b ∧ b < 2147483648) (kk : sj_V l Γ (cc, own, nL, ret, nm, R) G post σ I k n (pc + 1) L (.int (zI (a / b)) :: st)) : sj_V l Γ (cc, own, nL, ret, nm, R) G post σ I k n pc L (.int (zI b) :: .int (zI a) :: st) := by
  obtain ⟨p, e, s, m, args, below, meth, c, Q⟩ := Γ
  intro hC hK hr H locs ls hR hlo hL
  obtain ⟨hx, hb, hml, hown, hnm⟩ := id hC
  refine lv_idiv hx hb d (sj_nz hb2) ?_
  rw [zI_div ha hb2]
  exact kk hC hK hr H locs ls hR hlo hL
theorem sj_iand {a b x : Int} (d : decode cc pc = .ok (.iand, 1)) (h : zI a &&& zI b = zI x) (kk : sj_V l Γ (cc, own, nL, ret, nm, R) G post σ I k n (pc + 1) L (.int (zI x) :: st)) : sj_V l Γ (cc, own, nL, ret, nm, R) G post σ I k n pc L (.int (zI b) :: .int (zI a) :: st) := by
  obtain ⟨p, e, s, m, args, below, meth, c, Q⟩ := Γ
  intro hC hK hr H locs ls hR hlo hL
  obtain ⟨hx, hb, hml, hown, hnm⟩ := id hC
  refine lv_iand hx hb d ?_
  rw [h]
  exact kk hC hK hr H locs ls hR hlo hL
theorem sj_ior {a b x : Int} (d : decode cc pc = .ok (.ior, 1)) (h : zI a ||| zI b = zI x) (kk : sj_V l Γ (cc, own, nL, ret, nm, R) G post σ I k n (pc + 1) L (.int (zI x) :: st)) : sj_V l Γ (cc, own, nL, ret, nm, R) G post σ I k n pc L (.int (zI b) :: .int (zI a) :: st) := by
  obtain ⟨p, e, s, m, args, below, meth, c, Q⟩ := Γ
  intro hC hK hr H locs ls hR hlo hL
  obtain ⟨hx, hb, hml, hown, hnm⟩ := id hC
  refine lv_ior hx hb d ?_
  rw [h]
  exact kk hC hK hr H locs ls hR hlo hL
theorem sj_icmp_eq {a b : Int} {off : Int} (tgt : Nat) (d : decode cc pc = .ok (.if_icmp .eq off, 3)) (ht : (pc : Int) + off = (tgt : Int)) (ha : -2147483648 ≤ a ∧ a < 2147483648) (hb2 : -2147483648 ≤ b ∧ b < 2147483648) (kt : a = b → sj_V l Γ (cc, own, nL, ret, nm, R) G post σ I k n tgt L st) (kf : ¬ (a = b) → sj_V l Γ (cc, own, nL, ret, nm, R) G post σ I k n (pc + 3) L st) : sj_V l Γ (cc, own, nL, ret, nm, R) G post σ I k n pc L (.int (zI b) :: .int (zI a) :: st) := by
  obtain ⟨p, e, s, m, args, below, meth, c, Q⟩ := Γ
  intro hC hK hr H locs ls hR hlo hL
  obtain ⟨hx, hb, hml, hown, hnm⟩ := id hC
  exact lv_icmp_eq hx hb d ht (fun h => kt ((zI_eq ha hb2).mp h) hC hK hr H locs ls hR hlo hL) (fun h => kf (fun q => h ((zI_eq ha hb2).mpr q)) hC hK hr H locs ls hR hlo hL)
theorem sj_if_eq {a : Int} {off : Int} (tgt : Nat) (d : decode cc pc = .ok (.ifCond .eq off, 3)) (ht : (pc : Int) + off = (tgt : Int)) (ha : -2147483648 ≤ a ∧ a < 2147483648) (kt : a = 0 → sj_V l Γ (cc, own, nL, ret, nm, R) G post σ I k n tgt L st) (kf : ¬ (a = 0) → sj_V l Γ (cc, own, nL, ret, nm, R) G post σ I k n (pc + 3) L st) : sj_V l Γ (cc, own, nL, ret, nm, R) G post σ I k n pc L (.int (zI a) :: st) := by
  obtain ⟨p, e, s, m, args, below, meth, c, Q⟩ := Γ
  intro hC hK hr H locs ls hR hlo hL
  obtain ⟨hx, hb, hml, hown, hnm⟩ := id hC
  exact lv_if_eq hx hb d ht (fun h => kt ((zI_eq ha (by omega)).mp h) hC hK hr H locs ls hR hlo hL) (fun h => kf (fun q => h ((zI_eq ha (by omega)).mpr q)) hC hK hr H locs ls hR hlo hL)
theorem sj_icmp_ne {a b : Int} {off : Int} (tgt : Nat) (d : decode cc pc = .ok (.if_icmp .ne off, 3)) (ht : (pc : Int) + off = (tgt : Int)) (ha : -2147483648 ≤ a ∧ a < 2147483648) (hb2 : -2147483648 ≤ b ∧ b < 2147483648) (kt : ¬ a = b → sj_V l Γ (cc, own, nL, ret, nm, R) G post σ I k n tgt L st) (kf : ¬ (¬ a = b) → sj_V l Γ (cc, own, nL, ret, nm, R) G post σ I k n (pc + 3) L st) : sj_V l Γ (cc, own, nL, ret, nm, R) G post σ I k n pc L (.int (zI b) :: .int (zI a) :: st) := by
  obtain ⟨p, e, s, m, args, below, meth, c, Q⟩ := Γ
  intro hC hK hr H locs ls hR hlo hL
  obtain ⟨hx, hb, hml, hown, hnm⟩ := id hC
  exact lv_icmp_ne hx hb d ht (fun h => kt (fun q => h ((zI_eq ha hb2).mpr q)) hC hK hr H locs ls hR hlo hL) (fun h => kf (fun q => q ((zI_eq ha hb2).mp h)) hC hK hr H locs ls hR hlo hL)
theorem sj_if_ne {a : Int} {off : Int} (tgt : Nat) (d : decode cc pc = .ok (.ifCond .ne off, 3)) (ht : (pc : Int) + off = (tgt : Int)) (ha : -2147483648 ≤ a ∧ a < 2147483648) (kt : ¬ a = 0 → sj_V l Γ (cc, own, nL, ret, nm, R) G post σ I k n tgt L st) (kf : ¬ (¬ a = 0) → sj_V l Γ (cc, own, nL, ret, nm, R) G post σ I k n (pc + 3) L st) : sj_V l Γ (cc, own, nL, ret, nm, R) G post σ I k n pc L (.int (zI a) :: st) := by
  obtain ⟨p, e, s, m, args, below, meth, c, Q⟩ := Γ
  intro hC hK hr H locs ls hR hlo hL
  obtain ⟨hx, hb, hml, hown, hnm⟩ := id hC
  exact lv_if_ne hx hb d ht (fun h => kt (fun q => h ((zI_eq ha (by omega)).mpr q)) hC hK hr H locs ls hR hlo hL) (fun h => kf (fun q => q ((zI_eq ha (by omega)).mp h)) hC hK hr H locs ls hR hlo hL)
theorem sj_icmp_lt {a b : Int} {off : Int} (tgt : Nat) (d : decode cc pc = .ok (.if_icmp .lt off, 3)) (ht : (pc : Int) + off = (tgt : Int)) (ha : -2147483648 ≤ a ∧ a < 2147483648) (hb2 : -2147483648 ≤ b ∧ b < 2147483648) (kt : a < b → sj_V l Γ (cc, own, nL, ret, nm, R) G post σ I k n tgt L st) (kf : ¬ (a < b) → sj_V l Γ (cc, own, nL, ret, nm, R) G post σ I k n (pc + 3) L st) : sj_V l Γ (cc, own, nL, ret, nm, R) G post σ I k n pc L (.int (zI b) :: .int (zI a) :: st) := by
  obtain ⟨p, e, s, m, args, below, meth, c, Q⟩ := Γ
  intro hC hK hr H locs ls hR hlo hL
  obtain ⟨hx, hb, hml, hown, hnm⟩ := id hC
  exact lv_icmp_lt hx hb d ht (fun h => kt ((zI_lt ha hb2).mp h) hC hK hr H locs ls hR hlo hL) (fun h => kf (fun q => h ((zI_lt ha hb2).mpr q)) hC hK hr H locs ls hR hlo hL)
theorem sj_if_lt {a : Int} {off : Int} (tgt : Nat) (d : decode cc pc = .ok (.ifCond .lt off, 3)) (ht : (pc : Int) + off = (tgt : Int)) (ha : -2147483648 ≤ a ∧ a < 2147483648) (kt : a < 0 → sj_V l Γ (cc, own, nL, ret, nm, R) G post σ I k n tgt L st) (kf : ¬ (a < 0) → sj_V l Γ (cc, own, nL, ret, nm, R) G post σ I k n (pc + 3) L st) : sj_V l Γ (cc, own, nL, ret, nm, R) G post σ I k n pc L (.int (zI a) :: st) := by
  obtain ⟨p, e, s, m, args, below, meth, c, Q⟩ := Γ
  intro hC hK hr H locs ls hR hlo hL
  obtain ⟨hx, hb, hml, hown, hnm⟩ := id hC
  exact lv_if_lt hx hb d ht (fun h => kt ((zI_lt ha (by omega)).mp h) hC hK hr H locs ls hR hlo hL) (fun h => kf (fun q => h ((zI_lt ha (by omega)).mpr q)) hC hK hr H locs ls hR hlo hL)
theorem sj_icmp_ge {a b : Int} {off : Int} (tgt : Nat) (d : decode cc pc = .ok (.if_icmp .ge off, 3)) (ht : (pc : Int) + off = (tgt : Int)) (ha : -2147483648 ≤ a ∧ a < 2147483648) (hb2 : -2147483648 ≤ b ∧ b < 2147483648) (kt : b ≤ a → sj_V l Γ (cc, own, nL, ret, nm, R) G post σ I k n tgt L st) (kf : ¬ (b ≤ a) → sj_V l Γ (cc, own, nL, ret, nm, R) G post σ I k n (pc + 3) L st) : sj_V l Γ (cc, own, nL, ret, nm, R) G post σ I k n pc L (.int (zI b) :: .int (zI a) :: st) := by
  obtain ⟨p, e, s, m, args, below, meth, c, Q⟩ := Γ
  intro hC hK hr H locs ls hR hlo hL
  obtain ⟨hx, hb, hml, hown, hnm⟩ := id hC
  exact lv_icmp_ge hx hb d ht (fun h => kt ((zI_le hb2 ha).mp h) hC hK hr H locs ls hR hlo hL) (fun h => kf (fun q => h ((zI_le hb2 ha).mpr q)) hC hK hr H locs ls hR hlo hL)
theorem sj_if_ge {a : Int} {off : Int} (tgt : Nat) (d : decode cc pc = .ok (.ifCond .ge off, 3)) (ht : (pc : Int) + off = (tgt : Int)) (ha : -2147483648 ≤ a ∧ a < 2147483648) (kt : 0 ≤ a → sj_V l Γ (cc, own, nL, ret, nm, R) G post σ I k n tgt L st) (kf : ¬ (0 ≤ a) → sj_V l Γ (cc, own, nL, ret, nm, R) G post σ I k n (pc + 3) L st) : sj_V l Γ (cc, own, nL, ret, nm, R) G post σ I k n pc L (.int (zI a) :: st) := by
  obtain ⟨p, e, s, m, args, below, meth, c, Q⟩ := Γ
  intro hC hK hr H locs ls hR hlo hL
  obtain ⟨hx, hb, hml, hown, hnm⟩ := id hC
  exact lv_if_ge hx hb d ht (fun h => kt ((zI_le (by omega) ha).mp h) hC hK hr H locs ls hR hlo hL) (fun h => kf (fun q => h ((zI_le (by omega) ha).mpr q)) hC hK hr H locs ls hR hlo hL)
theorem sj_icmp_gt {a b : Int} {off : Int} (tgt : Nat) (d : decode cc pc = .ok (.if_icmp .gt off, 3)) (ht : (pc : Int) + off = (tgt : Int)) (ha : -2147483648 ≤ a ∧ a < 2147483648) (hb2 : -2147483648 ≤ b ∧ b < 2147483648) (kt : b < a → sj_V l Γ (cc, own, nL, ret, nm, R) G post σ I k n tgt L st) (kf : ¬ (b < a) → sj_V l Γ (cc, own, nL, ret, nm, R) G post σ I k n (pc + 3) L st) : sj_V l Γ (cc, own, nL, ret, nm, R) G post σ I k n pc L (.int (zI b) :: .int (zI a) :: st) := by
  obtain ⟨p, e, s, m, args, below, meth, c, Q⟩ := Γ
  intro hC hK hr H locs ls hR hlo hL
  obtain ⟨hx, hb, hml, hown, hnm⟩ := id hC
  exact lv_icmp_gt hx hb d ht (fun h => kt ((zI_lt hb2 ha).mp h) hC hK hr H locs ls hR hlo hL) (fun h => kf (fun q => h ((zI_lt hb2 ha).mpr q)) hC hK hr H locs ls hR hlo hL)
theorem sj_if_gt {a : Int} {off : Int} (tgt : Nat) (d : decode cc pc = .ok (.ifCond .gt off, 3)) (ht : (pc : Int) + off = (tgt : Int)) (ha : -2147483648 ≤ a ∧ a < 2147483648) (kt : 0 < a → sj_V l Γ (cc, own, nL, ret, nm, R) G post σ I k n tgt L st) (kf : ¬ (0 < a) → sj_V l Γ (cc, own, nL, ret, nm, R) G post σ I k n (pc + 3) L st) : sj_V l Γ (cc, own, nL, ret, nm, R) G post σ I k n pc L (.int (zI a) :: st) := by
  obtain ⟨p, e, s, m, args, below, meth, c, Q⟩ := Γ
  intro hC hK hr H locs ls hR hlo hL
  obtain ⟨hx, hb, hml, hown, hnm⟩ := id hC
  exact lv_if_gt hx hb d ht (fun h => kt ((zI_lt (by omega) ha).mp h) hC hK hr H locs ls hR hlo hL) (fun h => kf (fun q => h ((zI_lt (by omega) ha).mpr q)) hC hK hr H locs ls hR hlo hL)
theorem sj_icmp_le {a b : Int} {off : Int} (tgt : Nat) (d : decode cc pc = .ok (.if_icmp .le off, 3)) (ht : (pc : Int) + off = (tgt : Int)) (ha : -2147483648 ≤ a ∧ a < 2147483648) (hb2 : -2147483648 ≤ b ∧ b < 2147483648) (kt : a ≤ b → sj_V l Γ (cc, own, nL, ret, nm, R) G post σ I k n tgt L st) (kf : ¬ (a ≤ b) → sj_V l Γ (cc, own, nL, ret, nm, R) G post σ I k n (pc + 3) L st) : sj_V l Γ (cc, own, nL, ret, nm, R) G post σ I k n pc L (.int (zI b) :: .int (zI a) :: st) := by
  obtain ⟨p, e, s, m, args, below, meth, c, Q⟩ := Γ
  intro hC hK hr H locs ls hR hlo hL
  obtain ⟨hx, hb, hml, hown, hnm⟩ := id hC
  exact lv_icmp_le hx hb d ht (fun h => kt ((zI_le ha hb2).mp h) hC hK hr H locs ls hR hlo hL) (fun h => kf (fun q => h ((zI_le ha hb2).mpr q)) hC hK hr H locs ls hR hlo hL)
theorem sj_if_le {a : Int} {off : Int} (tgt : Nat) (d : decode cc pc = .ok (.ifCond .le off, 3)) (ht : (pc : Int) + off = (tgt : Int)) (ha : -2147483648 ≤ a ∧ a < 2147483648) (kt : a ≤ 0 → sj_V l Γ (cc, own, nL, ret, nm, R) G post σ I k n tgt L st) (kf : ¬ (a ≤ 0) → sj_V l Γ (cc, own, nL, ret, nm, R) G post σ I k n (pc + 3) L st) : sj_V l Γ (cc, own, nL, ret, nm, R) G post σ I k n pc L (.int (zI a) :: st) := by
  obtain ⟨p, e, s, m, args, below, meth, c, Q⟩ := Γ
  intro hC hK hr H locs ls hR hlo hL
  obtain ⟨hx, hb, hml, hown, hnm⟩ := id hC
  exact lv_if_le hx hb d ht (fun h => kt ((zI_le ha (by omega)).mp h) hC hK hr H locs ls hR hlo hL) (fun h => kf (fun q => h ((zI_le ha (by omega)).mpr q)) hC hK hr H locs ls hR hlo hL)
theorem sj_goto {off : Int} (tgt : Nat) (d : decode cc pc = .ok (.goto off, 3)) (ht : (pc : Int) + off = (tgt : Int)) (kk : sj_V l Γ (cc, own, nL, ret, nm, R) G post σ I k n tgt L st) : sj_V l Γ (cc, own, nL, ret, nm, R) G post σ I k n pc L st := by
  obtain ⟨p, e, s, m, args, below, meth, c, Q⟩ := Γ
  intro hC hK hr H locs ls hR hlo hL
  obtain ⟨hx, hb, hml, hown, hnm⟩ := id hC
  exact lv_goto hx hb d ht (kk hC hK hr H locs ls hR hlo hL)
theorem sj_ifnull {x : Nat} {off : Int} (d : decode cc pc = .ok (.ifnull off, 3)) (kk : sj_V l Γ (cc, own, nL, ret, nm, R) G post σ I k n (pc + 3) L st) : sj_V l Γ (cc, own, nL, ret, nm, R) G post σ I k n pc L (.ref x :: st) := by
  obtain ⟨p, e, s, m, args, below, meth, c, Q⟩ := Γ
  intro hC hK hr H locs ls hR hlo hL
  obtain ⟨hx, hb, hml, hown, hnm⟩ := id hC
  exact lv_ifnull hx hb d (kk hC hK hr H locs ls hR hlo hL)
theorem sj_ifnullN {off : Int} (tgt : Nat) (d : decode cc pc = .ok (.ifnull off, 3)) (ht : (pc : Int) + off = (tgt : Int)) (kk : sj_V l Γ (cc, own, nL, ret, nm, R) G post σ I k n tgt L st) : sj_V l Γ (cc, own, nL, ret, nm, R) G post σ I k n pc L (.null :: st) := by
  obtain ⟨p, e, s, m, args, below, meth, c, Q⟩ := Γ
  intro hC hK hr H locs ls hR hlo hL
  obtain ⟨hx, hb, hml, hown, hnm⟩ := id hC
  exact lv_ifnullN hx hb d ht (kk hC hK hr H locs ls hR hlo hL)
theorem sj_ifnonnull {x : Nat} {off : Int} (tgt : Nat) (d : decode cc pc = .ok (.ifnonnull off, 3)) (ht : (pc : Int) + off = (tgt : Int)) (kk : sj_V l Γ (cc, own, nL, ret, nm, R) G post σ I k n tgt L st) : sj_V l Γ (cc, own, nL, ret, nm, R) G post σ I k n pc L (.ref x :: st) := by
  obtain ⟨p, e, s, m, args, below, meth, c, Q⟩ := Γ
  intro hC hK hr H locs ls hR hlo hL
  obtain ⟨hx, hb, hml, hown, hnm⟩ := id hC
  exact lv_ifnonnull hx hb d ht (kk hC hK hr H locs ls hR hlo hL)
theorem sj_ifnonnullN {off : Int} (d : decode cc pc = .ok (.ifnonnull off, 3)) (kk : sj_V l Γ (cc, own, nL, ret, nm, R) G post σ I k n (pc + 3) L st) : sj_V l Γ (cc, own, nL, ret, nm, R) G post σ I k n pc L (.null :: st) := by
  obtain ⟨p, e, s, m, args, below, meth, c, Q⟩ := Γ
  intro hC hK hr H locs ls hR hlo hL
  obtain ⟨hx, hb, hml, hown, hnm⟩ := id hC
  exact lv_ifnonnullN hx hb d (kk hC hK hr H locs ls hR hlo hL)
theorem sj_dup {v : Value} (d : decode cc pc = .ok (.dup, 1)) (hv : v.category = 1) (kk : sj_V l Γ (cc, own, nL, ret, nm, R) G post σ I k n (pc + 1) L (v :: v :: st)) : sj_V l Γ (cc, own, nL, ret, nm, R) G post σ I k n pc L (v :: st) := by
  obtain ⟨p, e, s, m, args, below, meth, c, Q⟩ := Γ
  intro hC hK hr H locs ls hR hlo hL
  obtain ⟨hx, hb, hml, hown, hnm⟩ := id hC
  exact lv_dup hx hb d hv (kk hC hK hr H locs ls hR hlo hL)
theorem sj_pop {v : Value} (d : decode cc pc = .ok (.pop, 1)) (hv : v.category = 1) (kk : sj_V l Γ (cc, own, nL, ret, nm, R) G post σ I k n (pc + 1) L st) : sj_V l Γ (cc, own, nL, ret, nm, R) G post σ I k n pc L (v :: st) := by
  obtain ⟨p, e, s, m, args, below, meth, c, Q⟩ := Γ
  intro hC hK hr H locs ls hR hlo hL
  obtain ⟨hx, hb, hml, hown, hnm⟩ := id hC
  exact lv_pop hx hb d hv (kk hC hK hr H locs ls hR hlo hL)
theorem sj_ild0 {tl : List (Option Value)} {v : Int32} (d : decode cc pc = .ok (.iload_n 0, 1)) (kk : sj_V l Γ (cc, own, nL, ret, nm, R) G post σ I k n (pc + 1) (some (.int v) :: tl) (.int v :: st)) : sj_V l Γ (cc, own, nL, ret, nm, R) G post σ I k n pc (some (.int v) :: tl) st := by
  obtain ⟨p, e, s, m, args, below, meth, c, Q⟩ := Γ
  intro hC hK hr H locs ls hR hlo hL
  obtain ⟨hx, hb, hml, hown, hnm⟩ := id hC
  exact lv_iload_n hx hb d rfl (hL.2.2 0 _ rfl) (kk hC hK hr H locs ls hR hlo hL)
theorem sj_ald0 {tl : List (Option Value)} {v : Nat} (d : decode cc pc = .ok (.aload_n 0, 1)) (kk : sj_V l Γ (cc, own, nL, ret, nm, R) G post σ I k n (pc + 1) (some (.ref v) :: tl) (.ref v :: st)) : sj_V l Γ (cc, own, nL, ret, nm, R) G post σ I k n pc (some (.ref v) :: tl) st := by
  obtain ⟨p, e, s, m, args, below, meth, c, Q⟩ := Γ
  intro hC hK hr H locs ls hR hlo hL
  obtain ⟨hx, hb, hml, hown, hnm⟩ := id hC
  exact lv_aload_n hx hb d rfl (hL.2.2 0 _ rfl) (kk hC hK hr H locs ls hR hlo hL)
theorem sj_aldN0 {tl : List (Option Value)}  (d : decode cc pc = .ok (.aload_n 0, 1)) (kk : sj_V l Γ (cc, own, nL, ret, nm, R) G post σ I k n (pc + 1) (some (.null) :: tl) (.null :: st)) : sj_V l Γ (cc, own, nL, ret, nm, R) G post σ I k n pc (some (.null) :: tl) st := by
  obtain ⟨p, e, s, m, args, below, meth, c, Q⟩ := Γ
  intro hC hK hr H locs ls hR hlo hL
  obtain ⟨hx, hb, hml, hown, hnm⟩ := id hC
  exact lv_aload_nN hx hb d rfl (hL.2.2 0 _ rfl) (kk hC hK hr H locs ls hR hlo hL)
theorem sj_ist0 {x : Option Value} {tl : List (Option Value)} {v : Int32} (hi : 0 < nL) (d : decode cc pc = .ok (.istore_n 0, 1)) (kk : sj_V l Γ (cc, own, nL, ret, nm, R) G post σ I k n (pc + 1) (some (.int v) :: tl) st) : sj_V l Γ (cc, own, nL, ret, nm, R) G post σ I k n pc (x :: tl) (.int v :: st) := by
  obtain ⟨p, e, s, m, args, below, meth, c, Q⟩ := Γ
  intro hC hK hr H locs ls hR hlo hL
  obtain ⟨hx, hb, hml, hown, hnm⟩ := id hC
  exact lv_istore_n hx hb d rfl hL.has hi rfl (fun ls' hl' => kk hC hK hr H locs ls' hR hlo (sj_L.stored (L := x :: tl) (fun w h0 _ => absurd h0 (by decide)) hl'))
theorem sj_ast0 {x : Option Value} {tl : List (Option Value)} {v : Nat} (hi : 0 < nL) (d : decode cc pc = .ok (.astore_n 0, 1)) (kk : sj_V l Γ (cc, own, nL, ret, nm, R) G post σ I k n (pc + 1) (some (.ref v) :: tl) st) : sj_V l Γ (cc, own, nL, ret, nm, R) G post σ I k n pc (x :: tl) (.ref v :: st) := by
  obtain ⟨p, e, s, m, args, below, meth, c, Q⟩ := Γ
  intro hC hK hr H locs ls hR hlo hL
  obtain ⟨hx, hb, hml, hown, hnm⟩ := id hC
  exact lv_astore_n hx hb d rfl hL.has hi rfl (fun ls' hl' => kk hC hK hr H locs ls' hR hlo (sj_L.stored (L := x :: tl) (fun w h0 _ => absurd h0 (by decide)) hl'))
theorem sj_astN0 {x : Option Value} {tl : List (Option Value)}  (hi : 0 < nL) (d : decode cc pc = .ok (.astore_n 0, 1)) (kk : sj_V l Γ (cc, own, nL, ret, nm, R) G post σ I k n (pc + 1) (some (.null) :: tl) st) : sj_V l Γ (cc, own, nL, ret, nm, R) G post σ I k n pc (x :: tl) (.null :: st) := by
  obtain ⟨p, e, s, m, args, below, meth, c, Q⟩ := Γ
  intro hC hK hr H locs ls hR hlo hL
  obtain ⟨hx, hb, hml, hown, hnm⟩ := id hC
  exact lv_astore_nN hx hb d rfl hL.has hi rfl (fun ls' hl' => kk hC hK hr H locs ls' hR hlo (sj_L.stored (L := x :: tl) (fun w h0 _ => absurd h0 (by decide)) hl'))
theorem sj_inc0 {tl : List (Option Value)} {a z : Int} (hi : 0 < nL) (d : decode cc pc = .ok (.iinc 0 z, 3)) (kk : sj_V l Γ (cc, own, nL, ret, nm, R) G post σ I k n (pc + 3) (some (.int (zI (a + z))) :: tl) st) : sj_V l Γ (cc, own, nL, ret, nm, R) G post σ I k n pc (some (.int (zI a)) :: tl) st := by
  obtain ⟨p, e, s, m, args, below, meth, c, Q⟩ := Γ
  intro hC hK hr H locs ls hR hlo hL
  obtain ⟨hx, hb, hml, hown, hnm⟩ := id hC
  obtain ⟨j, hj⟩ := List.getElem?_of_mem (sj_al_mem (L := some (.int (zI a)) :: tl) (i := 0) (v := .int (zI a)) |>.mpr rfl)
  exact lv_iinc (v := zI (a + z)) hx hb d hL.has hj (by rw [← zI_add]; rfl) hi rfl (fun ls' hl' => kk hC hK hr H locs ls' hR hlo (sj_L.stored (L := some (.int (zI a)) :: tl) (fun w h0 _ => absurd h0 (by decide)) hl'))
theorem sj_ild1 {a0 : Option Value} {tl : List (Option Value)} {v : Int32} (d : decode cc pc = .ok (.iload_n 1, 1)) (kk : sj_V l Γ (cc, own, nL, ret, nm, R) G post σ I k n (pc + 1) (a0 :: some (.int v) :: tl) (.int v :: st)) : sj_V l Γ (cc, own, nL, ret, nm, R) G post σ I k n pc (a0 :: some (.int v) :: tl) st := by
  obtain ⟨p, e, s, m, args, below, meth, c, Q⟩ := Γ
  intro hC hK hr H locs ls hR hlo hL
  obtain ⟨hx, hb, hml, hown, hnm⟩ := id hC
  exact lv_iload_n hx hb d rfl (hL.2.2 1 _ rfl) (kk hC hK hr H locs ls hR hlo hL)
theorem sj_ald1 {a0 : Option Value} {tl : List (Option Value)} {v : Nat} (d : decode cc pc = .ok (.aload_n 1, 1)) (kk : sj_V l Γ (cc, own, nL, ret, nm, R) G post σ I k n (pc + 1) (a0 :: some (.ref v) :: tl) (.ref v :: st)) : sj_V l Γ (cc, own, nL, ret, nm, R) G post σ I k n pc (a0 :: some (.ref v) :: tl) st := by
  obtain ⟨p, e, s, m, args, below, meth, c, Q⟩ := Γ
  intro hC hK hr H locs ls hR hlo hL
  obtain ⟨hx, hb, hml, hown, hnm⟩ := id hC
  exact lv_aload_n hx hb d rfl (hL.2.2 1 _ rfl) (kk hC hK hr H locs ls hR hlo hL)
theorem sj_aldN1 {a0 : Option Value} {tl : List (Option Value)}  (d : decode cc pc = .ok (.aload_n 1, 1)) (kk : sj_V l Γ (cc, own, nL, ret, nm, R) G post σ I k n (pc + 1) (a0 :: some (.null) :: tl) (.null :: st)) : sj_V l Γ (cc, own, nL, ret, nm, R) G post σ I k n pc (a0 :: some (.null) :: tl) st := by
  obtain ⟨p, e, s, m, args, below, meth, c, Q⟩ := Γ
  intro hC hK hr H locs ls hR hlo hL
  obtain ⟨hx, hb, hml, hown, hnm⟩ := id hC
  exact lv_aload_nN hx hb d rfl (hL.2.2 1 _ rfl) (kk hC hK hr H locs ls hR hlo hL)
theorem sj_ist1 {a0 : Option Value} {x : Option Value} {tl : List (Option Value)} {v : Int32} (hi : 1 < nL) (hc : sj_c1 a0 = true) (d : decode cc pc = .ok (.istore_n 1, 1)) (kk : sj_V l Γ (cc, own, nL, ret, nm, R) G post σ I k n (pc + 1) (a0 :: some (.int v) :: tl) st) : sj_V l Γ (cc, own, nL, ret, nm, R) G post σ I k n pc (a0 :: x :: tl) (.int v :: st) := by
  obtain ⟨p, e, s, m, args, below, meth, c, Q⟩ := Γ
  intro hC hK hr H locs ls hR hlo hL
  obtain ⟨hx, hb, hml, hown, hnm⟩ := id hC
  exact lv_istore_n hx hb d rfl hL.has hi rfl (fun ls' hl' => kk hC hK hr H locs ls' hR hlo (sj_L.stored (L := a0 :: x :: tl) (fun w _ h2 => sj_c1_ok hc (Option.some.inj h2)) hl'))
theorem sj_ast1 {a0 : Option Value} {x : Option Value} {tl : List (Option Value)} {v : Nat} (hi : 1 < nL) (hc : sj_c1 a0 = true) (d : decode cc pc = .ok (.astore_n 1, 1)) (kk : sj_V l Γ (cc, own, nL, ret, nm, R) G post σ I k n (pc + 1) (a0 :: some (.ref v) :: tl) st) : sj_V l Γ (cc, own, nL, ret, nm, R) G post σ I k n pc (a0 :: x :: tl) (.ref v :: st) := by
  obtain ⟨p, e, s, m, args, below, meth, c, Q⟩ := Γ
  intro hC hK hr H locs ls hR hlo hL
  obtain ⟨hx, hb, hml, hown, hnm⟩ := id hC
  exact lv_astore_n hx hb d rfl hL.has hi rfl (fun ls' hl' => kk hC hK hr H locs ls' hR hlo (sj_L.stored (L := a0 :: x :: tl) (fun w _ h2 => sj_c1_ok hc (Option.some.inj h2)) hl'))
theorem sj_astN1 {a0 : Option Value} {x : Option Value} {tl : List (Option Value)}  (hi : 1 < nL) (hc : sj_c1 a0 = true) (d : decode cc pc = .ok (.astore_n 1, 1)) (kk : sj_V l Γ (cc, own, nL, ret, nm, R) G post σ I k n (pc + 1) (a0 :: some (.null) :: tl) st) : sj_V l Γ (cc, own, nL, ret, nm, R) G post σ I k n pc (a0 :: x :: tl) (.null :: st) := by
  obtain ⟨p, e, s, m, args, below, meth, c, Q⟩ := Γ
  intro hC hK hr H locs ls hR hlo hL
  obtain ⟨hx, hb, hml, hown, hnm⟩ := id hC
  exact lv_astore_nN hx hb d rfl hL.has hi rfl (fun ls' hl' => kk hC hK hr H locs ls' hR hlo (sj_L.stored (L := a0 :: x :: tl) (fun w _ h2 => sj_c1_ok hc (Option.some.inj h2)) hl'))
theorem sj_inc1 {a0 : Option Value} {tl : List (Option Value)} {a z : Int} (hi : 1 < nL) (hc : sj_c1 a0 = true) (d : decode cc pc = .ok (.iinc 1 z, 3)) (kk : sj_V l Γ (cc, own, nL, ret, nm, R) G post σ I k n (pc + 3) (a0 :: some (.int (zI (a + z))) :: tl) st) : sj_V l Γ (cc, own, nL, ret, nm, R) G post σ I k n pc (a0 :: some (.int (zI a)) :: tl) st := by
  obtain ⟨p, e, s, m, args, below, meth, c, Q⟩ := Γ
  intro hC hK hr H locs ls hR hlo hL
  obtain ⟨hx, hb, hml, hown, hnm⟩ := id hC
  obtain ⟨j, hj⟩ := List.getElem?_of_mem (sj_al_mem (L := a0 :: some (.int (zI a)) :: tl) (i := 1) (v := .int (zI a)) |>.mpr rfl)
  exact lv_iinc (v := zI (a + z)) hx hb d hL.has hj (by rw [← zI_add]; rfl) hi rfl (fun ls' hl' => kk hC hK hr H locs ls' hR hlo (sj_L.stored (L := a0 :: some (.int (zI a)) :: tl) (fun w _ h2 => sj_c1_ok hc (Option.some.inj h2)) hl'))
theorem sj_ild2 {a0 a1 : Option Value} {tl : List (Option Value)} {v : Int32} (d : decode cc pc = .ok (.iload_n 2, 1)) (kk : sj_V l Γ (cc, own, nL, ret, nm, R) G post σ I k n (pc + 1) (a0 :: a1 :: some (.int v) :: tl) (.int v :: st)) : sj_V l Γ (cc, own, nL, ret, nm, R) G post σ I k n pc (a0 :: a1 :: some (.int v) :: tl) st := by
  obtain ⟨p, e, s, m, args, below, meth, c, Q⟩ := Γ
  intro hC hK hr H locs ls hR hlo hL
  obtain ⟨hx, hb, hml, hown, hnm⟩ := id hC
  exact lv_iload_n hx hb d rfl (hL.2.2 2 _ rfl) (kk hC hK hr H locs ls hR hlo hL)
theorem sj_ald2 {a0 a1 : Option Value} {tl : List (Option Value)} {v : Nat} (d : decode cc pc = .ok (.aload_n 2, 1)) (kk : sj_V l Γ (cc, own, nL, ret, nm, R) G post σ I k n (pc + 1) (a0 :: a1 :: some (.ref v) :: tl) (.ref v :: st)) : sj_V l Γ (cc, own, nL, ret, nm, R) G post σ I k n pc (a0 :: a1 :: some (.ref v) :: tl) st := by
  obtain ⟨p, e, s, m, args, below, meth, c, Q⟩ := Γ
  intro hC hK hr H locs ls hR hlo hL
  obtain ⟨hx, hb, hml, hown, hnm⟩ := id hC
  exact lv_aload_n hx hb d rfl (hL.2.2 2 _ rfl) (kk hC hK hr H locs ls hR hlo hL)
theorem sj_aldN2 {a0 a1 : Option Value} {tl : List (Option Value)}  (d : decode cc pc = .ok (.aload_n 2, 1)) (kk : sj_V l Γ (cc, own, nL, ret, nm, R) G post σ I k n (pc + 1) (a0 :: a1 :: some (.null) :: tl) (.null :: st)) : sj_V l Γ (cc, own, nL, ret, nm, R) G post σ I k n pc (a0 :: a1 :: some (.null) :: tl) st := by
  obtain ⟨p, e, s, m, args, below, meth, c, Q⟩ := Γ
  intro hC hK hr H locs ls hR hlo hL
  obtain ⟨hx, hb, hml, hown, hnm⟩ := id hC
  exact lv_aload_nN hx hb d rfl (hL.2.2 2 _ rfl) (kk hC hK hr H locs ls hR hlo hL)
theorem sj_ist2 {a0 a1 : Option Value} {x : Option Value} {tl : List (Option Value)} {v : Int32} (hi : 2 < nL) (hc : sj_c1 a1 = true) (d : decode cc pc = .ok (.istore_n 2, 1)) (kk : sj_V l Γ (cc, own, nL, ret, nm, R) G post σ I k n (pc + 1) (a0 :: a1 :: some (.int v) :: tl) st) : sj_V l Γ (cc, own, nL, ret, nm, R) G post σ I k n pc (a0 :: a1 :: x :: tl) (.int v :: st) := by
  obtain ⟨p, e, s, m, args, below, meth, c, Q⟩ := Γ
  intro hC hK hr H locs ls hR hlo hL
  obtain ⟨hx, hb, hml, hown, hnm⟩ := id hC
  exact lv_istore_n hx hb d rfl hL.has hi rfl (fun ls' hl' => kk hC hK hr H locs ls' hR hlo (sj_L.stored (L := a0 :: a1 :: x :: tl) (fun w _ h2 => sj_c1_ok hc (Option.some.inj h2)) hl'))
theorem sj_ast2 {a0 a1 : Option Value} {x : Option Value} {tl : List (Option Value)} {v : Nat} (hi : 2 < nL) (hc : sj_c1 a1 = true) (d : decode cc pc = .ok (.astore_n 2, 1)) (kk : sj_V l Γ (cc, own, nL, ret, nm, R) G post σ I k n (pc + 1) (a0 :: a1 :: some (.ref v) :: tl) st) : sj_V l Γ (cc, own, nL, ret, nm, R) G post σ I k n pc (a0 :: a1 :: x :: tl) (.ref v :: st) := by
  obtain ⟨p, e, s, m, args, below, meth, c, Q⟩ := Γ
  intro hC hK hr H locs ls hR hlo hL
  obtain ⟨hx, hb, hml, hown, hnm⟩ := id hC
  exact lv_astore_n hx hb d rfl hL.has hi rfl (fun ls' hl' => kk hC hK hr H locs ls' hR hlo (sj_L.stored (L := a0 :: a1 :: x :: tl) (fun w _ h2 => sj_c1_ok hc (Option.some.inj h2)) hl'))
theorem sj_astN2 {a0 a1 : Option Value} {x : Option Value} {tl : List (Option Value)}  (hi : 2 < nL) (hc : sj_c1 a1 = true) (d : decode cc pc = .ok (.astore_n 2, 1)) (kk : sj_V l Γ (cc, own, nL, ret, nm, R) G post σ I k n (pc + 1) (a0 :: a1 :: some (.null) :: tl) st) : sj_V l Γ (cc, own, nL, ret, nm, R) G post σ I k n pc (a0 :: a1 :: x :: tl) (.null :: st) := by
  obtain ⟨p, e, s, m, args, below, meth, c, Q⟩ := Γ
  intro hC hK hr H locs ls hR hlo hL
  obtain ⟨hx, hb, hml, hown, hnm⟩ := id hC
  exact lv_astore_nN hx hb d rfl hL.has hi rfl (fun ls' hl' => kk hC hK hr H locs ls' hR hlo (sj_L.stored (L := a0 :: a1 :: x :: tl) (fun w _ h2 => sj_c1_ok hc (Option.some.inj h2)) hl'))
theorem sj_inc2 {a0 a1 : Option Value} {tl : List (Option Value)} {a z : Int} (hi : 2 < nL) (hc : sj_c1 a1 = true) (d : decode cc pc = .ok (.iinc 2 z, 3)) (kk : sj_V l Γ (cc, own, nL, ret, nm, R) G post σ I k n (pc + 3) (a0 :: a1 :: some (.int (zI (a + z))) :: tl) st) : sj_V l Γ (cc, own, nL, ret, nm, R) G post σ I k n pc (a0 :: a1 :: some (.int (zI a)) :: tl) st := by
  obtain ⟨p, e, s, m, args, below, meth, c, Q⟩ := Γ
  intro hC hK hr H locs ls hR hlo hL
  obtain ⟨hx, hb, hml, hown, hnm⟩ := id hC
  obtain ⟨j, hj⟩ := List.getElem?_of_mem (sj_al_mem (L := a0 :: a1 :: some (.int (zI a)) :: tl) (i := 2) (v := .int (zI a)) |>.mpr rfl)
  exact lv_iinc (v := zI (a + z)) hx hb d hL.has hj (by rw [← zI_add]; rfl) hi rfl (fun ls' hl' => kk hC hK hr H locs ls' hR hlo (sj_L.stored (L := a0 :: a1 :: some (.int (zI a)) :: tl) (fun w _ h2 => sj_c1_ok hc (Option.some.inj h2)) hl'))
theorem sj_ild3 {a0 a1 a2 : Option Value} {tl : List (Option Value)} {v : Int32} (d : decode cc pc = .ok (.iload_n 3, 1)) (kk : sj_V l Γ (cc, own, nL, ret, nm, R) G post σ I k n (pc + 1) (a0 :: a1 :: a2 :: some (.int v) :: tl) (.int v :: st)) : sj_V l Γ (cc, own, nL, ret, nm, R) G post σ I k n pc (a0 :: a1 :: a2 :: some (.int v) :: tl) st := by
  obtain ⟨p, e, s, m, args, below, meth, c, Q⟩ := Γ
  intro hC hK hr H locs ls hR hlo hL
  obtain ⟨hx, hb, hml, hown, hnm⟩ := id hC
  exact lv_iload_n hx hb d rfl (hL.2.2 3 _ rfl) (kk hC hK hr H locs ls hR hlo hL)
theorem sj_ald3 {a0 a1 a2 : Option Value} {tl : List (Option Value)} {v : Nat} (d : decode cc pc = .ok (.aload_n 3, 1)) (kk : sj_V l Γ (cc, own, nL, ret, nm, R) G post σ I k n (pc + 1) (a0 :: a1 :: a2 :: some (.ref v) :: tl) (.ref v :: st)) : sj_V l Γ (cc, own, nL, ret, nm, R) G post σ I k n pc (a0 :: a1 :: a2 :: some (.ref v) :: tl) st := by
  obtain ⟨p, e, s, m, args, below, meth, c, Q⟩ := Γ
  intro hC hK hr H locs ls hR hlo hL
  obtain ⟨hx, hb, hml, hown, hnm⟩ := id hC
  exact lv_aload_n hx hb d rfl (hL.2.2 3 _ rfl) (kk hC hK hr H locs ls hR hlo hL)
theorem sj_aldN3 {a0 a1 a2 : Option Value} {tl : List (Option Value)}  (d : decode cc pc = .ok (.aload_n 3, 1)) (kk : sj_V l Γ (cc, own, nL, ret, nm, R) G post σ I k n (pc + 1) (a0 :: a1 :: a2 :: some (.null) :: tl) (.null :: st)) : sj_V l Γ (cc, own, nL, ret, nm, R) G post σ I k n pc (a0 :: a1 :: a2 :: some (.null) :: tl) st := by
  obtain ⟨p, e, s, m, args, below, meth, c, Q⟩ := Γ
  intro hC hK hr H locs ls hR hlo hL
  obtain ⟨hx, hb, hml, hown, hnm⟩ := id hC
  exact lv_aload_nN hx hb d rfl (hL.2.2 3 _ rfl) (kk hC hK hr H locs ls hR hlo hL)
theorem sj_ist3 {a0 a1 a2 : Option Value} {x : Option Value} {tl : List (Option Value)} {v : Int32} (hi : 3 < nL) (hc : sj_c1 a2 = true) (d : decode cc pc = .ok (.istore_n 3, 1)) (kk : sj_V l Γ (cc, own, nL, ret, nm, R) G post σ I k n (pc + 1) (a0 :: a1 :: a2 :: some (.int v) :: tl) st) : sj_V l Γ (cc, own, nL, ret, nm, R) G post σ I k n pc (a0 :: a1 :: a2 :: x :: tl) (.int v :: st) := by
  obtain ⟨p, e, s, m, args, below, meth, c, Q⟩ := Γ
  intro hC hK hr H locs ls hR hlo hL
  obtain ⟨hx, hb, hml, hown, hnm⟩ := id hC
  exact lv_istore_n hx hb d rfl hL.has hi rfl (fun ls' hl' => kk hC hK hr H locs ls' hR hlo (sj_L.stored (L := a0 :: a1 :: a2 :: x :: tl) (fun w _ h2 => sj_c1_ok hc (Option.some.inj h2)) hl'))
theorem sj_ast3 {a0 a1 a2 : Option Value} {x : Option Value} {tl : List (Option Value)} {v : Nat} (hi : 3 < nL) (hc : sj_c1 a2 = true) (d : decode cc pc = .ok (.astore_n 3, 1)) (kk : sj_V l Γ (cc, own, nL, ret, nm, R) G post σ I k n (pc + 1) (a0 :: a1 :: a2 :: some (.ref v) :: tl) st) : sj_V l Γ (cc, own, nL, ret, nm, R) G post σ I k n pc (a0 :: a1 :: a2 :: x :: tl) (.ref v :: st) := by
  obtain ⟨p, e, s, m, args, below, meth, c, Q⟩ := Γ
  intro hC hK hr H locs ls hR hlo hL
  obtain ⟨hx, hb, hml, hown, hnm⟩ := id hC
  exact lv_astore_n hx hb d rfl hL.has hi rfl (fun ls' hl' => kk hC hK hr H locs ls' hR hlo (sj_L.stored (L := a0 :: a1 :: a2 :: x :: tl) (fun w _ h2 => sj_c1_ok hc (Option.some.inj h2)) hl'))
theorem sj_astN3 {a0 a1 a2 : Option Value} {x : Option Value} {tl : List (Option Value)}  (hi : 3 < nL) (hc : sj_c1 a2 = true) (d : decode cc pc = .ok (.astore_n 3, 1)) (kk : sj_V l Γ (cc, own, nL, ret, nm, R) G post σ I k n (pc + 1) (a0 :: a1 :: a2 :: some (.null) :: tl) st) : sj_V l Γ (cc, own, nL, ret, nm, R) G post σ I k n pc (a0 :: a1 :: a2 :: x :: tl) (.null :: st) := by
  obtain ⟨p, e, s, m, args, below, meth, c, Q⟩ := Γ
  intro hC hK hr H locs ls hR hlo hL
  obtain ⟨hx, hb, hml, hown, hnm⟩ := id hC
  exact lv_astore_nN hx hb d rfl hL.has hi rfl (fun ls' hl' => kk hC hK hr H locs ls' hR hlo (sj_L.stored (L := a0 :: a1 :: a2 :: x :: tl) (fun w _ h2 => sj_c1_ok hc (Option.some.inj h2)) hl'))
theorem sj_inc3 {a0 a1 a2 : Option Value} {tl : List (Option Value)} {a z : Int} (hi : 3 < nL) (hc : sj_c1 a2 = true) (d : decode cc pc = .ok (.iinc 3 z, 3)) (kk : sj_V l Γ (cc, own, nL, ret, nm, R) G post σ I k n (pc + 3) (a0 :: a1 :: a2 :: some (.int (zI (a + z))) :: tl) st) : sj_V l Γ (cc, own, nL, ret, nm, R) G post σ I k n pc (a0 :: a1 :: a2 :: some (.int (zI a)) :: tl) st := by
  obtain ⟨p, e, s, m, args, below, meth, c, Q⟩ := Γ
  intro hC hK hr H locs ls hR hlo hL
  obtain ⟨hx, hb, hml, hown, hnm⟩ := id hC
  obtain ⟨j, hj⟩ := List.getElem?_of_mem (sj_al_mem (L := a0 :: a1 :: a2 :: some (.int (zI a)) :: tl) (i := 3) (v := .int (zI a)) |>.mpr rfl)
  exact lv_iinc (v := zI (a + z)) hx hb d hL.has hj (by rw [← zI_add]; rfl) hi rfl (fun ls' hl' => kk hC hK hr H locs ls' hR hlo (sj_L.stored (L := a0 :: a1 :: a2 :: some (.int (zI a)) :: tl) (fun w _ h2 => sj_c1_ok hc (Option.some.inj h2)) hl'))
theorem sj_ild4 {a0 a1 a2 a3 : Option Value} {tl : List (Option Value)} {v : Int32} (d : decode cc pc = .ok (.iload 4, 2)) (kk : sj_V l Γ (cc, own, nL, ret, nm, R) G post σ I k n (pc + 2) (a0 :: a1 :: a2 :: a3 :: some (.int v) :: tl) (.int v :: st)) : sj_V l Γ (cc, own, nL, ret, nm, R) G post σ I k n pc (a0 :: a1 :: a2 :: a3 :: some (.int v) :: tl) st := by
  obtain ⟨p, e, s, m, args, below, meth, c, Q⟩ := Γ
  intro hC hK hr H locs ls hR hlo hL
  obtain ⟨hx, hb, hml, hown, hnm⟩ := id hC
  exact lv_iload hx hb d (hL.2.2 4 _ rfl) (kk hC hK hr H locs ls hR hlo hL)
theorem sj_ald4 {a0 a1 a2 a3 : Option Value} {tl : List (Option Value)} {v : Nat} (d : decode cc pc = .ok (.aload 4, 2)) (kk : sj_V l Γ (cc, own, nL, ret, nm, R) G post σ I k n (pc + 2) (a0 :: a1 :: a2 :: a3 :: some (.ref v) :: tl) (.ref v :: st)) : sj_V l Γ (cc, own, nL, ret, nm, R) G post σ I k n pc (a0 :: a1 :: a2 :: a3 :: some (.ref v) :: tl) st := by
  obtain ⟨p, e, s, m, args, below, meth, c, Q⟩ := Γ
  intro hC hK hr H locs ls hR hlo hL
  obtain ⟨hx, hb, hml, hown, hnm⟩ := id hC
  exact lv_aload hx hb d (hL.2.2 4 _ rfl) (kk hC hK hr H locs ls hR hlo hL)
theorem sj_aldN4 {a0 a1 a2 a3 : Option Value} {tl : List (Option Value)}  (d : decode cc pc = .ok (.aload 4, 2)) (kk : sj_V l Γ (cc, own, nL, ret, nm, R) G post σ I k n (pc + 2) (a0 :: a1 :: a2 :: a3 :: some (.null) :: tl) (.null :: st)) : sj_V l Γ (cc, own, nL, ret, nm, R) G post σ I k n pc (a0 :: a1 :: a2 :: a3 :: some (.null) :: tl) st := by
  obtain ⟨p, e, s, m, args, below, meth, c, Q⟩ := Γ
  intro hC hK hr H locs ls hR hlo hL
  obtain ⟨hx, hb, hml, hown, hnm⟩ := id hC
  exact lv_aloadN hx hb d (hL.2.2 4 _ rfl) (kk hC hK hr H locs ls hR hlo hL)
theorem sj_ist4 {a0 a1 a2 a3 : Option Value} {x : Option Value} {tl : List (Option Value)} {v : Int32} (hi : 4 < nL) (hc : sj_c1 a3 = true) (d : decode cc pc = .ok (.istore 4, 2)) (kk : sj_V l Γ (cc, own, nL, ret, nm, R) G post σ I k n (pc + 2) (a0 :: a1 :: a2 :: a3 :: some (.int v) :: tl) st) : sj_V l Γ (cc, own, nL, ret, nm, R) G post σ I k n pc (a0 :: a1 :: a2 :: a3 :: x :: tl) (.int v :: st) := by
  obtain ⟨p, e, s, m, args, below, meth, c, Q⟩ := Γ
  intro hC hK hr H locs ls hR hlo hL
  obtain ⟨hx, hb, hml, hown, hnm⟩ := id hC
  exact lv_istore hx hb d hL.has hi rfl (fun ls' hl' => kk hC hK hr H locs ls' hR hlo (sj_L.stored (L := a0 :: a1 :: a2 :: a3 :: x :: tl) (fun w _ h2 => sj_c1_ok hc (Option.some.inj h2)) hl'))
theorem sj_ast4 {a0 a1 a2 a3 : Option Value} {x : Option Value} {tl : List (Option Value)} {v : Nat} (hi : 4 < nL) (hc : sj_c1 a3 = true) (d : decode cc pc = .ok (.astore 4, 2)) (kk : sj_V l Γ (cc, own, nL, ret, nm, R) G post σ I k n (pc + 2) (a0 :: a1 :: a2 :: a3 :: some (.ref v) :: tl) st) : sj_V l Γ (cc, own, nL, ret, nm, R) G post σ I k n pc (a0 :: a1 :: a2 :: a3 :: x :: tl) (.ref v :: st) := by
  obtain ⟨p, e, s, m, args, below, meth, c, Q⟩ := Γ
  intro hC hK hr H locs ls hR hlo hL
  obtain ⟨hx, hb, hml, hown, hnm⟩ := id hC
  exact lv_astore hx hb d hL.has hi rfl (fun ls' hl' => kk hC hK hr H locs ls' hR hlo (sj_L.stored (L := a0 :: a1 :: a2 :: a3 :: x :: tl) (fun w _ h2 => sj_c1_ok hc (Option.some.inj h2)) hl'))
theorem sj_astN4 {a0 a1 a2 a3 : Option Value} {x : Option Value} {tl : List (Option Value)}  (hi : 4 < nL) (hc : sj_c1 a3 = true) (d : decode cc pc = .ok (.astore 4, 2)) (kk : sj_V l Γ (cc, own, nL, ret, nm, R) G post σ I k n (pc + 2) (a0 :: a1 :: a2 :: a3 :: some (.null) :: tl) st) : sj_V l Γ (cc, own, nL, ret, nm, R) G post σ I k n pc (a0 :: a1 :: a2 :: a3 :: x :: tl) (.null :: st) := by
  obtain ⟨p, e, s, m, args, below, meth, c, Q⟩ := Γ
  intro hC hK hr H locs ls hR hlo hL
  obtain ⟨hx, hb, hml, hown, hnm⟩ := id hC
  exact lv_astoreN hx hb d hL.has hi rfl (fun ls' hl' => kk hC hK hr H locs ls' hR hlo (sj_L.stored (L := a0 :: a1 :: a2 :: a3 :: x :: tl) (fun w _ h2 => sj_c1_ok hc (Option.some.inj h2)) hl'))
theorem sj_inc4 {a0 a1 a2 a3 : Option Value} {tl : List (Option Value)} {a z : Int} (hi : 4 < nL) (hc : sj_c1 a3 = true) (d : decode cc pc = .ok (.iinc 4 z, 3)) (kk : sj_V l Γ (cc, own, nL, ret, nm, R) G post σ I k n (pc + 3) (a0 :: a1 :: a2 :: a3 :: some (.int (zI (a + z))) :: tl) st) : sj_V l Γ (cc, own, nL, ret, nm, R) G post σ I k n pc (a0 :: a1 :: a2 :: a3 :: some (.int (zI a)) :: tl) st := by
  obtain ⟨p, e, s, m, args, below, meth, c, Q⟩ := Γ
  intro hC hK hr H locs ls hR hlo hL
  obtain ⟨hx, hb, hml, hown, hnm⟩ := id hC
  obtain ⟨j, hj⟩ := List.getElem?_of_mem (sj_al_mem (L := a0 :: a1 :: a2 :: a3 :: some (.int (zI a)) :: tl) (i := 4) (v := .int (zI a)) |>.mpr rfl)
  exact lv_iinc (v := zI (a + z)) hx hb d hL.has hj (by rw [← zI_add]; rfl) hi rfl (fun ls' hl' => kk hC hK hr H locs ls' hR hlo (sj_L.stored (L := a0 :: a1 :: a2 :: a3 :: some (.int (zI a)) :: tl) (fun w _ h2 => sj_c1_ok hc (Option.some.inj h2)) hl'))
theorem sj_ild5 {a0 a1 a2 a3 a4 : Option Value} {tl : List (Option Value)} {v : Int32} (d : decode cc pc = .ok (.iload 5, 2)) (kk : sj_V l Γ (cc, own, nL, ret, nm, R) G post σ I k n (pc + 2) (a0 :: a1 :: a2 :: a3 :: a4 :: some (.int v) :: tl) (.int v :: st)) : sj_V l Γ (cc, own, nL, ret, nm, R) G post σ I k n pc (a0 :: a1 :: a2 :: a3 :: a4 :: some (.int v) :: tl) st := by
  obtain ⟨p, e, s, m, args, below, meth, c, Q⟩ := Γ
  intro hC hK hr H locs ls hR hlo hL
  obtain ⟨hx, hb, hml, hown, hnm⟩ := id hC
  exact lv_iload hx hb d (hL.2.2 5 _ rfl) (kk hC hK hr H locs ls hR hlo hL)
theorem sj_ald5 {a0 a1 a2 a3 a4 : Option Value} {tl : List (Option Value)} {v : Nat} (d : decode cc pc = .ok (.aload 5, 2)) (kk : sj_V l Γ (cc, own, nL, ret, nm, R) G post σ I k n (pc + 2) (a0 :: a1 :: a2 :: a3 :: a4 :: some (.ref v) :: tl) (.ref v :: st)) : sj_V l Γ (cc, own, nL, ret, nm, R) G post σ I k n pc (a0 :: a1 :: a2 :: a3 :: a4 :: some (.ref v) :: tl) st := by
  obtain ⟨p, e, s, m, args, below, meth, c, Q⟩ := Γ
  intro hC hK hr H locs ls hR hlo hL
  obtain ⟨hx, hb, hml, hown, hnm⟩ := id hC
  exact lv_aload hx hb d (hL.2.2 5 _ rfl) (kk hC hK hr H locs ls hR hlo hL)
theorem sj_aldN5 {a0 a1 a2 a3 a4 : Option Value} {tl : List (Option Value)}  (d : decode cc pc = .ok (.aload 5, 2)) (kk : sj_V l Γ (cc, own, nL, ret, nm, R) G post σ I k n (pc + 2) (a0 :: a1 :: a2 :: a3 :: a4 :: some (.null) :: tl) (.null :: st)) : sj_V l Γ (cc, own, nL, ret, nm, R) G post σ I k n pc (a0 :: a1 :: a2 :: a3 :: a4 :: some (.null) :: tl) st := by
  obtain ⟨p, e, s, m, args, below, meth, c, Q⟩ := Γ
  intro hC hK hr H locs ls hR hlo hL
  obtain ⟨hx, hb, hml, hown, hnm⟩ := id hC
  exact lv_aloadN hx hb d (hL.2.2 5 _ rfl) (kk hC hK hr H locs ls hR hlo hL)
theorem sj_ist5 {a0 a1 a2 a3 a4 : Option Value} {x : Option Value} {tl : List (Option Value)} {v : Int32} (hi : 5 < nL) (hc : sj_c1 a4 = true) (d : decode cc pc = .ok (.istore 5, 2)) (kk : sj_V l Γ (cc, own, nL, ret, nm, R) G post σ I k n (pc + 2) (a0 :: a1 :: a2 :: a3 :: a4 :: some (.int v) :: tl) st) : sj_V l Γ (cc, own, nL, ret, nm, R) G post σ I k n pc (a0 :: a1 :: a2 :: a3 :: a4 :: x :: tl) (.int v :: st) := by
  obtain ⟨p, e, s, m, args, below, meth, c, Q⟩ := Γ
  intro hC hK hr H locs ls hR hlo hL
  obtain ⟨hx, hb, hml, hown, hnm⟩ := id hC
  exact lv_istore hx hb d hL.has hi rfl (fun ls' hl' => kk hC hK hr H locs ls' hR hlo (sj_L.stored (L := a0 :: a1 :: a2 :: a3 :: a4 :: x :: tl) (fun w _ h2 => sj_c1_ok hc (Option.some.inj h2)) hl'))
theorem sj_ast5 {a0 a1 a2 a3 a4 : Option Value} {x : Option Value} {tl : List (Option Value)} {v : Nat} (hi : 5 < nL) (hc : sj_c1 a4 = true) (d : decode cc pc = .ok (.astore 5, 2)) (kk : sj_V l Γ (cc, own, nL, ret, nm, R) G post σ I k n (pc + 2) (a0 :: a1 :: a2 :: a3 :: a4 :: some (.ref v) :: tl) st) : sj_V l Γ (cc, own, nL, ret, nm, R) G post σ I k n pc (a0 :: a1 :: a2 :: a3 :: a4 :: x :: tl) (.ref v :: st) := by
  obtain ⟨p, e, s, m, args, below, meth, c, Q⟩ := Γ
  intro hC hK hr H locs ls hR hlo hL
  obtain ⟨hx, hb, hml, hown, hnm⟩ := id hC
  exact lv_astore hx hb d hL.has hi rfl (fun ls' hl' => kk hC hK hr H locs ls' hR hlo (sj_L.stored (L := a0 :: a1 :: a2 :: a3 :: a4 :: x :: tl) (fun w _ h2 => sj_c1_ok hc (Option.some.inj h2)) hl'))
theorem sj_astN5 {a0 a1 a2 a3 a4 : Option Value} {x : Option Value} {tl : List (Option Value)}  (hi : 5 < nL) (hc : sj_c1 a4 = true) (d : decode cc pc = .ok (.astore 5, 2)) (kk : sj_V l Γ (cc, own, nL, ret, nm, R) G post σ I k n (pc + 2) (a0 :: a1 :: a2 :: a3 :: a4 :: some (.null) :: tl) st) : sj_V l Γ (cc, own, nL, ret, nm, R) G post σ I k n pc (a0 :: a1 :: a2 :: a3 :: a4 :: x :: tl) (.null :: st) := by
  obtain ⟨p, e, s, m, args, below, meth, c, Q⟩ := Γ
  intro hC hK hr H locs ls hR hlo hL
  obtain ⟨hx, hb, hml, hown, hnm⟩ := id hC
  exact lv_astoreN hx hb d hL.has hi rfl (fun ls' hl' => kk hC hK hr H locs ls' hR hlo (sj_L.stored (L := a0 :: a1 :: a2 :: a3 :: a4 :: x :: tl) (fun w _ h2 => sj_c1_ok hc (Option.some.inj h2)) hl'))
theorem sj_inc5 {a0 a1 a2 a3 a4 : Option Value} {tl : List (Option Value)} {a z : Int} (hi : 5 < nL) (hc : sj_c1 a4 = true) (d : decode cc pc = .ok (.iinc 5 z, 3)) (kk : sj_V l Γ (cc, own, nL, ret, nm, R) G post σ I k n (pc + 3) (a0 :: a1 :: a2 :: a3 :: a4 :: some (.int (zI (a + z))) :: tl) st) : sj_V l Γ (cc, own, nL, ret, nm, R) G post σ I k n pc (a0 :: a1 :: a2 :: a3 :: a4 :: some (.int (zI a)) :: tl) st := by
  obtain ⟨p, e, s, m, args, below, meth, c, Q⟩ := Γ
  intro hC hK hr H locs ls hR hlo hL
  obtain ⟨hx, hb, hml, hown, hnm⟩ := id hC
  obtain ⟨j, hj⟩ := List.getElem?_of_mem (sj_al_mem (L := a0 :: a1 :: a2 :: a3 :: a4 :: some (.int (zI a)) :: tl) (i := 5) (v := .int (zI a)) |>.mpr rfl)
  exact lv_iinc (v := zI (a + z)) hx hb d hL.has hj (by rw [← zI_add]; rfl) hi rfl (fun ls' hl' => kk hC hK hr H locs ls' hR hlo (sj_L.stored (L := a0 :: a1 :: a2 :: a3 :: a4 :: some (.int (zI a)) :: tl) (fun w _ h2 => sj_c1_ok hc (Option.some.inj h2)) hl'))
theorem sj_ild6 {a0 a1 a2 a3 a4 a5 : Option Value} {tl : List (Option Value)} {v : Int32} (d : decode cc pc = .ok (.iload 6, 2)) (kk : sj_V l Γ (cc, own, nL, ret, nm, R) G post σ I k n (pc + 2) (a0 :: a1 :: a2 :: a3 :: a4 :: a5 :: some (.int v) :: tl) (.int v :: st)) : sj_V l Γ (cc, own, nL, ret, nm, R) G post σ I k n pc (a0 :: a1 :: a2 :: a3 :: a4 :: a5 :: some (.int v) :: tl) st := by
  obtain ⟨p, e, s, m, args, below, meth, c, Q⟩ := Γ
  intro hC hK hr H locs ls hR hlo hL
  obtain ⟨hx, hb, hml, hown, hnm⟩ := id hC
  exact lv_iload hx hb d (hL.2.2 6 _ rfl) (kk hC hK hr H locs ls hR hlo hL)
theorem sj_ald6 {a0 a1 a2 a3 a4 a5 : Option Value} {tl : List (Option Value)} {v : Nat} (d : decode cc pc = .ok (.aload 6, 2)) (kk : sj_V l Γ (cc, own, nL, ret, nm, R) G post σ I k n (pc + 2) (a0 :: a1 :: a2 :: a3 :: a4 :: a5 :: some (.ref v) :: tl) (.ref v :: st)) : sj_V l Γ (cc, own, nL, ret, nm, R) G post σ I k n pc (a0 :: a1 :: a2 :: a3 :: a4 :: a5 :: some (.ref v) :: tl) st := by
  obtain ⟨p, e, s, m, args, below, meth, c, Q⟩ := Γ
  intro hC hK hr H locs ls hR hlo hL
  obtain ⟨hx, hb, hml, hown, hnm⟩ := id hC
  exact lv_aload hx hb d (hL.2.2 6 _ rfl) (kk hC hK hr H locs ls hR hlo hL)
theorem sj_aldN6 {a0 a1 a2 a3 a4 a5 : Option Value} {tl : List (Option Value)}  (d : decode cc pc = .ok (.aload 6, 2)) (kk : sj_V l Γ (cc, own, nL, ret, nm, R) G post σ I k n (pc + 2) (a0 :: a1 :: a2 :: a3 :: a4 :: a5 :: some (.null) :: tl) (.null :: st)) : sj_V l Γ (cc, own, nL, ret, nm, R) G post σ I k n pc (a0 :: a1 :: a2 :: a3 :: a4 :: a5 :: some (.null) :: tl) st := by
  obtain ⟨p, e, s, m, args, below, meth, c, Q⟩ := Γ
  intro hC hK hr H locs ls hR hlo hL
  obtain ⟨hx, hb, hml, hown, hnm⟩ := id hC
  exact lv_aloadN hx hb d (hL.2.2 6 _ rfl) (kk hC hK hr H locs ls hR hlo hL)
theorem sj_ist6 {a0 a1 a2 a3 a4 a5 : Option Value} {x : Option Value} {tl : List (Option Value)} {v : Int32} (hi : 6 < nL) (hc : sj_c1 a5 = true) (d : decode cc pc = .ok (.istore 6, 2)) (kk : sj_V l Γ (cc, own, nL, ret, nm, R) G post σ I k n (pc + 2) (a0 :: a1 :: a2 :: a3 :: a4 :: a5 :: some (.int v) :: tl) st) : sj_V l Γ (cc, own, nL, ret, nm, R) G post σ I k n pc (a0 :: a1 :: a2 :: a3 :: a4 :: a5 :: x :: tl) (.int v :: st) := by
  obtain ⟨p, e, s, m, args, below, meth, c, Q⟩ := Γ
  intro hC hK hr H locs ls hR hlo hL
  obtain ⟨hx, hb, hml, hown, hnm⟩ := id hC
  exact lv_istore hx hb d hL.has hi rfl (fun ls' hl' => kk hC hK hr H locs ls' hR hlo (sj_L.stored (L := a0 :: a1 :: a2 :: a3 :: a4 :: a5 :: x :: tl) (fun w _ h2 => sj_c1_ok hc (Option.some.inj h2)) hl'))
theorem sj_ast6 {a0 a1 a2 a3 a4 a5 : Option Value} {x : Option Value} {tl : List (Option Value)} {v : Nat} (hi : 6 < nL) (hc : sj_c1 a5 = true) (d : decode cc pc = .ok (.astore 6, 2)) (kk : sj_V l Γ (cc, own, nL, ret, nm, R) G post σ I k n (pc + 2) (a0 :: a1 :: a2 :: a3 :: a4 :: a5 :: some (.ref v) :: tl) st) : sj_V l Γ (cc, own, nL, ret, nm, R) G post σ I k n pc (a0 :: a1 :: a2 :: a3 :: a4 :: a5 :: x :: tl) (.ref v :: st) := by
  obtain ⟨p, e, s, m, args, below, meth, c, Q⟩ := Γ
  intro hC hK hr H locs ls hR hlo hL
  obtain ⟨hx, hb, hml, hown, hnm⟩ := id hC
  exact lv_astore hx hb d hL.has hi rfl (fun ls' hl' => kk hC hK hr H locs ls' hR hlo (sj_L.stored (L := a0 :: a1 :: a2 :: a3 :: a4 :: a5 :: x :: tl) (fun w _ h2 => sj_c1_ok hc (Option.some.inj h2)) hl'))
theorem sj_astN6 {a0 a1 a2 a3 a4 a5 : Option Value} {x : Option Value} {tl : List (Option Value)}  (hi : 6 < nL) (hc : sj_c1 a5 = true) (d : decode cc pc = .ok (.astore 6, 2)) (kk : sj_V l Γ (cc, own, nL, ret, nm, R) G post σ I k n (pc + 2) (a0 :: a1 :: a2 :: a3 :: a4 :: a5 :: some (.null) :: tl) st) : sj_V l Γ (cc, own, nL, ret, nm, R) G post σ I k n pc (a0 :: a1 :: a2 :: a3 :: a4 :: a5 :: x :: tl) (.null :: st) := by
  obtain ⟨p, e, s, m, args, below, meth, c, Q⟩ := Γ
  intro hC hK hr H locs ls hR hlo hL
  obtain ⟨hx, hb, hml, hown, hnm⟩ := id hC
  exact lv_astoreN hx hb d hL.has hi rfl (fun ls' hl' => kk hC hK hr H locs ls' hR hlo (sj_L.stored (L := a0 :: a1 :: a2 :: a3 :: a4 :: a5 :: x :: tl) (fun w _ h2 => sj_c1_ok hc (Option.some.inj h2)) hl'))
theorem sj_inc6 {a0 a1 a2 a3 a4 a5 : Option Value} {tl : List (Option Value)} {a z : Int} (hi : 6 < nL) (hc : sj_c1 a5 = true) (d : decode cc pc = .ok (.iinc 6 z, 3)) (kk : sj_V l Γ (cc, own, nL, ret, nm, R) G post σ I k n (pc + 3) (a0 :: a1 :: a2 :: a3 :: a4 :: a5 :: some (.int (zI (a + z))) :: tl) st) : sj_V l Γ (cc, own, nL, ret, nm, R) G post σ I k n pc (a0 :: a1 :: a2 :: a3 :: a4 :: a5 :: some (.int (zI a)) :: tl) st := by
  obtain ⟨p, e, s, m, args, below, meth, c, Q⟩ := Γ
  intro hC hK hr H locs ls hR hlo hL
  obtain ⟨hx, hb, hml, hown, hnm⟩ := id hC
  obtain ⟨j, hj⟩ := List.getElem?_of_mem (sj_al_mem (L := a0 :: a1 :: a2 :: a3 :: a4 :: a5 :: some (.int (zI a)) :: tl) (i := 6) (v := .int (zI a)) |>.mpr rfl)
  exact lv_iinc (v := zI (a + z)) hx hb d hL.has hj (by rw [← zI_add]; rfl) hi rfl (fun ls' hl' => kk hC hK hr H locs ls' hR hlo (sj_L.stored (L := a0 :: a1 :: a2 :: a3 :: a4 :: a5 :: some (.int (zI a)) :: tl) (fun w _ h2 => sj_c1_ok hc (Option.some.inj h2)) hl'))
theorem sj_ild7 {a0 a1 a2 a3 a4 a5 a6 : Option Value} {tl : List (Option Value)} {v : Int32} (d : decode cc pc = .ok (.iload 7, 2)) (kk : sj_V l Γ (cc, own, nL, ret, nm, R) G post σ I k n (pc + 2) (a0 :: a1 :: a2 :: a3 :: a4 :: a5 :: a6 :: some (.int v) :: tl) (.int v :: st)) : sj_V l Γ (cc, own, nL, ret, nm, R) G post σ I k n pc (a0 :: a1 :: a2 :: a3 :: a4 :: a5 :: a6 :: some (.int v) :: tl) st := by
  obtain ⟨p, e, s, m, args, below, meth, c, Q⟩ := Γ
  intro hC hK hr H locs ls hR hlo hL
  obtain ⟨hx, hb, hml, hown, hnm⟩ := id hC
  exact lv_iload hx hb d (hL.2.2 7 _ rfl) (kk hC hK hr H locs ls hR hlo hL)
theorem sj_ald7 {a0 a1 a2 a3 a4 a5 a6 : Option Value} {tl : List (Option Value)} {v : Nat} (d : decode cc pc = .ok (.aload 7, 2)) (kk : sj_V l Γ (cc, own, nL, ret, nm, R) G post σ I k n (pc + 2) (a0 :: a1 :: a2 :: a3 :: a4 :: a5 :: a6 :: some (.ref v) :: tl) (.ref v :: st)) : sj_V l Γ (cc, own, nL, ret, nm, R) G post σ I k n pc (a0 :: a1 :: a2 :: a3 :: a4 :: a5 :: a6 :: some (.ref v) :: tl) st := by
  obtain ⟨p, e, s, m, args, below, meth, c, Q⟩ := Γ
  intro hC hK hr H locs ls hR hlo hL
  obtain ⟨hx, hb, hml, hown, hnm⟩ := id hC
  exact lv_aload hx hb d (hL.2.2 7 _ rfl) (kk hC hK hr H locs ls hR hlo hL)
theorem sj_aldN7 {a0 a1 a2 a3 a4 a5 a6 : Option Value} {tl : List (Option Value)}  (d : decode cc pc = .ok (.aload 7, 2)) (kk : sj_V l Γ (cc, own, nL, ret, nm, R) G post σ I k n (pc + 2) (a0 :: a1 :: a2 :: a3 :: a4 :: a5 :: a6 :: some (.null) :: tl) (.null :: st)) : sj_V l Γ (cc, own, nL, ret, nm, R) G post σ I k n pc (a0 :: a1 :: a2 :: a3 :: a4 :: a5 :: a6 :: some (.null) :: tl) st := by
  obtain ⟨p, e, s, m, args, below, meth, c, Q⟩ := Γ
  intro hC hK hr H locs ls hR hlo hL
  obtain ⟨hx, hb, hml, hown, hnm⟩ := id hC
  exact lv_aloadN hx hb d (hL.2.2 7 _ rfl) (kk hC hK hr H locs ls hR hlo hL)
theorem sj_ist7 {a0 a1 a2 a3 a4 a5 a6 : Option Value} {x : Option Value} {tl : List (Option Value)} {v : Int32} (hi : 7 < nL) (hc : sj_c1 a6 = true) (d : decode cc pc = .ok (.istore 7, 2)) (kk : sj_V l Γ (cc, own, nL, ret, nm, R) G post σ I k n (pc + 2) (a0 :: a1 :: a2 :: a3 :: a4 :: a5 :: a6 :: some (.int v) :: tl) st) : sj_V l Γ (cc, own, nL, ret, nm, R) G post σ I k n pc (a0 :: a1 :: a2 :: a3 :: a4 :: a5 :: a6 :: x :: tl) (.int v :: st) := by
  obtain ⟨p, e, s, m, args, below, meth, c, Q⟩ := Γ
  intro hC hK hr H locs ls hR hlo hL
  obtain ⟨hx, hb, hml, hown, hnm⟩ := id hC
  exact lv_istore hx hb d hL.has hi rfl (fun ls' hl' => kk hC hK hr H locs ls' hR hlo (sj_L.stored (L := a0 :: a1 :: a2 :: a3 :: a4 :: a5 :: a6 :: x :: tl) (fun w _ h2 => sj_c1_ok hc (Option.some.inj h2)) hl'))
theorem sj_ast7 {a0 a1 a2 a3 a4 a5 a6 : Option Value} {x : Option Value} {tl : List (Option Value)} {v : Nat} (hi : 7 < nL) (hc : sj_c1 a6 = true) (d : decode cc pc = .ok (.astore 7, 2)) (kk : sj_V l Γ (cc, own, nL, ret, nm, R) G post σ I k n (pc + 2) (a0 :: a1 :: a2 :: a3 :: a4 :: a5 :: a6 :: some (.ref v) :: tl) st) : sj_V l Γ (cc, own, nL, ret, nm, R) G post σ I k n pc (a0 :: a1 :: a2 :: a3 :: a4 :: a5 :: a6 :: x :: tl) (.ref v :: st) := by
  obtain ⟨p, e, s, m, args, below, meth, c, Q⟩ := Γ
  intro hC hK hr H locs ls hR hlo hL
  obtain ⟨hx, hb, hml, hown, hnm⟩ := id hC
  exact lv_astore hx hb d hL.has hi rfl (fun ls' hl' => kk hC hK hr H locs ls' hR hlo (sj_L.stored (L := a0 :: a1 :: a2 :: a3 :: a4 :: a5 :: a6 :: x :: tl) (fun w _ h2 => sj_c1_ok hc (Option.some.inj h2)) hl'))
theorem sj_astN7 {a0 a1 a2 a3 a4 a5 a6 : Option Value} {x : Option Value} {tl : List (Option Value)}  (hi : 7 < nL) (hc : sj_c1 a6 = true) (d : decode cc pc = .ok (.astore 7, 2)) (kk : sj_V l Γ (cc, own, nL, ret, nm, R) G post σ I k n (pc + 2) (a0 :: a1 :: a2 :: a3 :: a4 :: a5 :: a6 :: some (.null) :: tl) st) : sj_V l Γ (cc, own, nL, ret, nm, R) G post σ I k n pc (a0 :: a1 :: a2 :: a3 :: a4 :: a5 :: a6 :: x :: tl) (.null :: st) := by
  obtain ⟨p, e, s, m, args, below, meth, c, Q⟩ := Γ
  intro hC hK hr H locs ls hR hlo hL
  obtain ⟨hx, hb, hml, hown, hnm⟩ := id hC
  exact lv_astoreN hx hb d hL.has hi rfl (fun ls' hl' => kk hC hK hr H locs ls' hR hlo (sj_L.stored (L := a0 :: a1 :: a2 :: a3 :: a4 :: a5 :: a6 :: x :: tl) (fun w _ h2 => sj_c1_ok hc (Option.some.inj h2)) hl'))
theorem sj_inc7 {a0 a1 a2 a3 a4 a5 a6 : Option Value} {tl : List (Option Value)} {a z : Int} (hi : 7 < nL) (hc : sj_c1 a6 = true) (d : decode cc pc = .ok (.iinc 7 z, 3)) (kk : sj_V l Γ (cc, own, nL, ret, nm, R) G post σ I k n (pc + 3) (a0 :: a1 :: a2 :: a3 :: a4 :: a5 :: a6 :: some (.int (zI (a + z))) :: tl) st) : sj_V l Γ (cc, own, nL, ret, nm, R) G post σ I k n pc (a0 :: a1 :: a2 :: a3 :: a4 :: a5 :: a6 :: some (.int (zI a)) :: tl) st := by
  obtain ⟨p, e, s, m, args, below, meth, c, Q⟩ := Γ
  intro hC hK hr H locs ls hR hlo hL
  obtain ⟨hx, hb, hml, hown, hnm⟩ := id hC
  obtain ⟨j, hj⟩ := List.getElem?_of_mem (sj_al_mem (L := a0 :: a1 :: a2 :: a3 :: a4 :: a5 :: a6 :: some (.int (zI a)) :: tl) (i := 7) (v := .int (zI a)) |>.mpr rfl)
  exact lv_iinc (v := zI (a + z)) hx hb d hL.has hj (by rw [← zI_add]; rfl) hi rfl (fun ls' hl' => kk hC hK hr H locs ls' hR hlo (sj_L.stored (L := a0 :: a1 :: a2 :: a3 :: a4 :: a5 :: a6 :: some (.int (zI a)) :: tl) (fun w _ h2 => sj_c1_ok hc (Option.some.inj h2)) hl'))
theorem sj_ild8 {a0 a1 a2 a3 a4 a5 a6 a7 : Option Value} {tl : List (Option Value)} {v : Int32} (d : decode cc pc = .ok (.iload 8, 2)) (kk : sj_V l Γ (cc, own, nL, ret, nm, R) G post σ I k n (pc + 2) (a0 :: a1 :: a2 :: a3 :: a4 :: a5 :: a6 :: a7 :: some (.int v) :: tl) (.int v :: st)) : sj_V l Γ (cc, own, nL, ret, nm, R) G post σ I k n pc (a0 :: a1 :: a2 :: a3 :: a4 :: a5 :: a6 :: a7 :: some (.int v) :: tl) st := by
  obtain ⟨p, e, s, m, args, below, meth, c, Q⟩ := Γ
  intro hC hK hr H locs ls hR hlo hL
  obtain ⟨hx, hb, hml, hown, hnm⟩ := id hC
  exact lv_iload hx hb d (hL.2.2 8 _ rfl) (kk hC hK hr H locs ls hR hlo hL)
theorem sj_ald8 {a0 a1 a2 a3 a4 a5 a6 a7 : Option Value} {tl : List (Option Value)} {v : Nat} (d : decode cc pc = .ok (.aload 8, 2)) (kk : sj_V l Γ (cc, own, nL, ret, nm, R) G post σ I k n (pc + 2) (a0 :: a1 :: a2 :: a3 :: a4 :: a5 :: a6 :: a7 :: some (.ref v) :: tl) (.ref v :: st)) : sj_V l Γ (cc, own, nL, ret, nm, R) G post σ I k n pc (a0 :: a1 :: a2 :: a3 :: a4 :: a5 :: a6 :: a7 :: some (.ref v) :: tl) st := by
  obtain ⟨p, e, s, m, args, below, meth, c, Q⟩ := Γ
  intro hC hK hr H locs ls hR hlo hL
  obtain ⟨hx, hb, hml, hown, hnm⟩ := id hC
  exact lv_aload hx hb d (hL.2.2 8 _ rfl) (kk hC hK hr H locs ls hR hlo hL)
theorem sj_aldN8 {a0 a1 a2 a3 a4 a5 a6 a7 : Option Value} {tl : List (Option Value)}  (d : decode cc pc = .ok (.aload 8, 2)) (kk : sj_V l Γ (cc, own, nL, ret, nm, R) G post σ I k n (pc + 2) (a0 :: a1 :: a2 :: a3 :: a4 :: a5 :: a6 :: a7 :: some (.null) :: tl) (.null :: st)) : sj_V l Γ (cc, own, nL, ret, nm, R) G post σ I k n pc (a0 :: a1 :: a2 :: a3 :: a4 :: a5 :: a6 :: a7 :: some (.null) :: tl) st := by
  obtain ⟨p, e, s, m, args, below, meth, c, Q⟩ := Γ
  intro hC hK hr H locs ls hR hlo hL
  obtain ⟨hx, hb, hml, hown, hnm⟩ := id hC
  exact lv_aloadN hx hb d (hL.2.2 8 _ rfl) (kk hC hK hr H locs ls hR hlo hL)
theorem sj_ist8 {a0 a1 a2 a3 a4 a5 a6 a7 : Option Value} {x : Option Value} {tl : List (Option Value)} {v : Int32} (hi : 8 < nL) (hc : sj_c1 a7 = true) (d : decode cc pc = .ok (.istore 8, 2)) (kk : sj_V l Γ (cc, own, nL, ret, nm, R) G post σ I k n (pc + 2) (a0 :: a1 :: a2 :: a3 :: a4 :: a5 :: a6 :: a7 :: some (.int v) :: tl) st) : sj_V l Γ (cc, own, nL, ret, nm, R) G post σ I k n pc (a0 :: a1 :: a2 :: a3 :: a4 :: a5 :: a6 :: a7 :: x :: tl) (.int v :: st) := by
  obtain ⟨p, e, s, m, args, below, meth, c, Q⟩ := Γ
  intro hC hK hr H locs ls hR hlo hL
  obtain ⟨hx, hb, hml, hown, hnm⟩ := id hC
  exact lv_istore hx hb d hL.has hi rfl (fun ls' hl' => kk hC hK hr H locs ls' hR hlo (sj_L.stored (L := a0 :: a1 :: a2 :: a3 :: a4 :: a5 :: a6 :: a7 :: x :: tl) (fun w _ h2 => sj_c1_ok hc (Option.some.inj h2)) hl'))
theorem sj_ast8 {a0 a1 a2 a3 a4 a5 a6 a7 : Option Value} {x : Option Value} {tl : List (Option Value)} {v : Nat} (hi : 8 < nL) (hc : sj_c1 a7 = true) (d : decode cc pc = .ok (.astore 8, 2)) (kk : sj_V l Γ (cc, own, nL, ret, nm, R) G post σ I k n (pc + 2) (a0 :: a1 :: a2 :: a3 :: a4 :: a5 :: a6 :: a7 :: some (.ref v) :: tl) st) : sj_V l Γ (cc, own, nL, ret, nm, R) G post σ I k n pc (a0 :: a1 :: a2 :: a3 :: a4 :: a5 :: a6 :: a7 :: x :: tl) (.ref v :: st) := by
  obtain ⟨p, e, s, m, args, below, meth, c, Q⟩ := Γ
  intro hC hK hr H locs ls hR hlo hL
  obtain ⟨hx, hb, hml, hown, hnm⟩ := id hC
  exact lv_astore hx hb d hL.has hi rfl (fun ls' hl' => kk hC hK hr H locs ls' hR hlo (sj_L.stored (L := a0 :: a1 :: a2 :: a3 :: a4 :: a5 :: a6 :: a7 :: x :: tl) (fun w _ h2 => sj_c1_ok hc (Option.some.inj h2)) hl'))
theorem sj_astN8 {a0 a1 a2 a3 a4 a5 a6 a7 : Option Value} {x : Option Value} {tl : List (Option Value)}  (hi : 8 < nL) (hc : sj_c1 a7 = true) (d : decode cc pc = .ok (.astore 8, 2)) (kk : sj_V l Γ (cc, own, nL, ret, nm, R) G post σ I k n (pc + 2) (a0 :: a1 :: a2 :: a3 :: a4 :: a5 :: a6 :: a7 :: some (.null) :: tl) st) : sj_V l Γ (cc, own, nL, ret, nm, R) G post σ I k n pc (a0 :: a1 :: a2 :: a3 :: a4 :: a5 :: a6 :: a7 :: x :: tl) (.null :: st) := by
  obtain ⟨p, e, s, m, args, below, meth, c, Q⟩ := Γ
  intro hC hK hr H locs ls hR hlo hL
  obtain ⟨hx, hb, hml, hown, hnm⟩ := id hC
  exact lv_astoreN hx hb d hL.has hi rfl (fun ls' hl' => kk hC hK hr H locs ls' hR hlo (sj_L.stored (L := a0 :: a1 :: a2 :: a3 :: a4 :: a5 :: a6 :: a7 :: x :: tl) (fun w _ h2 => sj_c1_ok hc (Option.some.inj h2)) hl'))
theorem sj_inc8 {a0 a1 a2 a3 a4 a5 a6 a7 : Option Value} {tl : List (Option Value)} {a z : Int} (hi : 8 < nL) (hc : sj_c1 a7 = true) (d : decode cc pc = .ok (.iinc 8 z, 3)) (kk : sj_V l Γ (cc, own, nL, ret, nm, R) G post σ I k n (pc + 3) (a0 :: a1 :: a2 :: a3 :: a4 :: a5 :: a6 :: a7 :: some (.int (zI (a + z))) :: tl) st) : sj_V l Γ (cc, own, nL, ret, nm, R) G post σ I k n pc (a0 :: a1 :: a2 :: a3 :: a4 :: a5 :: a6 :: a7 :: some (.int (zI a)) :: tl) st := by
  obtain ⟨p, e, s, m, args, below, meth, c, Q⟩ := Γ
  intro hC hK hr H locs ls hR hlo hL
  obtain ⟨hx, hb, hml, hown, hnm⟩ := id hC
  obtain ⟨j, hj⟩ := List.getElem?_of_mem (sj_al_mem (L := a0 :: a1 :: a2 :: a3 :: a4 :: a5 :: a6 :: a7 :: some (.int (zI a)) :: tl) (i := 8) (v := .int (zI a)) |>.mpr rfl)
  exact lv_iinc (v := zI (a + z)) hx hb d hL.has hj (by rw [← zI_add]; rfl) hi rfl (fun ls' hl' => kk hC hK hr H locs ls' hR hlo (sj_L.stored (L := a0 :: a1 :: a2 :: a3 :: a4 :: a5 :: a6 :: a7 :: some (.int (zI a)) :: tl) (fun w _ h2 => sj_c1_ok hc (Option.some.inj h2)) hl'))
theorem sj_ild9 {a0 a1 a2 a3 a4 a5 a6 a7 a8 : Option Value} {tl : List (Option Value)} {v : Int32} (d : decode cc pc = .ok (.iload 9, 2)) (kk : sj_V l Γ (cc, own, nL, ret, nm, R) G post σ I k n (pc + 2) (a0 :: a1 :: a2 :: a3 :: a4 :: a5 :: a6 :: a7 :: a8 :: some (.int v) :: tl) (.int v :: st)) : sj_V l Γ (cc, own, nL, ret, nm, R) G post σ I k n pc (a0 :: a1 :: a2 :: a3 :: a4 :: a5 :: a6 :: a7 :: a8 :: some (.int v) :: tl) st := by
  obtain ⟨p, e, s, m, args, below, meth, c, Q⟩ := Γ
  intro hC hK hr H locs ls hR hlo hL
  obtain ⟨hx, hb, hml, hown, hnm⟩ := id hC
  exact lv_iload hx hb d (hL.2.2 9 _ rfl) (kk hC hK hr H locs ls hR hlo hL)
theorem sj_ald9 {a0 a1 a2 a3 a4 a5 a6 a7 a8 : Option Value} {tl : List (Option Value)} {v : Nat} (d : decode cc pc = .ok (.aload 9, 2)) (kk : sj_V l Γ (cc, own, nL, ret, nm, R) G post σ I k n (pc + 2) (a0 :: a1 :: a2 :: a3 :: a4 :: a5 :: a6 :: a7 :: a8 :: some (.ref v) :: tl) (.ref v :: st)) : sj_V l Γ (cc, own, nL, ret, nm, R) G post σ I k n pc (a0 :: a1 :: a2 :: a3 :: a4 :: a5 :: a6 :: a7 :: a8 :: some (.ref v) :: tl) st := by
  obtain ⟨p, e, s, m, args, below, meth, c, Q⟩ := Γ
  intro hC hK hr H locs ls hR hlo hL
  obtain ⟨hx, hb, hml, hown, hnm⟩ := id hC
  exact lv_aload hx hb d (hL.2.2 9 _ rfl) (kk hC hK hr H locs ls hR hlo hL)
theorem sj_aldN9 {a0 a1 a2 a3 a4 a5 a6 a7 a8 : Option Value} {tl : List (Option Value)}  (d : decode cc pc = .ok (.aload 9, 2)) (kk : sj_V l Γ (cc, own, nL, ret, nm, R) G post σ I k n (pc + 2) (a0 :: a1 :: a2 :: a3 :: a4 :: a5 :: a6 :: a7 :: a8 :: some (.null) :: tl) (.null :: st)) : sj_V l Γ (cc, own, nL, ret, nm, R) G post σ I k n pc (a0 :: a1 :: a2 :: a3 :: a4 :: a5 :: a6 :: a7 :: a8 :: some (.null) :: tl) st := by
  obtain ⟨p, e, s, m, args, below, meth, c, Q⟩ := Γ
  intro hC hK hr H locs ls hR hlo hL
  obtain ⟨hx, hb, hml, hown, hnm⟩ := id hC
  exact lv_aloadN hx hb d (hL.2.2 9 _ rfl) (kk hC hK hr H locs ls hR hlo hL)
theorem sj_ist9 {a0 a1 a2 a3 a4 a5 a6 a7 a8 : Option Value} {x : Option Value} {tl : List (Option Value)} {v : Int32} (hi : 9 < nL) (hc : sj_c1 a8 = true) (d : decode cc pc = .ok (.istore 9, 2)) (kk : sj_V l Γ (cc, own, nL, ret, nm, R) G post σ I k n (pc + 2) (a0 :: a1 :: a2 :: a3 :: a4 :: a5 :: a6 :: a7 :: a8 :: some (.int v) :: tl) st) : sj_V l Γ (cc, own, nL, ret, nm, R) G post σ I k n pc (a0 :: a1 :: a2 :: a3 :: a4 :: a5 :: a6 :: a7 :: a8 :: x :: tl) (.int v :: st) := by
  obtain ⟨p, e, s, m, args, below, meth, c, Q⟩ := Γ
  intro hC hK hr H locs ls hR hlo hL
  obtain ⟨hx, hb, hml, hown, hnm⟩ := id hC
  exact lv_istore hx hb d hL.has hi rfl (fun ls' hl' => kk hC hK hr H locs ls' hR hlo (sj_L.stored (L := a0 :: a1 :: a2 :: a3 :: a4 :: a5 :: a6 :: a7 :: a8 :: x :: tl) (fun w _ h2 => sj_c1_ok hc (Option.some.inj h2)) hl'))
theorem sj_ast9 {a0 a1 a2 a3 a4 a5 a6 a7 a8 : Option Value} {x : Option Value} {tl : List (Option Value)} {v : Nat} (hi : 9 < nL) (hc : sj_c1 a8 = true) (d : decode cc pc = .ok (.astore 9, 2)) (kk : sj_V l Γ (cc, own, nL, ret, nm, R) G post σ I k n (pc + 2) (a0 :: a1 :: a2 :: a3 :: a4 :: a5 :: a6 :: a7 :: a8 :: some (.ref v) :: tl) st) : sj_V l Γ (cc, own, nL, ret, nm, R) G post σ I k n pc (a0 :: a1 :: a2 :: a3 :: a4 :: a5 :: a6 :: a7 :: a8 :: x :: tl) (.ref v :: st) := by
  obtain ⟨p, e, s, m, args, below, meth, c, Q⟩ := Γ
  intro hC hK hr H locs ls hR hlo hL
  obtain ⟨hx, hb, hml, hown, hnm⟩ := id hC
  exact lv_astore hx hb d hL.has hi rfl (fun ls' hl' => kk hC hK hr H locs ls' hR hlo (sj_L.stored (L := a0 :: a1 :: a2 :: a3 :: a4 :: a5 :: a6 :: a7 :: a8 :: x :: tl) (fun w _ h2 => sj_c1_ok hc (Option.some.inj h2)) hl'))
theorem sj_astN9 {a0 a1 a2 a3 a4 a5 a6 a7 a8 : Option Value} {x : Option Value} {tl : List (Option Value)}  (hi : 9 < nL) (hc : sj_c1 a8 = true) (d : decode cc pc = .ok (.astore 9, 2)) (kk : sj_V l Γ (cc, own, nL, ret, nm, R) G post σ I k n (pc + 2) (a0 :: a1 :: a2 :: a3 :: a4 :: a5 :: a6 :: a7 :: a8 :: some (.null) :: tl) st) : sj_V l Γ (cc, own, nL, ret, nm, R) G post σ I k n pc (a0 :: a1 :: a2 :: a3 :: a4 :: a5 :: a6 :: a7 :: a8 :: x :: tl) (.null :: st) := by
  obtain ⟨p, e, s, m, args, below, meth, c, Q⟩ := Γ
  intro hC hK hr H locs ls hR hlo hL
  obtain ⟨hx, hb, hml, hown, hnm⟩ := id hC
  exact lv_astoreN hx hb d hL.has hi rfl (fun ls' hl' => kk hC hK hr H locs ls' hR hlo (sj_L.stored (L := a0 :: a1 :: a2 :: a3 :: a4 :: a5 :: a6 :: a7 :: a8 :: x :: tl) (fun w _ h2 => sj_c1_ok hc (Option.some.inj h2)) hl'))
theorem sj_inc9 {a0 a1 a2 a3 a4 a5 a6 a7 a8 : Option Value} {tl : List (Option Value)} {a z : Int} (hi : 9 < nL) (hc : sj_c1 a8 = true) (d : decode cc pc = .ok (.iinc 9 z, 3)) (kk : sj_V l Γ (cc, own, nL, ret, nm, R) G post σ I k n (pc + 3) (a0 :: a1 :: a2 :: a3 :: a4 :: a5 :: a6 :: a7 :: a8 :: some (.int (zI (a + z))) :: tl) st) : sj_V l Γ (cc, own, nL, ret, nm, R) G post σ I k n pc (a0 :: a1 :: a2 :: a3 :: a4 :: a5 :: a6 :: a7 :: a8 :: some (.int (zI a)) :: tl) st := by
  obtain ⟨p, e, s, m, args, below, meth, c, Q⟩ := Γ
  intro hC hK hr H locs ls hR hlo hL
  obtain ⟨hx, hb, hml, hown, hnm⟩ := id hC
  obtain ⟨j, hj⟩ := List.getElem?_of_mem (sj_al_mem (L := a0 :: a1 :: a2 :: a3 :: a4 :: a5 :: a6 :: a7 :: a8 :: some (.int (zI a)) :: tl) (i := 9) (v := .int (zI a)) |>.mpr rfl)
  exact lv_iinc (v := zI (a + z)) hx hb d hL.has hj (by rw [← zI_add]; rfl) hi rfl (fun ls' hl' => kk hC hK hr H locs ls' hR hlo (sj_L.stored (L := a0 :: a1 :: a2 :: a3 :: a4 :: a5 :: a6 :: a7 :: a8 :: some (.int (zI a)) :: tl) (fun w _ h2 => sj_c1_ok hc (Option.some.inj h2)) hl'))
theorem sj_ild10 {a0 a1 a2 a3 a4 a5 a6 a7 a8 a9 : Option Value} {tl : List (Option Value)} {v : Int32} (d : decode cc pc = .ok (.iload 10, 2)) (kk : sj_V l Γ (cc, own, nL, ret, nm, R) G post σ I k n (pc + 2) (a0 :: a1 :: a2 :: a3 :: a4 :: a5 :: a6 :: a7 :: a8 :: a9 :: some (.int v) :: tl) (.int v :: st)) : sj_V l Γ (cc, own, nL, ret, nm, R) G post σ I k n pc (a0 :: a1 :: a2 :: a3 :: a4 :: a5 :: a6 :: a7 :: a8 :: a9 :: some (.int v) :: tl) st := by
  obtain ⟨p, e, s, m, args, below, meth, c, Q⟩ := Γ
  intro hC hK hr H locs ls hR hlo hL
  obtain ⟨hx, hb, hml, hown, hnm⟩ := id hC
  exact lv_iload hx hb d (hL.2.2 10 _ rfl) (kk hC hK hr H locs ls hR hlo hL)
theorem sj_ald10 {a0 a1 a2 a3 a4 a5 a6 a7 a8 a9 : Option Value} {tl : List (Option Value)} {v : Nat} (d : decode cc pc = .ok (.aload 10, 2)) (kk : sj_V l Γ (cc, own, nL, ret, nm, R) G post σ I k n (pc + 2) (a0 :: a1 :: a2 :: a3 :: a4 :: a5 :: a6 :: a7 :: a8 :: a9 :: some (.ref v) :: tl) (.ref v :: st)) : sj_V l Γ (cc, own, nL, ret, nm, R) G post σ I k n pc (a0 :: a1 :: a2 :: a3 :: a4 :: a5 :: a6 :: a7 :: a8 :: a9 :: some (.ref v) :: tl) st := by
  obtain ⟨p, e, s, m, args, below, meth, c, Q⟩ := Γ
  intro hC hK hr H locs ls hR hlo hL
  obtain ⟨hx, hb, hml, hown, hnm⟩ := id hC
  exact lv_aload hx hb d (hL.2.2 10 _ rfl) (kk hC hK hr H locs ls hR hlo hL)
theorem sj_aldN10 {a0 a1 a2 a3 a4 a5 a6 a7 a8 a9 : Option Value} {tl : List (Option Value)}  (d : decode cc pc = .ok (.aload 10, 2)) (kk : sj_V l Γ (cc, own, nL, ret, nm, R) G post σ I k n (pc + 2) (a0 :: a1 :: a2 :: a3 :: a4 :: a5 :: a6 :: a7 :: a8 :: a9 :: some (.null) :: tl) (.null :: st)) : sj_V l Γ (cc, own, nL, ret, nm, R) G post σ I k n pc (a0 :: a1 :: a2 :: a3 :: a4 :: a5 :: a6 :: a7 :: a8 :: a9 :: some (.null) :: tl) st := by
  obtain ⟨p, e, s, m, args, below, meth, c, Q⟩ := Γ
  intro hC hK hr H locs ls hR hlo hL
  obtain ⟨hx, hb, hml, hown, hnm⟩ := id hC
  exact lv_aloadN hx hb d (hL.2.2 10 _ rfl) (kk hC hK hr H locs ls hR hlo hL)
theorem sj_ist10 {a0 a1 a2 a3 a4 a5 a6 a7 a8 a9 : Option Value} {x : Option Value} {tl : List (Option Value)} {v : Int32} (hi : 10 < nL) (hc : sj_c1 a9 = true) (d : decode cc pc = .ok (.istore 10, 2)) (kk : sj_V l Γ (cc, own, nL, ret, nm, R) G post σ I k n (pc + 2) (a0 :: a1 :: a2 :: a3 :: a4 :: a5 :: a6 :: a7 :: a8 :: a9 :: some (.int v) :: tl) st) : sj_V l Γ (cc, own, nL, ret, nm, R) G post σ I k n pc (a0 :: a1 :: a2 :: a3 :: a4 :: a5 :: a6 :: a7 :: a8 :: a9 :: x :: tl) (.int v :: st) := by
  obtain ⟨p, e, s, m, args, below, meth, c, Q⟩ := Γ
  intro hC hK hr H locs ls hR hlo hL
  obtain ⟨hx, hb, hml, hown, hnm⟩ := id hC
  exact lv_istore hx hb d hL.has hi rfl (fun ls' hl' => kk hC hK hr H locs ls' hR hlo (sj_L.stored (L := a0 :: a1 :: a2 :: a3 :: a4 :: a5 :: a6 :: a7 :: a8 :: a9 :: x :: tl) (fun w _ h2 => sj_c1_ok hc (Option.some.inj h2)) hl'))
theorem sj_ast10 {a0 a1 a2 a3 a4 a5 a6 a7 a8 a9 : Option Value} {x : Option Value} {tl : List (Option Value)} {v : Nat} (hi : 10 < nL) (hc : sj_c1 a9 = true) (d : decode cc pc = .ok (.astore 10, 2)) (kk : sj_V l Γ (cc, own, nL, ret, nm, R) G post σ I k n (pc + 2) (a0 :: a1 :: a2 :: a3 :: a4 :: a5 :: a6 :: a7 :: a8 :: a9 :: some (.ref v) :: tl) st) : sj_V l Γ (cc, own, nL, ret, nm, R) G post σ I k n pc (a0 :: a1 :: a2 :: a3 :: a4 :: a5 :: a6 :: a7 :: a8 :: a9 :: x :: tl) (.ref v :: st) := by
  obtain ⟨p, e, s, m, args, below, meth, c, Q⟩ := Γ
  intro hC hK hr H locs ls hR hlo hL
  obtain ⟨hx, hb, hml, hown, hnm⟩ := id hC
  exact lv_astore hx hb d hL.has hi rfl (fun ls' hl' => kk hC hK hr H locs ls' hR hlo (sj_L.stored (L := a0 :: a1 :: a2 :: a3 :: a4 :: a5 :: a6 :: a7 :: a8 :: a9 :: x :: tl) (fun w _ h2 => sj_c1_ok hc (Option.some.inj h2)) hl'))
theorem sj_astN10 {a0 a1 a2 a3 a4 a5 a6 a7 a8 a9 : Option Value} {x : Option Value} {tl : List (Option Value)}  (hi : 10 < nL) (hc : sj_c1 a9 = true) (d : decode cc pc = .ok (.astore 10, 2)) (kk : sj_V l Γ (cc, own, nL, ret, nm, R) G post σ I k n (pc + 2) (a0 :: a1 :: a2 :: a3 :: a4 :: a5 :: a6 :: a7 :: a8 :: a9 :: some (.null) :: tl) st) : sj_V l Γ (cc, own, nL, ret, nm, R) G post σ I k n pc (a0 :: a1 :: a2 :: a3 :: a4 :: a5 :: a6 :: a7 :: a8 :: a9 :: x :: tl) (.null :: st) := by
  obtain ⟨p, e, s, m, args, below, meth, c, Q⟩ := Γ
  intro hC hK hr H locs ls hR hlo hL
  obtain ⟨hx, hb, hml, hown, hnm⟩ := id hC
  exact lv_astoreN hx hb d hL.has hi rfl (fun ls' hl' => kk hC hK hr H locs ls' hR hlo (sj_L.stored (L := a0 :: a1 :: a2 :: a3 :: a4 :: a5 :: a6 :: a7 :: a8 :: a9 :: x :: tl) (fun w _ h2 => sj_c1_ok hc (Option.some.inj h2)) hl'))
theorem sj_inc10 {a0 a1 a2 a3 a4 a5 a6 a7 a8 a9 : Option Value} {tl : List (Option Value)} {a z : Int} (hi : 10 < nL) (hc : sj_c1 a9 = true) (d : decode cc pc = .ok (.iinc 10 z, 3)) (kk : sj_V l Γ (cc, own, nL, ret, nm, R) G post σ I k n (pc + 3) (a0 :: a1 :: a2 :: a3 :: a4 :: a5 :: a6 :: a7 :: a8 :: a9 :: some (.int (zI (a + z))) :: tl) st) : sj_V l Γ (cc, own, nL, ret, nm, R) G post σ I k n pc (a0 :: a1 :: a2 :: a3 :: a4 :: a5 :: a6 :: a7 :: a8 :: a9 :: some (.int (zI a)) :: tl) st := by
  obtain ⟨p, e, s, m, args, below, meth, c, Q⟩ := Γ
  intro hC hK hr H locs ls hR hlo hL
  obtain ⟨hx, hb, hml, hown, hnm⟩ := id hC
  obtain ⟨j, hj⟩ := List.getElem?_of_mem (sj_al_mem (L := a0 :: a1 :: a2 :: a3 :: a4 :: a5 :: a6 :: a7 :: a8 :: a9 :: some (.int (zI a)) :: tl) (i := 10) (v := .int (zI a)) |>.mpr rfl)
  exact lv_iinc (v := zI (a + z)) hx hb d hL.has hj (by rw [← zI_add]; rfl) hi rfl (fun ls' hl' => kk hC hK hr H locs ls' hR hlo (sj_L.stored (L := a0 :: a1 :: a2 :: a3 :: a4 :: a5 :: a6 :: a7 :: a8 :: a9 :: some (.int (zI a)) :: tl) (fun w _ h2 => sj_c1_ok hc (Option.some.inj h2)) hl'))
theorem sj_ild11 {a0 a1 a2 a3 a4 a5 a6 a7 a8 a9 a10 : Option Value} {tl : List (Option Value)} {v : Int32} (d : decode cc pc = .ok (.iload 11, 2)) (kk : sj_V l Γ (cc, own, nL, ret, nm, R) G post σ I k n (pc + 2) (a0 :: a1 :: a2 :: a3 :: a4 :: a5 :: a6 :: a7 :: a8 :: a9 :: a10 :: some (.int v) :: tl) (.int v :: st)) : sj_V l Γ (cc, own, nL, ret, nm, R) G post σ I k n pc (a0 :: a1 :: a2 :: a3 :: a4 :: a5 :: a6 :: a7 :: a8 :: a9 :: a10 :: some (.int v) :: tl) st := by
  obtain ⟨p, e, s, m, args, below, meth, c, Q⟩ := Γ
  intro hC hK hr H locs ls hR hlo hL
  obtain ⟨hx, hb, hml, hown, hnm⟩ := id hC
  exact lv_iload hx hb d (hL.2.2 11 _ rfl) (kk hC hK hr H locs ls hR hlo hL)
theorem sj_ald11 {a0 a1 a2 a3 a4 a5 a6 a7 a8 a9 a10 : Option Value} {tl : List (Option Value)} {v : Nat} (d : decode cc pc = .ok (.aload 11, 2)) (kk : sj_V l Γ (cc, own, nL, ret, nm, R) G post σ I k n (pc + 2) (a0 :: a1 :: a2 :: a3 :: a4 :: a5 :: a6 :: a7 :: a8 :: a9 :: a10 :: some (.ref v) :: tl) (.ref v :: st)) : sj_V l Γ (cc, own, nL, ret, nm, R) G post σ I k n pc (a0 :: a1 :: a2 :: a3 :: a4 :: a5 :: a6 :: a7 :: a8 :: a9 :: a10 :: some (.ref v) :: tl) st := by
  obtain ⟨p, e, s, m, args, below, meth, c, Q⟩ := Γ
  intro hC hK hr H locs ls hR hlo hL
  obtain ⟨hx, hb, hml, hown, hnm⟩ := id hC
  exact lv_aload hx hb d (hL.2.2 11 _ rfl) (kk hC hK hr H locs ls hR hlo hL)
theorem sj_aldN11 {a0 a1 a2 a3 a4 a5 a6 a7 a8 a9 a10 : Option Value} {tl : List (Option Value)}  (d : decode cc pc = .ok (.aload 11, 2)) (kk : sj_V l Γ (cc, own, nL, ret, nm, R) G post σ I k n (pc + 2) (a0 :: a1 :: a2 :: a3 :: a4 :: a5 :: a6 :: a7 :: a8 :: a9 :: a10 :: some (.null) :: tl) (.null :: st)) : sj_V l Γ (cc, own, nL, ret, nm, R) G post σ I k n pc (a0 :: a1 :: a2 :: a3 :: a4 :: a5 :: a6 :: a7 :: a8 :: a9 :: a10 :: some (.null) :: tl) st := by
  obtain ⟨p, e, s, m, args, below, meth, c, Q⟩ := Γ
  intro hC hK hr H locs ls hR hlo hL
  obtain ⟨hx, hb, hml, hown, hnm⟩ := id hC
  exact lv_aloadN hx hb d (hL.2.2 11 _ rfl) (kk hC hK hr H locs ls hR hlo hL)
theorem sj_ist11 {a0 a1 a2 a3 a4 a5 a6 a7 a8 a9 a10 : Option Value} {x : Option Value} {tl : List (Option Value)} {v : Int32} (hi : 11 < nL) (hc : sj_c1 a10 = true) (d : decode cc pc = .ok (.istore 11, 2)) (kk : sj_V l Γ (cc, own, nL, ret, nm, R) G post σ I k n (pc + 2) (a0 :: a1 :: a2 :: a3 :: a4 :: a5 :: a6 :: a7 :: a8 :: a9 :: a10 :: some (.int v) :: tl) st) : sj_V l Γ (cc, own, nL, ret, nm, R) G post σ I k n pc (a0 :: a1 :: a2 :: a3 :: a4 :: a5 :: a6 :: a7 :: a8 :: a9 :: a10 :: x :: tl) (.int v :: st) := by
  obtain ⟨p, e, s, m, args, below, meth, c, Q⟩ := Γ
  intro hC hK hr H locs ls hR hlo hL
  obtain ⟨hx, hb, hml, hown, hnm⟩ := id hC
  exact lv_istore hx hb d hL.has hi rfl (fun ls' hl' => kk hC hK hr H locs ls' hR hlo (sj_L.stored (L := a0 :: a1 :: a2 :: a3 :: a4 :: a5 :: a6 :: a7 :: a8 :: a9 :: a10 :: x :: tl) (fun w _ h2 => sj_c1_ok hc (Option.some.inj h2)) hl'))
theorem sj_ast11 {a0 a1 a2 a3 a4 a5 a6 a7 a8 a9 a10 : Option Value} {x : Option Value} {tl : List (Option Value)} {v : Nat} (hi : 11 < nL) (hc : sj_c1 a10 = true) (d : decode cc pc = .ok (.astore 11, 2)) (kk : sj_V l Γ (cc, own, nL, ret, nm, R) G post σ I k n (pc + 2) (a0 :: a1 :: a2 :: a3 :: a4 :: a5 :: a6 :: a7 :: a8 :: a9 :: a10 :: some (.ref v) :: tl) st) : sj_V l Γ (cc, own, nL, ret, nm, R) G post σ I k n pc (a0 :: a1 :: a2 :: a3 :: a4 :: a5 :: a6 :: a7 :: a8 :: a9 :: a10 :: x :: tl) (.ref v :: st) := by
  obtain ⟨p, e, s, m, args, below, meth, c, Q⟩ := Γ
  intro hC hK hr H locs ls hR hlo hL
  obtain ⟨hx, hb, hml, hown, hnm⟩ := id hC
  exact lv_astore hx hb d hL.has hi rfl (fun ls' hl' => kk hC hK hr H locs ls' hR hlo (sj_L.stored (L := a0 :: a1 :: a2 :: a3 :: a4 :: a5 :: a6 :: a7 :: a8 :: a9 :: a10 :: x :: tl) (fun w _ h2 => sj_c1_ok hc (Option.some.inj h2)) hl'))
theorem sj_astN11 {a0 a1 a2 a3 a4 a5 a6 a7 a8 a9 a10 : Option Value} {x : Option Value} {tl : List (Option Value)}  (hi : 11 < nL) (hc : sj_c1 a10 = true) (d : decode cc pc = .ok (.astore 11, 2)) (kk : sj_V l Γ (cc, own, nL, ret, nm, R) G post σ I k n (pc + 2) (a0 :: a1 :: a2 :: a3 :: a4 :: a5 :: a6 :: a7 :: a8 :: a9 :: a10 :: some (.null) :: tl) st) : sj_V l Γ (cc, own, nL, ret, nm, R) G post σ I k n pc (a0 :: a1 :: a2 :: a3 :: a4 :: a5 :: a6 :: a7 :: a8 :: a9 :: a10 :: x :: tl) (.null :: st) := by
  obtain ⟨p, e, s, m, args, below, meth, c, Q⟩ := Γ
  intro hC hK hr H locs ls hR hlo hL
  obtain ⟨hx, hb, hml, hown, hnm⟩ := id hC
  exact lv_astoreN hx hb d hL.has hi rfl (fun ls' hl' => kk hC hK hr H locs ls' hR hlo (sj_L.stored (L := a0 :: a1 :: a2 :: a3 :: a4 :: a5 :: a6 :: a7 :: a8 :: a9 :: a10 :: x :: tl) (fun w _ h2 => sj_c1_ok hc (Option.some.inj h2)) hl'))
theorem sj_inc11 {a0 a1 a2 a3 a4 a5 a6 a7 a8 a9 a10 : Option Value} {tl : List (Option Value)} {a z : Int} (hi : 11 < nL) (hc : sj_c1 a10 = true) (d : decode cc pc = .ok (.iinc 11 z, 3)) (kk : sj_V l Γ (cc, own, nL, ret, nm, R) G post σ I k n (pc + 3) (a0 :: a1 :: a2 :: a3 :: a4 :: a5 :: a6 :: a7 :: a8 :: a9 :: a10 :: some (.int (zI (a + z))) :: tl) st) : sj_V l Γ (cc, own, nL, ret, nm, R) G post σ I k n pc (a0 :: a1 :: a2 :: a3 :: a4 :: a5 :: a6 :: a7 :: a8 :: a9 :: a10 :: some (.int (zI a)) :: tl) st := by
  obtain ⟨p, e, s, m, args, below, meth, c, Q⟩ := Γ
  intro hC hK hr H locs ls hR hlo hL
  obtain ⟨hx, hb, hml, hown, hnm⟩ := id hC
  obtain ⟨j, hj⟩ := List.getElem?_of_mem (sj_al_mem (L := a0 :: a1 :: a2 :: a3 :: a4 :: a5 :: a6 :: a7 :: a8 :: a9 :: a10 :: some (.int (zI a)) :: tl) (i := 11) (v := .int (zI a)) |>.mpr rfl)
  exact lv_iinc (v := zI (a + z)) hx hb d hL.has hj (by rw [← zI_add]; rfl) hi rfl (fun ls' hl' => kk hC hK hr H locs ls' hR hlo (sj_L.stored (L := a0 :: a1 :: a2 :: a3 :: a4 :: a5 :: a6 :: a7 :: a8 :: a9 :: a10 :: some (.int (zI a)) :: tl) (fun w _ h2 => sj_c1_ok hc (Option.some.inj h2)) hl'))
theorem sj_ild12 {a0 a1 a2 a3 a4 a5 a6 a7 a8 a9 a10 a11 : Option Value} {tl : List (Option Value)} {v : Int32} (d : decode cc pc = .ok (.iload 12, 2)) (kk : sj_V l Γ (cc, own, nL, ret, nm, R) G post σ I k n (pc + 2) (a0 :: a1 :: a2 :: a3 :: a4 :: a5 :: a6 :: a7 :: a8 :: a9 :: a10 :: a11 :: some (.int v) :: tl) (.int v :: st)) : sj_V l Γ (cc, own, nL, ret, nm, R) G post σ I k n pc (a0 :: a1 :: a2 :: a3 :: a4 :: a5 :: a6 :: a7 :: a8 :: a9 :: a10 :: a11 :: some (.int v) :: tl) st := by
  obtain ⟨p, e, s, m, args, below, meth, c, Q⟩ := Γ
  intro hC hK hr H locs ls hR hlo hL
  obtain ⟨hx, hb, hml, hown, hnm⟩ := id hC
  exact lv_iload hx hb d (hL.2.2 12 _ rfl) (kk hC hK hr H locs ls hR hlo hL)
theorem sj_ald12 {a0 a1 a2 a3 a4 a5 a6 a7 a8 a9 a10 a11 : Option Value} {tl : List (Option Value)} {v : Nat} (d : decode cc pc = .ok (.aload 12, 2)) (kk : sj_V l Γ (cc, own, nL, ret, nm, R) G post σ I k n (pc + 2) (a0 :: a1 :: a2 :: a3 :: a4 :: a5 :: a6 :: a7 :: a8 :: a9 :: a10 :: a11 :: some (.ref v) :: tl) (.ref v :: st)) : sj_V l Γ (cc, own, nL, ret, nm, R) G post σ I k n pc (a0 :: a1 :: a2 :: a3 :: a4 :: a5 :: a6 :: a7 :: a8 :: a9 :: a10 :: a11 :: some (.ref v) :: tl) st := by
  obtain ⟨p, e, s, m, args, below, meth, c, Q⟩ := Γ
  intro hC hK hr H locs ls hR hlo hL
  obtain ⟨hx, hb, hml, hown, hnm⟩ := id hC
  exact lv_aload hx hb d (hL.2.2 12 _ rfl) (kk hC hK hr H locs ls hR hlo hL)
theorem sj_aldN12 {a0 a1 a2 a3 a4 a5 a6 a7 a8 a9 a10 a11 : Option Value} {tl : List (Option Value)}  (d : decode cc pc = .ok (.aload 12, 2)) (kk : sj_V l Γ (cc, own, nL, ret, nm, R) G post σ I k n (pc + 2) (a0 :: a1 :: a2 :: a3 :: a4 :: a5 :: a6 :: a7 :: a8 :: a9 :: a10 :: a11 :: some (.null) :: tl) (.null :: st)) : sj_V l Γ (cc, own, nL, ret, nm, R) G post σ I k n pc (a0 :: a1 :: a2 :: a3 :: a4 :: a5 :: a6 :: a7 :: a8 :: a9 :: a10 :: a11 :: some (.null) :: tl) st := by
  obtain ⟨p, e, s, m, args, below, meth, c, Q⟩ := Γ
  intro hC hK hr H locs ls hR hlo hL
  obtain ⟨hx, hb, hml, hown, hnm⟩ := id hC
  exact lv_aloadN hx hb d (hL.2.2 12 _ rfl) (kk hC hK hr H locs ls hR hlo hL)
theorem sj_ist12 {a0 a1 a2 a3 a4 a5 a6 a7 a8 a9 a10 a11 : Option Value} {x : Option Value} {tl : List (Option Value)} {v : Int32} (hi : 12 < nL) (hc : sj_c1 a11 = true) (d : decode cc pc = .ok (.istore 12, 2)) (kk : sj_V l Γ (cc, own, nL, ret, nm, R) G post σ I k n (pc + 2) (a0 :: a1 :: a2 :: a3 :: a4 :: a5 :: a6 :: a7 :: a8 :: a9 :: a10 :: a11 :: some (.int v) :: tl) st) : sj_V l Γ (cc, own, nL, ret, nm, R) G post σ I k n pc (a0 :: a1 :: a2 :: a3 :: a4 :: a5 :: a6 :: a7 :: a8 :: a9 :: a10 :: a11 :: x :: tl) (.int v :: st) := by
  obtain ⟨p, e, s, m, args, below, meth, c, Q⟩ := Γ
  intro hC hK hr H locs ls hR hlo hL
  obtain ⟨hx, hb, hml, hown, hnm⟩ := id hC
  exact lv_istore hx hb d hL.has hi rfl (fun ls' hl' => kk hC hK hr H locs ls' hR hlo (sj_L.stored (L := a0 :: a1 :: a2 :: a3 :: a4 :: a5 :: a6 :: a7 :: a8 :: a9 :: a10 :: a11 :: x :: tl) (fun w _ h2 => sj_c1_ok hc (Option.some.inj h2)) hl'))
theorem sj_ast12 {a0 a1 a2 a3 a4 a5 a6 a7 a8 a9 a10 a11 : Option Value} {x : Option Value} {tl : List (Option Value)} {v : Nat} (hi : 12 < nL) (hc : sj_c1 a11 = true) (d : decode cc pc = .ok (.astore 12, 2)) (kk : sj_V l Γ (cc, own, nL, ret, nm, R) G post σ I k n (pc + 2) (a0 :: a1 :: a2 :: a3 :: a4 :: a5 :: a6 :: a7 :: a8 :: a9 :: a10 :: a11 :: some (.ref v) :: tl) st) : sj_V l Γ (cc, own, nL, ret, nm, R) G post σ I k n pc (a0 :: a1 :: a2 :: a3 :: a4 :: a5 :: a6 :: a7 :: a8 :: a9 :: a10 :: a11 :: x :: tl) (.ref v :: st) := by
  obtain ⟨p, e, s, m, args, below, meth, c, Q⟩ := Γ
  intro hC hK hr H locs ls hR hlo hL
  obtain ⟨hx, hb, hml, hown, hnm⟩ := id hC
  exact lv_astore hx hb d hL.has hi rfl (fun ls' hl' => kk hC hK hr H locs ls' hR hlo (sj_L.stored (L := a0 :: a1 :: a2 :: a3 :: a4 :: a5 :: a6 :: a7 :: a8 :: a9 :: a10 :: a11 :: x :: tl) (fun w _ h2 => sj_c1_ok hc (Option.some.inj h2)) hl'))
theorem sj_astN12 {a0 a1 a2 a3 a4 a5 a6 a7 a8 a9 a10 a11 : Option Value} {x : Option Value} {tl : List (Option Value)}  (hi : 12 < nL) (hc : sj_c1 a11 = true) (d : decode cc pc = .ok (.astore 12, 2)) (kk : sj_V l Γ (cc, own, nL, ret, nm, R) G post σ I k n (pc + 2) (a0 :: a1 :: a2 :: a3 :: a4 :: a5 :: a6 :: a7 :: a8 :: a9 :: a10 :: a11 :: some (.null) :: tl) st) : sj_V l Γ (cc, own, nL, ret, nm, R) G post σ I k n pc (a0 :: a1 :: a2 :: a3 :: a4 :: a5 :: a6 :: a7 :: a8 :: a9 :: a10 :: a11 :: x :: tl) (.null :: st) := by
  obtain ⟨p, e, s, m, args, below, meth, c, Q⟩ := Γ
  intro hC hK hr H locs ls hR hlo hL
  obtain ⟨hx, hb, hml, hown, hnm⟩ := id hC
  exact lv_astoreN hx hb d hL.has hi rfl (fun ls' hl' => kk hC hK hr H locs ls' hR hlo (sj_L.stored (L := a0 :: a1 :: a2 :: a3 :: a4 :: a5 :: a6 :: a7 :: a8 :: a9 :: a10 :: a11 :: x :: tl) (fun w _ h2 => sj_c1_ok hc (Option.some.inj h2)) hl'))
theorem sj_inc12 {a0 a1 a2 a3 a4 a5 a6 a7 a8 a9 a10 a11 : Option Value} {tl : List (Option Value)} {a z : Int} (hi : 12 < nL) (hc : sj_c1 a11 = true) (d : decode cc pc = .ok (.iinc 12 z, 3)) (kk : sj_V l Γ (cc, own, nL, ret, nm, R) G post σ I k n (pc + 3) (a0 :: a1 :: a2 :: a3 :: a4 :: a5 :: a6 :: a7 :: a8 :: a9 :: a10 :: a11 :: some (.int (zI (a + z))) :: tl) st) : sj_V l Γ (cc, own, nL, ret, nm, R) G post σ I k n pc (a0 :: a1 :: a2 :: a3 :: a4 :: a5 :: a6 :: a7 :: a8 :: a9 :: a10 :: a11 :: some (.int (zI a)) :: tl) st := by
  obtain ⟨p, e, s, m, args, below, meth, c, Q⟩ := Γ
  intro hC hK hr H locs ls hR hlo hL
  obtain ⟨hx, hb, hml, hown, hnm⟩ := id hC
  obtain ⟨j, hj⟩ := List.getElem?_of_mem (sj_al_mem (L := a0 :: a1 :: a2 :: a3 :: a4 :: a5 :: a6 :: a7 :: a8 :: a9 :: a10 :: a11 :: some (.int (zI a)) :: tl) (i := 12) (v := .int (zI a)) |>.mpr rfl)
  exact lv_iinc (v := zI (a + z)) hx hb d hL.has hj (by rw [← zI_add]; rfl) hi rfl (fun ls' hl' => kk hC hK hr H locs ls' hR hlo (sj_L.stored (L := a0 :: a1 :: a2 :: a3 :: a4 :: a5 :: a6 :: a7 :: a8 :: a9 :: a10 :: a11 :: some (.int (zI a)) :: tl) (fun w _ h2 => sj_c1_ok hc (Option.some.inj h2)) hl'))
theorem sj_widen {k2 n2 : Nat} (h1 : k ≤ k2) (h2 : n ≤ n2) (kk : sj_V l Γ (cc, own, nL, ret, nm, R) G post σ I k2 n2 pc L st) : sj_V l Γ (cc, own, nL, ret, nm, R) G post σ I k n pc L st := by
  obtain ⟨p, e, s, m, args, below, meth, c, Q⟩ := Γ
  intro hC hK hr H locs ls hR hlo hL
  obtain ⟨hx, hb, hml, hown, hnm⟩ := id hC
  exact W.widen h1 h2 (kk hC hK hr H locs ls hR hlo hL)
theorem sj_wfI  (kk : (∀ (a : Nat) (x : sjSh), σ.2 a = some x → a < σ.1) → sj_V l Γ (cc, own, nL, ret, nm, R) G post σ I k n pc L st) : sj_V l Γ (cc, own, nL, ret, nm, R) G post σ I k n pc L st := by
  obtain ⟨p, e, s, m, args, below, meth, c, Q⟩ := Γ
  intro hC hK hr H locs ls hR hlo hL
  obtain ⟨hx, hb, hml, hown, hnm⟩ := id hC
  exact kk (fun a x h => hR.lt h) hC hK hr H locs ls hR hlo hL
theorem sj_iret {v : Int32} {ty : FieldType} (d : decode cc pc = .ok (.ireturn, 1)) (hty : ret = some ty) (hn : narrow ty (.int v) = .int v) (hk : k ≤ R.cells) (hs : n ≤ R.slots) (hp : post (some (.int v)) σ I) : sj_V l Γ (cc, own, nL, ret, nm, R) G post σ I k n pc L [.int v] := by
  obtain ⟨p, e, s, m, args, below, meth, c, Q⟩ := Γ
  intro hC hK hr H locs ls hR hlo hL
  obtain ⟨hx, hb, hml, hown, hnm⟩ := id hC
  exact (hr H locs k n pc ls σ I hR hlo hk hs).1 v ty d hty hn hp
theorem sj_vret (d : decode cc pc = .ok (.return_, 1)) (hty : ret = none) (hk : k ≤ R.cells) (hs : n ≤ R.slots) (hp : post none σ I) : sj_V l Γ (cc, own, nL, ret, nm, R) G post σ I k n pc L [] := by
  obtain ⟨p, e, s, m, args, below, meth, c, Q⟩ := Γ
  intro hC hK hr H locs ls hR hlo hL
  obtain ⟨hx, hb, hml, hown, hnm⟩ := id hC
  exact (hr H locs k n pc ls σ I hR hlo hk hs).2.1 d hty hp
theorem sj_aret {v : Value} {ty : FieldType} (d : decode cc pc = .ok (.areturn, 1)) (hty : ret = some ty) (ht : (∃ x, ty = .object x) ∨ ∃ t, ty = .array t) (hv : v = .null ∨ ∃ a, v = .ref a) (hk : k ≤ R.cells) (hs : n ≤ R.slots) (hp : post (some v) σ I) : sj_V l Γ (cc, own, nL, ret, nm, R) G post σ I k n pc L [v] := by
  obtain ⟨p, e, s, m, args, below, meth, c, Q⟩ := Γ
  intro hC hK hr H locs ls hR hlo hL
  obtain ⟨hx, hb, hml, hown, hnm⟩ := id hC
  exact (hr H locs k n pc ls σ I hR hlo hk hs).2.2 v ty d hty ht hv hp
end ROWS
