theorem sj_Con.weak {l : Launch} {y : MethodName} {μ : sjM} {G : sjG} {σ : sjS} {I : sjI} {av : List Value} {post post' : sjP} (h : sj_Con l y μ G σ I av post) (hp : ∀ r σ' I', post r σ' I' → post' r σ' I') : sj_Con l y μ G σ I av post' := by
  intro p e ha hc hk s m args below hf happ hP hT
  obtain ⟨k, o, h1, h2, h3, ⟨⟨r, σ', I', e1, e2, e3⟩, h5⟩⟩ := h p e ha hc hk s m args below hf happ hP hT
  exact ⟨k, o, h1, h2, h3, ⟨r, σ', I', e1, hp _ _ _ e2, e3⟩, h5⟩
/-! more rows: forgetting a local -/
section MORE
variable {l : Launch} {Γ : sjC} {cc : ByteArray} {own nm : String} {nL : Nat} {ret : Option FieldType} {R : Room} {G : sjG} {post : sjP} {σ : sjS} {I : sjI} {k n pc : Nat} {L : List (Option Value)} {st : List Value}
theorem sj_fgt (i : Nat) (kk : sj_V l Γ (cc, own, nL, ret, nm, R) G post σ I k n pc (L.set i none) st) : sj_V l Γ (cc, own, nL, ret, nm, R) G post σ I k n pc L st := by
  obtain ⟨p, e, s, m, args, below, meth, c, Q⟩ := Γ
  intro hC hK hr H locs ls hR hlo hL
  refine kk hC hK hr H locs ls hR hlo ⟨hL.1, hL.2.1, fun j v hj => hL.2.2 j v ?_⟩
  by_cases e : j = i
  · subst e
    by_cases hi : j < L.length
    · rw [List.getElem?_set_self hi] at hj
      cases hj
    · rw [List.getElem?_eq_none (by simpa using hi)] at hj
      cases hj
  · rw [List.getElem?_set_ne (fun q => e q.symm)] at hj
    exact hj
theorem sj_fg0 {x : Option Value} {tl : List (Option Value)} (kk : sj_V l Γ (cc, own, nL, ret, nm, R) G post σ I k n pc (none :: tl) st) : sj_V l Γ (cc, own, nL, ret, nm, R) G post σ I k n pc (x :: tl) st := sj_fgt 0 kk
theorem sj_fg1 {a0 : Option Value} {x : Option Value} {tl : List (Option Value)} (kk : sj_V l Γ (cc, own, nL, ret, nm, R) G post σ I k n pc (a0 :: none :: tl) st) : sj_V l Γ (cc, own, nL, ret, nm, R) G post σ I k n pc (a0 :: x :: tl) st := sj_fgt 1 kk
theorem sj_fg2 {a0 a1 : Option Value} {x : Option Value} {tl : List (Option Value)} (kk : sj_V l Γ (cc, own, nL, ret, nm, R) G post σ I k n pc (a0 :: a1 :: none :: tl) st) : sj_V l Γ (cc, own, nL, ret, nm, R) G post σ I k n pc (a0 :: a1 :: x :: tl) st := sj_fgt 2 kk
theorem sj_fg3 {a0 a1 a2 : Option Value} {x : Option Value} {tl : List (Option Value)} (kk : sj_V l Γ (cc, own, nL, ret, nm, R) G post σ I k n pc (a0 :: a1 :: a2 :: none :: tl) st) : sj_V l Γ (cc, own, nL, ret, nm, R) G post σ I k n pc (a0 :: a1 :: a2 :: x :: tl) st := sj_fgt 3 kk
theorem sj_fg4 {a0 a1 a2 a3 : Option Value} {x : Option Value} {tl : List (Option Value)} (kk : sj_V l Γ (cc, own, nL, ret, nm, R) G post σ I k n pc (a0 :: a1 :: a2 :: a3 :: none :: tl) st) : sj_V l Γ (cc, own, nL, ret, nm, R) G post σ I k n pc (a0 :: a1 :: a2 :: a3 :: x :: tl) st := sj_fgt 4 kk
theorem sj_fg5 {a0 a1 a2 a3 a4 : Option Value} {x : Option Value} {tl : List (Option Value)} (kk : sj_V l Γ (cc, own, nL, ret, nm, R) G post σ I k n pc (a0 :: a1 :: a2 :: a3 :: a4 :: none :: tl) st) : sj_V l Γ (cc, own, nL, ret, nm, R) G post σ I k n pc (a0 :: a1 :: a2 :: a3 :: a4 :: x :: tl) st := sj_fgt 5 kk
theorem sj_fg6 {a0 a1 a2 a3 a4 a5 : Option Value} {x : Option Value} {tl : List (Option Value)} (kk : sj_V l Γ (cc, own, nL, ret, nm, R) G post σ I k n pc (a0 :: a1 :: a2 :: a3 :: a4 :: a5 :: none :: tl) st) : sj_V l Γ (cc, own, nL, ret, nm, R) G post σ I k n pc (a0 :: a1 :: a2 :: a3 :: a4 :: a5 :: x :: tl) st := sj_fgt 6 kk
theorem sj_fg7 {a0 a1 a2 a3 a4 a5 a6 : Option Value} {x : Option Value} {tl : List (Option Value)} (kk : sj_V l Γ (cc, own, nL, ret, nm, R) G post σ I k n pc (a0 :: a1 :: a2 :: a3 :: a4 :: a5 :: a6 :: none :: tl) st) : sj_V l Γ (cc, own, nL, ret, nm, R) G post σ I k n pc (a0 :: a1 :: a2 :: a3 :: a4 :: a5 :: a6 :: x :: tl) st := sj_fgt 7 kk
theorem sj_fg8 {a0 a1 a2 a3 a4 a5 a6 a7 : Option Value} {x : Option Value} {tl : List (Option Value)} (kk : sj_V l Γ (cc, own, nL, ret, nm, R) G post σ I k n pc (a0 :: a1 :: a2 :: a3 :: a4 :: a5 :: a6 :: a7 :: none :: tl) st) : sj_V l Γ (cc, own, nL, ret, nm, R) G post σ I k n pc (a0 :: a1 :: a2 :: a3 :: a4 :: a5 :: a6 :: a7 :: x :: tl) st := sj_fgt 8 kk
theorem sj_fg9 {a0 a1 a2 a3 a4 a5 a6 a7 a8 : Option Value} {x : Option Value} {tl : List (Option Value)} (kk : sj_V l Γ (cc, own, nL, ret, nm, R) G post σ I k n pc (a0 :: a1 :: a2 :: a3 :: a4 :: a5 :: a6 :: a7 :: a8 :: none :: tl) st) : sj_V l Γ (cc, own, nL, ret, nm, R) G post σ I k n pc (a0 :: a1 :: a2 :: a3 :: a4 :: a5 :: a6 :: a7 :: a8 :: x :: tl) st := sj_fgt 9 kk
theorem sj_fg10 {a0 a1 a2 a3 a4 a5 a6 a7 a8 a9 : Option Value} {x : Option Value} {tl : List (Option Value)} (kk : sj_V l Γ (cc, own, nL, ret, nm, R) G post σ I k n pc (a0 :: a1 :: a2 :: a3 :: a4 :: a5 :: a6 :: a7 :: a8 :: a9 :: none :: tl) st) : sj_V l Γ (cc, own, nL, ret, nm, R) G post σ I k n pc (a0 :: a1 :: a2 :: a3 :: a4 :: a5 :: a6 :: a7 :: a8 :: a9 :: x :: tl) st := sj_fgt 10 kk
theorem sj_fg11 {a0 a1 a2 a3 a4 a5 a6 a7 a8 a9 a10 : Option Value} {x : Option Value} {tl : List (Option Value)} (kk : sj_V l Γ (cc, own, nL, ret, nm, R) G post σ I k n pc (a0 :: a1 :: a2 :: a3 :: a4 :: a5 :: a6 :: a7 :: a8 :: a9 :: a10 :: none :: tl) st) : sj_V l Γ (cc, own, nL, ret, nm, R) G post σ I k n pc (a0 :: a1 :: a2 :: a3 :: a4 :: a5 :: a6 :: a7 :: a8 :: a9 :: a10 :: x :: tl) st := sj_fgt 11 kk
theorem sj_fg12 {a0 a1 a2 a3 a4 a5 a6 a7 a8 a9 a10 a11 : Option Value} {x : Option Value} {tl : List (Option Value)} (kk : sj_V l Γ (cc, own, nL, ret, nm, R) G post σ I k n pc (a0 :: a1 :: a2 :: a3 :: a4 :: a5 :: a6 :: a7 :: a8 :: a9 :: a10 :: a11 :: none :: tl) st) : sj_V l Γ (cc, own, nL, ret, nm, R) G post σ I k n pc (a0 :: a1 :: a2 :: a3 :: a4 :: a5 :: a6 :: a7 :: a8 :: a9 :: a10 :: a11 :: x :: tl) st := sj_fgt 12 kk
theorem sj_eqI {J : sjI} (h : I = J) (kk : sj_V l Γ (cc, own, nL, ret, nm, R) G post σ J k n pc L st) : sj_V l Γ (cc, own, nL, ret, nm, R) G post σ I k n pc L st := h ▸ kk
theorem sj_top {v u : Value} (h : v = u) (kk : sj_V l Γ (cc, own, nL, ret, nm, R) G post σ I k n pc L (u :: st)) : sj_V l Γ (cc, own, nL, ret, nm, R) G post σ I k n pc L (v :: st) := h ▸ kk
theorem sj_ialdJ (j : Nat) {a n0 : Nat} {ρ : Nat → Option Nat} {i : Int} (hσ : σ.2 a = some (10, n0, ρ)) (hi : 0 ≤ i ∧ i < n0) (hz : n0 ≤ 2147483647) (hj : i.toNat = j) (d : decode cc pc = .ok (.iaload, 1)) (kk : sj_V l Γ (cc, own, nL, ret, nm, R) G post σ I k n (pc + 1) L (.int (zI (I a j)) :: st)) : sj_V l Γ (cc, own, nL, ret, nm, R) G post σ I k n pc L (.int (zI i) :: .ref a :: st) := by subst hj; exact sj_iald hσ hi hz d kk
theorem sj_zaldJ (j : Nat) {a n0 : Nat} {ρ : Nat → Option Nat} {i : Int} (hσ : σ.2 a = some (12, n0, ρ)) (hi : 0 ≤ i ∧ i < n0) (hz : n0 ≤ 2147483647) (hj : i.toNat = j) (d : decode cc pc = .ok (.baload, 1)) (kk : sj_V l Γ (cc, own, nL, ret, nm, R) G post σ I k n (pc + 1) L (.int (zI (I a j)) :: st)) : sj_V l Γ (cc, own, nL, ret, nm, R) G post σ I k n pc L (.int (zI i) :: .ref a :: st) := by subst hj; exact sj_zald hσ hi hz d kk
theorem sj_iastJ (j : Nat) {a n0 : Nat} {ρ : Nat → Option Nat} {i x : Int} (hσ : σ.2 a = some (10, n0, ρ)) (hi : 0 ≤ i ∧ i < n0) (hz : n0 ≤ 2147483647) (hj : i.toNat = j) (d : decode cc pc = .ok (.iastore, 1)) (kk : sj_V l Γ (cc, own, nL, ret, nm, R) G post σ (sj_up I a j x) k n (pc + 1) L st) : sj_V l Γ (cc, own, nL, ret, nm, R) G post σ I k n pc L (.int (zI x) :: .int (zI i) :: .ref a :: st) := by subst hj; exact sj_iast hσ hi hz d kk
theorem sj_zastJ (j : Nat) {a n0 : Nat} {ρ : Nat → Option Nat} {i x : Int} (hσ : σ.2 a = some (12, n0, ρ)) (hi : 0 ≤ i ∧ i < n0) (hz : n0 ≤ 2147483647) (hj : i.toNat = j) (hn : narrow .boolean (.int (zI x)) = .int (zI x)) (d : decode cc pc = .ok (.bastore, 1)) (kk : sj_V l Γ (cc, own, nL, ret, nm, R) G post σ (sj_up I a j x) k n (pc + 1) L st) : sj_V l Γ (cc, own, nL, ret, nm, R) G post σ I k n pc L (.int (zI x) :: .int (zI i) :: .ref a :: st) := by subst hj; exact sj_zast hσ hi hz hn d kk
end MORE
