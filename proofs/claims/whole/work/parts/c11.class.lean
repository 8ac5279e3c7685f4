/-! what a term needs, place by place -/
theorem jDr_add : ∀ (L : List Int) (n m : Nat), jDr (n + m) L = jDr m (jDr n L)
  | L, 0, m => by rw [jDr_0, Nat.zero_add]
  | [], n + 1, m => by
    rw [show n + 1 + m = (n + m) + 1 by omega]
    cases m <;> rfl
  | c :: L, n + 1, m => by
    rw [show n + 1 + m = (n + m) + 1 by omega]
    show jDr (n + m + jAr c) L = jDr m (jDr (n + jAr c) L)
    rw [show n + m + jAr c = (n + jAr c) + m by omega, jDr_add L (n + jAr c) m]
theorem jGx_split {ch : Int → Int → List Int} (hch : ∀ c s, jVc c → (ch c s).length = jAr c) : ∀ (A : List Int) (k : Nat) (S1 : List Int), jOk k A → S1.length = k → ∀ (B S2 : List Int), (jGx ch (A ++ B) (S1 ++ S2)).drop A.length = jGx ch B S2
  | [], 0, S1, _, hl, B, S2 => by rw [List.length_eq_zero_iff.mp hl]; rfl
  | [], k + 1, S1, h, _, _, _ => h.elim
  | c :: A, 0, S1, h, _, _, _ => h.elim
  | c :: A, k + 1, [], _, hl, _, _ => by cases hl
  | c :: A, k + 1, s :: S1, h, hl, B, S2 => by
    obtain ⟨hv, h2⟩ : jVc c ∧ jOk (k + jAr c) A := h
    have ih := jGx_split hch A (k + jAr c) (ch c s ++ S1) h2 (by rw [List.length_append, hch c s hv]; simp only [List.length_cons] at hl; omega) B S2
    rw [List.append_assoc] at ih
    exact ih
theorem jGx_at {ch : Int → Int → List Int} (hch : ∀ c s, jVc c → (ch c s).length = jAr c) {T : List Int} {s0 : Int} (hok : jOk 1 T) : ∀ p, p ≤ T.length → ∃ S, (jGx ch T [s0]).drop p = jGx ch (T.drop p) S ∧ jOk S.length (T.drop p)
  | 0, _ => ⟨[s0], rfl, hok⟩
  | p + 1, hp => by
    obtain ⟨S, h1, h2⟩ := jGx_at hch (s0 := s0) hok p (by omega)
    obtain ⟨c, L, hd, _, hd2, _⟩ := dropEx (T := T) (k := p) (by omega)
    rw [hd] at h1 h2
    cases S with
    | nil => exact h2.elim
    | cons s S =>
      obtain ⟨hv, h3⟩ : jVc c ∧ jOk (S.length + jAr c) L := h2
      refine ⟨ch c s ++ S, ?_, ?_⟩
      · rw [← List.drop_drop, h1, hd2]; rfl
      · rw [hd2, List.length_append, hch c s hv, Nat.add_comm]; exact h3
theorem pSt_of {ch : Int → Int → List Int} (hch : ∀ c s, jVc c → (ch c s).length = jAr c) {T : List Int} {s0 : Int} : ∀ (S : List Int) (p : Nat), (jGx ch T [s0]).drop p = jGx ch (T.drop p) S → jOk S.length (T.drop p) → pSt (fun q => (jGx ch T [s0]).getD q 0) T S p
  | [], _, _, _ => trivial
  | s :: S, p, h1, h2 => by
    have hsp : T.drop p = jTk 1 (T.drop p) ++ jDr 1 (T.drop p) := (jTkDr _ _).symm
    have hk := jOk_split (T.drop p) 1 S.length (by rw [Nat.add_comm]; exact h2)
    have hdd : T.drop (jEe T p) = jDr 1 (T.drop p) := by unfold jEe; rw [← List.drop_drop, jDr_drop]
    refine ⟨?_, pSt_of hch S (jEe T p) ?_ (by rw [hdd]; exact hk.2)⟩
    · obtain ⟨c, L, hd, _, _⟩ := jOk_ne (n := S.length) h2
      rw [hd] at h1
      have e : (jGx ch T [s0])[p]? = some s := by
        have := congrArg (fun l => l[0]?) h1
        simpa [jGx] using this
      show (jGx ch T [s0]).getD p 0 = s
      rw [List.getD_eq_getElem?_getD, e]; rfl
    · have e := jGx_split hch (jTk 1 (T.drop p)) 1 [s] hk.1 rfl (jDr 1 (T.drop p)) S
      rw [← hsp] at e
      have e2 : (jGx ch (T.drop p) (s :: S)).drop (jTk 1 (T.drop p)).length = jGx ch (jDr 1 (T.drop p)) S := e
      rw [← h1, List.drop_drop] at e2
      rw [hdd]
      exact e2
theorem jGx_loc {ch : Int → Int → List Int} (hch : ∀ c s, jVc c → (ch c s).length = jAr c) {T L : List Int} {s0 c s : Int} {p : Nat} (hok : jOk 1 T) (hd : T.drop p = c :: L) (hs : (jGx ch T [s0]).getD p 0 = s) : (1 ≤ jAr c → (jGx ch T [s0]).getD (p + 1) 0 = (ch c s).getD 0 0) ∧ (jAr c = 2 → (jGx ch T [s0]).getD (jEe T (p + 1)) 0 = (ch c s).getD 1 0) := by
  have hkl : p < T.length := by
    by_cases h : p < T.length
    · exact h
    · rw [List.drop_eq_nil_of_le (by omega)] at hd; cases hd
  obtain ⟨S, h1, h2⟩ := jGx_at hch (s0 := s0) hok p (by omega)
  have hst := pSt_of hch S p h1 h2
  have hL : T.drop (p + 1) = L := by rw [← List.drop_drop, hd]; rfl
  rw [hd] at h1 h2
  cases S with
  | nil => exact h2.elim
  | cons s' S =>
    have hs' : s' = s := by rw [← hs]; exact hst.1.symm
    subst hs'
    obtain ⟨hv, h3⟩ : jVc c ∧ jOk (S.length + jAr c) L := h2
    have hst2 := pSt_of hch (ch c s' ++ S) (p + 1) (by rw [← List.drop_drop, h1, hL]; rfl) (by rw [hL, List.length_append, hch c s' hv, Nat.add_comm]; exact h3)
    have hl := hch c s' hv
    match hx : ch c s', hl with
    | [], hl => exact ⟨fun q => absurd q (by simp at hl; omega), fun q => absurd q (by simp at hl; omega)⟩
    | [x], hl => rw [hx] at hst2; exact ⟨fun _ => hst2.1, fun q => absurd q (by simp at hl; omega)⟩
    | x :: y :: R, hl => rw [hx] at hst2; exact ⟨fun _ => hst2.1, fun _ => hst2.2.1⟩
/-- indices: -1 where a part is not needed -/
def chI (c s : Int) : List Int :=
  if (48 ≤ c ∧ c ≤ 57) ∨ (65 ≤ c ∧ c ≤ 72) then []
  else if c = 43 ∨ c = 42 then [s, s]
  else if c = 122 then (if s = -1 then [-1, -1] else if s % 2 = 0 then [s / 2, -1] else [-1, s / 2])
  else if c = 116 then [if s = -1 then -1 else s + 1]
  else if c = 101 then [if s = -1 then -1 else 2 * s]
  else if c = 111 then [if s = -1 then -1 else 2 * s + 1]
  else [if 0 < s then s - 1 else -1]
theorem chI_leaf {c s : Int} (h : (48 ≤ c ∧ c ≤ 57) ∨ (65 ≤ c ∧ c ≤ 72)) : chI c s = [] := by unfold chI; rw [if_pos h]
theorem chI_op {c s : Int} (h : c = 43 ∨ c = 42) : chI c s = [s, s] := by unfold chI; rw [if_neg (by omega), if_pos h]
theorem chI_z {s : Int} : chI 122 s = if s = -1 then [-1, -1] else if s % 2 = 0 then [s / 2, -1] else [-1, s / 2] := by unfold chI; rw [if_neg (by omega), if_neg (by omega), if_pos rfl]
theorem chI_t {s : Int} : chI 116 s = [if s = -1 then -1 else s + 1] := by unfold chI; rw [if_neg (by omega), if_neg (by omega), if_neg (by omega), if_pos rfl]
theorem chI_e {s : Int} : chI 101 s = [if s = -1 then -1 else 2 * s] := by unfold chI; rw [if_neg (by omega), if_neg (by omega), if_neg (by omega), if_neg (by omega), if_pos rfl]
theorem chI_o {s : Int} : chI 111 s = [if s = -1 then -1 else 2 * s + 1] := by unfold chI; rw [if_neg (by omega), if_neg (by omega), if_neg (by omega), if_neg (by omega), if_neg (by omega), if_pos rfl]
theorem chI_f {c s : Int} (h : 128 ≤ c) : chI c s = [if 0 < s then s - 1 else -1] := by unfold chI; rw [if_neg (by omega), if_neg (by omega), if_neg (by omega), if_neg (by omega), if_neg (by omega), if_neg (by omega)]
/-- the kinds of codes -/
theorem jVc_kinds {c : Int} (h : jVc c) : ((48 ≤ c ∧ c ≤ 57) ∧ jAr c = 0) ∨ ((65 ≤ c ∧ c ≤ 72) ∧ jAr c = 0) ∨ ((c = 43 ∨ c = 42) ∧ jAr c = 2) ∨ (c = 122 ∧ jAr c = 2) ∨ (c = 116 ∧ jAr c = 1) ∨ (c = 101 ∧ jAr c = 1) ∨ (c = 111 ∧ jAr c = 1) ∨ ((128 ≤ c ∧ c ≤ 137) ∧ jAr c = 1) := by
  have ha := jAr_cases c
  unfold jVc at h
  omega
theorem chI_len (c s : Int) (hv : jVc c) : (chI c s).length = jAr c := by
  rcases jVc_kinds hv with ⟨h, a⟩ | ⟨h, a⟩ | ⟨h, a⟩ | ⟨rfl, a⟩ | ⟨rfl, a⟩ | ⟨rfl, a⟩ | ⟨rfl, a⟩ | ⟨h, a⟩ <;> rw [a]
  · rw [chI_leaf (Or.inl h)]; rfl
  · rw [chI_leaf (Or.inr h)]; rfl
  · rw [chI_op h]; rfl
  · rw [chI_z]; split
    · rfl
    · split <;> rfl
  · rw [chI_t]; rfl
  · rw [chI_e]; rfl
  · rw [chI_o]; rfl
  · rw [chI_f h.1]; rfl
theorem chI_ge {c s : Int} (hs : -1 ≤ s) : ∀ x ∈ chI c s, -1 ≤ x := by
  intro x hx
  unfold chI at hx
  split at hx
  · cases hx
  · split at hx
    · rcases List.mem_cons.mp hx with rfl | hx
      · exact hs
      · rw [List.mem_singleton.mp hx]; exact hs
    · split at hx
      · split at hx
        · rcases List.mem_cons.mp hx with rfl | hx
          · omega
          · rw [List.mem_singleton.mp hx]; omega
        · split at hx
          · rcases List.mem_cons.mp hx with rfl | hx
            · omega
            · rw [List.mem_singleton.mp hx]; omega
          · rcases List.mem_cons.mp hx with rfl | hx
            · omega
            · rw [List.mem_singleton.mp hx]; omega
      · split at hx
        · rw [List.mem_singleton.mp hx]; split <;> omega
        · split at hx
          · rw [List.mem_singleton.mp hx]; split <;> omega
          · split at hx
            · rw [List.mem_singleton.mp hx]; split <;> omega
            · rw [List.mem_singleton.mp hx]; split <;> omega
theorem jGx_ge : ∀ (L S : List Int), (∀ s ∈ S, -1 ≤ s) → ∀ x ∈ jGx chI L S, -1 ≤ x
  | [], S, _, x, hx => by cases S <;> cases hx
  | _ :: _, [], _, x, hx => by cases hx
  | c :: L, s :: S, h, x, hx => by
    rcases List.mem_cons.mp hx with rfl | hx
    · exact h _ List.mem_cons_self
    · exact jGx_ge L _ (fun y hy => by
        rcases List.mem_append.mp hy with hy | hy
        · exact chI_ge (h s List.mem_cons_self) y hy
        · exact h y (List.mem_cons_of_mem _ hy)) x hx
theorem jN_dig {c : Int} {L : List Int} {i : Nat} (hi : ¬ 1000000000 < i) (h : 48 ≤ c ∧ c ≤ 57) : jN (c :: L) i = some [] := by rw [jN_cons, if_neg hi, if_neg (show ¬ (65 ≤ c ∧ c ≤ 72) by omega), if_pos h]
theorem jN_let {c : Int} {L : List Int} {i : Nat} (hi : ¬ 1000000000 < i) (h : 65 ≤ c ∧ c ≤ 72) : jN (c :: L) i = if i < 400 then some [400 * (c - 65).toNat + i] else none := by rw [jN_cons, if_neg hi, if_pos h]
theorem jN_f {c : Int} {L : List Int} {i : Nat} (hi : ¬ 1000000000 < i) (h : 128 ≤ c) : jN (c :: L) i = if i = 0 then some [] else jN L (i - 1) := by rw [jN_cons, if_neg hi, if_neg (show ¬ (65 ≤ c ∧ c ≤ 72) by omega), if_neg (show ¬ (48 ≤ c ∧ c ≤ 57) by omega), if_pos h]
theorem jN_t {L : List Int} {i : Nat} (hi : ¬ 1000000000 < i) : jN (116 :: L) i = jN L (i + 1) := by rw [jN_cons, if_neg hi]; rfl
theorem jN_e {L : List Int} {i : Nat} (hi : ¬ 1000000000 < i) : jN (101 :: L) i = jN L (2 * i) := by rw [jN_cons, if_neg hi]; rfl
theorem jN_o {L : List Int} {i : Nat} (hi : ¬ 1000000000 < i) : jN (111 :: L) i = jN L (2 * i + 1) := by rw [jN_cons, if_neg hi]; rfl
theorem jN_z {L : List Int} {i : Nat} (hi : ¬ 1000000000 < i) : jN (122 :: L) i = if i % 2 = 0 then jN L (i / 2) else jN (jDr 1 L) (i / 2) := by rw [jN_cons, if_neg hi]; rfl
theorem jN_op {c : Int} {L : List Int} {i : Nat} (hi : ¬ 1000000000 < i) (h : c = 43 ∨ c = 42) : jN (c :: L) i = (jN L i).bind (fun a => (jN (jDr 1 L) i).map (fun b => a ++ b)) := by
  rw [jN_cons, if_neg hi]
  rcases h with rfl | rfl <;> rfl
/-- what is needed, place by place -/
def jCz : List Int → List Int → Option (List Nat)
  | c :: L, s :: G => if s = -1 then jCz L G else if 1000000000 < s then none else if 65 ≤ c ∧ c ≤ 72 then (if s < 400 then (jCz L G).map (fun l => (400 * (c - 65).toNat + s.toNat) :: l) else none) else jCz L G
  | _, _ => some []
def jNst : List Int → List Int → Option (List Nat)
  | _, [] => some []
  | L, s :: S => (if s = -1 then some [] else jN L s.toNat).bind (fun a => (jNst (jDr 1 L) S).map (fun b => a ++ b))
theorem jNst_un (L S : List Int) : jNst L (-1 :: S) = jNst (jDr 1 L) S := by
  show (if (-1 : Int) = -1 then some [] else _).bind (fun a => (jNst (jDr 1 L) S).map (fun b => a ++ b)) = _
  rw [if_pos rfl]
  cases jNst (jDr 1 L) S <;> rfl
theorem jNst_on {L S : List Int} {s : Int} (h : s ≠ -1) : jNst L (s :: S) = (jN L s.toNat).bind (fun a => (jNst (jDr 1 L) S).map (fun b => a ++ b)) := by
  show (if s = -1 then some [] else _).bind (fun a => (jNst (jDr 1 L) S).map (fun b => a ++ b)) = _
  rw [if_neg h]
theorem jCz_st : ∀ (L S : List Int), jOk S.length L → (∀ s ∈ S, -1 ≤ s) → jCz L (jGx chI L S) = jNst L S
  | [], [], _, _ => rfl
  | [], _ :: _, h, _ => h.elim
  | c :: L, [], h, _ => h.elim
  | c :: L, s :: S, h, hs => by
    obtain ⟨hv, h2⟩ : jVc c ∧ jOk (S.length + jAr c) L := h
    have hs0 := hs s List.mem_cons_self
    have ih := jCz_st L (chI c s ++ S) (by rw [List.length_append, chI_len c s hv, Nat.add_comm]; exact h2) (fun y hy => by
      rcases List.mem_append.mp hy with hy | hy
      · exact chI_ge hs0 y hy
      · exact hs y (List.mem_cons_of_mem _ hy))
    have hdr : jDr 1 (c :: L) = jDr (jAr c) L := by show jDr (0 + jAr c) L = _; rw [Nat.zero_add]
    show (if s = -1 then jCz L (jGx chI L (chI c s ++ S)) else if 1000000000 < s then none else if 65 ≤ c ∧ c ≤ 72 then (if s < 400 then (jCz L (jGx chI L (chI c s ++ S))).map (fun l => (400 * (c - 65).toNat + s.toNat) :: l) else none) else jCz L (jGx chI L (chI c s ++ S))) = jNst (c :: L) (s :: S)
    rw [ih]
    by_cases e : s = -1
    · subst e
      rw [if_pos rfl, jNst_un, hdr]
      rcases jVc_kinds hv with ⟨h, a⟩ | ⟨h, a⟩ | ⟨h, a⟩ | ⟨rfl, a⟩ | ⟨rfl, a⟩ | ⟨rfl, a⟩ | ⟨rfl, a⟩ | ⟨h, a⟩ <;> rw [a]
      · rw [chI_leaf (Or.inl h), jDr_0]; rfl
      · rw [chI_leaf (Or.inr h), jDr_0]; rfl
      · rw [chI_op h]
        show jNst L (-1 :: -1 :: S) = _
        rw [jNst_un, jNst_un, ← jDr_add]
      · rw [chI_z, if_pos rfl]
        show jNst L (-1 :: -1 :: S) = _
        rw [jNst_un, jNst_un, ← jDr_add]
      · rw [chI_t, if_pos rfl]
        exact jNst_un L S
      · rw [chI_e, if_pos rfl]
        exact jNst_un L S
      · rw [chI_o, if_pos rfl]
        exact jNst_un L S
      · rw [chI_f h.1, if_neg (by omega)]
        exact jNst_un L S
    · rw [if_neg e, jNst_on e, hdr]
      by_cases e2 : 1000000000 < s
      · rw [if_pos e2, jN_cons, if_pos (show 1000000000 < s.toNat by omega)]; rfl
      · have hi : ¬ 1000000000 < s.toNat := by omega
        rw [if_neg e2]
        rcases jVc_kinds hv with ⟨h, a⟩ | ⟨h, a⟩ | ⟨h, a⟩ | ⟨rfl, a⟩ | ⟨rfl, a⟩ | ⟨rfl, a⟩ | ⟨rfl, a⟩ | ⟨h, a⟩ <;> rw [a]
        · rw [if_neg (show ¬ (65 ≤ c ∧ c ≤ 72) by omega), chI_leaf (Or.inl h), jDr_0, jN_dig hi h]
          show jNst L S = (jNst L S).map (fun b => [] ++ b)
          cases jNst L S <;> rfl
        · rw [if_pos h, chI_leaf (Or.inr h), jDr_0, jN_let hi h]
          by_cases e3 : s < 400
          · rw [if_pos e3, if_pos (show s.toNat < 400 by omega)]; rfl
          · rw [if_neg e3, if_neg (show ¬ s.toNat < 400 by omega)]; rfl
        · rw [if_neg (show ¬ (65 ≤ c ∧ c ≤ 72) by omega), chI_op h, jN_op hi h]
          show jNst L (s :: s :: S) = _
          rw [jNst_on e, jNst_on e, show jDr 2 L = jDr 1 (jDr 1 L) from jDr_add L 1 1]
          cases jN L s.toNat with
          | none => rfl
          | some x =>
            cases jN (jDr 1 L) s.toNat with
            | none => rfl
            | some y =>
              cases jNst (jDr 1 (jDr 1 L)) S with
              | none => rfl
              | some z => show some (x ++ (y ++ z)) = some ((x ++ y) ++ z); rw [List.append_assoc]
        · rw [if_neg (show ¬ (65 ≤ (122 : Int) ∧ (122 : Int) ≤ 72) by omega), chI_z, if_neg e, jN_z hi, show jDr 2 L = jDr 1 (jDr 1 L) from jDr_add L 1 1]
          by_cases e3 : s % 2 = 0
          · rw [if_pos e3, if_pos (show s.toNat % 2 = 0 by omega)]
            show jNst L ((s / 2) :: -1 :: S) = _
            rw [jNst_on (show s / 2 ≠ -1 by omega), jNst_un, show (s / 2).toNat = s.toNat / 2 by omega]
          · rw [if_neg e3, if_neg (show ¬ s.toNat % 2 = 0 by omega)]
            show jNst L (-1 :: (s / 2) :: S) = _
            rw [jNst_un, jNst_on (show s / 2 ≠ -1 by omega), show (s / 2).toNat = s.toNat / 2 by omega]
        · rw [if_neg (show ¬ (65 ≤ (116 : Int) ∧ (116 : Int) ≤ 72) by omega), chI_t, if_neg e, jN_t hi]
          show jNst L ((s + 1) :: S) = _
          rw [jNst_on (show s + 1 ≠ -1 by omega), show (s + 1).toNat = s.toNat + 1 by omega]
        · rw [if_neg (show ¬ (65 ≤ (101 : Int) ∧ (101 : Int) ≤ 72) by omega), chI_e, if_neg e, jN_e hi]
          show jNst L ((2 * s) :: S) = _
          rw [jNst_on (show 2 * s ≠ -1 by omega), show (2 * s).toNat = 2 * s.toNat by omega]
        · rw [if_neg (show ¬ (65 ≤ (111 : Int) ∧ (111 : Int) ≤ 72) by omega), chI_o, if_neg e, jN_o hi]
          show jNst L ((2 * s + 1) :: S) = _
          rw [jNst_on (show 2 * s + 1 ≠ -1 by omega), show (2 * s + 1).toNat = 2 * s.toNat + 1 by omega]
        · rw [if_neg (show ¬ (65 ≤ c ∧ c ≤ 72) by omega), chI_f h.1, jN_f hi h.1]
          by_cases e3 : 0 < s
          · rw [if_pos e3, if_neg (show ¬ s.toNat = 0 by omega)]
            show jNst L ((s - 1) :: S) = _
            rw [jNst_on (show s - 1 ≠ -1 by omega), show (s - 1).toNat = s.toNat - 1 by omega]
          · rw [if_neg e3, if_pos (show s.toNat = 0 by omega)]
            show jNst L (-1 :: S) = _
            rw [jNst_un]
            show _ = (jNst (jDr 1 L) S).map (fun b => [] ++ b)
            cases jNst (jDr 1 L) S <;> rfl
theorem jN_cz {T : List Int} {i : Nat} (hok : jOk 1 T) : jN T i = jCz T (jGx chI T [(i : Int)]) := by
  rw [jCz_st T [(i : Int)] hok (fun s hs => by rw [List.mem_singleton.mp hs]; omega), jNst_on (by omega)]
  show jN T i = (jN T i).bind (fun a => (some []).map (fun b => a ++ b))
  cases jN T i with
  | none => rfl
  | some x => show some x = some (x ++ []); rw [List.append_nil]
/-- the same over the letters alone -/
def jCl : List (Int × Int) → Option (List Nat)
  | [] => some []
  | p :: R => if p.2 = -1 then jCl R else if p.2 < 400 then (jCl R).map (fun l => (400 * (p.1 - 65).toNat + p.2.toNat) :: l) else none
theorem jCz_cl : ∀ (L G : List Int), L.length = G.length → (∀ s ∈ G, s ≤ 1000000000) → jCz L G = jCl (jZl L G)
  | [], [], _, _ => rfl
  | [], _ :: _, h, _ => by cases h
  | _ :: _, [], h, _ => by cases h
  | c :: L, s :: G, h, hs => by
    have ih := jCz_cl L G (by simpa using h) (fun x hx => hs x (List.mem_cons_of_mem _ hx))
    have hs0 := hs s List.mem_cons_self
    simp only [jCz, jZl]
    rw [if_neg (show ¬ 1000000000 < s by omega), ih]
    by_cases e : 65 ≤ c ∧ c ≤ 72
    · rw [if_pos e, if_pos e]; rfl
    · rw [if_neg e, if_neg e]
      split <;> rfl
theorem jCz_big : ∀ (L G : List Int), L.length = G.length → (∃ s ∈ G, 1000000000 < s) → jCz L G = none
  | [], [], _, h => by obtain ⟨s, hs, _⟩ := h; cases hs
  | [], _ :: _, h, _ => by cases h
  | _ :: _, [], h, _ => by cases h
  | c :: L, s :: G, h, hb => by
    simp only [jCz]
    by_cases e : 1000000000 < s
    · rw [if_neg (by omega), if_pos e]
    · have ih := jCz_big L G (by simpa using h) (by
        obtain ⟨x, hx, hx2⟩ := hb
        rcases List.mem_cons.mp hx with rfl | hx
        · exact absurd hx2 e
        · exact ⟨x, hx, hx2⟩)
      rw [ih, if_neg e]
      split
      · rfl
      · split
        · split <;> rfl
        · rfl
theorem jCl_app : ∀ (A B : List (Int × Int)), jCl (A ++ B) = (jCl A).bind (fun a => (jCl B).map (fun b => a ++ b))
  | [], B => by
    show jCl B = (jCl B).map (fun b => [] ++ b)
    cases jCl B <;> rfl
  | p :: A, B => by
    have ih := jCl_app A B
    simp only [List.cons_append, jCl, ih]
    by_cases e : p.2 = -1
    · rw [if_pos e, if_pos e]
    · rw [if_neg e, if_neg e]
      by_cases e2 : p.2 < 400
      · rw [if_pos e2, if_pos e2]
        cases jCl A with
        | none => rfl
        | some x => cases jCl B <;> rfl
      · rw [if_neg e2, if_neg e2]; rfl
theorem jCl_mem : ∀ (R : List (Int × Int)) (nd : List Nat), jCl R = some nd → ∀ p ∈ R, p.2 ≠ -1 → p.2 < 400 ∧ (400 * (p.1 - 65).toNat + p.2.toNat) ∈ nd
  | [], nd, _, p, hp, _ => by cases hp
  | q :: R, nd, h, p, hp, h1 => by
    simp only [jCl] at h
    by_cases e : q.2 = -1
    · rw [if_pos e] at h
      rcases List.mem_cons.mp hp with rfl | hp
      · exact absurd e h1
      · exact jCl_mem R nd h p hp h1
    · rw [if_neg e] at h
      by_cases e2 : q.2 < 400
      · rw [if_pos e2] at h
        cases e3 : jCl R with
        | none => rw [e3] at h; cases h
        | some l =>
          rw [e3] at h
          cases h
          rcases List.mem_cons.mp hp with rfl | hp
          · exact ⟨e2, List.mem_cons_self⟩
          · have := jCl_mem R l e3 p hp h1
            exact ⟨this.1, List.mem_cons_of_mem _ this.2⟩
      · rw [if_neg e2] at h; cases h
