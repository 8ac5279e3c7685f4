/-! the law: the script's row, and a call to both -/
def lwX (Γ : sjC) (G : sjG) (b Ln : Nat) (xs : Nat → Int) : Prop := va_X b Ln (fun j => zI (xs j)) Γ.2.2.1 G.2.2.2 ∧ b < G.2.2.2.size ∧ Ln ≤ 2048 ∧ ∀ j, -2147483648 ≤ xs j ∧ xs j < 2147483648
theorem sj_rm_le {R R' : Room} {nL k n K N : Nat} (h : sj_rm R R' nL K N = true) (hk : k ≤ K) (hn : n ≤ N) : sj_rm R R' nL k n = true := by
  unfold sj_rm at h ⊢
  simp only [Bool.and_eq_true, Nat.ble_eq] at h ⊢
  omega
theorem cQ.ref {σ : sjS} {I : sjI} {x : Nat} {Q : aQ} (h : cQ σ I x Q) : ∃ ρ, σ.2 x = some (8, 0, ρ) := by
  obtain ⟨pv, ws, cy, η, ξ, μ, od, hj⟩ := h
  obtain ⟨ρ, h0, _⟩ := hj.1.1
  exact ⟨ρ, h0⟩
section LAWROWS
variable {l : Launch} {Γ : sjC} {cc : ByteArray} {own nm : String} {nL : Nat} {ret : Option FieldType} {R : Room} {G : sjG} {post : sjP} {σ : sjS} {I : sjI} {k n pc : Nat} {L : List (Option Value)} {st : List Value}
theorem sj_sald {b Ln : Nat} {xs : Nat → Int} {i : Int} (hX : lwX Γ G b Ln xs) (hi : 0 ≤ i ∧ i < Ln) (d : decode cc pc = .ok (.iaload, 1)) (kk : sj_V l Γ (cc, own, nL, ret, nm, R) G post σ I k n (pc + 1) L (.int (zI (xs i.toNat)) :: st)) : sj_V l Γ (cc, own, nL, ret, nm, R) G post σ I k n pc L (.int (zI i) :: .ref b :: st) := by
  obtain ⟨p, e, s, m, args, below, meth, c, Q⟩ := Γ
  intro hC hK hr H locs ls hR hlo hL
  obtain ⟨hx, hb, hml, hown, hnm⟩ := id hC
  obtain ⟨⟨scr, h1, h2, h3, h4, h5⟩, hbl, hLn, _⟩ := hX
  have h5' := h5 i.toNat (by omega)
  exact W.iald (v := .int (zI (xs i.toNat))) hx hb (by rw [hR.2.1 b hbl]; exact h1) h2 h3 (by rw [h4]; exact zI_in hi (by omega)) (by rw [zI_cl (by omega)]; exact h5') rfl rfl d (kk hC hK hr H locs ls hR hlo hL)
theorem sj_slen {b Ln : Nat} {xs : Nat → Int} (hX : lwX Γ G b Ln xs) (d : decode cc pc = .ok (.arraylength, 1)) (kk : sj_V l Γ (cc, own, nL, ret, nm, R) G post σ I k n (pc + 1) L (.int (zI (Ln : Int)) :: st)) : sj_V l Γ (cc, own, nL, ret, nm, R) G post σ I k n pc L (.ref b :: st) := by
  obtain ⟨p, e, s, m, args, below, meth, c, Q⟩ := Γ
  intro hC hK hr H locs ls hR hlo hL
  obtain ⟨hx, hb, hml, hown, hnm⟩ := id hC
  obtain ⟨⟨scr, h1, h2, h3, h4, h5⟩, hbl, hLn, _⟩ := hX
  refine W.alen (n := Int32.ofNat Ln) hx hb (by rw [hR.2.1 b hbl]; exact h1) h2 (by rw [h4] <;> rfl) rfl rfl d ?_
  rw [zI_n]
  exact kk hC hK hr H locs ls hR hlo hL
end LAWROWS
section LAWCALLS
variable {l : Launch} {Γ : sjC} {nm : String} {G : sjG} {post : sjP} {σ : sjS} {I : sjI} {k n b Ln x : Nat} {xs : Nat → Int} {i : Int} {Q : aQ}
theorem lw_write (hX : lwX Γ G b Ln xs) (hi : 0 ≤ i ∧ i + 4 ≤ Ln) (hc : cQ σ I x Q) (hr : rI σ I (x + 14) Q) (hk : k ≤ 8000) (hn : n ≤ 6900000) (kk : ∀ (σ' : sjS) (I' : sjI) (Q' : aQ), cQ σ' I' x Q' → rI σ' I' (x + 14) Q' → sj_V l Γ (cL_law, RL, 4, some .boolean, nm, room_1) G post σ' I' (k + 14) (n + 13396) 665 [some (.ref b), some (.ref x), some (.ref (x + 14)), some (.int (zI i))] []) : sj_V l Γ (cL_law, RL, 4, some .boolean, nm, room_1) G post σ I k n 132 [some (.ref b), some (.ref x), some (.ref (x + 14)), some (.int (zI i))] [] := by
  have hR := hr.rB
  have hLn := hX.2.2.1
  obtain ⟨ρ0, hx0⟩ := hc.ref
  refine sj_ald1 dL_law_132 ?_
  refine sj_ald0 dL_law_133 ?_
  refine sj_ild3 dL_law_134 ?_
  refine sj_iconst dL_law_135 ?_
  refine sj_iadd dL_law_136 ?_
  refine sj_sald hX (by omega) dL_law_137 ?_
  refine sj_callV (cz_write hc (hX.2.2.2 _)) kc_L_13 hx0 rfl rfl (sj_rm_le (K := 8000) (N := 6900000) rfl hk hn) rfl (Nat.le_of_ble_eq_true rfl) dL_law_138 (fun r1 σ1 I1 hp1 => ?_)
  obtain ⟨hC1, rfl, hc1⟩ := hp1
  have hr1 := hr.keep hC1
  have ho1 := hr1.1.1
  refine sj_ald2 dL_law_141 ?_
  refine sj_ald0 dL_law_142 ?_
  refine sj_ild3 dL_law_143 ?_
  refine sj_iconst dL_law_144 ?_
  refine sj_iadd dL_law_145 ?_
  refine sj_sald hX (by omega) dL_law_146 ?_
  refine sj_callV (rz_write hr1 (hX.2.2.2 _)) kc_L_17 ho1 rfl rfl (sj_rm_le (K := 9000) (N := 7000000) rfl (by show k + 0 ≤ 9000; omega) (by show n + 0 ≤ 7000000; omega)) rfl (Nat.le_of_ble_eq_true rfl) dL_law_147 (fun r2 σ2 I2 hp2 => ?_)
  obtain ⟨rfl, hout, rfl, hr2⟩ := hp2
  refine sj_icmp_same 665 dL_law_150 (by decide) ?_
  exact sj_more (by show k + 0 + 0 ≤ k + 14; omega) (by show n + 0 + 0 ≤ n + 13396; omega) (kk _ _ _ (hc1.keep hr1.rB hout) hr2)
theorem lw_wipe (hX : lwX Γ G b Ln xs) (hi : 0 ≤ i ∧ i + 4 ≤ Ln) (hc : cQ σ I x Q) (hr : rI σ I (x + 14) Q) (hk : k ≤ 8000) (hn : n ≤ 6900000) (kk : ∀ (σ' : sjS) (I' : sjI) (Q' : aQ), cQ σ' I' x Q' → rI σ' I' (x + 14) Q' → sj_V l Γ (cL_law, RL, 4, some .boolean, nm, room_1) G post σ' I' (k + 14) (n + 13396) 665 [some (.ref b), some (.ref x), some (.ref (x + 14)), some (.int (zI i))] []) : sj_V l Γ (cL_law, RL, 4, some .boolean, nm, room_1) G post σ I k n 155 [some (.ref b), some (.ref x), some (.ref (x + 14)), some (.int (zI i))] [] := by
  have hR := hr.rB
  have hLn := hX.2.2.1
  obtain ⟨ρ0, hx0⟩ := hc.ref
  refine sj_ald1 dL_law_155 ?_
  refine sj_callV (cz_wipe hc) kc_L_18 hx0 rfl rfl (sj_rm_le (K := 8000) (N := 6900000) rfl hk hn) rfl (Nat.le_of_ble_eq_true rfl) dL_law_156 (fun r1 σ1 I1 hp1 => ?_)
  obtain ⟨hC1, rfl, hc1⟩ := hp1
  have hr1 := hr.keep hC1
  have ho1 := hr1.1.1
  refine sj_ald2 dL_law_159 ?_
  refine sj_callV (rz_wipe hr1) kc_L_22 ho1 rfl rfl (sj_rm_le (K := 9000) (N := 7000000) rfl (by show k + 0 ≤ 9000; omega) (by show n + 0 ≤ 7000000; omega)) rfl (Nat.le_of_ble_eq_true rfl) dL_law_160 (fun r2 σ2 I2 hp2 => ?_)
  obtain ⟨rfl, hout, rfl, hr2⟩ := hp2
  refine sj_icmp_same 665 dL_law_163 (by decide) ?_
  exact sj_more (by show k + 0 + 0 ≤ k + 14; omega) (by show n + 0 + 0 ≤ n + 13396; omega) (kk _ _ _ (hc1.keep hr1.rB hout) hr2)
theorem lw_fault (hX : lwX Γ G b Ln xs) (hi : 0 ≤ i ∧ i + 4 ≤ Ln) (hc : cQ σ I x Q) (hr : rI σ I (x + 14) Q) (hk : k ≤ 8000) (hn : n ≤ 6900000) (kk : ∀ (σ' : sjS) (I' : sjI) (Q' : aQ), cQ σ' I' x Q' → rI σ' I' (x + 14) Q' → sj_V l Γ (cL_law, RL, 4, some .boolean, nm, room_1) G post σ' I' (k + 14) (n + 13396) 665 [some (.ref b), some (.ref x), some (.ref (x + 14)), some (.int (zI i))] []) : sj_V l Γ (cL_law, RL, 4, some .boolean, nm, room_1) G post σ I k n 168 [some (.ref b), some (.ref x), some (.ref (x + 14)), some (.int (zI i))] [] := by
  have hR := hr.rB
  have hLn := hX.2.2.1
  obtain ⟨ρ0, hx0⟩ := hc.ref
  refine sj_ald1 dL_law_168 ?_
  refine sj_callV (cz_fault hc) kc_L_23 hx0 rfl rfl (sj_rm_le (K := 8000) (N := 6900000) rfl hk hn) rfl (Nat.le_of_ble_eq_true rfl) dL_law_169 (fun r1 σ1 I1 hp1 => ?_)
  obtain ⟨hC1, rfl, hc1⟩ := hp1
  have hr1 := hr.keep hC1
  have ho1 := hr1.1.1
  refine sj_ald2 dL_law_172 ?_
  refine sj_callV (rz_fault hr1) kc_L_26 ho1 rfl rfl (sj_rm_le (K := 9000) (N := 7000000) rfl (by show k + 0 ≤ 9000; omega) (by show n + 0 ≤ 7000000; omega)) rfl (Nat.le_of_ble_eq_true rfl) dL_law_173 (fun r2 σ2 I2 hp2 => ?_)
  obtain ⟨rfl, hout, rfl, hr2⟩ := hp2
  refine sj_icmp_same 665 dL_law_176 (by decide) ?_
  exact sj_more (by show k + 0 + 0 ≤ k + 14; omega) (by show n + 0 + 0 ≤ n + 13396; omega) (kk _ _ _ (hc1.keep hr1.rB hout) hr2)
theorem lw_define (hX : lwX Γ G b Ln xs) (hi : 0 ≤ i ∧ i + 4 ≤ Ln) (hc : cQ σ I x Q) (hr : rI σ I (x + 14) Q) (hk : k ≤ 8000) (hn : n ≤ 6900000) (kk : ∀ (σ' : sjS) (I' : sjI) (Q' : aQ), cQ σ' I' x Q' → rI σ' I' (x + 14) Q' → sj_V l Γ (cL_law, RL, 4, some .boolean, nm, room_1) G post σ' I' (k + 14) (n + 13396) 665 [some (.ref b), some (.ref x), some (.ref (x + 14)), some (.int (zI i))] []) : sj_V l Γ (cL_law, RL, 4, some .boolean, nm, room_1) G post σ I k n 181 [some (.ref b), some (.ref x), some (.ref (x + 14)), some (.int (zI i))] [] := by
  have hR := hr.rB
  have hLn := hX.2.2.1
  obtain ⟨ρ0, hx0⟩ := hc.ref
  refine sj_ald1 dL_law_181 ?_
  refine sj_ald0 dL_law_182 ?_
  refine sj_ild3 dL_law_183 ?_
  refine sj_iconst dL_law_184 ?_
  refine sj_iadd dL_law_185 ?_
  refine sj_sald hX (by omega) dL_law_186 ?_
  refine sj_callV (cz_define hc hR (hX.2.2.2 _)) kc_L_27 hx0 rfl rfl (sj_rm_le (K := 8000) (N := 6900000) rfl hk hn) rfl (Nat.le_of_ble_eq_true rfl) dL_law_187 (fun r1 σ1 I1 hp1 => ?_)
  obtain ⟨hC1, rfl, hc1⟩ := hp1
  have hr1 := hr.keep hC1
  have ho1 := hr1.1.1
  refine sj_ald2 dL_law_190 ?_
  refine sj_ald0 dL_law_191 ?_
  refine sj_ild3 dL_law_192 ?_
  refine sj_iconst dL_law_193 ?_
  refine sj_iadd dL_law_194 ?_
  refine sj_sald hX (by omega) dL_law_195 ?_
  refine sj_callV (rz_define hr1 (hX.2.2.2 _)) kc_L_30 ho1 rfl rfl (sj_rm_le (K := 9000) (N := 7000000) rfl (by show k + 6 ≤ 9000; omega) (by show n + 374 ≤ 7000000; omega)) rfl (Nat.le_of_ble_eq_true rfl) dL_law_196 (fun r2 σ2 I2 hp2 => ?_)
  obtain ⟨rfl, hout, rfl, hr2⟩ := hp2
  refine sj_icmp_same 665 dL_law_199 (by decide) ?_
  exact sj_more (by show k + 6 + 0 ≤ k + 14; omega) (by show n + 374 + 0 ≤ n + 13396; omega) (kk _ _ _ (hc1.keep hr1.rB hout) hr2)
theorem lw_undefine (hX : lwX Γ G b Ln xs) (hi : 0 ≤ i ∧ i + 4 ≤ Ln) (hc : cQ σ I x Q) (hr : rI σ I (x + 14) Q) (hk : k ≤ 8000) (hn : n ≤ 6900000) (kk : ∀ (σ' : sjS) (I' : sjI) (Q' : aQ), cQ σ' I' x Q' → rI σ' I' (x + 14) Q' → sj_V l Γ (cL_law, RL, 4, some .boolean, nm, room_1) G post σ' I' (k + 14) (n + 13396) 665 [some (.ref b), some (.ref x), some (.ref (x + 14)), some (.int (zI i))] []) : sj_V l Γ (cL_law, RL, 4, some .boolean, nm, room_1) G post σ I k n 204 [some (.ref b), some (.ref x), some (.ref (x + 14)), some (.int (zI i))] [] := by
  have hR := hr.rB
  have hLn := hX.2.2.1
  obtain ⟨ρ0, hx0⟩ := hc.ref
  refine sj_ald1 dL_law_204 ?_
  refine sj_ald0 dL_law_205 ?_
  refine sj_ild3 dL_law_206 ?_
  refine sj_iconst dL_law_207 ?_
  refine sj_iadd dL_law_208 ?_
  refine sj_sald hX (by omega) dL_law_209 ?_
  refine sj_callV (cz_undefine hc hR (hX.2.2.2 _)) kc_L_31 hx0 rfl rfl (sj_rm_le (K := 8000) (N := 6900000) rfl hk hn) rfl (Nat.le_of_ble_eq_true rfl) dL_law_210 (fun r1 σ1 I1 hp1 => ?_)
  obtain ⟨hC1, rfl, hc1⟩ := hp1
  have hr1 := hr.keep hC1
  have ho1 := hr1.1.1
  refine sj_ald2 dL_law_213 ?_
  refine sj_ald0 dL_law_214 ?_
  refine sj_ild3 dL_law_215 ?_
  refine sj_iconst dL_law_216 ?_
  refine sj_iadd dL_law_217 ?_
  refine sj_sald hX (by omega) dL_law_218 ?_
  refine sj_callV (rz_undefine hr1 (hX.2.2.2 _)) kc_L_34 ho1 rfl rfl (sj_rm_le (K := 9000) (N := 7000000) rfl (by show k + 2 ≤ 9000; omega) (by show n + 10 ≤ 7000000; omega)) rfl (Nat.le_of_ble_eq_true rfl) dL_law_219 (fun r2 σ2 I2 hp2 => ?_)
  obtain ⟨rfl, hout, rfl, hr2⟩ := hp2
  refine sj_icmp_same 665 dL_law_222 (by decide) ?_
  exact sj_more (by show k + 2 + 0 ≤ k + 14; omega) (by show n + 10 + 0 ≤ n + 13396; omega) (kk _ _ _ (hc1.keep hr1.rB hout) hr2)
theorem lw_setModulus (hX : lwX Γ G b Ln xs) (hi : 0 ≤ i ∧ i + 4 ≤ Ln) (hc : cQ σ I x Q) (hr : rI σ I (x + 14) Q) (hk : k ≤ 8000) (hn : n ≤ 6900000) (kk : ∀ (σ' : sjS) (I' : sjI) (Q' : aQ), cQ σ' I' x Q' → rI σ' I' (x + 14) Q' → sj_V l Γ (cL_law, RL, 4, some .boolean, nm, room_1) G post σ' I' (k + 14) (n + 13396) 665 [some (.ref b), some (.ref x), some (.ref (x + 14)), some (.int (zI i))] []) : sj_V l Γ (cL_law, RL, 4, some .boolean, nm, room_1) G post σ I k n 227 [some (.ref b), some (.ref x), some (.ref (x + 14)), some (.int (zI i))] [] := by
  have hR := hr.rB
  have hLn := hX.2.2.1
  obtain ⟨ρ0, hx0⟩ := hc.ref
  refine sj_ald1 dL_law_227 ?_
  refine sj_ald0 dL_law_228 ?_
  refine sj_ild3 dL_law_229 ?_
  refine sj_iconst dL_law_230 ?_
  refine sj_iadd dL_law_231 ?_
  refine sj_sald hX (by omega) dL_law_232 ?_
  refine sj_callV (cz_setModulus hc hR (hX.2.2.2 _)) kc_L_35 hx0 rfl rfl (sj_rm_le (K := 8000) (N := 6900000) rfl hk hn) rfl (Nat.le_of_ble_eq_true rfl) dL_law_233 (fun r1 σ1 I1 hp1 => ?_)
  obtain ⟨hC1, rfl, hc1⟩ := hp1
  have hr1 := hr.keep hC1
  have ho1 := hr1.1.1
  refine sj_ald2 dL_law_236 ?_
  refine sj_ald0 dL_law_237 ?_
  refine sj_ild3 dL_law_238 ?_
  refine sj_iconst dL_law_239 ?_
  refine sj_iadd dL_law_240 ?_
  refine sj_sald hX (by omega) dL_law_241 ?_
  refine sj_callV (rz_setModulus hr1 (hX.2.2.2 _)) kc_L_38 ho1 rfl rfl (sj_rm_le (K := 9000) (N := 7000000) rfl (by show k + 2 ≤ 9000; omega) (by show n + 10 ≤ 7000000; omega)) rfl (Nat.le_of_ble_eq_true rfl) dL_law_242 (fun r2 σ2 I2 hp2 => ?_)
  obtain ⟨rfl, hout, rfl, hr2⟩ := hp2
  refine sj_icmp_same 665 dL_law_245 (by decide) ?_
  exact sj_more (by show k + 2 + 0 ≤ k + 14; omega) (by show n + 10 + 0 ≤ n + 13396; omega) (kk _ _ _ (hc1.keep hr1.rB hout) hr2)
theorem lw_insert (hX : lwX Γ G b Ln xs) (hi : 0 ≤ i ∧ i + 4 ≤ Ln) (hc : cQ σ I x Q) (hr : rI σ I (x + 14) Q) (hk : k ≤ 8000) (hn : n ≤ 6900000) (kk : ∀ (σ' : sjS) (I' : sjI) (Q' : aQ), cQ σ' I' x Q' → rI σ' I' (x + 14) Q' → sj_V l Γ (cL_law, RL, 4, some .boolean, nm, room_1) G post σ' I' (k + 14) (n + 13396) 665 [some (.ref b), some (.ref x), some (.ref (x + 14)), some (.int (zI i))] []) : sj_V l Γ (cL_law, RL, 4, some .boolean, nm, room_1) G post σ I k n 250 [some (.ref b), some (.ref x), some (.ref (x + 14)), some (.int (zI i))] [] := by
  have hR := hr.rB
  have hLn := hX.2.2.1
  obtain ⟨ρ0, hx0⟩ := hc.ref
  refine sj_ald1 dL_law_250 ?_
  refine sj_ald0 dL_law_251 ?_
  refine sj_ild3 dL_law_252 ?_
  refine sj_iconst dL_law_253 ?_
  refine sj_iadd dL_law_254 ?_
  refine sj_sald hX (by omega) dL_law_255 ?_
  refine sj_ald0 dL_law_256 ?_
  refine sj_ild3 dL_law_257 ?_
  refine sj_iconst dL_law_258 ?_
  refine sj_iadd dL_law_259 ?_
  refine sj_sald hX (by omega) dL_law_260 ?_
  refine sj_callV (cz_insert hc hR (hX.2.2.2 _) (hX.2.2.2 _)) kc_L_39 hx0 rfl rfl (sj_rm_le (K := 8000) (N := 6900000) rfl hk hn) rfl (Nat.le_of_ble_eq_true rfl) dL_law_261 (fun r1 σ1 I1 hp1 => ?_)
  obtain ⟨hC1, rfl, hc1⟩ := hp1
  have hr1 := hr.keep hC1
  have ho1 := hr1.1.1
  refine sj_ald2 dL_law_264 ?_
  refine sj_ald0 dL_law_265 ?_
  refine sj_ild3 dL_law_266 ?_
  refine sj_iconst dL_law_267 ?_
  refine sj_iadd dL_law_268 ?_
  refine sj_sald hX (by omega) dL_law_269 ?_
  refine sj_ald0 dL_law_270 ?_
  refine sj_ild3 dL_law_271 ?_
  refine sj_iconst dL_law_272 ?_
  refine sj_iadd dL_law_273 ?_
  refine sj_sald hX (by omega) dL_law_274 ?_
  refine sj_callV (rz_insert hr1 (hX.2.2.2 _) (hX.2.2.2 _)) kc_L_43 ho1 rfl rfl (sj_rm_le (K := 9000) (N := 7000000) rfl (by show k + 7 ≤ 9000; omega) (by show n + 494 ≤ 7000000; omega)) rfl (Nat.le_of_ble_eq_true rfl) dL_law_275 (fun r2 σ2 I2 hp2 => ?_)
  obtain ⟨rfl, hout, rfl, hr2⟩ := hp2
  refine sj_icmp_same 665 dL_law_278 (by decide) ?_
  exact sj_more (by show k + 7 + 0 ≤ k + 14; omega) (by show n + 494 + 0 ≤ n + 13396; omega) (kk _ _ _ (hc1.keep hr1.rB hout) hr2)
theorem lw_simplify (hX : lwX Γ G b Ln xs) (hi : 0 ≤ i ∧ i + 4 ≤ Ln) (hc : cQ σ I x Q) (hr : rI σ I (x + 14) Q) (hk : k ≤ 8000) (hn : n ≤ 6900000) (kk : ∀ (σ' : sjS) (I' : sjI) (Q' : aQ), cQ σ' I' x Q' → rI σ' I' (x + 14) Q' → sj_V l Γ (cL_law, RL, 4, some .boolean, nm, room_1) G post σ' I' (k + 14) (n + 13396) 665 [some (.ref b), some (.ref x), some (.ref (x + 14)), some (.int (zI i))] []) : sj_V l Γ (cL_law, RL, 4, some .boolean, nm, room_1) G post σ I k n 283 [some (.ref b), some (.ref x), some (.ref (x + 14)), some (.int (zI i))] [] := by
  have hR := hr.rB
  have hLn := hX.2.2.1
  obtain ⟨ρ0, hx0⟩ := hc.ref
  refine sj_ald1 dL_law_283 ?_
  refine sj_ald0 dL_law_284 ?_
  refine sj_ild3 dL_law_285 ?_
  refine sj_iconst dL_law_286 ?_
  refine sj_iadd dL_law_287 ?_
  refine sj_sald hX (by omega) dL_law_288 ?_
  refine sj_callV (cz_simplify hc hR (hX.2.2.2 _)) kc_L_44 hx0 rfl rfl (sj_rm_le (K := 8000) (N := 6900000) rfl hk hn) rfl (Nat.le_of_ble_eq_true rfl) dL_law_289 (fun r1 σ1 I1 hp1 => ?_)
  obtain ⟨hC1, rfl, hc1⟩ := hp1
  have hr1 := hr.keep hC1
  have ho1 := hr1.1.1
  refine sj_ald2 dL_law_292 ?_
  refine sj_ald0 dL_law_293 ?_
  refine sj_ild3 dL_law_294 ?_
  refine sj_iconst dL_law_295 ?_
  refine sj_iadd dL_law_296 ?_
  refine sj_sald hX (by omega) dL_law_297 ?_
  refine sj_callV (rz_simplify hr1 (hX.2.2.2 _)) kc_L_47 ho1 rfl rfl (sj_rm_le (K := 9000) (N := 7000000) rfl (by show k + 6 ≤ 9000; omega) (by show n + 374 ≤ 7000000; omega)) rfl (Nat.le_of_ble_eq_true rfl) dL_law_298 (fun r2 σ2 I2 hp2 => ?_)
  obtain ⟨rfl, hout, rfl, hr2⟩ := hp2
  refine sj_icmp_same 665 dL_law_301 (by decide) ?_
  exact sj_more (by show k + 6 + 0 ≤ k + 14; omega) (by show n + 374 + 0 ≤ n + 13396; omega) (kk _ _ _ (hc1.keep hr1.rB hout) hr2)
theorem lw_undo (hX : lwX Γ G b Ln xs) (hi : 0 ≤ i ∧ i + 4 ≤ Ln) (hc : cQ σ I x Q) (hr : rI σ I (x + 14) Q) (hk : k ≤ 8000) (hn : n ≤ 6900000) (kk : ∀ (σ' : sjS) (I' : sjI) (Q' : aQ), cQ σ' I' x Q' → rI σ' I' (x + 14) Q' → sj_V l Γ (cL_law, RL, 4, some .boolean, nm, room_1) G post σ' I' (k + 14) (n + 13396) 665 [some (.ref b), some (.ref x), some (.ref (x + 14)), some (.int (zI i))] []) : sj_V l Γ (cL_law, RL, 4, some .boolean, nm, room_1) G post σ I k n 306 [some (.ref b), some (.ref x), some (.ref (x + 14)), some (.int (zI i))] [] := by
  have hR := hr.rB
  have hLn := hX.2.2.1
  obtain ⟨ρ0, hx0⟩ := hc.ref
  refine sj_ald1 dL_law_306 ?_
  refine sj_callV (cz_undo hc hR) kc_L_48 hx0 rfl rfl (sj_rm_le (K := 8000) (N := 6900000) rfl hk hn) rfl (Nat.le_of_ble_eq_true rfl) dL_law_307 (fun r1 σ1 I1 hp1 => ?_)
  obtain ⟨hC1, rfl, hc1⟩ := hp1
  have hr1 := hr.keep hC1
  have ho1 := hr1.1.1
  refine sj_ald2 dL_law_310 ?_
  refine sj_callV (rz_undo hr1) kc_L_51 ho1 rfl rfl (sj_rm_le (K := 9000) (N := 7000000) rfl (by show k + 0 ≤ 9000; omega) (by show n + 0 ≤ 7000000; omega)) rfl (Nat.le_of_ble_eq_true rfl) dL_law_311 (fun r2 σ2 I2 hp2 => ?_)
  obtain ⟨rfl, hout, rfl, hr2⟩ := hp2
  refine sj_icmp_same 665 dL_law_314 (by decide) ?_
  exact sj_more (by show k + 0 + 0 ≤ k + 14; omega) (by show n + 0 + 0 ≤ n + 13396; omega) (kk _ _ _ (hc1.keep hr1.rB hout) hr2)
theorem lw_told (hX : lwX Γ G b Ln xs) (hi : 0 ≤ i ∧ i + 4 ≤ Ln) (hc : cQ σ I x Q) (hr : rI σ I (x + 14) Q) (hk : k ≤ 8000) (hn : n ≤ 6900000) (kk : ∀ (σ' : sjS) (I' : sjI) (Q' : aQ), cQ σ' I' x Q' → rI σ' I' (x + 14) Q' → sj_V l Γ (cL_law, RL, 4, some .boolean, nm, room_1) G post σ' I' (k + 14) (n + 13396) 665 [some (.ref b), some (.ref x), some (.ref (x + 14)), some (.int (zI i))] []) : sj_V l Γ (cL_law, RL, 4, some .boolean, nm, room_1) G post σ I k n 319 [some (.ref b), some (.ref x), some (.ref (x + 14)), some (.int (zI i))] [] := by
  have hR := hr.rB
  have hLn := hX.2.2.1
  obtain ⟨ρ0, hx0⟩ := hc.ref
  refine sj_ald1 dL_law_319 ?_
  refine sj_ald0 dL_law_320 ?_
  refine sj_ild3 dL_law_321 ?_
  refine sj_iconst dL_law_322 ?_
  refine sj_iadd dL_law_323 ?_
  refine sj_sald hX (by omega) dL_law_324 ?_
  refine sj_callV (cz_told hc hR (hX.2.2.2 _)) kc_L_52 hx0 rfl rfl (sj_rm_le (K := 8000) (N := 6900000) rfl hk hn) rfl (Nat.le_of_ble_eq_true rfl) dL_law_325 (fun r1 σ1 I1 hp1 => ?_)
  obtain ⟨hC1, rfl, hc1⟩ := hp1
  have hr1 := hr.keep hC1
  have ho1 := hr1.1.1
  refine sj_ald2 dL_law_328 ?_
  refine sj_ald0 dL_law_329 ?_
  refine sj_ild3 dL_law_330 ?_
  refine sj_iconst dL_law_331 ?_
  refine sj_iadd dL_law_332 ?_
  refine sj_sald hX (by omega) dL_law_333 ?_
  refine sj_callV (rz_told hr1 (hX.2.2.2 _)) kc_L_55 ho1 rfl rfl (sj_rm_le (K := 9000) (N := 7000000) rfl (by show k + 7 ≤ 9000; omega) (by show n + 6698 ≤ 7000000; omega)) rfl (Nat.le_of_ble_eq_true rfl) dL_law_334 (fun r2 σ2 I2 hp2 => ?_)
  obtain ⟨rfl, hout, rfl, hr2⟩ := hp2
  refine sj_icmp_same 665 dL_law_337 (by decide) ?_
  exact sj_more (by show k + 7 + 0 ≤ k + 14; omega) (by show n + 6698 + 0 ≤ n + 13396; omega) (kk _ _ _ (hc1.keep hr1.rB hout) hr2)
theorem lw_listing (hX : lwX Γ G b Ln xs) (hi : 0 ≤ i ∧ i + 4 ≤ Ln) (hc : cQ σ I x Q) (hr : rI σ I (x + 14) Q) (hk : k ≤ 8000) (hn : n ≤ 6900000) (kk : ∀ (σ' : sjS) (I' : sjI) (Q' : aQ), cQ σ' I' x Q' → rI σ' I' (x + 14) Q' → sj_V l Γ (cL_law, RL, 4, some .boolean, nm, room_1) G post σ' I' (k + 14) (n + 13396) 665 [some (.ref b), some (.ref x), some (.ref (x + 14)), some (.int (zI i))] []) : sj_V l Γ (cL_law, RL, 4, some .boolean, nm, room_1) G post σ I k n 342 [some (.ref b), some (.ref x), some (.ref (x + 14)), some (.int (zI i))] [] := by
  have hR := hr.rB
  have hLn := hX.2.2.1
  obtain ⟨ρ0, hx0⟩ := hc.ref
  refine sj_ald1 dL_law_342 ?_
  refine sj_ald0 dL_law_343 ?_
  refine sj_ild3 dL_law_344 ?_
  refine sj_iconst dL_law_345 ?_
  refine sj_iadd dL_law_346 ?_
  refine sj_sald hX (by omega) dL_law_347 ?_
  refine sj_ald0 dL_law_348 ?_
  refine sj_ild3 dL_law_349 ?_
  refine sj_iconst dL_law_350 ?_
  refine sj_iadd dL_law_351 ?_
  refine sj_sald hX (by omega) dL_law_352 ?_
  refine sj_callV (cz_listing hc (hX.2.2.2 _) (hX.2.2.2 _)) kc_L_56 hx0 rfl rfl (sj_rm_le (K := 8000) (N := 6900000) rfl hk hn) rfl (Nat.le_of_ble_eq_true rfl) dL_law_353 (fun r1 σ1 I1 hp1 => ?_)
  obtain ⟨hC1, rfl, hc1⟩ := hp1
  have hr1 := hr.keep hC1
  have ho1 := hr1.1.1
  refine sj_ald2 dL_law_356 ?_
  refine sj_ald0 dL_law_357 ?_
  refine sj_ild3 dL_law_358 ?_
  refine sj_iconst dL_law_359 ?_
  refine sj_iadd dL_law_360 ?_
  refine sj_sald hX (by omega) dL_law_361 ?_
  refine sj_ald0 dL_law_362 ?_
  refine sj_ild3 dL_law_363 ?_
  refine sj_iconst dL_law_364 ?_
  refine sj_iadd dL_law_365 ?_
  refine sj_sald hX (by omega) dL_law_366 ?_
  refine sj_callV (rz_listing hr1 (hX.2.2.2 _) (hX.2.2.2 _)) kc_L_59 ho1 rfl rfl (sj_rm_le (K := 9000) (N := 7000000) rfl (by show k + 0 ≤ 9000; omega) (by show n + 0 ≤ 7000000; omega)) rfl (Nat.le_of_ble_eq_true rfl) dL_law_367 (fun r2 σ2 I2 hp2 => ?_)
  obtain ⟨rfl, hout, rfl, hr2⟩ := hp2
  refine sj_icmp_same 665 dL_law_370 (by decide) ?_
  exact sj_more (by show k + 0 + 0 ≤ k + 14; omega) (by show n + 0 + 0 ≤ n + 13396; omega) (kk _ _ _ (hc1.keep hr1.rB hout) hr2)
theorem lw_uses (hX : lwX Γ G b Ln xs) (hi : 0 ≤ i ∧ i + 4 ≤ Ln) (hc : cQ σ I x Q) (hr : rI σ I (x + 14) Q) (hk : k ≤ 8000) (hn : n ≤ 6900000) (kk : ∀ (σ' : sjS) (I' : sjI) (Q' : aQ), cQ σ' I' x Q' → rI σ' I' (x + 14) Q' → sj_V l Γ (cL_law, RL, 4, some .boolean, nm, room_1) G post σ' I' (k + 14) (n + 13396) 665 [some (.ref b), some (.ref x), some (.ref (x + 14)), some (.int (zI i))] []) : sj_V l Γ (cL_law, RL, 4, some .boolean, nm, room_1) G post σ I k n 375 [some (.ref b), some (.ref x), some (.ref (x + 14)), some (.int (zI i))] [] := by
  have hR := hr.rB
  have hLn := hX.2.2.1
  obtain ⟨ρ0, hx0⟩ := hc.ref
  refine sj_ald1 dL_law_375 ?_
  refine sj_ald0 dL_law_376 ?_
  refine sj_ild3 dL_law_377 ?_
  refine sj_iconst dL_law_378 ?_
  refine sj_iadd dL_law_379 ?_
  refine sj_sald hX (by omega) dL_law_380 ?_
  refine sj_callV (cz_uses hc (hX.2.2.2 _)) kc_L_60 hx0 rfl rfl (sj_rm_le (K := 8000) (N := 6900000) rfl hk hn) rfl (Nat.le_of_ble_eq_true rfl) dL_law_381 (fun r1 σ1 I1 hp1 => ?_)
  obtain ⟨hC1, rfl, hc1⟩ := hp1
  have hr1 := hr.keep hC1
  have ho1 := hr1.1.1
  refine sj_ald2 dL_law_384 ?_
  refine sj_ald0 dL_law_385 ?_
  refine sj_ild3 dL_law_386 ?_
  refine sj_iconst dL_law_387 ?_
  refine sj_iadd dL_law_388 ?_
  refine sj_sald hX (by omega) dL_law_389 ?_
  refine sj_callV (rz_uses hr1 (hX.2.2.2 _)) kc_L_63 ho1 rfl rfl (sj_rm_le (K := 9000) (N := 7000000) rfl (by show k + 0 ≤ 9000; omega) (by show n + 0 ≤ 7000000; omega)) rfl (Nat.le_of_ble_eq_true rfl) dL_law_390 (fun r2 σ2 I2 hp2 => ?_)
  obtain ⟨rfl, hout, rfl, hr2⟩ := hp2
  refine sj_icmp_same 665 dL_law_393 (by decide) ?_
  exact sj_more (by show k + 0 + 0 ≤ k + 14; omega) (by show n + 0 + 0 ≤ n + 13396; omega) (kk _ _ _ (hc1.keep hr1.rB hout) hr2)
theorem lw_cycle (hX : lwX Γ G b Ln xs) (hi : 0 ≤ i ∧ i + 4 ≤ Ln) (hc : cQ σ I x Q) (hr : rI σ I (x + 14) Q) (hk : k ≤ 8000) (hn : n ≤ 6900000) (kk : ∀ (σ' : sjS) (I' : sjI) (Q' : aQ), cQ σ' I' x Q' → rI σ' I' (x + 14) Q' → sj_V l Γ (cL_law, RL, 4, some .boolean, nm, room_1) G post σ' I' (k + 14) (n + 13396) 665 [some (.ref b), some (.ref x), some (.ref (x + 14)), some (.int (zI i))] []) : sj_V l Γ (cL_law, RL, 4, some .boolean, nm, room_1) G post σ I k n 398 [some (.ref b), some (.ref x), some (.ref (x + 14)), some (.int (zI i))] [] := by
  have hR := hr.rB
  have hLn := hX.2.2.1
  obtain ⟨ρ0, hx0⟩ := hc.ref
  refine sj_ald1 dL_law_398 ?_
  refine sj_ald0 dL_law_399 ?_
  refine sj_ild3 dL_law_400 ?_
  refine sj_iconst dL_law_401 ?_
  refine sj_iadd dL_law_402 ?_
  refine sj_sald hX (by omega) dL_law_403 ?_
  refine sj_callV (cz_cycle hc hR (hX.2.2.2 _)) kc_L_64 hx0 rfl rfl (sj_rm_le (K := 8000) (N := 6900000) rfl hk hn) rfl (Nat.le_of_ble_eq_true rfl) dL_law_404 (fun r1 σ1 I1 hp1 => ?_)
  obtain ⟨hC1, rfl, hc1⟩ := hp1
  have hr1 := hr.keep hC1
  have ho1 := hr1.1.1
  refine sj_ald2 dL_law_407 ?_
  refine sj_ald0 dL_law_408 ?_
  refine sj_ild3 dL_law_409 ?_
  refine sj_iconst dL_law_410 ?_
  refine sj_iadd dL_law_411 ?_
  refine sj_sald hX (by omega) dL_law_412 ?_
  refine sj_callV (rz_cycle hr1 (hX.2.2.2 _)) kc_L_67 ho1 rfl rfl (sj_rm_le (K := 9000) (N := 7000000) rfl (by show k + 4 ≤ 9000; omega) (by show n + 2235 ≤ 7000000; omega)) rfl (Nat.le_of_ble_eq_true rfl) dL_law_413 (fun r2 σ2 I2 hp2 => ?_)
  obtain ⟨rfl, hout, rfl, hr2⟩ := hp2
  refine sj_icmp_same 665 dL_law_416 (by decide) ?_
  exact sj_more (by show k + 4 + 0 ≤ k + 14; omega) (by show n + 2235 + 0 ≤ n + 13396; omega) (kk _ _ _ (hc1.keep hr1.rB hout) hr2)
theorem lw_value (hX : lwX Γ G b Ln xs) (hi : 0 ≤ i ∧ i + 4 ≤ Ln) (hc : cQ σ I x Q) (hr : rI σ I (x + 14) Q) (hk : k ≤ 8000) (hn : n ≤ 6900000) (kk : ∀ (σ' : sjS) (I' : sjI) (Q' : aQ), cQ σ' I' x Q' → rI σ' I' (x + 14) Q' → sj_V l Γ (cL_law, RL, 4, some .boolean, nm, room_1) G post σ' I' (k + 14) (n + 13396) 665 [some (.ref b), some (.ref x), some (.ref (x + 14)), some (.int (zI i))] []) : sj_V l Γ (cL_law, RL, 4, some .boolean, nm, room_1) G post σ I k n 421 [some (.ref b), some (.ref x), some (.ref (x + 14)), some (.int (zI i))] [] := by
  have hR := hr.rB
  have hLn := hX.2.2.1
  obtain ⟨ρ0, hx0⟩ := hc.ref
  refine sj_ald1 dL_law_421 ?_
  refine sj_ald0 dL_law_422 ?_
  refine sj_ild3 dL_law_423 ?_
  refine sj_iconst dL_law_424 ?_
  refine sj_iadd dL_law_425 ?_
  refine sj_sald hX (by omega) dL_law_426 ?_
  refine sj_ald0 dL_law_427 ?_
  refine sj_ild3 dL_law_428 ?_
  refine sj_iconst dL_law_429 ?_
  refine sj_iadd dL_law_430 ?_
  refine sj_sald hX (by omega) dL_law_431 ?_
  refine sj_callV (cz_value hc hR (hX.2.2.2 _) (hX.2.2.2 _)) kc_L_68 hx0 rfl rfl (sj_rm_le (K := 8000) (N := 6900000) rfl hk hn) rfl (Nat.le_of_ble_eq_true rfl) dL_law_432 (fun r1 σ1 I1 hp1 => ?_)
  obtain ⟨hC1, rfl, hc1⟩ := hp1
  have hr1 := hr.keep hC1
  have ho1 := hr1.1.1
  refine sj_ald2 dL_law_435 ?_
  refine sj_ald0 dL_law_436 ?_
  refine sj_ild3 dL_law_437 ?_
  refine sj_iconst dL_law_438 ?_
  refine sj_iadd dL_law_439 ?_
  refine sj_sald hX (by omega) dL_law_440 ?_
  refine sj_ald0 dL_law_441 ?_
  refine sj_ild3 dL_law_442 ?_
  refine sj_iconst dL_law_443 ?_
  refine sj_iadd dL_law_444 ?_
  refine sj_sald hX (by omega) dL_law_445 ?_
  refine sj_callV (rz_value hr1 (hX.2.2.2 _) (hX.2.2.2 _)) kc_L_71 ho1 rfl rfl (sj_rm_le (K := 9000) (N := 7000000) rfl (by show k + 7 ≤ 9000; omega) (by show n + 6698 ≤ 7000000; omega)) rfl (Nat.le_of_ble_eq_true rfl) dL_law_446 (fun r2 σ2 I2 hp2 => ?_)
  obtain ⟨rfl, hout, rfl, hr2⟩ := hp2
  refine sj_icmp_same 665 dL_law_449 (by decide) ?_
  exact sj_more (by show k + 7 + 0 ≤ k + 14; omega) (by show n + 6698 + 0 ≤ n + 13396; omega) (kk _ _ _ (hc1.keep hr1.rB hout) hr2)
theorem lw_stream (hX : lwX Γ G b Ln xs) (hi : 0 ≤ i ∧ i + 4 ≤ Ln) (hc : cQ σ I x Q) (hr : rI σ I (x + 14) Q) (hk : k ≤ 8000) (hn : n ≤ 6900000) (kk : ∀ (σ' : sjS) (I' : sjI) (Q' : aQ), cQ σ' I' x Q' → rI σ' I' (x + 14) Q' → sj_V l Γ (cL_law, RL, 4, some .boolean, nm, room_1) G post σ' I' (k + 14) (n + 13396) 665 [some (.ref b), some (.ref x), some (.ref (x + 14)), some (.int (zI i))] []) : sj_V l Γ (cL_law, RL, 4, some .boolean, nm, room_1) G post σ I k n 454 [some (.ref b), some (.ref x), some (.ref (x + 14)), some (.int (zI i))] [] := by
  have hR := hr.rB
  have hLn := hX.2.2.1
  obtain ⟨ρ0, hx0⟩ := hc.ref
  refine sj_ald1 dL_law_454 ?_
  refine sj_ald0 dL_law_455 ?_
  refine sj_ild3 dL_law_456 ?_
  refine sj_iconst dL_law_457 ?_
  refine sj_iadd dL_law_458 ?_
  refine sj_sald hX (by omega) dL_law_459 ?_
  refine sj_ald0 dL_law_460 ?_
  refine sj_ild3 dL_law_461 ?_
  refine sj_iconst dL_law_462 ?_
  refine sj_iadd dL_law_463 ?_
  refine sj_sald hX (by omega) dL_law_464 ?_
  refine sj_callV (cz_stream hc hR (hX.2.2.2 _) (hX.2.2.2 _)) kc_L_72 hx0 rfl rfl (sj_rm_le (K := 8000) (N := 6900000) rfl hk hn) rfl (Nat.le_of_ble_eq_true rfl) dL_law_465 (fun r1 σ1 I1 hp1 => ?_)
  obtain ⟨hC1, rfl, hc1⟩ := hp1
  have hr1 := hr.keep hC1
  have ho1 := hr1.1.1
  refine sj_ald2 dL_law_468 ?_
  refine sj_ald0 dL_law_469 ?_
  refine sj_ild3 dL_law_470 ?_
  refine sj_iconst dL_law_471 ?_
  refine sj_iadd dL_law_472 ?_
  refine sj_sald hX (by omega) dL_law_473 ?_
  refine sj_ald0 dL_law_474 ?_
  refine sj_ild3 dL_law_475 ?_
  refine sj_iconst dL_law_476 ?_
  refine sj_iadd dL_law_477 ?_
  refine sj_sald hX (by omega) dL_law_478 ?_
  refine sj_callV (rz_stream hr1 (hX.2.2.2 _) (hX.2.2.2 _)) kc_L_75 ho1 rfl rfl (sj_rm_le (K := 9000) (N := 7000000) rfl (by show k + 7 ≤ 9000; omega) (by show n + 6698 ≤ 7000000; omega)) rfl (Nat.le_of_ble_eq_true rfl) dL_law_479 (fun r2 σ2 I2 hp2 => ?_)
  obtain ⟨rfl, hout, rfl, hr2⟩ := hp2
  refine sj_icmp_same 665 dL_law_482 (by decide) ?_
  exact sj_more (by show k + 7 + 0 ≤ k + 14; omega) (by show n + 6698 + 0 ≤ n + 13396; omega) (kk _ _ _ (hc1.keep hr1.rB hout) hr2)
theorem lw_parting (hX : lwX Γ G b Ln xs) (hi : 0 ≤ i ∧ i + 4 ≤ Ln) (hc : cQ σ I x Q) (hr : rI σ I (x + 14) Q) (hk : k ≤ 8000) (hn : n ≤ 6900000) (kk : ∀ (σ' : sjS) (I' : sjI) (Q' : aQ), cQ σ' I' x Q' → rI σ' I' (x + 14) Q' → sj_V l Γ (cL_law, RL, 4, some .boolean, nm, room_1) G post σ' I' (k + 14) (n + 13396) 665 [some (.ref b), some (.ref x), some (.ref (x + 14)), some (.int (zI i))] []) : sj_V l Γ (cL_law, RL, 4, some .boolean, nm, room_1) G post σ I k n 487 [some (.ref b), some (.ref x), some (.ref (x + 14)), some (.int (zI i))] [] := by
  have hR := hr.rB
  have hLn := hX.2.2.1
  obtain ⟨ρ0, hx0⟩ := hc.ref
  refine sj_ald1 dL_law_487 ?_
  refine sj_ald0 dL_law_488 ?_
  refine sj_ild3 dL_law_489 ?_
  refine sj_iconst dL_law_490 ?_
  refine sj_iadd dL_law_491 ?_
  refine sj_sald hX (by omega) dL_law_492 ?_
  refine sj_ald0 dL_law_493 ?_
  refine sj_ild3 dL_law_494 ?_
  refine sj_iconst dL_law_495 ?_
  refine sj_iadd dL_law_496 ?_
  refine sj_sald hX (by omega) dL_law_497 ?_
  refine sj_callV (cz_parting hc hR (hX.2.2.2 _) (hX.2.2.2 _)) kc_L_76 hx0 rfl rfl (sj_rm_le (K := 8000) (N := 6900000) rfl hk hn) rfl (Nat.le_of_ble_eq_true rfl) dL_law_498 (fun r1 σ1 I1 hp1 => ?_)
  obtain ⟨hC1, rfl, hc1⟩ := hp1
  have hr1 := hr.keep hC1
  have ho1 := hr1.1.1
  refine sj_ald2 dL_law_501 ?_
  refine sj_ald0 dL_law_502 ?_
  refine sj_ild3 dL_law_503 ?_
  refine sj_iconst dL_law_504 ?_
  refine sj_iadd dL_law_505 ?_
  refine sj_sald hX (by omega) dL_law_506 ?_
  refine sj_ald0 dL_law_507 ?_
  refine sj_ild3 dL_law_508 ?_
  refine sj_iconst dL_law_509 ?_
  refine sj_iadd dL_law_510 ?_
  refine sj_sald hX (by omega) dL_law_511 ?_
  refine sj_callV (rz_parting hr1 (hX.2.2.2 _) (hX.2.2.2 _)) kc_L_79 ho1 rfl rfl (sj_rm_le (K := 9000) (N := 7000000) rfl (by show k + 7 ≤ 9000; omega) (by show n + 6698 ≤ 7000000; omega)) rfl (Nat.le_of_ble_eq_true rfl) dL_law_512 (fun r2 σ2 I2 hp2 => ?_)
  obtain ⟨rfl, hout, rfl, hr2⟩ := hp2
  refine sj_icmp_same 665 dL_law_515 (by decide) ?_
  exact sj_more (by show k + 7 + 0 ≤ k + 14; omega) (by show n + 6698 + 0 ≤ n + 13396; omega) (kk _ _ _ (hc1.keep hr1.rB hout) hr2)
theorem lw_alike (hX : lwX Γ G b Ln xs) (hi : 0 ≤ i ∧ i + 4 ≤ Ln) (hc : cQ σ I x Q) (hr : rI σ I (x + 14) Q) (hk : k ≤ 8000) (hn : n ≤ 6900000) (kk : ∀ (σ' : sjS) (I' : sjI) (Q' : aQ), cQ σ' I' x Q' → rI σ' I' (x + 14) Q' → sj_V l Γ (cL_law, RL, 4, some .boolean, nm, room_1) G post σ' I' (k + 14) (n + 13396) 665 [some (.ref b), some (.ref x), some (.ref (x + 14)), some (.int (zI i))] []) : sj_V l Γ (cL_law, RL, 4, some .boolean, nm, room_1) G post σ I k n 520 [some (.ref b), some (.ref x), some (.ref (x + 14)), some (.int (zI i))] [] := by
  have hR := hr.rB
  have hLn := hX.2.2.1
  obtain ⟨ρ0, hx0⟩ := hc.ref
  refine sj_ald1 dL_law_520 ?_
  refine sj_ald0 dL_law_521 ?_
  refine sj_ild3 dL_law_522 ?_
  refine sj_iconst dL_law_523 ?_
  refine sj_iadd dL_law_524 ?_
  refine sj_sald hX (by omega) dL_law_525 ?_
  refine sj_callV (cz_alike hc hR (hX.2.2.2 _)) kc_L_80 hx0 rfl rfl (sj_rm_le (K := 8000) (N := 6900000) rfl hk hn) rfl (Nat.le_of_ble_eq_true rfl) dL_law_526 (fun r1 σ1 I1 hp1 => ?_)
  obtain ⟨hC1, rfl, hc1⟩ := hp1
  have hr1 := hr.keep hC1
  have ho1 := hr1.1.1
  refine sj_ald2 dL_law_529 ?_
  refine sj_ald0 dL_law_530 ?_
  refine sj_ild3 dL_law_531 ?_
  refine sj_iconst dL_law_532 ?_
  refine sj_iadd dL_law_533 ?_
  refine sj_sald hX (by omega) dL_law_534 ?_
  refine sj_callV (rz_alike hr1 (hX.2.2.2 _)) kc_L_83 ho1 rfl rfl (sj_rm_le (K := 9000) (N := 7000000) rfl (by show k + 7 ≤ 9000; omega) (by show n + 6698 ≤ 7000000; omega)) rfl (Nat.le_of_ble_eq_true rfl) dL_law_535 (fun r2 σ2 I2 hp2 => ?_)
  obtain ⟨rfl, hout, rfl, hr2⟩ := hp2
  refine sj_icmp_same 665 dL_law_538 (by decide) ?_
  exact sj_more (by show k + 7 + 0 ≤ k + 14; omega) (by show n + 6698 + 0 ≤ n + 13396; omega) (kk _ _ _ (hc1.keep hr1.rB hout) hr2)
theorem lw_needs (hX : lwX Γ G b Ln xs) (hi : 0 ≤ i ∧ i + 4 ≤ Ln) (hc : cQ σ I x Q) (hr : rI σ I (x + 14) Q) (hk : k ≤ 8000) (hn : n ≤ 6900000) (kk : ∀ (σ' : sjS) (I' : sjI) (Q' : aQ), cQ σ' I' x Q' → rI σ' I' (x + 14) Q' → sj_V l Γ (cL_law, RL, 4, some .boolean, nm, room_1) G post σ' I' (k + 14) (n + 13396) 665 [some (.ref b), some (.ref x), some (.ref (x + 14)), some (.int (zI i))] []) : sj_V l Γ (cL_law, RL, 4, some .boolean, nm, room_1) G post σ I k n 543 [some (.ref b), some (.ref x), some (.ref (x + 14)), some (.int (zI i))] [] := by
  have hR := hr.rB
  have hLn := hX.2.2.1
  obtain ⟨ρ0, hx0⟩ := hc.ref
  refine sj_ald1 dL_law_543 ?_
  refine sj_ald0 dL_law_544 ?_
  refine sj_ild3 dL_law_545 ?_
  refine sj_iconst dL_law_546 ?_
  refine sj_iadd dL_law_547 ?_
  refine sj_sald hX (by omega) dL_law_548 ?_
  refine sj_ald0 dL_law_549 ?_
  refine sj_ild3 dL_law_550 ?_
  refine sj_iconst dL_law_551 ?_
  refine sj_iadd dL_law_552 ?_
  refine sj_sald hX (by omega) dL_law_553 ?_
  refine sj_ald0 dL_law_554 ?_
  refine sj_ild3 dL_law_555 ?_
  refine sj_iconst dL_law_556 ?_
  refine sj_iadd dL_law_557 ?_
  refine sj_sald hX (by omega) dL_law_558 ?_
  refine sj_callV (cz_needs hc hR (hX.2.2.2 _) (hX.2.2.2 _) (hX.2.2.2 _)) kc_L_84 hx0 rfl rfl (sj_rm_le (K := 8000) (N := 6900000) rfl hk hn) rfl (Nat.le_of_ble_eq_true rfl) dL_law_559 (fun r1 σ1 I1 hp1 => ?_)
  obtain ⟨hC1, rfl, hc1⟩ := hp1
  have hr1 := hr.keep hC1
  have ho1 := hr1.1.1
  refine sj_ald2 dL_law_562 ?_
  refine sj_ald0 dL_law_563 ?_
  refine sj_ild3 dL_law_564 ?_
  refine sj_iconst dL_law_565 ?_
  refine sj_iadd dL_law_566 ?_
  refine sj_sald hX (by omega) dL_law_567 ?_
  refine sj_ald0 dL_law_568 ?_
  refine sj_ild3 dL_law_569 ?_
  refine sj_iconst dL_law_570 ?_
  refine sj_iadd dL_law_571 ?_
  refine sj_sald hX (by omega) dL_law_572 ?_
  refine sj_ald0 dL_law_573 ?_
  refine sj_ild3 dL_law_574 ?_
  refine sj_iconst dL_law_575 ?_
  refine sj_iadd dL_law_576 ?_
  refine sj_sald hX (by omega) dL_law_577 ?_
  refine sj_callV (rz_needs hr1 (hX.2.2.2 _) (hX.2.2.2 _) (hX.2.2.2 _)) kc_L_88 ho1 rfl rfl (sj_rm_le (K := 9000) (N := 7000000) rfl (by show k + 12 ≤ 9000; omega) (by show n + 10192 ≤ 7000000; omega)) rfl (Nat.le_of_ble_eq_true rfl) dL_law_578 (fun r2 σ2 I2 hp2 => ?_)
  obtain ⟨rfl, hout, rfl, hr2⟩ := hp2
  refine sj_icmp_same 665 dL_law_581 (by decide) ?_
  exact sj_more (by show k + 12 + 0 ≤ k + 14; omega) (by show n + 10192 + 0 ≤ n + 13396; omega) (kk _ _ _ (hc1.keep hr1.rB hout) hr2)
theorem lw_keep (hX : lwX Γ G b Ln xs) (hi : 0 ≤ i ∧ i + 4 ≤ Ln) (hc : cQ σ I x Q) (hr : rI σ I (x + 14) Q) (hk : k ≤ 8000) (hn : n ≤ 6900000) (kk : ∀ (σ' : sjS) (I' : sjI) (Q' : aQ), cQ σ' I' x Q' → rI σ' I' (x + 14) Q' → sj_V l Γ (cL_law, RL, 4, some .boolean, nm, room_1) G post σ' I' (k + 14) (n + 13396) 665 [some (.ref b), some (.ref x), some (.ref (x + 14)), some (.int (zI i))] []) : sj_V l Γ (cL_law, RL, 4, some .boolean, nm, room_1) G post σ I k n 586 [some (.ref b), some (.ref x), some (.ref (x + 14)), some (.int (zI i))] [] := by
  have hR := hr.rB
  have hLn := hX.2.2.1
  obtain ⟨ρ0, hx0⟩ := hc.ref
  refine sj_ald1 dL_law_586 ?_
  refine sj_ald0 dL_law_587 ?_
  refine sj_ild3 dL_law_588 ?_
  refine sj_iconst dL_law_589 ?_
  refine sj_iadd dL_law_590 ?_
  refine sj_sald hX (by omega) dL_law_591 ?_
  refine sj_callV (cz_keep hc hR (hX.2.2.2 _)) kc_L_89 hx0 rfl rfl (sj_rm_le (K := 8000) (N := 6900000) rfl hk hn) rfl (Nat.le_of_ble_eq_true rfl) dL_law_592 (fun r1 σ1 I1 hp1 => ?_)
  obtain ⟨hC1, rfl, hc1⟩ := hp1
  have hr1 := hr.keep hC1
  have ho1 := hr1.1.1
  refine sj_ald2 dL_law_595 ?_
  refine sj_ald0 dL_law_596 ?_
  refine sj_ild3 dL_law_597 ?_
  refine sj_iconst dL_law_598 ?_
  refine sj_iadd dL_law_599 ?_
  refine sj_sald hX (by omega) dL_law_600 ?_
  refine sj_callV (rz_keep hr1 (hX.2.2.2 _)) kc_L_92 ho1 rfl rfl (sj_rm_le (K := 9000) (N := 7000000) rfl (by show k + 2 ≤ 9000; omega) (by show n + 10 ≤ 7000000; omega)) rfl (Nat.le_of_ble_eq_true rfl) dL_law_601 (fun r2 σ2 I2 hp2 => ?_)
  obtain ⟨rfl, hout, rfl, hr2⟩ := hp2
  refine sj_icmp_same 665 dL_law_604 (by decide) ?_
  exact sj_more (by show k + 2 + 0 ≤ k + 14; omega) (by show n + 10 + 0 ≤ n + 13396; omega) (kk _ _ _ (hc1.keep hr1.rB hout) hr2)
theorem lw_back (hX : lwX Γ G b Ln xs) (hi : 0 ≤ i ∧ i + 4 ≤ Ln) (hc : cQ σ I x Q) (hr : rI σ I (x + 14) Q) (hk : k ≤ 8000) (hn : n ≤ 6900000) (kk : ∀ (σ' : sjS) (I' : sjI) (Q' : aQ), cQ σ' I' x Q' → rI σ' I' (x + 14) Q' → sj_V l Γ (cL_law, RL, 4, some .boolean, nm, room_1) G post σ' I' (k + 14) (n + 13396) 665 [some (.ref b), some (.ref x), some (.ref (x + 14)), some (.int (zI i))] []) : sj_V l Γ (cL_law, RL, 4, some .boolean, nm, room_1) G post σ I k n 609 [some (.ref b), some (.ref x), some (.ref (x + 14)), some (.int (zI i))] [] := by
  have hR := hr.rB
  have hLn := hX.2.2.1
  obtain ⟨ρ0, hx0⟩ := hc.ref
  refine sj_ald1 dL_law_609 ?_
  refine sj_ald0 dL_law_610 ?_
  refine sj_ild3 dL_law_611 ?_
  refine sj_iconst dL_law_612 ?_
  refine sj_iadd dL_law_613 ?_
  refine sj_sald hX (by omega) dL_law_614 ?_
  refine sj_callV (cz_back hc hR (hX.2.2.2 _)) kc_L_93 hx0 rfl rfl (sj_rm_le (K := 8000) (N := 6900000) rfl hk hn) rfl (Nat.le_of_ble_eq_true rfl) dL_law_615 (fun r1 σ1 I1 hp1 => ?_)
  obtain ⟨hC1, rfl, hc1⟩ := hp1
  have hr1 := hr.keep hC1
  have ho1 := hr1.1.1
  refine sj_ald2 dL_law_618 ?_
  refine sj_ald0 dL_law_619 ?_
  refine sj_ild3 dL_law_620 ?_
  refine sj_iconst dL_law_621 ?_
  refine sj_iadd dL_law_622 ?_
  refine sj_sald hX (by omega) dL_law_623 ?_
  refine sj_callV (rz_back hr1 (hX.2.2.2 _)) kc_L_96 ho1 rfl rfl (sj_rm_le (K := 9000) (N := 7000000) rfl (by show k + 2 ≤ 9000; omega) (by show n + 10 ≤ 7000000; omega)) rfl (Nat.le_of_ble_eq_true rfl) dL_law_624 (fun r2 σ2 I2 hp2 => ?_)
  obtain ⟨rfl, hout, rfl, hr2⟩ := hp2
  refine sj_icmp_same 665 dL_law_627 (by decide) ?_
  exact sj_more (by show k + 2 + 0 ≤ k + 14; omega) (by show n + 10 + 0 ≤ n + 13396; omega) (kk _ _ _ (hc1.keep hr1.rB hout) hr2)
theorem lw_changed (hX : lwX Γ G b Ln xs) (hi : 0 ≤ i ∧ i + 4 ≤ Ln) (hc : cQ σ I x Q) (hr : rI σ I (x + 14) Q) (hk : k ≤ 8000) (hn : n ≤ 6900000) (kk : ∀ (σ' : sjS) (I' : sjI) (Q' : aQ), cQ σ' I' x Q' → rI σ' I' (x + 14) Q' → sj_V l Γ (cL_law, RL, 4, some .boolean, nm, room_1) G post σ' I' (k + 14) (n + 13396) 665 [some (.ref b), some (.ref x), some (.ref (x + 14)), some (.int (zI i))] []) : sj_V l Γ (cL_law, RL, 4, some .boolean, nm, room_1) G post σ I k n 632 [some (.ref b), some (.ref x), some (.ref (x + 14)), some (.int (zI i))] [] := by
  have hR := hr.rB
  have hLn := hX.2.2.1
  obtain ⟨ρ0, hx0⟩ := hc.ref
  refine sj_ald1 dL_law_632 ?_
  refine sj_ald0 dL_law_633 ?_
  refine sj_ild3 dL_law_634 ?_
  refine sj_iconst dL_law_635 ?_
  refine sj_iadd dL_law_636 ?_
  refine sj_sald hX (by omega) dL_law_637 ?_
  refine sj_ald0 dL_law_638 ?_
  refine sj_ild3 dL_law_639 ?_
  refine sj_iconst dL_law_640 ?_
  refine sj_iadd dL_law_641 ?_
  refine sj_sald hX (by omega) dL_law_642 ?_
  refine sj_callV (cz_changed hc hR (hX.2.2.2 _) (hX.2.2.2 _)) kc_L_97 hx0 rfl rfl (sj_rm_le (K := 8000) (N := 6900000) rfl hk hn) rfl (Nat.le_of_ble_eq_true rfl) dL_law_643 (fun r1 σ1 I1 hp1 => ?_)
  obtain ⟨hC1, rfl, hc1⟩ := hp1
  have hr1 := hr.keep hC1
  have ho1 := hr1.1.1
  refine sj_ald2 dL_law_646 ?_
  refine sj_ald0 dL_law_647 ?_
  refine sj_ild3 dL_law_648 ?_
  refine sj_iconst dL_law_649 ?_
  refine sj_iadd dL_law_650 ?_
  refine sj_sald hX (by omega) dL_law_651 ?_
  refine sj_ald0 dL_law_652 ?_
  refine sj_ild3 dL_law_653 ?_
  refine sj_iconst dL_law_654 ?_
  refine sj_iadd dL_law_655 ?_
  refine sj_sald hX (by omega) dL_law_656 ?_
  refine sj_callV (rz_changed hr1 (hX.2.2.2 _) (hX.2.2.2 _)) kc_L_100 ho1 rfl rfl (sj_rm_le (K := 9000) (N := 7000000) rfl (by show k + 14 ≤ 9000; omega) (by show n + 13396 ≤ 7000000; omega)) rfl (Nat.le_of_ble_eq_true rfl) dL_law_657 (fun r2 σ2 I2 hp2 => ?_)
  obtain ⟨rfl, hout, rfl, hr2⟩ := hp2
  refine sj_icmp_same 665 dL_law_660 (by decide) ?_
  exact sj_more (by show k + 14 + 0 ≤ k + 14; omega) (by show n + 13396 + 0 ≤ n + 13396; omega) (kk _ _ _ (hc1.keep hr1.rB hout) hr2)
end LAWCALLS
