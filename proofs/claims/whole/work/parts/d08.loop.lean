def lwP : sjP := fun r _ _ => r = some (.int (zI 1))
section LAWLOOP
variable {l : Launch} {Γ : sjC} {nm : String} {G : sjG} {b Ln x : Nat} {xs : Nat → Int}
theorem lw_loop (hX : lwX Γ G b Ln xs) : ∀ (d j : Nat) (σ : sjS) (I : sjI) (Q : aQ) (k n : Nat), Ln < 4 * (j + d) + 4 → 4 * j ≤ Ln → k ≤ 36 + 14 * j → n ≤ 41856 + 13396 * j → cQ σ I x Q → rI σ I (x + 14) Q → sj_V l Γ (cL_law, RL, 4, some .boolean, nm, room_1) G lwP σ I k n 18 [some (.ref b), some (.ref x), some (.ref (x + 14)), some (.int (zI (4 * (j : Int))))] [] := by
  intro d
  induction d with
  | zero =>
    intro j σ I Q k n h1 h2 h3 h4 hc hr
    have hLn := hX.2.2.1
    refine sj_ild3 dL_law_18 ?_
    refine sj_ald0 dL_law_19 ?_
    refine sj_slen hX dL_law_20 ?_
    refine sj_iconst dL_law_21 ?_
    refine sj_isub dL_law_22 ?_
    refine sj_icmp_gt 671 dL_law_23 (by decide) (by omega) (by omega) (fun c_23 => ?_) (fun c_23 => ?_)
    · refine sj_iconst dL_law_671 ?_
      exact sj_iret dL_law_672 rfl (by decide) (by show k ≤ 600000; omega) (by show n ≤ 7302250; omega) rfl
    · exfalso; omega
  | succ d ih =>
    intro j σ I Q k n h1 h2 h3 h4 hc hr
    have hLn := hX.2.2.1
    refine sj_ild3 dL_law_18 ?_
    refine sj_ald0 dL_law_19 ?_
    refine sj_slen hX dL_law_20 ?_
    refine sj_iconst dL_law_21 ?_
    refine sj_isub dL_law_22 ?_
    refine sj_icmp_gt 671 dL_law_23 (by decide) (by omega) (by omega) (fun c_23 => ?_) (fun c_23 => ?_)
    · refine sj_iconst dL_law_671 ?_
      exact sj_iret dL_law_672 rfl (by decide) (by show k ≤ 600000; omega) (by show n ≤ 7302250; omega) rfl
    · have kk : ∀ (σ' : sjS) (I' : sjI) (Q' : aQ), cQ σ' I' x Q' → rI σ' I' (x + 14) Q' → sj_V l Γ (cL_law, RL, 4, some .boolean, nm, room_1) G lwP σ' I' (k + 14) (n + 13396) 665 [some (.ref b), some (.ref x), some (.ref (x + 14)), some (.int (zI (4 * (j : Int))))] [] := fun σ' I' Q' hc' hr' => by
        refine sj_inc3 (by decide) rfl dL_law_665 ?_
        refine sj_goto 18 dL_law_668 (by decide) ?_
        have z := ih (j + 1) σ' I' Q' (k + 14) (n + 13396) (by omega) (by omega) (by omega) (by omega) hc' hr'
        rw [show 4 * ((j + 1 : Nat) : Int) = 4 * (j : Int) + 4 by omega] at z
        exact z
      refine sj_ald0 dL_law_26 ?_
      refine sj_ild3 dL_law_27 ?_
      refine sj_sald hX (by omega) dL_law_28 ?_
      refine sj_bipush dL_law_29 (by decide) ?_
      obtain ⟨u, hu, eu⟩ := zI_ex (zI (xs (4 * (j : Int)).toNat) &&& zI 31)
      refine sj_iand dL_law_31 eu ?_
      rcases (show u = 0 ∨ u = 1 ∨ u = 2 ∨ u = 3 ∨ u = 4 ∨ u = 5 ∨ u = 6 ∨ u = 7 ∨ u = 8 ∨ u = 9 ∨ u = 10 ∨ u = 11 ∨ u = 12 ∨ u = 13 ∨ u = 14 ∨ u = 15 ∨ u = 16 ∨ u = 17 ∨ u = 18 ∨ u = 19 ∨ u = 20 ∨ (u < 0 ∨ 20 < u) by omega) with c_32 | c_32 | c_32 | c_32 | c_32 | c_32 | c_32 | c_32 | c_32 | c_32 | c_32 | c_32 | c_32 | c_32 | c_32 | c_32 | c_32 | c_32 | c_32 | c_32 | c_32 | c_32
      · refine sj_tin 132 dL_law_32 (by omega) (by omega) (by rw [c_32]; rfl) (by decide) ?_
        exact lw_write hX (by omega) hc hr (by omega) (by omega) kk
      · refine sj_tin 155 dL_law_32 (by omega) (by omega) (by rw [c_32]; rfl) (by decide) ?_
        exact lw_wipe hX (by omega) hc hr (by omega) (by omega) kk
      · refine sj_tin 168 dL_law_32 (by omega) (by omega) (by rw [c_32]; rfl) (by decide) ?_
        exact lw_fault hX (by omega) hc hr (by omega) (by omega) kk
      · refine sj_tin 181 dL_law_32 (by omega) (by omega) (by rw [c_32]; rfl) (by decide) ?_
        exact lw_define hX (by omega) hc hr (by omega) (by omega) kk
      · refine sj_tin 204 dL_law_32 (by omega) (by omega) (by rw [c_32]; rfl) (by decide) ?_
        exact lw_undefine hX (by omega) hc hr (by omega) (by omega) kk
      · refine sj_tin 227 dL_law_32 (by omega) (by omega) (by rw [c_32]; rfl) (by decide) ?_
        exact lw_setModulus hX (by omega) hc hr (by omega) (by omega) kk
      · refine sj_tin 250 dL_law_32 (by omega) (by omega) (by rw [c_32]; rfl) (by decide) ?_
        exact lw_insert hX (by omega) hc hr (by omega) (by omega) kk
      · refine sj_tin 283 dL_law_32 (by omega) (by omega) (by rw [c_32]; rfl) (by decide) ?_
        exact lw_simplify hX (by omega) hc hr (by omega) (by omega) kk
      · refine sj_tin 306 dL_law_32 (by omega) (by omega) (by rw [c_32]; rfl) (by decide) ?_
        exact lw_undo hX (by omega) hc hr (by omega) (by omega) kk
      · refine sj_tin 319 dL_law_32 (by omega) (by omega) (by rw [c_32]; rfl) (by decide) ?_
        exact lw_told hX (by omega) hc hr (by omega) (by omega) kk
      · refine sj_tin 342 dL_law_32 (by omega) (by omega) (by rw [c_32]; rfl) (by decide) ?_
        exact lw_listing hX (by omega) hc hr (by omega) (by omega) kk
      · refine sj_tin 375 dL_law_32 (by omega) (by omega) (by rw [c_32]; rfl) (by decide) ?_
        exact lw_uses hX (by omega) hc hr (by omega) (by omega) kk
      · refine sj_tin 398 dL_law_32 (by omega) (by omega) (by rw [c_32]; rfl) (by decide) ?_
        exact lw_cycle hX (by omega) hc hr (by omega) (by omega) kk
      · refine sj_tin 421 dL_law_32 (by omega) (by omega) (by rw [c_32]; rfl) (by decide) ?_
        exact lw_value hX (by omega) hc hr (by omega) (by omega) kk
      · refine sj_tin 454 dL_law_32 (by omega) (by omega) (by rw [c_32]; rfl) (by decide) ?_
        exact lw_stream hX (by omega) hc hr (by omega) (by omega) kk
      · refine sj_tin 487 dL_law_32 (by omega) (by omega) (by rw [c_32]; rfl) (by decide) ?_
        exact lw_parting hX (by omega) hc hr (by omega) (by omega) kk
      · refine sj_tin 520 dL_law_32 (by omega) (by omega) (by rw [c_32]; rfl) (by decide) ?_
        exact lw_alike hX (by omega) hc hr (by omega) (by omega) kk
      · refine sj_tin 543 dL_law_32 (by omega) (by omega) (by rw [c_32]; rfl) (by decide) ?_
        exact lw_needs hX (by omega) hc hr (by omega) (by omega) kk
      · refine sj_tin 586 dL_law_32 (by omega) (by omega) (by rw [c_32]; rfl) (by decide) ?_
        exact lw_keep hX (by omega) hc hr (by omega) (by omega) kk
      · refine sj_tin 609 dL_law_32 (by omega) (by omega) (by rw [c_32]; rfl) (by decide) ?_
        exact lw_back hX (by omega) hc hr (by omega) (by omega) kk
      · refine sj_tin 632 dL_law_32 (by omega) (by omega) (by rw [c_32]; rfl) (by decide) ?_
        exact lw_changed hX (by omega) hc hr (by omega) (by omega) kk
      · refine sj_tout 665 dL_law_32 (by omega) c_32 (by decide) ?_
        exact sj_more (by omega) (by omega) (kk _ _ _ hc hr)
end LAWLOOP
