section SAME
variable {l : Launch} {Γ : sjC} {cc : ByteArray} {own nm : String} {nL : Nat} {ret : Option FieldType} {R : Room} {G : sjG} {post : sjP} {σ : sjS} {I : sjI} {k n pc : Nat} {L : List (Option Value)} {st : List Value}
/-- two answers that are the same -/
theorem sj_icmp_same {w : Int32} {off : Int} (tgt : Nat) (d : decode cc pc = .ok (.if_icmp .eq off, 3)) (ht : (pc : Int) + off = (tgt : Int)) (kt : sj_V l Γ (cc, own, nL, ret, nm, R) G post σ I k n tgt L st) : sj_V l Γ (cc, own, nL, ret, nm, R) G post σ I k n pc L (.int w :: .int w :: st) := by
  obtain ⟨p, e, s, m, args, below, meth, c, Q⟩ := Γ
  intro hC hK hr H locs ls hR hlo hL
  obtain ⟨hx, hb, hml, hown, hnm⟩ := id hC
  exact lv_icmp_eq hx hb d ht (fun _ => kt hC hK hr H locs ls hR hlo hL) (fun h => absurd rfl h)
end SAME
section INSOUT
variable {l : Launch} {G : sjG} {σ : sjS} {I : sjI}
theorem cm_insert_out {o : Nat} {a b : Int} (hS : mSh σ o) (ha : -2147483648 ≤ a ∧ a < 2147483648) (hb : -2147483648 ≤ b ∧ b < 2147483648) (hg : ¬ ((0 ≤ a ∧ a ≤ 7) ∧ (0 ≤ b ∧ b ≤ 7))) : sj_Con l yX10_insert mX10_insert G σ I [.ref o, .int (zI a), .int (zI b)] (fun r σ' I' => r = some (.int (zI (-1))) ∧ σ = σ' ∧ I = I') := by
  have h_o := hS.1
  refine sj_con_of (L0 := [some (.ref o), some (.int (zI a)), some (.int (zI b)), none, none, none, none]) (by decide) rfl rfl rfl (Nat.le_of_ble_eq_true rfl) rfl (fun Γ => ?_)
  have ba := jbs (0 ≤ a ∧ a ≤ 7)
  have bb := jbs (0 ≤ b ∧ b ≤ 7)
  refine sj_ild1 dX10_insert_0 ?_
  refine sj_callS (cm_isStream ha) kc_X10_109 rfl rfl (Nat.le_of_ble_eq_true rfl) dX10_insert_1 (fun r_1 σ_1 I_1 hp_1 => ?_)
  obtain ⟨rfl, rfl, rfl⟩ := hp_1
  refine sj_if_eq 14 dX10_insert_4 (by decide) (by omega) (fun c_4 => ?_) (fun c_4 => ?_)
  · refine sj_iconst dX10_insert_14 ?_
    exact sj_iret dX10_insert_15 rfl rfl (Nat.le_of_ble_eq_true rfl) (Nat.le_of_ble_eq_true rfl) ⟨rfl, rfl, rfl⟩
  · refine sj_ild2 dX10_insert_7 ?_
    refine sj_callS (cm_isStream hb) kc_X10_109 rfl rfl (Nat.le_of_ble_eq_true rfl) dX10_insert_8 (fun r_8 σ_8 I_8 hp_8 => ?_)
    obtain ⟨rfl, rfl, rfl⟩ := hp_8
    refine sj_if_ne 16 dX10_insert_11 (by decide) (by omega) (fun c_11 => ?_) (fun c_11 => ?_)
    · (exfalso; omega)
    refine sj_iconst dX10_insert_14 ?_
    exact sj_iret dX10_insert_15 rfl rfl (Nat.le_of_ble_eq_true rfl) (Nat.le_of_ble_eq_true rfl) ⟨rfl, rfl, rfl⟩
end INSOUT
