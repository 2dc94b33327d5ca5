/-! ===== the law's loop (written by wip/whole/gen900.py) ===== -/
theorem ifc {α : Type} {c : Prop} [Decidable c] {x y r : α} (h1 : c → x = r) (h2 : ¬ c → y = r) : (if c then x else y) = r := by
  by_cases h : c
  · rw [if_pos h]; exact h1 h
  · rw [if_neg h]; exact h2 h
theorem ck_r {α : Type} {b : Bool} {x r : Option α} (h : b = true) (hx : x = r) : ck b x = r := by rw [ck_t h]; exact hx
theorem pure_loop (L : Nat) (xs : Nat → Int32) (hL : L ≤ 2560) : ∀ (f j : Nat) (S_roundEdges : Nat → Int32) (S_values : Nat → Int32) (S_nodes : Int32) (S_rounds : Int32) (D_roundEdges : Nat → Int32) (D_values : Nat → Int32) (D_nodes : Int32) (D_rounds : Int32) (H_size : Int32) (H_b : Nat → Nat) (H_e : Nat → Nat) (H_v : Nat → Nat) (H_re : Nat → Nat → Int32) (H_va : Nat → Nat → Int32) (H_no : Nat → Int32) (H_ro : Nat → Int32) (X_characters : Nat → Int32) (X_length : Int32) (X_kind : Int32) (X_start : Int32) (X_end : Int32) (F_known : Nat → Int32) (F_knownBefore : Nat → Int32) (F_step : Int32) (G_known : Nat → Int32) (G_sent : Nat → Int32) (G_newest : Nat → Int32) (G_chosen : Nat → Int32) (G_rule : Int32) (G_step : Int32) (C_answers : Nat → Int32) (C_steps : Int32) (T_s : Nat → Int32) (T_past : Nat → Int32) (T_aside : Nat → Int32) (T_pasts : Int32) (T_text : Nat → Int32) (T_typed : Int32) (T_at : Int32) (T_from : Int32) (T_token : Int32) (T_many : Int32) (T_letters : Int64) (T_number : Int32) (T_known : Nat → Int32) (T_then : Nat → Int32) (T_trip : Nat → Int32) (T_sent : Nat → Int32) (T_learned : Nat → Int32) (T_chosen : Nat → Int32) (T_decided : Nat → Int32), SR S_roundEdges S_values S_nodes S_rounds T_s → HR H_size H_re H_va H_no H_ro T_past T_pasts → TR X_characters X_length T_text T_typed → j ≤ L → L + 5 ≤ 5 * f + j → fL_law_l18 L xs f (nI j) S_roundEdges S_values S_nodes S_rounds D_roundEdges D_values D_nodes D_rounds H_size H_b H_e H_v H_re H_va H_no H_ro X_characters X_length X_kind X_start X_end F_known F_knownBefore F_step G_known G_sent G_newest G_chosen G_rule G_step C_answers C_steps T_s T_past T_aside T_pasts T_text T_typed T_at T_from T_token T_many T_letters T_number T_known T_then T_trip T_sent T_learned T_chosen T_decided = some true := by
  intro f
  induction f with
  | zero =>
    intro j _ _ _ _ _ _ _ _ _ _ _ _ _ _ _ _ _ _ _ _ _ _ _ _ _ _ _ _ _ _ _ _ _ _ _ _ _ _ _ _ _ _ _ _ _ _ _ _ _ _ _ _ _ _ h1 h2
    omega
  | succ f ih =>
    intro j S_roundEdges S_values S_nodes S_rounds D_roundEdges D_values D_nodes D_rounds H_size H_b H_e H_v H_re H_va H_no H_ro X_characters X_length X_kind X_start X_end F_known F_knownBefore F_step G_known G_sent G_newest G_chosen G_rule G_step C_answers C_steps T_s T_past T_aside T_pasts T_text T_typed T_at T_from T_token T_many T_letters T_number T_known T_then T_trip T_sent T_learned T_chosen T_decided hS hH hT hj hf
    rw [fL_law_l18]
    refine ifc (fun _ => rfl) (fun hend => ?_)
    have h5 : (nI L - (5 : Int32)).toInt = (L : Int) - 5 := pk_sub_toInt (b := 5) (by omega) (by decide)
    have hj5 : j + 5 ≤ L := by
      rw [fa_lt, h5, nI_toInt (by omega)] at hend
      omega
    have e5 : nI j + (5 : Int32) = nI (j + 5) := nI_add j 5
    have c0 : inb (nI j) L = true := inb_t (by omega) (by omega)
    have c1 : inb (nI j + 1) L = true := by
      have e : nI j + (1 : Int32) = nI (j + 1) := nI_add j 1
      rw [e]; exact inb_t (by omega) (by omega)
    have c2 : inb (nI j + 2) L = true := by
      have e : nI j + (2 : Int32) = nI (j + 2) := nI_add j 2
      rw [e]; exact inb_t (by omega) (by omega)
    have c3 : inb (nI j + 3) L = true := by
      have e : nI j + (3 : Int32) = nI (j + 3) := nI_add j 3
      rw [e]; exact inb_t (by omega) (by omega)
    have c4 : inb (nI j + 4) L = true := by
      have e : nI j + (4 : Int32) = nI (j + 4) := nI_add j 4
      rw [e]; exact inb_t (by omega) (by omega)
    obtain ⟨k1, _, hk1, hk2, _⟩ := id hH
    have hp : H_size = T_pasts := hk1.trans hk2.symm
    obtain ⟨k2, _, hk3, hk4, _⟩ := id hT
    have hl : X_length = T_typed := hk3.trans hk4.symm
    rw [e5]
    refine ck_r c0 ?_
    refine ifc (fun _ => ?_) (fun _ => ?_)
    · obtain ⟨o9, o10, q1, q2, q3, q4, q5⟩ := sim_setNodes (b := H_b) (e := H_e) (v := H_v) hS hH T_aside (xs (nI j + 1).toNatClampNeg)
      refine ck_r c1 ?_
      rw [q1, bd_s]
      refine ck_r c1 ?_
      rw [q2, bd_s, if_pos q3]
      exact ih (j + 5) _ _ _ _ _ _ _ _ _ _ _ _ _ _ _ _ _ _ _ _ _ _ _ _ _ _ _ _ _ _ _ _ _ _ _ _ _ _ _ _ _ _ _ _ _ _ _ _ _ _ _ q4 q5 hT hj5 (by omega)
    refine ifc (fun _ => ?_) (fun _ => ?_)
    · obtain ⟨o9, o10, q1, q2, q3, q4, q5⟩ := sim_addRound (b := H_b) (e := H_e) (v := H_v) hS hH T_aside
      rw [q1, bd_s]
      rw [q2, bd_s, if_pos q3]
      exact ih (j + 5) _ _ _ _ _ _ _ _ _ _ _ _ _ _ _ _ _ _ _ _ _ _ _ _ _ _ _ _ _ _ _ _ _ _ _ _ _ _ _ _ _ _ _ _ _ _ _ _ _ _ _ q4 q5 hT hj5 (by omega)
    refine ifc (fun _ => ?_) (fun _ => ?_)
    · obtain ⟨o9, o10, q1, q2, q3, q4, q5⟩ := sim_setEdge (b := H_b) (e := H_e) (v := H_v) hS hH T_aside (xs (nI j + 1).toNatClampNeg) (xs (nI j + 2).toNatClampNeg) (xs (nI j + 3).toNatClampNeg) (xs (nI j + 4).toNatClampNeg)
      refine ck_r c1 ?_
      refine ck_r c2 ?_
      refine ck_r c3 ?_
      refine ck_r c4 ?_
      rw [q1, bd_s]
      refine ck_r c1 ?_
      refine ck_r c2 ?_
      refine ck_r c3 ?_
      refine ck_r c4 ?_
      rw [q2, bd_s, if_pos q3]
      exact ih (j + 5) _ _ _ _ _ _ _ _ _ _ _ _ _ _ _ _ _ _ _ _ _ _ _ _ _ _ _ _ _ _ _ _ _ _ _ _ _ _ _ _ _ _ _ _ _ _ _ _ _ _ _ q4 q5 hT hj5 (by omega)
    refine ifc (fun _ => ?_) (fun _ => ?_)
    · obtain ⟨o9, o10, q1, q2, q3, q4, q5⟩ := sim_removeRound (b := H_b) (e := H_e) (v := H_v) hS hH T_aside (xs (nI j + 1).toNatClampNeg)
      refine ck_r c1 ?_
      rw [q1, bd_s]
      refine ck_r c1 ?_
      rw [q2, bd_s, if_pos q3]
      exact ih (j + 5) _ _ _ _ _ _ _ _ _ _ _ _ _ _ _ _ _ _ _ _ _ _ _ _ _ _ _ _ _ _ _ _ _ _ _ _ _ _ _ _ _ _ _ _ _ _ _ _ _ _ _ q4 q5 hT hj5 (by omega)
    refine ifc (fun _ => ?_) (fun _ => ?_)
    · obtain ⟨o9, o10, q1, q2, q3, q4, q5⟩ := sim_swapRounds (b := H_b) (e := H_e) (v := H_v) hS hH T_aside (xs (nI j + 1).toNatClampNeg) (xs (nI j + 2).toNatClampNeg)
      refine ck_r c1 ?_
      refine ck_r c2 ?_
      rw [q1, bd_s]
      refine ck_r c1 ?_
      refine ck_r c2 ?_
      rw [q2, bd_s, if_pos q3]
      exact ih (j + 5) _ _ _ _ _ _ _ _ _ _ _ _ _ _ _ _ _ _ _ _ _ _ _ _ _ _ _ _ _ _ _ _ _ _ _ _ _ _ _ _ _ _ _ _ _ _ _ _ _ _ _ q4 q5 hT hj5 (by omega)
    refine ifc (fun _ => ?_) (fun _ => ?_)
    · obtain ⟨o9, o10, q1, q2, q3, q4, q5⟩ := sim_addAdversary (b := H_b) (e := H_e) (v := H_v) hS hH T_aside (xs (nI j + 1).toNatClampNeg) (xs (nI j + 2).toNatClampNeg) F_known F_knownBefore F_step T_known T_then
      refine ck_r c1 ?_
      refine ck_r c2 ?_
      rw [q1, bd_s]
      refine ck_r c1 ?_
      refine ck_r c2 ?_
      rw [q2, bd_s, if_pos q3]
      exact ih (j + 5) _ _ _ _ _ _ _ _ _ _ _ _ _ _ _ _ _ _ _ _ _ _ _ _ _ _ _ _ _ _ _ _ _ _ _ _ _ _ _ _ _ _ _ _ _ _ _ _ _ _ _ q4 q5 hT hj5 (by omega)
    refine ifc (fun _ => ?_) (fun _ => ?_)
    · obtain ⟨o9, o10, q1, q2, q3, q4, q5⟩ := sim_setValue (b := H_b) (e := H_e) (v := H_v) hS hH T_aside (xs (nI j + 1).toNatClampNeg) (xs (nI j + 2).toNatClampNeg)
      refine ck_r c1 ?_
      refine ck_r c2 ?_
      rw [q1, bd_s]
      refine ck_r c1 ?_
      refine ck_r c2 ?_
      rw [q2, bd_s, if_pos q3]
      exact ih (j + 5) _ _ _ _ _ _ _ _ _ _ _ _ _ _ _ _ _ _ _ _ _ _ _ _ _ _ _ _ _ _ _ _ _ _ _ _ _ _ _ _ _ _ _ _ _ _ _ _ _ _ _ q4 q5 hT hj5 (by omega)
    refine ifc (fun _ => ?_) (fun _ => ?_)
    · obtain ⟨o9, o10, q1, q2, q3⟩ := sim_edge hS (xs (nI j + 1).toNatClampNeg) (xs (nI j + 2).toNatClampNeg) (xs (nI j + 3).toNatClampNeg)
      refine ck_r c1 ?_
      refine ck_r c2 ?_
      refine ck_r c3 ?_
      rw [q1, bd_s]
      refine ck_r c1 ?_
      refine ck_r c2 ?_
      refine ck_r c3 ?_
      rw [q2, bd_s, if_pos q3]
      exact ih (j + 5) _ _ _ _ _ _ _ _ _ _ _ _ _ _ _ _ _ _ _ _ _ _ _ _ _ _ _ _ _ _ _ _ _ _ _ _ _ _ _ _ _ _ _ _ _ _ _ _ _ _ _ hS hH hT hj5 (by omega)
    refine ifc (fun _ => ?_) (fun _ => ?_)
    · obtain ⟨o9, o10, q1, q2, q3⟩ := sim_count hS hp hl (xs (nI j + 1).toNatClampNeg)
      refine ck_r c1 ?_
      rw [q1, bd_s]
      refine ck_r c1 ?_
      rw [q2, bd_s, if_pos q3]
      exact ih (j + 5) _ _ _ _ _ _ _ _ _ _ _ _ _ _ _ _ _ _ _ _ _ _ _ _ _ _ _ _ _ _ _ _ _ _ _ _ _ _ _ _ _ _ _ _ _ _ _ _ _ _ _ hS hH hT hj5 (by omega)
    refine ifc (fun _ => ?_) (fun _ => ?_)
    · obtain ⟨o9, o10, q1, q2, q3⟩ := sim_value hS (xs (nI j + 1).toNatClampNeg)
      refine ck_r c1 ?_
      rw [q1, bd_s]
      refine ck_r c1 ?_
      rw [q2, bd_s, if_pos q3]
      exact ih (j + 5) _ _ _ _ _ _ _ _ _ _ _ _ _ _ _ _ _ _ _ _ _ _ _ _ _ _ _ _ _ _ _ _ _ _ _ _ _ _ _ _ _ _ _ _ _ _ _ _ _ _ _ hS hH hT hj5 (by omega)
    refine ifc (fun _ => ?_) (fun _ => ?_)
    · obtain ⟨o9, o10, q1, q2, q3, q4⟩ := sim_appendCharacter hT (xs (nI j + 1).toNatClampNeg)
      refine ck_r c1 ?_
      rw [q1, bd_s]
      refine ck_r c1 ?_
      rw [q2, bd_s, if_pos q3]
      exact ih (j + 5) _ _ _ _ _ _ _ _ _ _ _ _ _ _ _ _ _ _ _ _ _ _ _ _ _ _ _ _ _ _ _ _ _ _ _ _ _ _ _ _ _ _ _ _ _ _ _ _ _ _ _ hS hH q4 hj5 (by omega)
    refine ifc (fun _ => ?_) (fun _ => ?_)
    · obtain ⟨q3, q4⟩ := sim_clearText hT
      rw [if_pos q3]
      exact ih (j + 5) _ _ _ _ _ _ _ _ _ _ _ _ _ _ _ _ _ _ _ _ _ _ _ _ _ _ _ _ _ _ _ _ _ _ _ _ _ _ _ _ _ _ _ _ _ _ _ _ _ _ _ hS hH q4 hj5 (by omega)
    refine ifc (fun _ => ?_) (fun _ => ?_)
    · obtain ⟨o9, o10, q1, q2, q3, q4, q5, q6⟩ := sim_load (b := H_b) (e := H_e) (v := H_v) hS hH hT T_aside D_roundEdges D_values D_nodes D_rounds X_kind X_start X_end T_at T_from T_token T_many T_letters T_number
      rw [q1, bd_s]
      rw [q2, bd_s, if_pos q3]
      exact ih (j + 5) _ _ _ _ _ _ _ _ _ _ _ _ _ _ _ _ _ _ _ _ _ _ _ _ _ _ _ _ _ _ _ _ _ _ _ _ _ _ _ _ _ _ _ _ _ _ _ _ _ _ _ q4 q5 q6 hj5 (by omega)
    refine ifc (fun _ => ?_) (fun _ => ?_)
    · obtain ⟨o9, o10, q1, q2, q3⟩ := sim_round hS (xs (nI j + 1).toNatClampNeg) (xs (nI j + 2).toNatClampNeg)
      refine ck_r c1 ?_
      refine ck_r c2 ?_
      rw [q1, bd_s]
      refine ck_r c1 ?_
      refine ck_r c2 ?_
      rw [q2, bd_s, if_pos q3]
      exact ih (j + 5) _ _ _ _ _ _ _ _ _ _ _ _ _ _ _ _ _ _ _ _ _ _ _ _ _ _ _ _ _ _ _ _ _ _ _ _ _ _ _ _ _ _ _ _ _ _ _ _ _ _ _ hS hH hT hj5 (by omega)
    refine ifc (fun _ => ?_) (fun _ => ?_)
    · obtain ⟨o9, o10, q1, q2, q3⟩ := sim_staying hS (xs (nI j + 1).toNatClampNeg) (xs (nI j + 2).toNatClampNeg)
      refine ck_r c1 ?_
      refine ck_r c2 ?_
      rw [q1, bd_s]
      refine ck_r c1 ?_
      refine ck_r c2 ?_
      rw [q2, bd_s, if_pos q3]
      exact ih (j + 5) _ _ _ _ _ _ _ _ _ _ _ _ _ _ _ _ _ _ _ _ _ _ _ _ _ _ _ _ _ _ _ _ _ _ _ _ _ _ _ _ _ _ _ _ _ _ _ _ _ _ _ hS hH hT hj5 (by omega)
    refine ifc (fun _ => ?_) (fun _ => ?_)
    · obtain ⟨o9, o10, q1, q2, q3⟩ := sim_isStable hS (xs (nI j + 1).toNatClampNeg)
      refine ck_r c1 ?_
      rw [q1, bd_s]
      refine ck_r c1 ?_
      rw [q2, bd_s, if_pos q3]
      exact ih (j + 5) _ _ _ _ _ _ _ _ _ _ _ _ _ _ _ _ _ _ _ _ _ _ _ _ _ _ _ _ _ _ _ _ _ _ _ _ _ _ _ _ _ _ _ _ _ _ _ _ _ _ _ hS hH hT hj5 (by omega)
    refine ifc (fun _ => ?_) (fun _ => ?_)
    · obtain ⟨o9, o10, q1, q2, q3⟩ := sim_greatestStable hS
      rw [q1, bd_s]
      rw [q2, bd_s, if_pos q3]
      exact ih (j + 5) _ _ _ _ _ _ _ _ _ _ _ _ _ _ _ _ _ _ _ _ _ _ _ _ _ _ _ _ _ _ _ _ _ _ _ _ _ _ _ _ _ _ _ _ _ _ _ _ _ _ _ hS hH hT hj5 (by omega)
    refine ifc (fun _ => ?_) (fun _ => ?_)
    · obtain ⟨o9, o10, q1, q2, q3⟩ := sim_window hS (xs (nI j + 1).toNatClampNeg)
      refine ck_r c1 ?_
      rw [q1, bd_s]
      refine ck_r c1 ?_
      rw [q2, bd_s, if_pos q3]
      exact ih (j + 5) _ _ _ _ _ _ _ _ _ _ _ _ _ _ _ _ _ _ _ _ _ _ _ _ _ _ _ _ _ _ _ _ _ _ _ _ _ _ _ _ _ _ _ _ _ _ _ _ _ _ _ hS hH hT hj5 (by omega)
    refine ifc (fun _ => ?_) (fun _ => ?_)
    · obtain ⟨o9, o10, q1, q2, q3⟩ := sim_heard hS (xs (nI j + 1).toNatClampNeg) (xs (nI j + 2).toNatClampNeg) (xs (nI j + 3).toNatClampNeg) F_known F_knownBefore F_step T_known T_then
      refine ck_r c1 ?_
      refine ck_r c2 ?_
      refine ck_r c3 ?_
      rw [q1, bd_s]
      refine ck_r c1 ?_
      refine ck_r c2 ?_
      refine ck_r c3 ?_
      rw [q2, bd_s, if_pos q3]
      exact ih (j + 5) _ _ _ _ _ _ _ _ _ _ _ _ _ _ _ _ _ _ _ _ _ _ _ _ _ _ _ _ _ _ _ _ _ _ _ _ _ _ _ _ _ _ _ _ _ _ _ _ _ _ _ hS hH hT hj5 (by omega)
    refine ifc (fun _ => ?_) (fun _ => ?_)
    · obtain ⟨o9, o10, q1, q2, q3⟩ := sim_journey hS (xs (nI j + 1).toNatClampNeg) (xs (nI j + 2).toNatClampNeg) (xs (nI j + 3).toNatClampNeg) F_known F_knownBefore F_step T_known T_then T_trip
      refine ck_r c1 ?_
      refine ck_r c2 ?_
      refine ck_r c3 ?_
      rw [q1, bd_s]
      refine ck_r c1 ?_
      refine ck_r c2 ?_
      refine ck_r c3 ?_
      rw [q2, bd_s, if_pos q3]
      exact ih (j + 5) _ _ _ _ _ _ _ _ _ _ _ _ _ _ _ _ _ _ _ _ _ _ _ _ _ _ _ _ _ _ _ _ _ _ _ _ _ _ _ _ _ _ _ _ _ _ _ _ _ _ _ hS hH hT hj5 (by omega)
    refine ifc (fun _ => ?_) (fun _ => ?_)
    · obtain ⟨o9, o10, q1, q2, q3⟩ := sim_diameter hS (xs (nI j + 1).toNatClampNeg) F_known F_knownBefore F_step T_known T_then T_trip
      refine ck_r c1 ?_
      rw [q1, bd_s]
      refine ck_r c1 ?_
      rw [q2, bd_s, if_pos q3]
      exact ih (j + 5) _ _ _ _ _ _ _ _ _ _ _ _ _ _ _ _ _ _ _ _ _ _ _ _ _ _ _ _ _ _ _ _ _ _ _ _ _ _ _ _ _ _ _ _ _ _ _ _ _ _ _ hS hH hT hj5 (by omega)
    refine ifc (fun _ => ?_) (fun _ => ?_)
    · obtain ⟨o9, o10, q1, q2, q3⟩ := sim_center hS F_known F_knownBefore F_step T_known T_then T_trip
      rw [q1, bd_s]
      rw [q2, bd_s, if_pos q3]
      exact ih (j + 5) _ _ _ _ _ _ _ _ _ _ _ _ _ _ _ _ _ _ _ _ _ _ _ _ _ _ _ _ _ _ _ _ _ _ _ _ _ _ _ _ _ _ _ _ _ _ _ _ _ _ _ hS hH hT hj5 (by omega)
    refine ifc (fun _ => ?_) (fun _ => ?_)
    · obtain ⟨o9, o10, q1, q2, q3⟩ := sim_gossip hS (xs (nI j + 1).toNatClampNeg) (xs (nI j + 2).toNatClampNeg) (xs (nI j + 3).toNatClampNeg) G_known G_sent G_newest G_chosen G_rule G_step T_known T_sent T_learned T_chosen
      refine ck_r c1 ?_
      refine ck_r c2 ?_
      refine ck_r c3 ?_
      rw [q1, bd_s]
      refine ck_r c1 ?_
      refine ck_r c2 ?_
      refine ck_r c3 ?_
      rw [q2, bd_s, if_pos q3]
      exact ih (j + 5) _ _ _ _ _ _ _ _ _ _ _ _ _ _ _ _ _ _ _ _ _ _ _ _ _ _ _ _ _ _ _ _ _ _ _ _ _ _ _ _ _ _ _ _ _ _ _ _ _ _ _ hS hH hT hj5 (by omega)
    refine ifc (fun _ => ?_) (fun _ => ?_)
    · obtain ⟨o9, o10, q1, q2, q3⟩ := sim_gossipTime hS (xs (nI j + 1).toNatClampNeg) G_known G_sent G_newest G_chosen G_rule G_step T_known T_sent T_learned T_chosen
      refine ck_r c1 ?_
      rw [q1, bd_s]
      refine ck_r c1 ?_
      rw [q2, bd_s, if_pos q3]
      exact ih (j + 5) _ _ _ _ _ _ _ _ _ _ _ _ _ _ _ _ _ _ _ _ _ _ _ _ _ _ _ _ _ _ _ _ _ _ _ _ _ _ _ _ _ _ _ _ _ _ _ _ _ _ _ hS hH hT hj5 (by omega)
    refine ifc (fun _ => ?_) (fun _ => ?_)
    · obtain ⟨o9, o10, q1, q2, q3⟩ := sim_decision hS (xs (nI j + 1).toNatClampNeg) (xs (nI j + 2).toNatClampNeg) F_known F_knownBefore F_step T_known T_then
      refine ck_r c1 ?_
      refine ck_r c2 ?_
      rw [q1, bd_s]
      refine ck_r c1 ?_
      refine ck_r c2 ?_
      rw [q2, bd_s, if_pos q3]
      exact ih (j + 5) _ _ _ _ _ _ _ _ _ _ _ _ _ _ _ _ _ _ _ _ _ _ _ _ _ _ _ _ _ _ _ _ _ _ _ _ _ _ _ _ _ _ _ _ _ _ _ _ _ _ _ hS hH hT hj5 (by omega)
    refine ifc (fun _ => ?_) (fun _ => ?_)
    · obtain ⟨o9, o10, q1, q2, q3⟩ := sim_agreement hS F_known F_knownBefore F_step T_known T_then
      rw [q1, bd_s]
      rw [q2, bd_s, if_pos q3]
      exact ih (j + 5) _ _ _ _ _ _ _ _ _ _ _ _ _ _ _ _ _ _ _ _ _ _ _ _ _ _ _ _ _ _ _ _ _ _ _ _ _ _ _ _ _ _ _ _ _ _ _ _ _ _ _ hS hH hT hj5 (by omega)
    refine ifc (fun _ => ?_) (fun _ => ?_)
    · obtain ⟨o9, o10, q1, q2, q3⟩ := sim_counted hS (xs (nI j + 1).toNatClampNeg) C_answers C_steps F_known F_knownBefore F_step T_known T_then T_decided
      refine ck_r c1 ?_
      rw [q1, bd_s]
      refine ck_r c1 ?_
      rw [q2, bd_s, if_pos q3]
      exact ih (j + 5) _ _ _ _ _ _ _ _ _ _ _ _ _ _ _ _ _ _ _ _ _ _ _ _ _ _ _ _ _ _ _ _ _ _ _ _ _ _ _ _ _ _ _ _ _ _ _ _ _ _ _ hS hH hT hj5 (by omega)
    refine ifc (fun _ => ?_) (fun _ => ?_)
    · obtain ⟨o9, o10, q1, q2, q3⟩ := sim_countingSteps hS C_answers C_steps F_known F_knownBefore F_step T_known T_then T_decided
      rw [q1, bd_s]
      rw [q2, bd_s, if_pos q3]
      exact ih (j + 5) _ _ _ _ _ _ _ _ _ _ _ _ _ _ _ _ _ _ _ _ _ _ _ _ _ _ _ _ _ _ _ _ _ _ _ _ _ _ _ _ _ _ _ _ _ _ _ _ _ _ _ hS hH hT hj5 (by omega)
    refine ifc (fun _ => ?_) (fun _ => ?_)
    · obtain ⟨o9, o10, q1, q2, q3⟩ := sim_wrongCounts hS C_answers C_steps F_known F_knownBefore F_step T_known T_then T_decided
      rw [q1, bd_s]
      rw [q2, bd_s, if_pos q3]
      exact ih (j + 5) _ _ _ _ _ _ _ _ _ _ _ _ _ _ _ _ _ _ _ _ _ _ _ _ _ _ _ _ _ _ _ _ _ _ _ _ _ _ _ _ _ _ _ _ _ _ _ _ _ _ _ hS hH hT hj5 (by omega)
    refine ifc (fun _ => ?_) (fun _ => ?_)
    · obtain ⟨o9, o10, q1, q2, q3, q4, q5⟩ := sim_undo (b := H_b) (e := H_e) (v := H_v) hS hH
      rw [q1, bd_s]
      rw [q2, bd_s, if_pos q3]
      exact ih (j + 5) _ _ _ _ _ _ _ _ _ _ _ _ _ _ _ _ _ _ _ _ _ _ _ _ _ _ _ _ _ _ _ _ _ _ _ _ _ _ _ _ _ _ _ _ _ _ _ _ _ _ _ q4 q5 hT hj5 (by omega)
    exact ih (j + 5) _ _ _ _ _ _ _ _ _ _ _ _ _ _ _ _ _ _ _ _ _ _ _ _ _ _ _ _ _ _ _ _ _ _ _ _ _ _ _ _ _ _ _ _ _ _ _ _ _ _ _ hS hH hT hj5 (by omega)
theorem pure_o0 : ∃ o0, fX7_beginAnew (4 : Int32) (fun _ => 0) 0 0 = some o0 := ⟨_, beginAnew_eq _ _ _ _⟩
theorem pure_o1 : ∃ o1, fX10_begins (4 : Int32) (fun _ => 0) = some o1 := ⟨_, begins_eq _ _⟩
theorem pure_start (L : Nat) (xs : Nat → Int32) (hL : L ≤ 2560) (o0 : (Nat → Int32) × Int32 × Int32) (ho0 : fX7_beginAnew (4 : Int32) (fun _ => 0) 0 0 = some o0) (o1 : (Nat → Int32)) (ho1 : fX10_begins (4 : Int32) (fun _ => 0) = some o1) (H_b H_e H_v : Nat → Nat) : fL_law_l18 L xs fuelL (0 : Int32) (fun _ => 0) o0.1 o0.2.1 o0.2.2 (fun _ => 0) o0.1 o0.2.1 o0.2.2 0 H_b H_e H_v (fun _ => (fun _ => 0)) (fun _ => o0.1) (fun _ => o0.2.1) (fun _ => o0.2.2) (fun _ => 0) 0 0 0 0 (fun _ => 0) (fun _ => 0) 0 (fun _ => 0) (fun _ => 0) (fun _ => 0) (fun _ => 0) 0 0 (fun _ => 0) 0 o1 (fun _ => 0) (fun _ => 0) 0 (fun _ => 0) 0 0 0 0 0 0 0 (fun _ => 0) (fun _ => 0) (fun _ => 0) (fun _ => 0) (fun _ => 0) (fun _ => 0) (fun _ => 0) = some true := by
  rw [beginAnew_eq] at ho0
  rw [begins_eq] at ho1
  obtain rfl := Option.some.inj ho0
  obtain rfl := Option.some.inj ho1
  have hS : SR (fun _ => 0) (fb_put (fun _ => 0) nI 0 8) (nI 4) 0 (fb_put (upd (upd (fun _ => 0) 0 (nI 4)) 1 0) nI 18 8) := SR_begin (by decide) (by decide) _ _ _
  have hH : HR 0 (fun _ => (fun _ => 0)) (fun _ => fb_put (fun _ => 0) nI 0 8) (fun _ => nI 4) (fun _ => 0) (fun _ => 0) 0 := ⟨0, by decide, rfl, rfl, fun j hj => absurd hj (Nat.not_lt_zero j)⟩
  have hT : TR (fun _ => 0) 0 (fun _ => 0) 0 := ⟨0, by decide, rfl, rfl, fun j hj => absurd hj (Nat.not_lt_zero j)⟩
  have hf : fuelL = 600 := rfl
  exact pure_loop L xs hL fuelL 0 _ _ _ _ _ _ _ _ _ _ _ _ _ _ _ _ _ _ _ _ _ _ _ _ _ _ _ _ _ _ _ _ _ _ _ _ _ _ _ _ _ _ _ _ _ _ _ _ _ _ _ hS hH hT (Nat.zero_le _) (by omega)
