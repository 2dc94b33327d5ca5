set_option maxRecDepth 100000 in
set_option maxHeartbeats 4000000 in
theorem kX5_discardOldest (l : Launch) (D : va_G) (cI cC cS : ClassId) (Ha Ha_states : Nat) (H_size : Int32) (H_b : Nat → Nat) (H_e : Nat → Nat) (H_v : Nat → Nat) (H_re : Nat → Nat → Int32) (H_va : Nat → Nat → Int32) (H_no : Nat → Int32) (H_ro : Nat → Int32) (o : Int32 × (Nat → Nat) × (Nat → Nat) × (Nat → Nat) × (Nat → Nat → Int32) × (Nat → Nat → Int32) × (Nat → Int32) × (Nat → Int32)) (hf : fX5_discardOldest H_size H_b H_e H_v H_re H_va H_no H_ro = o) : CV l D yX5_discardOldest wsX5_discardOldest ({ frames := 0, cells := 0, slots := 0, locals := 0 } : Room) (tysK cI cC cS) [.ref Ha] (sh_X5 Ha Ha_states cI cC cS H_size H_b H_e H_v H_re H_va H_no H_ro) (sh_X5 Ha Ha_states cI cC cS o.1 o.2.1 o.2.2.1 o.2.2.2.1 o.2.2.2.2.1 o.2.2.2.2.2.1 o.2.2.2.2.2.2.1 o.2.2.2.2.2.2.2) := by
  refine met_v (cc := cX5_discardOldest) (maxL := 3) (ret := none) (by decide) rfl (Nat.le_of_ble_eq_true rfl) ?_
  intro p e s m args below meth c R Q A F hR hQ hP hK hD hA hS ls hl
  obtain ⟨hx, hb, hr, hts, hml, hlocks, hown⟩ := F
  have hown : s.vm.findClass RX5 = some m.cls := hown
  have hi_X5 : ∀ w ∈ u_ws RX5 TX5 2, w ∈ wsX5_discardOldest := fun w h => List.mem_cons_of_mem _ (List.mem_append_right _ h)
  have qst := hts (.fieldLink RX5 11 "ChangingRounds$History" "states" "[LChangingRounds$Schedule;") (by decide +kernel)
  have qsz := hts (.fieldLink RX5 18 "ChangingRounds$History" "size" "I") (by decide +kernel)
  have hl : lv_has ls 3 [(0, .ref Ha)] := hl
  refine lv_aload_n hx hb dX5_discardOldest_0 rfl (lv_at hl 0 rfl) ?_
  refine va_get (D := D) (ci := 3) (v := .ref Ha_states) (C := RX5) (T := TX5) (N := 2) hx hb hts hi_X5 hown hK hP 0 rfl rfl 0 (by decide) qst (fun _ h9 => h9) rfl dX5_discardOldest_1 ?_
  refine lv_iconst (v := (0 : Int32)) hx hb dX5_discardOldest_4 (by decide) ?_
  refine sx_aald (j := 0) (v := H_b 0) hx hb hK hP 1 2 rfl rfl (inb_vp (by decide)) (by decide) rfl dX5_discardOldest_5 ?_
  refine lv_astore_n (lv' := [(1, .ref (H_b 0)), (0, .ref Ha)]) hx hb dX5_discardOldest_6 rfl hl (by decide) rfl (fun ls hl => ?_)
  refine lv_iconst (v := (1 : Int32)) hx hb dX5_discardOldest_7 (by decide) ?_
  refine lv_istore_n (lv' := [(2, .int (1 : Int32)), (1, .ref (H_b 0)), (0, .ref Ha)]) hx hb dX5_discardOldest_8 rfl hl (by decide) rfl (fun ls hl => ?_)
  refine lv_iload_n hx hb dX5_discardOldest_9 rfl (lv_at hl 0 rfl) ?_
  refine lv_bipush (v := (6 : Int32)) hx hb dX5_discardOldest_10 (by decide) ?_
  refine lv_icmp_ge (tgt := 35) hx hb dX5_discardOldest_12 (by decide) (fun c0 => absurd c0 (by decide)) (fun _ => ?_)
  refine lv_aload_n hx hb dX5_discardOldest_15 rfl (lv_at hl 2 rfl) ?_
  refine va_get (D := D) (ci := 3) (v := .ref Ha_states) (C := RX5) (T := TX5) (N := 2) hx hb hts hi_X5 hown hK hP 0 rfl rfl 0 (by decide) qst (fun _ h9 => h9) rfl dX5_discardOldest_16 ?_
  refine lv_iload_n hx hb dX5_discardOldest_19 rfl (lv_at hl 0 rfl) ?_
  refine lv_iconst (v := (1 : Int32)) hx hb dX5_discardOldest_20 (by decide) ?_
  refine lv_isub hx hb dX5_discardOldest_21 ?_
  refine lv_aload_n hx hb dX5_discardOldest_22 rfl (lv_at hl 2 rfl) ?_
  refine va_get (D := D) (ci := 3) (v := .ref Ha_states) (C := RX5) (T := TX5) (N := 2) hx hb hts hi_X5 hown hK hP 0 rfl rfl 0 (by decide) qst (fun _ h9 => h9) rfl dX5_discardOldest_23 ?_
  refine lv_iload_n hx hb dX5_discardOldest_26 rfl (lv_at hl 0 rfl) ?_
  refine sx_aald (j := 1) (v := H_b 1) hx hb hK hP 1 2 rfl rfl (inb_vp (by decide)) (by decide) rfl dX5_discardOldest_27 ?_
  refine sx_aast (j := 0) (r := (RX7, TX7, 4)) hx hb hK hP hD hS 1 2 5 4 rfl rfl rfl rfl (inb_vp (by decide)) (by decide) dX5_discardOldest_28 [(Ha, .inr (3, [.ref Ha_states, .int H_size])), (Ha_states, .inl (cS, 6, .inr (.inr (.inr (.inr (va_up (fun i => some (H_b i)) 0 (some (H_b 1)))))))), (H_b 0, .inr (4, [.ref (H_e 0), .ref (H_v 0), .int (H_no 0), .int (H_ro 0)])), (H_e 0, .inl (cI, 16, .inl (H_re 0))), (H_v 0, .inl (cI, 8, .inl (H_va 0))), (H_b 1, .inr (4, [.ref (H_e 1), .ref (H_v 1), .int (H_no 1), .int (H_ro 1)])), (H_e 1, .inl (cI, 16, .inl (H_re 1))), (H_v 1, .inl (cI, 8, .inl (H_va 1))), (H_b 2, .inr (4, [.ref (H_e 2), .ref (H_v 2), .int (H_no 2), .int (H_ro 2)])), (H_e 2, .inl (cI, 16, .inl (H_re 2))), (H_v 2, .inl (cI, 8, .inl (H_va 2))), (H_b 3, .inr (4, [.ref (H_e 3), .ref (H_v 3), .int (H_no 3), .int (H_ro 3)])), (H_e 3, .inl (cI, 16, .inl (H_re 3))), (H_v 3, .inl (cI, 8, .inl (H_va 3))), (H_b 4, .inr (4, [.ref (H_e 4), .ref (H_v 4), .int (H_no 4), .int (H_ro 4)])), (H_e 4, .inl (cI, 16, .inl (H_re 4))), (H_v 4, .inl (cI, 8, .inl (H_va 4))), (H_b 5, .inr (4, [.ref (H_e 5), .ref (H_v 5), .int (H_no 5), .int (H_ro 5)])), (H_e 5, .inl (cI, 16, .inl (H_re 5))), (H_v 5, .inl (cI, 8, .inl (H_va 5)))] rfl (fun H locs hP hD hS => ?_)
  refine lv_iinc (v := (2 : Int32)) (lv' := [(2, .int (2 : Int32)), (1, .ref (H_b 0)), (0, .ref Ha)]) hx hb dX5_discardOldest_29 hl (k := 0) rfl (by decide) (by decide) rfl (fun ls hl => ?_)
  refine lv_goto (tgt := 9) hx hb dX5_discardOldest_32 (by decide) ?_
  refine lv_iload_n hx hb dX5_discardOldest_9 rfl (lv_at hl 0 rfl) ?_
  refine lv_bipush (v := (6 : Int32)) hx hb dX5_discardOldest_10 (by decide) ?_
  refine lv_icmp_ge (tgt := 35) hx hb dX5_discardOldest_12 (by decide) (fun c0 => absurd c0 (by decide)) (fun _ => ?_)
  refine lv_aload_n hx hb dX5_discardOldest_15 rfl (lv_at hl 2 rfl) ?_
  refine va_get (D := D) (ci := 3) (v := .ref Ha_states) (C := RX5) (T := TX5) (N := 2) hx hb hts hi_X5 hown hK hP 0 rfl rfl 0 (by decide) qst (fun _ h9 => h9) rfl dX5_discardOldest_16 ?_
  refine lv_iload_n hx hb dX5_discardOldest_19 rfl (lv_at hl 0 rfl) ?_
  refine lv_iconst (v := (1 : Int32)) hx hb dX5_discardOldest_20 (by decide) ?_
  refine lv_isub hx hb dX5_discardOldest_21 ?_
  refine lv_aload_n hx hb dX5_discardOldest_22 rfl (lv_at hl 2 rfl) ?_
  refine va_get (D := D) (ci := 3) (v := .ref Ha_states) (C := RX5) (T := TX5) (N := 2) hx hb hts hi_X5 hown hK hP 0 rfl rfl 0 (by decide) qst (fun _ h9 => h9) rfl dX5_discardOldest_23 ?_
  refine lv_iload_n hx hb dX5_discardOldest_26 rfl (lv_at hl 0 rfl) ?_
  refine sx_aald (j := 2) (v := H_b 2) hx hb hK hP 1 2 rfl rfl (inb_vp (by decide)) (by decide) rfl dX5_discardOldest_27 ?_
  refine sx_aast (j := 1) (r := (RX7, TX7, 4)) hx hb hK hP hD hS 1 2 8 4 rfl rfl rfl rfl (inb_vp (by decide)) (by decide) dX5_discardOldest_28 [(Ha, .inr (3, [.ref Ha_states, .int H_size])), (Ha_states, .inl (cS, 6, .inr (.inr (.inr (.inr (va_up (va_up (fun i => some (H_b i)) 0 (some (H_b 1))) 1 (some (H_b 2)))))))), (H_b 0, .inr (4, [.ref (H_e 0), .ref (H_v 0), .int (H_no 0), .int (H_ro 0)])), (H_e 0, .inl (cI, 16, .inl (H_re 0))), (H_v 0, .inl (cI, 8, .inl (H_va 0))), (H_b 1, .inr (4, [.ref (H_e 1), .ref (H_v 1), .int (H_no 1), .int (H_ro 1)])), (H_e 1, .inl (cI, 16, .inl (H_re 1))), (H_v 1, .inl (cI, 8, .inl (H_va 1))), (H_b 2, .inr (4, [.ref (H_e 2), .ref (H_v 2), .int (H_no 2), .int (H_ro 2)])), (H_e 2, .inl (cI, 16, .inl (H_re 2))), (H_v 2, .inl (cI, 8, .inl (H_va 2))), (H_b 3, .inr (4, [.ref (H_e 3), .ref (H_v 3), .int (H_no 3), .int (H_ro 3)])), (H_e 3, .inl (cI, 16, .inl (H_re 3))), (H_v 3, .inl (cI, 8, .inl (H_va 3))), (H_b 4, .inr (4, [.ref (H_e 4), .ref (H_v 4), .int (H_no 4), .int (H_ro 4)])), (H_e 4, .inl (cI, 16, .inl (H_re 4))), (H_v 4, .inl (cI, 8, .inl (H_va 4))), (H_b 5, .inr (4, [.ref (H_e 5), .ref (H_v 5), .int (H_no 5), .int (H_ro 5)])), (H_e 5, .inl (cI, 16, .inl (H_re 5))), (H_v 5, .inl (cI, 8, .inl (H_va 5)))] rfl (fun H locs hP hD hS => ?_)
  refine lv_iinc (v := (3 : Int32)) (lv' := [(2, .int (3 : Int32)), (1, .ref (H_b 0)), (0, .ref Ha)]) hx hb dX5_discardOldest_29 hl (k := 0) rfl (by decide) (by decide) rfl (fun ls hl => ?_)
  refine lv_goto (tgt := 9) hx hb dX5_discardOldest_32 (by decide) ?_
  refine lv_iload_n hx hb dX5_discardOldest_9 rfl (lv_at hl 0 rfl) ?_
  refine lv_bipush (v := (6 : Int32)) hx hb dX5_discardOldest_10 (by decide) ?_
  refine lv_icmp_ge (tgt := 35) hx hb dX5_discardOldest_12 (by decide) (fun c0 => absurd c0 (by decide)) (fun _ => ?_)
  refine lv_aload_n hx hb dX5_discardOldest_15 rfl (lv_at hl 2 rfl) ?_
  refine va_get (D := D) (ci := 3) (v := .ref Ha_states) (C := RX5) (T := TX5) (N := 2) hx hb hts hi_X5 hown hK hP 0 rfl rfl 0 (by decide) qst (fun _ h9 => h9) rfl dX5_discardOldest_16 ?_
  refine lv_iload_n hx hb dX5_discardOldest_19 rfl (lv_at hl 0 rfl) ?_
  refine lv_iconst (v := (1 : Int32)) hx hb dX5_discardOldest_20 (by decide) ?_
  refine lv_isub hx hb dX5_discardOldest_21 ?_
  refine lv_aload_n hx hb dX5_discardOldest_22 rfl (lv_at hl 2 rfl) ?_
  refine va_get (D := D) (ci := 3) (v := .ref Ha_states) (C := RX5) (T := TX5) (N := 2) hx hb hts hi_X5 hown hK hP 0 rfl rfl 0 (by decide) qst (fun _ h9 => h9) rfl dX5_discardOldest_23 ?_
  refine lv_iload_n hx hb dX5_discardOldest_26 rfl (lv_at hl 0 rfl) ?_
  refine sx_aald (j := 3) (v := H_b 3) hx hb hK hP 1 2 rfl rfl (inb_vp (by decide)) (by decide) rfl dX5_discardOldest_27 ?_
  refine sx_aast (j := 2) (r := (RX7, TX7, 4)) hx hb hK hP hD hS 1 2 11 4 rfl rfl rfl rfl (inb_vp (by decide)) (by decide) dX5_discardOldest_28 [(Ha, .inr (3, [.ref Ha_states, .int H_size])), (Ha_states, .inl (cS, 6, .inr (.inr (.inr (.inr (va_up (va_up (va_up (fun i => some (H_b i)) 0 (some (H_b 1))) 1 (some (H_b 2))) 2 (some (H_b 3)))))))), (H_b 0, .inr (4, [.ref (H_e 0), .ref (H_v 0), .int (H_no 0), .int (H_ro 0)])), (H_e 0, .inl (cI, 16, .inl (H_re 0))), (H_v 0, .inl (cI, 8, .inl (H_va 0))), (H_b 1, .inr (4, [.ref (H_e 1), .ref (H_v 1), .int (H_no 1), .int (H_ro 1)])), (H_e 1, .inl (cI, 16, .inl (H_re 1))), (H_v 1, .inl (cI, 8, .inl (H_va 1))), (H_b 2, .inr (4, [.ref (H_e 2), .ref (H_v 2), .int (H_no 2), .int (H_ro 2)])), (H_e 2, .inl (cI, 16, .inl (H_re 2))), (H_v 2, .inl (cI, 8, .inl (H_va 2))), (H_b 3, .inr (4, [.ref (H_e 3), .ref (H_v 3), .int (H_no 3), .int (H_ro 3)])), (H_e 3, .inl (cI, 16, .inl (H_re 3))), (H_v 3, .inl (cI, 8, .inl (H_va 3))), (H_b 4, .inr (4, [.ref (H_e 4), .ref (H_v 4), .int (H_no 4), .int (H_ro 4)])), (H_e 4, .inl (cI, 16, .inl (H_re 4))), (H_v 4, .inl (cI, 8, .inl (H_va 4))), (H_b 5, .inr (4, [.ref (H_e 5), .ref (H_v 5), .int (H_no 5), .int (H_ro 5)])), (H_e 5, .inl (cI, 16, .inl (H_re 5))), (H_v 5, .inl (cI, 8, .inl (H_va 5)))] rfl (fun H locs hP hD hS => ?_)
  refine lv_iinc (v := (4 : Int32)) (lv' := [(2, .int (4 : Int32)), (1, .ref (H_b 0)), (0, .ref Ha)]) hx hb dX5_discardOldest_29 hl (k := 0) rfl (by decide) (by decide) rfl (fun ls hl => ?_)
  refine lv_goto (tgt := 9) hx hb dX5_discardOldest_32 (by decide) ?_
  refine lv_iload_n hx hb dX5_discardOldest_9 rfl (lv_at hl 0 rfl) ?_
  refine lv_bipush (v := (6 : Int32)) hx hb dX5_discardOldest_10 (by decide) ?_
  refine lv_icmp_ge (tgt := 35) hx hb dX5_discardOldest_12 (by decide) (fun c0 => absurd c0 (by decide)) (fun _ => ?_)
  refine lv_aload_n hx hb dX5_discardOldest_15 rfl (lv_at hl 2 rfl) ?_
  refine va_get (D := D) (ci := 3) (v := .ref Ha_states) (C := RX5) (T := TX5) (N := 2) hx hb hts hi_X5 hown hK hP 0 rfl rfl 0 (by decide) qst (fun _ h9 => h9) rfl dX5_discardOldest_16 ?_
  refine lv_iload_n hx hb dX5_discardOldest_19 rfl (lv_at hl 0 rfl) ?_
  refine lv_iconst (v := (1 : Int32)) hx hb dX5_discardOldest_20 (by decide) ?_
  refine lv_isub hx hb dX5_discardOldest_21 ?_
  refine lv_aload_n hx hb dX5_discardOldest_22 rfl (lv_at hl 2 rfl) ?_
  refine va_get (D := D) (ci := 3) (v := .ref Ha_states) (C := RX5) (T := TX5) (N := 2) hx hb hts hi_X5 hown hK hP 0 rfl rfl 0 (by decide) qst (fun _ h9 => h9) rfl dX5_discardOldest_23 ?_
  refine lv_iload_n hx hb dX5_discardOldest_26 rfl (lv_at hl 0 rfl) ?_
  refine sx_aald (j := 4) (v := H_b 4) hx hb hK hP 1 2 rfl rfl (inb_vp (by decide)) (by decide) rfl dX5_discardOldest_27 ?_
  refine sx_aast (j := 3) (r := (RX7, TX7, 4)) hx hb hK hP hD hS 1 2 14 4 rfl rfl rfl rfl (inb_vp (by decide)) (by decide) dX5_discardOldest_28 [(Ha, .inr (3, [.ref Ha_states, .int H_size])), (Ha_states, .inl (cS, 6, .inr (.inr (.inr (.inr (va_up (va_up (va_up (va_up (fun i => some (H_b i)) 0 (some (H_b 1))) 1 (some (H_b 2))) 2 (some (H_b 3))) 3 (some (H_b 4)))))))), (H_b 0, .inr (4, [.ref (H_e 0), .ref (H_v 0), .int (H_no 0), .int (H_ro 0)])), (H_e 0, .inl (cI, 16, .inl (H_re 0))), (H_v 0, .inl (cI, 8, .inl (H_va 0))), (H_b 1, .inr (4, [.ref (H_e 1), .ref (H_v 1), .int (H_no 1), .int (H_ro 1)])), (H_e 1, .inl (cI, 16, .inl (H_re 1))), (H_v 1, .inl (cI, 8, .inl (H_va 1))), (H_b 2, .inr (4, [.ref (H_e 2), .ref (H_v 2), .int (H_no 2), .int (H_ro 2)])), (H_e 2, .inl (cI, 16, .inl (H_re 2))), (H_v 2, .inl (cI, 8, .inl (H_va 2))), (H_b 3, .inr (4, [.ref (H_e 3), .ref (H_v 3), .int (H_no 3), .int (H_ro 3)])), (H_e 3, .inl (cI, 16, .inl (H_re 3))), (H_v 3, .inl (cI, 8, .inl (H_va 3))), (H_b 4, .inr (4, [.ref (H_e 4), .ref (H_v 4), .int (H_no 4), .int (H_ro 4)])), (H_e 4, .inl (cI, 16, .inl (H_re 4))), (H_v 4, .inl (cI, 8, .inl (H_va 4))), (H_b 5, .inr (4, [.ref (H_e 5), .ref (H_v 5), .int (H_no 5), .int (H_ro 5)])), (H_e 5, .inl (cI, 16, .inl (H_re 5))), (H_v 5, .inl (cI, 8, .inl (H_va 5)))] rfl (fun H locs hP hD hS => ?_)
  refine lv_iinc (v := (5 : Int32)) (lv' := [(2, .int (5 : Int32)), (1, .ref (H_b 0)), (0, .ref Ha)]) hx hb dX5_discardOldest_29 hl (k := 0) rfl (by decide) (by decide) rfl (fun ls hl => ?_)
  refine lv_goto (tgt := 9) hx hb dX5_discardOldest_32 (by decide) ?_
  refine lv_iload_n hx hb dX5_discardOldest_9 rfl (lv_at hl 0 rfl) ?_
  refine lv_bipush (v := (6 : Int32)) hx hb dX5_discardOldest_10 (by decide) ?_
  refine lv_icmp_ge (tgt := 35) hx hb dX5_discardOldest_12 (by decide) (fun c0 => absurd c0 (by decide)) (fun _ => ?_)
  refine lv_aload_n hx hb dX5_discardOldest_15 rfl (lv_at hl 2 rfl) ?_
  refine va_get (D := D) (ci := 3) (v := .ref Ha_states) (C := RX5) (T := TX5) (N := 2) hx hb hts hi_X5 hown hK hP 0 rfl rfl 0 (by decide) qst (fun _ h9 => h9) rfl dX5_discardOldest_16 ?_
  refine lv_iload_n hx hb dX5_discardOldest_19 rfl (lv_at hl 0 rfl) ?_
  refine lv_iconst (v := (1 : Int32)) hx hb dX5_discardOldest_20 (by decide) ?_
  refine lv_isub hx hb dX5_discardOldest_21 ?_
  refine lv_aload_n hx hb dX5_discardOldest_22 rfl (lv_at hl 2 rfl) ?_
  refine va_get (D := D) (ci := 3) (v := .ref Ha_states) (C := RX5) (T := TX5) (N := 2) hx hb hts hi_X5 hown hK hP 0 rfl rfl 0 (by decide) qst (fun _ h9 => h9) rfl dX5_discardOldest_23 ?_
  refine lv_iload_n hx hb dX5_discardOldest_26 rfl (lv_at hl 0 rfl) ?_
  refine sx_aald (j := 5) (v := H_b 5) hx hb hK hP 1 2 rfl rfl (inb_vp (by decide)) (by decide) rfl dX5_discardOldest_27 ?_
  refine sx_aast (j := 4) (r := (RX7, TX7, 4)) hx hb hK hP hD hS 1 2 17 4 rfl rfl rfl rfl (inb_vp (by decide)) (by decide) dX5_discardOldest_28 [(Ha, .inr (3, [.ref Ha_states, .int H_size])), (Ha_states, .inl (cS, 6, .inr (.inr (.inr (.inr (va_up (va_up (va_up (va_up (va_up (fun i => some (H_b i)) 0 (some (H_b 1))) 1 (some (H_b 2))) 2 (some (H_b 3))) 3 (some (H_b 4))) 4 (some (H_b 5)))))))), (H_b 0, .inr (4, [.ref (H_e 0), .ref (H_v 0), .int (H_no 0), .int (H_ro 0)])), (H_e 0, .inl (cI, 16, .inl (H_re 0))), (H_v 0, .inl (cI, 8, .inl (H_va 0))), (H_b 1, .inr (4, [.ref (H_e 1), .ref (H_v 1), .int (H_no 1), .int (H_ro 1)])), (H_e 1, .inl (cI, 16, .inl (H_re 1))), (H_v 1, .inl (cI, 8, .inl (H_va 1))), (H_b 2, .inr (4, [.ref (H_e 2), .ref (H_v 2), .int (H_no 2), .int (H_ro 2)])), (H_e 2, .inl (cI, 16, .inl (H_re 2))), (H_v 2, .inl (cI, 8, .inl (H_va 2))), (H_b 3, .inr (4, [.ref (H_e 3), .ref (H_v 3), .int (H_no 3), .int (H_ro 3)])), (H_e 3, .inl (cI, 16, .inl (H_re 3))), (H_v 3, .inl (cI, 8, .inl (H_va 3))), (H_b 4, .inr (4, [.ref (H_e 4), .ref (H_v 4), .int (H_no 4), .int (H_ro 4)])), (H_e 4, .inl (cI, 16, .inl (H_re 4))), (H_v 4, .inl (cI, 8, .inl (H_va 4))), (H_b 5, .inr (4, [.ref (H_e 5), .ref (H_v 5), .int (H_no 5), .int (H_ro 5)])), (H_e 5, .inl (cI, 16, .inl (H_re 5))), (H_v 5, .inl (cI, 8, .inl (H_va 5)))] rfl (fun H locs hP hD hS => ?_)
  refine lv_iinc (v := (6 : Int32)) (lv' := [(2, .int (6 : Int32)), (1, .ref (H_b 0)), (0, .ref Ha)]) hx hb dX5_discardOldest_29 hl (k := 0) rfl (by decide) (by decide) rfl (fun ls hl => ?_)
  refine lv_goto (tgt := 9) hx hb dX5_discardOldest_32 (by decide) ?_
  refine lv_iload_n hx hb dX5_discardOldest_9 rfl (lv_at hl 0 rfl) ?_
  refine lv_bipush (v := (6 : Int32)) hx hb dX5_discardOldest_10 (by decide) ?_
  refine lv_icmp_ge (tgt := 35) hx hb dX5_discardOldest_12 (by decide) (fun _ => ?_) (fun c0 => absurd (by decide) c0)
  refine lv_aload_n hx hb dX5_discardOldest_35 rfl (lv_at hl 2 rfl) ?_
  refine va_get (D := D) (ci := 3) (v := .ref Ha_states) (C := RX5) (T := TX5) (N := 2) hx hb hts hi_X5 hown hK hP 0 rfl rfl 0 (by decide) qst (fun _ h9 => h9) rfl dX5_discardOldest_36 ?_
  refine lv_iconst (v := (5 : Int32)) hx hb dX5_discardOldest_39 (by decide) ?_
  refine lv_aload_n hx hb dX5_discardOldest_40 rfl (lv_at hl 1 rfl) ?_
  refine sx_aast (j := 5) (r := (RX7, TX7, 4)) hx hb hK hP hD hS 1 2 2 4 rfl rfl rfl rfl (inb_vp (by decide)) (by decide) dX5_discardOldest_41 [(Ha, .inr (3, [.ref Ha_states, .int H_size])), (Ha_states, .inl (cS, 6, .inr (.inr (.inr (.inr (va_up (va_up (va_up (va_up (va_up (va_up (fun i => some (H_b i)) 0 (some (H_b 1))) 1 (some (H_b 2))) 2 (some (H_b 3))) 3 (some (H_b 4))) 4 (some (H_b 5))) 5 (some (H_b 0)))))))), (H_b 0, .inr (4, [.ref (H_e 0), .ref (H_v 0), .int (H_no 0), .int (H_ro 0)])), (H_e 0, .inl (cI, 16, .inl (H_re 0))), (H_v 0, .inl (cI, 8, .inl (H_va 0))), (H_b 1, .inr (4, [.ref (H_e 1), .ref (H_v 1), .int (H_no 1), .int (H_ro 1)])), (H_e 1, .inl (cI, 16, .inl (H_re 1))), (H_v 1, .inl (cI, 8, .inl (H_va 1))), (H_b 2, .inr (4, [.ref (H_e 2), .ref (H_v 2), .int (H_no 2), .int (H_ro 2)])), (H_e 2, .inl (cI, 16, .inl (H_re 2))), (H_v 2, .inl (cI, 8, .inl (H_va 2))), (H_b 3, .inr (4, [.ref (H_e 3), .ref (H_v 3), .int (H_no 3), .int (H_ro 3)])), (H_e 3, .inl (cI, 16, .inl (H_re 3))), (H_v 3, .inl (cI, 8, .inl (H_va 3))), (H_b 4, .inr (4, [.ref (H_e 4), .ref (H_v 4), .int (H_no 4), .int (H_ro 4)])), (H_e 4, .inl (cI, 16, .inl (H_re 4))), (H_v 4, .inl (cI, 8, .inl (H_va 4))), (H_b 5, .inr (4, [.ref (H_e 5), .ref (H_v 5), .int (H_no 5), .int (H_ro 5)])), (H_e 5, .inl (cI, 16, .inl (H_re 5))), (H_v 5, .inl (cI, 8, .inl (H_va 5)))] rfl (fun H locs hP hD hS => ?_)
  refine lv_aload_n hx hb dX5_discardOldest_42 rfl (lv_at hl 2 rfl) ?_
  refine lv_dup hx hb dX5_discardOldest_43 rfl ?_
  refine va_get (D := D) (ci := 3) (v := .int H_size) (C := RX5) (T := TX5) (N := 2) hx hb hts hi_X5 hown hK hP 0 rfl rfl 1 (by decide) qsz (fun _ h9 => h9) rfl dX5_discardOldest_44 ?_
  refine lv_iconst (v := (1 : Int32)) hx hb dX5_discardOldest_47 (by decide) ?_
  refine lv_isub hx hb dX5_discardOldest_48 ?_
  refine sx_put (D := D) (ci := 3) (v := .int (H_size - (1 : Int32))) (ty := .int) (C := RX5) (T := TX5) (N := 2) hx hb hts hi_X5 tyX5 tyX5_ok nmX5 hown hK hP hD hS 0 rfl rfl 1 (by decide) qsz (fun _ h9 => h9) rfl (by decide +kernel) rfl rfl (Nat.le_of_ble_eq_true rfl) dX5_discardOldest_49 [(Ha, .inr (3, [.ref Ha_states, .int (H_size - (1 : Int32))])), (Ha_states, .inl (cS, 6, .inr (.inr (.inr (.inr (va_up (va_up (va_up (va_up (va_up (va_up (fun i => some (H_b i)) 0 (some (H_b 1))) 1 (some (H_b 2))) 2 (some (H_b 3))) 3 (some (H_b 4))) 4 (some (H_b 5))) 5 (some (H_b 0)))))))), (H_b 0, .inr (4, [.ref (H_e 0), .ref (H_v 0), .int (H_no 0), .int (H_ro 0)])), (H_e 0, .inl (cI, 16, .inl (H_re 0))), (H_v 0, .inl (cI, 8, .inl (H_va 0))), (H_b 1, .inr (4, [.ref (H_e 1), .ref (H_v 1), .int (H_no 1), .int (H_ro 1)])), (H_e 1, .inl (cI, 16, .inl (H_re 1))), (H_v 1, .inl (cI, 8, .inl (H_va 1))), (H_b 2, .inr (4, [.ref (H_e 2), .ref (H_v 2), .int (H_no 2), .int (H_ro 2)])), (H_e 2, .inl (cI, 16, .inl (H_re 2))), (H_v 2, .inl (cI, 8, .inl (H_va 2))), (H_b 3, .inr (4, [.ref (H_e 3), .ref (H_v 3), .int (H_no 3), .int (H_ro 3)])), (H_e 3, .inl (cI, 16, .inl (H_re 3))), (H_v 3, .inl (cI, 8, .inl (H_va 3))), (H_b 4, .inr (4, [.ref (H_e 4), .ref (H_v 4), .int (H_no 4), .int (H_ro 4)])), (H_e 4, .inl (cI, 16, .inl (H_re 4))), (H_v 4, .inl (cI, 8, .inl (H_va 4))), (H_b 5, .inr (4, [.ref (H_e 5), .ref (H_v 5), .int (H_no 5), .int (H_ro 5)])), (H_e 5, .inl (cI, 16, .inl (H_re 5))), (H_v 5, .inl (cI, 8, .inl (H_va 5)))] rfl (fun H locs hP hD hS => ?_)
  obtain ⟨hP, hD⟩ := refs_congr (k := 1) (g := fun i => some (rot H_b i)) hP hD rfl (fun j hj => by rcases (show j = 0 ∨ j = 1 ∨ j = 2 ∨ j = 3 ∨ j = 4 ∨ j = 5 by omega) with rfl | rfl | rfl | rfl | rfl | rfl <;> rfl) [(Ha, .inr (3, [.ref Ha_states, .int (H_size - (1 : Int32))])), (Ha_states, .inl (cS, 6, .inr (.inr (.inr (.inr (fun i => some (rot H_b i))))))), (H_b 0, .inr (4, [.ref (H_e 0), .ref (H_v 0), .int (H_no 0), .int (H_ro 0)])), (H_e 0, .inl (cI, 16, .inl (H_re 0))), (H_v 0, .inl (cI, 8, .inl (H_va 0))), (H_b 1, .inr (4, [.ref (H_e 1), .ref (H_v 1), .int (H_no 1), .int (H_ro 1)])), (H_e 1, .inl (cI, 16, .inl (H_re 1))), (H_v 1, .inl (cI, 8, .inl (H_va 1))), (H_b 2, .inr (4, [.ref (H_e 2), .ref (H_v 2), .int (H_no 2), .int (H_ro 2)])), (H_e 2, .inl (cI, 16, .inl (H_re 2))), (H_v 2, .inl (cI, 8, .inl (H_va 2))), (H_b 3, .inr (4, [.ref (H_e 3), .ref (H_v 3), .int (H_no 3), .int (H_ro 3)])), (H_e 3, .inl (cI, 16, .inl (H_re 3))), (H_v 3, .inl (cI, 8, .inl (H_va 3))), (H_b 4, .inr (4, [.ref (H_e 4), .ref (H_v 4), .int (H_no 4), .int (H_ro 4)])), (H_e 4, .inl (cI, 16, .inl (H_re 4))), (H_v 4, .inl (cI, 8, .inl (H_va 4))), (H_b 5, .inr (4, [.ref (H_e 5), .ref (H_v 5), .int (H_no 5), .int (H_ro 5)])), (H_e 5, .inl (cI, 16, .inl (H_re 5))), (H_v 5, .inl (cI, 8, .inl (H_va 5)))] rfl
  have hP := hP.sub (ws' := sh_X5 Ha Ha_states cI cC cS (H_size - (1 : Int32)) (rot H_b) (rot H_e) (rot H_v) (rot H_re) (rot H_va) (rot H_no) (rot H_ro)) [0, 1, 5, 6, 7, 8, 9, 10, 11, 12, 13, 14, 15, 16, 17, 18, 19, 2, 3, 4] rfl
  have hD := hD.sub (ws' := sh_X5 Ha Ha_states cI cC cS (H_size - (1 : Int32)) (rot H_b) (rot H_e) (rot H_v) (rot H_re) (rot H_va) (rot H_no) (rot H_ro)) [0, 1, 5, 6, 7, 8, 9, 10, 11, 12, 13, 14, 15, 16, 17, 18, 19, 2, 3, 4] (by decide) rfl
  subst hf
  exact rt_v hx hb hr hlocks hQ hK hP hD hS dX5_discardOldest_52
set_option maxRecDepth 100000 in
set_option maxHeartbeats 4000000 in
theorem kX5_save (l : Launch) (D : va_G) (cI cC cS : ClassId) (Ha Ha_states Sa Sa_roundEdges Sa_values : Nat) (H_size : Int32) (H_b : Nat → Nat) (H_e : Nat → Nat) (H_v : Nat → Nat) (H_re : Nat → Nat → Int32) (H_va : Nat → Nat → Int32) (H_no : Nat → Int32) (H_ro : Nat → Int32) (S_roundEdges : Nat → Int32) (S_values : Nat → Int32) (S_nodes : Int32) (S_rounds : Int32) (o : Int32 × (Nat → Nat) × (Nat → Nat) × (Nat → Nat) × (Nat → Nat → Int32) × (Nat → Nat → Int32) × (Nat → Int32) × (Nat → Int32)) (hf : fX5_save H_size H_b H_e H_v H_re H_va H_no H_ro S_roundEdges S_values S_nodes S_rounds = some o) : CV l D yX5_save wsX5_save ({ frames := 1, cells := 0, slots := 0, locals := 22 } : Room) (tysK cI cC cS) [.ref Ha, .ref Sa] (sh_X5s Ha Ha_states Sa Sa_roundEdges Sa_values cI cC cS H_size H_b H_e H_v H_re H_va H_no H_ro S_roundEdges S_values S_nodes S_rounds) (sh_X5s Ha Ha_states Sa Sa_roundEdges Sa_values cI cC cS o.1 o.2.1 o.2.2.1 o.2.2.2.1 o.2.2.2.2.1 o.2.2.2.2.2.1 o.2.2.2.2.2.2.1 o.2.2.2.2.2.2.2 S_roundEdges S_values S_nodes S_rounds) := by
  refine met_v (cc := cX5_save) (maxL := 2) (ret := none) (by decide) rfl (Nat.le_of_ble_eq_true rfl) ?_
  intro p e s m args below meth c R Q A F hR hQ hP hK hD hA hS ls hl
  obtain ⟨hx, hb, hr, hts, hml, hlocks, hown⟩ := F
  have hown : s.vm.findClass RX5 = some m.cls := hown
  have hi_X5 : ∀ w ∈ u_ws RX5 TX5 2, w ∈ wsX5_save := fun w h => List.mem_cons_of_mem _ (List.mem_append_left _ (List.mem_append_right _ h))
  have qst := hts (.fieldLink RX5 11 "ChangingRounds$History" "states" "[LChangingRounds$Schedule;") (by decide +kernel)
  have qsz := hts (.fieldLink RX5 18 "ChangingRounds$History" "size" "I") (by decide +kernel)
  have hl : lv_has ls 2 [(0, .ref Ha), (1, .ref Sa)] := hl
  unfold fX5_save at hf
  have J13 : ∀ (H_size : Int32) (H_b : Nat → Nat) (H_e : Nat → Nat) (H_v : Nat → Nat) (H_re : Nat → Nat → Int32) (H_va : Nat → Nat → Int32) (H_no : Nat → Int32) (H_ro : Nat → Int32) (H : Heap) (locs : List Loc) (ls : Array Slot), fX5_save_b13 H_size H_b H_e H_v H_re H_va H_no H_ro S_roundEdges S_values S_nodes S_rounds = some o → va_P D vwCl (sh_X5s Ha Ha_states Sa Sa_roundEdges Sa_values cI cC cS H_size H_b H_e H_v H_re H_va H_no H_ro S_roundEdges S_values S_nodes S_rounds) H → va_D A (sh_X5s Ha Ha_states Sa Sa_roundEdges Sa_values cI cC cS H_size H_b H_e H_v H_re H_va H_no H_ro S_roundEdges S_values S_nodes S_rounds) → va_S A s.heap H locs → lv_has ls 2 [(0, .ref Ha), (1, .ref Sa)] → W p l e R s m args below meth c H locs 0 0 Q (F0 m 13 ls []) := by
    intro H_size H_b H_e H_v H_re H_va H_no H_ro H locs ls hf hP hD hS hl
    unfold fX5_save_b13 at hf
    obtain ⟨hz, hf⟩ := ck_some hf
    refine lv_aload_n hx hb dX5_save_13 rfl (lv_at hl 0 rfl) ?_
    refine va_get (D := D) (ci := 3) (v := .ref Ha_states) (C := RX5) (T := TX5) (N := 2) hx hb hts hi_X5 hown hK hP 0 rfl rfl 0 (by decide) qst (fun _ h9 => h9) rfl dX5_save_14 ?_
    refine lv_aload_n hx hb dX5_save_17 rfl (lv_at hl 0 rfl) ?_
    refine va_get (D := D) (ci := 3) (v := .int H_size) (C := RX5) (T := TX5) (N := 2) hx hb hts hi_X5 hown hK hP 0 rfl rfl 1 (by decide) qsz (fun _ h9 => h9) rfl dX5_save_18 ?_
    rcases inb6 hz with rfl | rfl | rfl | rfl | rfl | rfl
    · have e0 : (0 : Int32).toNatClampNeg = 0 := by decide
      rw [e0] at hf
      obtain ⟨o1, ho1, hf⟩ := bd_some hf
      refine sx_aald (j := 0) (v := H_b 0) hx hb hK hP 1 2 rfl rfl (inb_vp hz) (by decide) rfl dX5_save_21 ?_
      refine lv_aload_n hx hb dX5_save_22 rfl (lv_at hl 1 rfl) ?_
      refine cv_v (ci := 4) (q := (RX7, TX7, 4)) (As := [.ref Sa]) (rest := []) hx hb hml hown hts hK hP hD hA hS (kX7_become l D cI cC cS (H_b 0) (H_e 0) (H_v 0) Sa Sa_roundEdges Sa_values (H_re 0) (H_va 0) (H_no 0) (H_ro 0) S_roundEdges S_values S_nodes S_rounds o1 ho1) (cwV 1 hts gX5_save_X7_become rfl rfl rfl (by decide +kernel) (by subst hR; exact ⟨Nat.le_of_ble_eq_true rfl, Nat.le_of_ble_eq_true rfl⟩)) [2, 3, 4, 20, 21, 22] [0, 1, 5, 6, 7, 8, 9, 10, 11, 12, 13, 14, 15, 16, 17, 18, 19] [0, 1, 17, 18, 19, 2, 3, 4, 5, 6, 7, 8, 9, 10, 11, 12, 13, 14, 15, 16, 20, 21, 22] [(Ha, .inr (3, [.ref Ha_states, .int (0 : Int32)])), (Ha_states, .inl (cS, 6, .inr (.inr (.inr (.inr (fun i => some (H_b i))))))), (H_b 1, .inr (4, [.ref (H_e 1), .ref (H_v 1), .int (H_no 1), .int (H_ro 1)])), (H_e 1, .inl (cI, 16, .inl (H_re 1))), (H_v 1, .inl (cI, 8, .inl (H_va 1))), (H_b 2, .inr (4, [.ref (H_e 2), .ref (H_v 2), .int (H_no 2), .int (H_ro 2)])), (H_e 2, .inl (cI, 16, .inl (H_re 2))), (H_v 2, .inl (cI, 8, .inl (H_va 2))), (H_b 3, .inr (4, [.ref (H_e 3), .ref (H_v 3), .int (H_no 3), .int (H_ro 3)])), (H_e 3, .inl (cI, 16, .inl (H_re 3))), (H_v 3, .inl (cI, 8, .inl (H_va 3))), (H_b 4, .inr (4, [.ref (H_e 4), .ref (H_v 4), .int (H_no 4), .int (H_ro 4)])), (H_e 4, .inl (cI, 16, .inl (H_re 4))), (H_v 4, .inl (cI, 8, .inl (H_va 4))), (H_b 5, .inr (4, [.ref (H_e 5), .ref (H_v 5), .int (H_no 5), .int (H_ro 5)])), (H_e 5, .inl (cI, 16, .inl (H_re 5))), (H_v 5, .inl (cI, 8, .inl (H_va 5)))] (sh_X5s Ha Ha_states Sa Sa_roundEdges Sa_values cI cC cS (0 : Int32) H_b H_e H_v (va_up H_re 0 o1.1) (va_up H_va 0 o1.2.1) (va_up H_no 0 o1.2.2.1) (va_up H_ro 0 o1.2.2.2) S_roundEdges S_values S_nodes S_rounds) rfl rfl rfl rfl (by decide) rfl rfl rfl rfl rfl rfl hl.1 rfl (Nat.le_of_ble_eq_true rfl) ⟨Nat.zero_le _, Nat.zero_le _⟩ dX5_save_23 (fun H locs hP hD hS => ?_)
      refine lv_aload_n hx hb dX5_save_26 rfl (lv_at hl 0 rfl) ?_
      refine lv_dup hx hb dX5_save_27 rfl ?_
      refine va_get (D := D) (ci := 3) (v := .int (0 : Int32)) (C := RX5) (T := TX5) (N := 2) hx hb hts hi_X5 hown hK hP 0 rfl rfl 1 (by decide) qsz (fun _ h9 => h9) rfl dX5_save_28 ?_
      refine lv_iconst (v := (1 : Int32)) hx hb dX5_save_31 (by decide) ?_
      refine lv_iadd hx hb dX5_save_32 ?_
      refine sx_put (D := D) (ci := 3) (v := .int ((0 : Int32) + (1 : Int32))) (ty := .int) (C := RX5) (T := TX5) (N := 2) hx hb hts hi_X5 tyX5 tyX5_ok nmX5 hown hK hP hD hS 0 rfl rfl 1 (by decide) qsz (fun _ h9 => h9) rfl (by decide +kernel) rfl rfl (Nat.le_of_ble_eq_true rfl) dX5_save_33 (sh_X5s Ha Ha_states Sa Sa_roundEdges Sa_values cI cC cS ((0 : Int32) + (1 : Int32)) H_b H_e H_v (va_up H_re 0 o1.1) (va_up H_va 0 o1.2.1) (va_up H_no 0 o1.2.2.1) (va_up H_ro 0 o1.2.2.2) S_roundEdges S_values S_nodes S_rounds) rfl (fun H locs hP hD hS => ?_)
      have hf := Option.some.inj hf
      subst hf
      exact rt_v hx hb hr hlocks hQ hK hP hD hS dX5_save_36
    · have e1 : (1 : Int32).toNatClampNeg = 1 := by decide
      rw [e1] at hf
      obtain ⟨o1, ho1, hf⟩ := bd_some hf
      refine sx_aald (j := 1) (v := H_b 1) hx hb hK hP 1 2 rfl rfl (inb_vp hz) (by decide) rfl dX5_save_21 ?_
      refine lv_aload_n hx hb dX5_save_22 rfl (lv_at hl 1 rfl) ?_
      refine cv_v (ci := 4) (q := (RX7, TX7, 4)) (As := [.ref Sa]) (rest := []) hx hb hml hown hts hK hP hD hA hS (kX7_become l D cI cC cS (H_b 1) (H_e 1) (H_v 1) Sa Sa_roundEdges Sa_values (H_re 1) (H_va 1) (H_no 1) (H_ro 1) S_roundEdges S_values S_nodes S_rounds o1 ho1) (cwV 1 hts gX5_save_X7_become rfl rfl rfl (by decide +kernel) (by subst hR; exact ⟨Nat.le_of_ble_eq_true rfl, Nat.le_of_ble_eq_true rfl⟩)) [5, 6, 7, 20, 21, 22] [0, 1, 2, 3, 4, 8, 9, 10, 11, 12, 13, 14, 15, 16, 17, 18, 19] [0, 1, 2, 3, 4, 17, 18, 19, 5, 6, 7, 8, 9, 10, 11, 12, 13, 14, 15, 16, 20, 21, 22] [(Ha, .inr (3, [.ref Ha_states, .int (1 : Int32)])), (Ha_states, .inl (cS, 6, .inr (.inr (.inr (.inr (fun i => some (H_b i))))))), (H_b 0, .inr (4, [.ref (H_e 0), .ref (H_v 0), .int (H_no 0), .int (H_ro 0)])), (H_e 0, .inl (cI, 16, .inl (H_re 0))), (H_v 0, .inl (cI, 8, .inl (H_va 0))), (H_b 2, .inr (4, [.ref (H_e 2), .ref (H_v 2), .int (H_no 2), .int (H_ro 2)])), (H_e 2, .inl (cI, 16, .inl (H_re 2))), (H_v 2, .inl (cI, 8, .inl (H_va 2))), (H_b 3, .inr (4, [.ref (H_e 3), .ref (H_v 3), .int (H_no 3), .int (H_ro 3)])), (H_e 3, .inl (cI, 16, .inl (H_re 3))), (H_v 3, .inl (cI, 8, .inl (H_va 3))), (H_b 4, .inr (4, [.ref (H_e 4), .ref (H_v 4), .int (H_no 4), .int (H_ro 4)])), (H_e 4, .inl (cI, 16, .inl (H_re 4))), (H_v 4, .inl (cI, 8, .inl (H_va 4))), (H_b 5, .inr (4, [.ref (H_e 5), .ref (H_v 5), .int (H_no 5), .int (H_ro 5)])), (H_e 5, .inl (cI, 16, .inl (H_re 5))), (H_v 5, .inl (cI, 8, .inl (H_va 5)))] (sh_X5s Ha Ha_states Sa Sa_roundEdges Sa_values cI cC cS (1 : Int32) H_b H_e H_v (va_up H_re 1 o1.1) (va_up H_va 1 o1.2.1) (va_up H_no 1 o1.2.2.1) (va_up H_ro 1 o1.2.2.2) S_roundEdges S_values S_nodes S_rounds) rfl rfl rfl rfl (by decide) rfl rfl rfl rfl rfl rfl hl.1 rfl (Nat.le_of_ble_eq_true rfl) ⟨Nat.zero_le _, Nat.zero_le _⟩ dX5_save_23 (fun H locs hP hD hS => ?_)
      refine lv_aload_n hx hb dX5_save_26 rfl (lv_at hl 0 rfl) ?_
      refine lv_dup hx hb dX5_save_27 rfl ?_
      refine va_get (D := D) (ci := 3) (v := .int (1 : Int32)) (C := RX5) (T := TX5) (N := 2) hx hb hts hi_X5 hown hK hP 0 rfl rfl 1 (by decide) qsz (fun _ h9 => h9) rfl dX5_save_28 ?_
      refine lv_iconst (v := (1 : Int32)) hx hb dX5_save_31 (by decide) ?_
      refine lv_iadd hx hb dX5_save_32 ?_
      refine sx_put (D := D) (ci := 3) (v := .int ((1 : Int32) + (1 : Int32))) (ty := .int) (C := RX5) (T := TX5) (N := 2) hx hb hts hi_X5 tyX5 tyX5_ok nmX5 hown hK hP hD hS 0 rfl rfl 1 (by decide) qsz (fun _ h9 => h9) rfl (by decide +kernel) rfl rfl (Nat.le_of_ble_eq_true rfl) dX5_save_33 (sh_X5s Ha Ha_states Sa Sa_roundEdges Sa_values cI cC cS ((1 : Int32) + (1 : Int32)) H_b H_e H_v (va_up H_re 1 o1.1) (va_up H_va 1 o1.2.1) (va_up H_no 1 o1.2.2.1) (va_up H_ro 1 o1.2.2.2) S_roundEdges S_values S_nodes S_rounds) rfl (fun H locs hP hD hS => ?_)
      have hf := Option.some.inj hf
      subst hf
      exact rt_v hx hb hr hlocks hQ hK hP hD hS dX5_save_36
    · have e2 : (2 : Int32).toNatClampNeg = 2 := by decide
      rw [e2] at hf
      obtain ⟨o1, ho1, hf⟩ := bd_some hf
      refine sx_aald (j := 2) (v := H_b 2) hx hb hK hP 1 2 rfl rfl (inb_vp hz) (by decide) rfl dX5_save_21 ?_
      refine lv_aload_n hx hb dX5_save_22 rfl (lv_at hl 1 rfl) ?_
      refine cv_v (ci := 4) (q := (RX7, TX7, 4)) (As := [.ref Sa]) (rest := []) hx hb hml hown hts hK hP hD hA hS (kX7_become l D cI cC cS (H_b 2) (H_e 2) (H_v 2) Sa Sa_roundEdges Sa_values (H_re 2) (H_va 2) (H_no 2) (H_ro 2) S_roundEdges S_values S_nodes S_rounds o1 ho1) (cwV 1 hts gX5_save_X7_become rfl rfl rfl (by decide +kernel) (by subst hR; exact ⟨Nat.le_of_ble_eq_true rfl, Nat.le_of_ble_eq_true rfl⟩)) [8, 9, 10, 20, 21, 22] [0, 1, 2, 3, 4, 5, 6, 7, 11, 12, 13, 14, 15, 16, 17, 18, 19] [0, 1, 2, 3, 4, 5, 6, 7, 17, 18, 19, 8, 9, 10, 11, 12, 13, 14, 15, 16, 20, 21, 22] [(Ha, .inr (3, [.ref Ha_states, .int (2 : Int32)])), (Ha_states, .inl (cS, 6, .inr (.inr (.inr (.inr (fun i => some (H_b i))))))), (H_b 0, .inr (4, [.ref (H_e 0), .ref (H_v 0), .int (H_no 0), .int (H_ro 0)])), (H_e 0, .inl (cI, 16, .inl (H_re 0))), (H_v 0, .inl (cI, 8, .inl (H_va 0))), (H_b 1, .inr (4, [.ref (H_e 1), .ref (H_v 1), .int (H_no 1), .int (H_ro 1)])), (H_e 1, .inl (cI, 16, .inl (H_re 1))), (H_v 1, .inl (cI, 8, .inl (H_va 1))), (H_b 3, .inr (4, [.ref (H_e 3), .ref (H_v 3), .int (H_no 3), .int (H_ro 3)])), (H_e 3, .inl (cI, 16, .inl (H_re 3))), (H_v 3, .inl (cI, 8, .inl (H_va 3))), (H_b 4, .inr (4, [.ref (H_e 4), .ref (H_v 4), .int (H_no 4), .int (H_ro 4)])), (H_e 4, .inl (cI, 16, .inl (H_re 4))), (H_v 4, .inl (cI, 8, .inl (H_va 4))), (H_b 5, .inr (4, [.ref (H_e 5), .ref (H_v 5), .int (H_no 5), .int (H_ro 5)])), (H_e 5, .inl (cI, 16, .inl (H_re 5))), (H_v 5, .inl (cI, 8, .inl (H_va 5)))] (sh_X5s Ha Ha_states Sa Sa_roundEdges Sa_values cI cC cS (2 : Int32) H_b H_e H_v (va_up H_re 2 o1.1) (va_up H_va 2 o1.2.1) (va_up H_no 2 o1.2.2.1) (va_up H_ro 2 o1.2.2.2) S_roundEdges S_values S_nodes S_rounds) rfl rfl rfl rfl (by decide) rfl rfl rfl rfl rfl rfl hl.1 rfl (Nat.le_of_ble_eq_true rfl) ⟨Nat.zero_le _, Nat.zero_le _⟩ dX5_save_23 (fun H locs hP hD hS => ?_)
      refine lv_aload_n hx hb dX5_save_26 rfl (lv_at hl 0 rfl) ?_
      refine lv_dup hx hb dX5_save_27 rfl ?_
      refine va_get (D := D) (ci := 3) (v := .int (2 : Int32)) (C := RX5) (T := TX5) (N := 2) hx hb hts hi_X5 hown hK hP 0 rfl rfl 1 (by decide) qsz (fun _ h9 => h9) rfl dX5_save_28 ?_
      refine lv_iconst (v := (1 : Int32)) hx hb dX5_save_31 (by decide) ?_
      refine lv_iadd hx hb dX5_save_32 ?_
      refine sx_put (D := D) (ci := 3) (v := .int ((2 : Int32) + (1 : Int32))) (ty := .int) (C := RX5) (T := TX5) (N := 2) hx hb hts hi_X5 tyX5 tyX5_ok nmX5 hown hK hP hD hS 0 rfl rfl 1 (by decide) qsz (fun _ h9 => h9) rfl (by decide +kernel) rfl rfl (Nat.le_of_ble_eq_true rfl) dX5_save_33 (sh_X5s Ha Ha_states Sa Sa_roundEdges Sa_values cI cC cS ((2 : Int32) + (1 : Int32)) H_b H_e H_v (va_up H_re 2 o1.1) (va_up H_va 2 o1.2.1) (va_up H_no 2 o1.2.2.1) (va_up H_ro 2 o1.2.2.2) S_roundEdges S_values S_nodes S_rounds) rfl (fun H locs hP hD hS => ?_)
      have hf := Option.some.inj hf
      subst hf
      exact rt_v hx hb hr hlocks hQ hK hP hD hS dX5_save_36
    · have e3 : (3 : Int32).toNatClampNeg = 3 := by decide
      rw [e3] at hf
      obtain ⟨o1, ho1, hf⟩ := bd_some hf
      refine sx_aald (j := 3) (v := H_b 3) hx hb hK hP 1 2 rfl rfl (inb_vp hz) (by decide) rfl dX5_save_21 ?_
      refine lv_aload_n hx hb dX5_save_22 rfl (lv_at hl 1 rfl) ?_
      refine cv_v (ci := 4) (q := (RX7, TX7, 4)) (As := [.ref Sa]) (rest := []) hx hb hml hown hts hK hP hD hA hS (kX7_become l D cI cC cS (H_b 3) (H_e 3) (H_v 3) Sa Sa_roundEdges Sa_values (H_re 3) (H_va 3) (H_no 3) (H_ro 3) S_roundEdges S_values S_nodes S_rounds o1 ho1) (cwV 1 hts gX5_save_X7_become rfl rfl rfl (by decide +kernel) (by subst hR; exact ⟨Nat.le_of_ble_eq_true rfl, Nat.le_of_ble_eq_true rfl⟩)) [11, 12, 13, 20, 21, 22] [0, 1, 2, 3, 4, 5, 6, 7, 8, 9, 10, 14, 15, 16, 17, 18, 19] [0, 1, 2, 3, 4, 5, 6, 7, 8, 9, 10, 17, 18, 19, 11, 12, 13, 14, 15, 16, 20, 21, 22] [(Ha, .inr (3, [.ref Ha_states, .int (3 : Int32)])), (Ha_states, .inl (cS, 6, .inr (.inr (.inr (.inr (fun i => some (H_b i))))))), (H_b 0, .inr (4, [.ref (H_e 0), .ref (H_v 0), .int (H_no 0), .int (H_ro 0)])), (H_e 0, .inl (cI, 16, .inl (H_re 0))), (H_v 0, .inl (cI, 8, .inl (H_va 0))), (H_b 1, .inr (4, [.ref (H_e 1), .ref (H_v 1), .int (H_no 1), .int (H_ro 1)])), (H_e 1, .inl (cI, 16, .inl (H_re 1))), (H_v 1, .inl (cI, 8, .inl (H_va 1))), (H_b 2, .inr (4, [.ref (H_e 2), .ref (H_v 2), .int (H_no 2), .int (H_ro 2)])), (H_e 2, .inl (cI, 16, .inl (H_re 2))), (H_v 2, .inl (cI, 8, .inl (H_va 2))), (H_b 4, .inr (4, [.ref (H_e 4), .ref (H_v 4), .int (H_no 4), .int (H_ro 4)])), (H_e 4, .inl (cI, 16, .inl (H_re 4))), (H_v 4, .inl (cI, 8, .inl (H_va 4))), (H_b 5, .inr (4, [.ref (H_e 5), .ref (H_v 5), .int (H_no 5), .int (H_ro 5)])), (H_e 5, .inl (cI, 16, .inl (H_re 5))), (H_v 5, .inl (cI, 8, .inl (H_va 5)))] (sh_X5s Ha Ha_states Sa Sa_roundEdges Sa_values cI cC cS (3 : Int32) H_b H_e H_v (va_up H_re 3 o1.1) (va_up H_va 3 o1.2.1) (va_up H_no 3 o1.2.2.1) (va_up H_ro 3 o1.2.2.2) S_roundEdges S_values S_nodes S_rounds) rfl rfl rfl rfl (by decide) rfl rfl rfl rfl rfl rfl hl.1 rfl (Nat.le_of_ble_eq_true rfl) ⟨Nat.zero_le _, Nat.zero_le _⟩ dX5_save_23 (fun H locs hP hD hS => ?_)
      refine lv_aload_n hx hb dX5_save_26 rfl (lv_at hl 0 rfl) ?_
      refine lv_dup hx hb dX5_save_27 rfl ?_
      refine va_get (D := D) (ci := 3) (v := .int (3 : Int32)) (C := RX5) (T := TX5) (N := 2) hx hb hts hi_X5 hown hK hP 0 rfl rfl 1 (by decide) qsz (fun _ h9 => h9) rfl dX5_save_28 ?_
      refine lv_iconst (v := (1 : Int32)) hx hb dX5_save_31 (by decide) ?_
      refine lv_iadd hx hb dX5_save_32 ?_
      refine sx_put (D := D) (ci := 3) (v := .int ((3 : Int32) + (1 : Int32))) (ty := .int) (C := RX5) (T := TX5) (N := 2) hx hb hts hi_X5 tyX5 tyX5_ok nmX5 hown hK hP hD hS 0 rfl rfl 1 (by decide) qsz (fun _ h9 => h9) rfl (by decide +kernel) rfl rfl (Nat.le_of_ble_eq_true rfl) dX5_save_33 (sh_X5s Ha Ha_states Sa Sa_roundEdges Sa_values cI cC cS ((3 : Int32) + (1 : Int32)) H_b H_e H_v (va_up H_re 3 o1.1) (va_up H_va 3 o1.2.1) (va_up H_no 3 o1.2.2.1) (va_up H_ro 3 o1.2.2.2) S_roundEdges S_values S_nodes S_rounds) rfl (fun H locs hP hD hS => ?_)
      have hf := Option.some.inj hf
      subst hf
      exact rt_v hx hb hr hlocks hQ hK hP hD hS dX5_save_36
    · have e4 : (4 : Int32).toNatClampNeg = 4 := by decide
      rw [e4] at hf
      obtain ⟨o1, ho1, hf⟩ := bd_some hf
      refine sx_aald (j := 4) (v := H_b 4) hx hb hK hP 1 2 rfl rfl (inb_vp hz) (by decide) rfl dX5_save_21 ?_
      refine lv_aload_n hx hb dX5_save_22 rfl (lv_at hl 1 rfl) ?_
      refine cv_v (ci := 4) (q := (RX7, TX7, 4)) (As := [.ref Sa]) (rest := []) hx hb hml hown hts hK hP hD hA hS (kX7_become l D cI cC cS (H_b 4) (H_e 4) (H_v 4) Sa Sa_roundEdges Sa_values (H_re 4) (H_va 4) (H_no 4) (H_ro 4) S_roundEdges S_values S_nodes S_rounds o1 ho1) (cwV 1 hts gX5_save_X7_become rfl rfl rfl (by decide +kernel) (by subst hR; exact ⟨Nat.le_of_ble_eq_true rfl, Nat.le_of_ble_eq_true rfl⟩)) [14, 15, 16, 20, 21, 22] [0, 1, 2, 3, 4, 5, 6, 7, 8, 9, 10, 11, 12, 13, 17, 18, 19] [0, 1, 2, 3, 4, 5, 6, 7, 8, 9, 10, 11, 12, 13, 17, 18, 19, 14, 15, 16, 20, 21, 22] [(Ha, .inr (3, [.ref Ha_states, .int (4 : Int32)])), (Ha_states, .inl (cS, 6, .inr (.inr (.inr (.inr (fun i => some (H_b i))))))), (H_b 0, .inr (4, [.ref (H_e 0), .ref (H_v 0), .int (H_no 0), .int (H_ro 0)])), (H_e 0, .inl (cI, 16, .inl (H_re 0))), (H_v 0, .inl (cI, 8, .inl (H_va 0))), (H_b 1, .inr (4, [.ref (H_e 1), .ref (H_v 1), .int (H_no 1), .int (H_ro 1)])), (H_e 1, .inl (cI, 16, .inl (H_re 1))), (H_v 1, .inl (cI, 8, .inl (H_va 1))), (H_b 2, .inr (4, [.ref (H_e 2), .ref (H_v 2), .int (H_no 2), .int (H_ro 2)])), (H_e 2, .inl (cI, 16, .inl (H_re 2))), (H_v 2, .inl (cI, 8, .inl (H_va 2))), (H_b 3, .inr (4, [.ref (H_e 3), .ref (H_v 3), .int (H_no 3), .int (H_ro 3)])), (H_e 3, .inl (cI, 16, .inl (H_re 3))), (H_v 3, .inl (cI, 8, .inl (H_va 3))), (H_b 5, .inr (4, [.ref (H_e 5), .ref (H_v 5), .int (H_no 5), .int (H_ro 5)])), (H_e 5, .inl (cI, 16, .inl (H_re 5))), (H_v 5, .inl (cI, 8, .inl (H_va 5)))] (sh_X5s Ha Ha_states Sa Sa_roundEdges Sa_values cI cC cS (4 : Int32) H_b H_e H_v (va_up H_re 4 o1.1) (va_up H_va 4 o1.2.1) (va_up H_no 4 o1.2.2.1) (va_up H_ro 4 o1.2.2.2) S_roundEdges S_values S_nodes S_rounds) rfl rfl rfl rfl (by decide) rfl rfl rfl rfl rfl rfl hl.1 rfl (Nat.le_of_ble_eq_true rfl) ⟨Nat.zero_le _, Nat.zero_le _⟩ dX5_save_23 (fun H locs hP hD hS => ?_)
      refine lv_aload_n hx hb dX5_save_26 rfl (lv_at hl 0 rfl) ?_
      refine lv_dup hx hb dX5_save_27 rfl ?_
      refine va_get (D := D) (ci := 3) (v := .int (4 : Int32)) (C := RX5) (T := TX5) (N := 2) hx hb hts hi_X5 hown hK hP 0 rfl rfl 1 (by decide) qsz (fun _ h9 => h9) rfl dX5_save_28 ?_
      refine lv_iconst (v := (1 : Int32)) hx hb dX5_save_31 (by decide) ?_
      refine lv_iadd hx hb dX5_save_32 ?_
      refine sx_put (D := D) (ci := 3) (v := .int ((4 : Int32) + (1 : Int32))) (ty := .int) (C := RX5) (T := TX5) (N := 2) hx hb hts hi_X5 tyX5 tyX5_ok nmX5 hown hK hP hD hS 0 rfl rfl 1 (by decide) qsz (fun _ h9 => h9) rfl (by decide +kernel) rfl rfl (Nat.le_of_ble_eq_true rfl) dX5_save_33 (sh_X5s Ha Ha_states Sa Sa_roundEdges Sa_values cI cC cS ((4 : Int32) + (1 : Int32)) H_b H_e H_v (va_up H_re 4 o1.1) (va_up H_va 4 o1.2.1) (va_up H_no 4 o1.2.2.1) (va_up H_ro 4 o1.2.2.2) S_roundEdges S_values S_nodes S_rounds) rfl (fun H locs hP hD hS => ?_)
      have hf := Option.some.inj hf
      subst hf
      exact rt_v hx hb hr hlocks hQ hK hP hD hS dX5_save_36
    · have e5 : (5 : Int32).toNatClampNeg = 5 := by decide
      rw [e5] at hf
      obtain ⟨o1, ho1, hf⟩ := bd_some hf
      refine sx_aald (j := 5) (v := H_b 5) hx hb hK hP 1 2 rfl rfl (inb_vp hz) (by decide) rfl dX5_save_21 ?_
      refine lv_aload_n hx hb dX5_save_22 rfl (lv_at hl 1 rfl) ?_
      refine cv_v (ci := 4) (q := (RX7, TX7, 4)) (As := [.ref Sa]) (rest := []) hx hb hml hown hts hK hP hD hA hS (kX7_become l D cI cC cS (H_b 5) (H_e 5) (H_v 5) Sa Sa_roundEdges Sa_values (H_re 5) (H_va 5) (H_no 5) (H_ro 5) S_roundEdges S_values S_nodes S_rounds o1 ho1) (cwV 1 hts gX5_save_X7_become rfl rfl rfl (by decide +kernel) (by subst hR; exact ⟨Nat.le_of_ble_eq_true rfl, Nat.le_of_ble_eq_true rfl⟩)) [17, 18, 19, 20, 21, 22] [0, 1, 2, 3, 4, 5, 6, 7, 8, 9, 10, 11, 12, 13, 14, 15, 16] [0, 1, 2, 3, 4, 5, 6, 7, 8, 9, 10, 11, 12, 13, 14, 15, 16, 17, 18, 19, 20, 21, 22] [(Ha, .inr (3, [.ref Ha_states, .int (5 : Int32)])), (Ha_states, .inl (cS, 6, .inr (.inr (.inr (.inr (fun i => some (H_b i))))))), (H_b 0, .inr (4, [.ref (H_e 0), .ref (H_v 0), .int (H_no 0), .int (H_ro 0)])), (H_e 0, .inl (cI, 16, .inl (H_re 0))), (H_v 0, .inl (cI, 8, .inl (H_va 0))), (H_b 1, .inr (4, [.ref (H_e 1), .ref (H_v 1), .int (H_no 1), .int (H_ro 1)])), (H_e 1, .inl (cI, 16, .inl (H_re 1))), (H_v 1, .inl (cI, 8, .inl (H_va 1))), (H_b 2, .inr (4, [.ref (H_e 2), .ref (H_v 2), .int (H_no 2), .int (H_ro 2)])), (H_e 2, .inl (cI, 16, .inl (H_re 2))), (H_v 2, .inl (cI, 8, .inl (H_va 2))), (H_b 3, .inr (4, [.ref (H_e 3), .ref (H_v 3), .int (H_no 3), .int (H_ro 3)])), (H_e 3, .inl (cI, 16, .inl (H_re 3))), (H_v 3, .inl (cI, 8, .inl (H_va 3))), (H_b 4, .inr (4, [.ref (H_e 4), .ref (H_v 4), .int (H_no 4), .int (H_ro 4)])), (H_e 4, .inl (cI, 16, .inl (H_re 4))), (H_v 4, .inl (cI, 8, .inl (H_va 4)))] (sh_X5s Ha Ha_states Sa Sa_roundEdges Sa_values cI cC cS (5 : Int32) H_b H_e H_v (va_up H_re 5 o1.1) (va_up H_va 5 o1.2.1) (va_up H_no 5 o1.2.2.1) (va_up H_ro 5 o1.2.2.2) S_roundEdges S_values S_nodes S_rounds) rfl rfl rfl rfl (by decide) rfl rfl rfl rfl rfl rfl hl.1 rfl (Nat.le_of_ble_eq_true rfl) ⟨Nat.zero_le _, Nat.zero_le _⟩ dX5_save_23 (fun H locs hP hD hS => ?_)
      refine lv_aload_n hx hb dX5_save_26 rfl (lv_at hl 0 rfl) ?_
      refine lv_dup hx hb dX5_save_27 rfl ?_
      refine va_get (D := D) (ci := 3) (v := .int (5 : Int32)) (C := RX5) (T := TX5) (N := 2) hx hb hts hi_X5 hown hK hP 0 rfl rfl 1 (by decide) qsz (fun _ h9 => h9) rfl dX5_save_28 ?_
      refine lv_iconst (v := (1 : Int32)) hx hb dX5_save_31 (by decide) ?_
      refine lv_iadd hx hb dX5_save_32 ?_
      refine sx_put (D := D) (ci := 3) (v := .int ((5 : Int32) + (1 : Int32))) (ty := .int) (C := RX5) (T := TX5) (N := 2) hx hb hts hi_X5 tyX5 tyX5_ok nmX5 hown hK hP hD hS 0 rfl rfl 1 (by decide) qsz (fun _ h9 => h9) rfl (by decide +kernel) rfl rfl (Nat.le_of_ble_eq_true rfl) dX5_save_33 (sh_X5s Ha Ha_states Sa Sa_roundEdges Sa_values cI cC cS ((5 : Int32) + (1 : Int32)) H_b H_e H_v (va_up H_re 5 o1.1) (va_up H_va 5 o1.2.1) (va_up H_no 5 o1.2.2.1) (va_up H_ro 5 o1.2.2.2) S_roundEdges S_values S_nodes S_rounds) rfl (fun H locs hP hD hS => ?_)
      have hf := Option.some.inj hf
      subst hf
      exact rt_v hx hb hr hlocks hQ hK hP hD hS dX5_save_36
  refine lv_aload_n hx hb dX5_save_0 rfl (lv_at hl 0 rfl) ?_
  refine va_get (D := D) (ci := 3) (v := .int H_size) (C := RX5) (T := TX5) (N := 2) hx hb hts hi_X5 hown hK hP 0 rfl rfl 1 (by decide) qsz (fun _ h9 => h9) rfl dX5_save_1 ?_
  refine lv_bipush (v := (6 : Int32)) hx hb dX5_save_4 (by decide) ?_
  refine lv_icmp_lt (tgt := 13) hx hb dX5_save_6 (by decide) (fun c1 => ?_) (fun c1 => ?_)
  · have hf := if_t c1 hf
    exact J13 H_size H_b H_e H_v H_re H_va H_no H_ro _ _ _ hf hP hD hS (lv_sub hl [0, 1] rfl)
  · have hf := if_f c1 hf
    refine lv_aload_n hx hb dX5_save_9 rfl (lv_at hl 0 rfl) ?_
    refine cv_v (ci := 3) (q := (RX5, TX5, 2)) (As := []) (rest := []) hx hb hml hown hts hK hP hD hA hS (kX5_discardOldest l D cI cC cS Ha Ha_states H_size H_b H_e H_v H_re H_va H_no H_ro _ rfl) (cwV 0 hts gX5_save_X5_discardOldest rfl rfl rfl (by decide +kernel) (by subst hR; exact ⟨Nat.le_of_ble_eq_true rfl, Nat.le_of_ble_eq_true rfl⟩)) [0, 1, 2, 3, 4, 5, 6, 7, 8, 9, 10, 11, 12, 13, 14, 15, 16, 17, 18, 19] [20, 21, 22] [3, 4, 5, 6, 7, 8, 9, 10, 11, 12, 13, 14, 15, 16, 17, 18, 19, 20, 21, 22, 0, 1, 2] [(Sa, .inr (4, [.ref Sa_roundEdges, .ref Sa_values, .int S_nodes, .int S_rounds])), (Sa_roundEdges, .inl (cI, 16, .inl S_roundEdges)), (Sa_values, .inl (cI, 8, .inl S_values))] (sh_X5s Ha Ha_states Sa Sa_roundEdges Sa_values cI cC cS (H_size - (1 : Int32)) (rot H_b) (rot H_e) (rot H_v) (rot H_re) (rot H_va) (rot H_no) (rot H_ro) S_roundEdges S_values S_nodes S_rounds) rfl rfl rfl rfl (by decide) rfl rfl rfl rfl rfl rfl hl.1 rfl (Nat.le_of_ble_eq_true rfl) ⟨Nat.zero_le _, Nat.zero_le _⟩ dX5_save_10 (fun H locs hP hD hS => ?_)
    exact J13 (H_size - (1 : Int32)) (rot H_b) (rot H_e) (rot H_v) (rot H_re) (rot H_va) (rot H_no) (rot H_ro) _ _ _ hf hP hD hS (lv_sub hl [0, 1] rfl)
set_option maxRecDepth 100000 in
set_option maxHeartbeats 4000000 in
theorem kX5_restore (l : Launch) (D : va_G) (cI cC cS : ClassId) (Ha Ha_states Sa Sa_roundEdges Sa_values : Nat) (H_size : Int32) (H_b : Nat → Nat) (H_e : Nat → Nat) (H_v : Nat → Nat) (H_re : Nat → Nat → Int32) (H_va : Nat → Nat → Int32) (H_no : Nat → Int32) (H_ro : Nat → Int32) (S_roundEdges : Nat → Int32) (S_values : Nat → Int32) (S_nodes : Int32) (S_rounds : Int32) (o : Int32 × (Nat → Int32) × (Nat → Int32) × Int32 × Int32) (hf : fX5_restore H_size H_b H_e H_v H_re H_va H_no H_ro S_roundEdges S_values S_nodes S_rounds = some o) : CV l D yX5_restore wsX5_restore ({ frames := 1, cells := 0, slots := 0, locals := 22 } : Room) (tysK cI cC cS) [.ref Ha, .ref Sa] (sh_X5s Ha Ha_states Sa Sa_roundEdges Sa_values cI cC cS H_size H_b H_e H_v H_re H_va H_no H_ro S_roundEdges S_values S_nodes S_rounds) (sh_X5s Ha Ha_states Sa Sa_roundEdges Sa_values cI cC cS o.1 H_b H_e H_v H_re H_va H_no H_ro o.2.1 o.2.2.1 o.2.2.2.1 o.2.2.2.2) := by
  refine met_v (cc := cX5_restore) (maxL := 2) (ret := none) (by decide) rfl (Nat.le_of_ble_eq_true rfl) ?_
  intro p e s m args below meth c R Q A F hR hQ hP hK hD hA hS ls hl
  obtain ⟨hx, hb, hr, hts, hml, hlocks, hown⟩ := F
  have hown : s.vm.findClass RX5 = some m.cls := hown
  have hi_X5 : ∀ w ∈ u_ws RX5 TX5 2, w ∈ wsX5_restore := fun w h => List.mem_cons_of_mem _ (List.mem_append_left _ (List.mem_append_right _ h))
  have qst := hts (.fieldLink RX5 11 "ChangingRounds$History" "states" "[LChangingRounds$Schedule;") (by decide +kernel)
  have qsz := hts (.fieldLink RX5 18 "ChangingRounds$History" "size" "I") (by decide +kernel)
  have hl : lv_has ls 2 [(0, .ref Ha), (1, .ref Sa)] := hl
  unfold fX5_restore at hf
  refine lv_aload_n hx hb dX5_restore_0 rfl (lv_at hl 0 rfl) ?_
  refine va_get (D := D) (ci := 3) (v := .int H_size) (C := RX5) (T := TX5) (N := 2) hx hb hts hi_X5 hown hK hP 0 rfl rfl 1 (by decide) qsz (fun _ h9 => h9) rfl dX5_restore_1 ?_
  refine lv_if_le (tgt := 30) hx hb dX5_restore_4 (by decide) (fun c1 => ?_) (fun c1 => ?_)
  · have hf := if_t c1 hf
    have hf := Option.some.inj hf
    subst hf
    exact rt_v hx hb hr hlocks hQ hK hP hD hS dX5_restore_30
  · have hf := if_f c1 hf
    obtain ⟨hz, hf⟩ := ck_some hf
    refine lv_aload_n hx hb dX5_restore_7 rfl (lv_at hl 0 rfl) ?_
    refine lv_dup hx hb dX5_restore_8 rfl ?_
    refine va_get (D := D) (ci := 3) (v := .int H_size) (C := RX5) (T := TX5) (N := 2) hx hb hts hi_X5 hown hK hP 0 rfl rfl 1 (by decide) qsz (fun _ h9 => h9) rfl dX5_restore_9 ?_
    refine lv_iconst (v := (1 : Int32)) hx hb dX5_restore_12 (by decide) ?_
    refine lv_isub hx hb dX5_restore_13 ?_
    refine lv_topi (fun z9 ez9 => ?_)
    rw [← ez9] at hz hf
    refine sx_put (D := D) (ci := 3) (v := .int z9) (ty := .int) (C := RX5) (T := TX5) (N := 2) hx hb hts hi_X5 tyX5 tyX5_ok nmX5 hown hK hP hD hS 0 rfl rfl 1 (by decide) qsz (fun _ h9 => h9) rfl (by decide +kernel) rfl rfl (Nat.le_of_ble_eq_true rfl) dX5_restore_14 (sh_X5s Ha Ha_states Sa Sa_roundEdges Sa_values cI cC cS z9 H_b H_e H_v H_re H_va H_no H_ro S_roundEdges S_values S_nodes S_rounds) rfl (fun H locs hP hD hS => ?_)
    refine lv_aload_n hx hb dX5_restore_17 rfl (lv_at hl 1 rfl) ?_
    refine lv_aload_n hx hb dX5_restore_18 rfl (lv_at hl 0 rfl) ?_
    refine va_get (D := D) (ci := 3) (v := .ref Ha_states) (C := RX5) (T := TX5) (N := 2) hx hb hts hi_X5 hown hK hP 0 rfl rfl 0 (by decide) qst (fun _ h9 => h9) rfl dX5_restore_19 ?_
    refine lv_aload_n hx hb dX5_restore_22 rfl (lv_at hl 0 rfl) ?_
    refine va_get (D := D) (ci := 3) (v := .int z9) (C := RX5) (T := TX5) (N := 2) hx hb hts hi_X5 hown hK hP 0 rfl rfl 1 (by decide) qsz (fun _ h9 => h9) rfl dX5_restore_23 ?_
    clear ez9
    rcases inb6 hz with rfl | rfl | rfl | rfl | rfl | rfl
    · have e0 : (0 : Int32).toNatClampNeg = 0 := by decide
      rw [e0] at hf
      obtain ⟨o1, ho1, hf⟩ := bd_some hf
      refine sx_aald (j := 0) (v := H_b 0) hx hb hK hP 1 2 rfl rfl (inb_vp hz) (by decide) rfl dX5_restore_26 ?_
      refine cv_v (ci := 4) (q := (RX7, TX7, 4)) (As := [.ref (H_b 0)]) (rest := []) hx hb hml hown hts hK hP hD hA hS (kX7_become l D cI cC cS Sa Sa_roundEdges Sa_values (H_b 0) (H_e 0) (H_v 0) S_roundEdges S_values S_nodes S_rounds (H_re 0) (H_va 0) (H_no 0) (H_ro 0) o1 ho1) (cwV 1 hts gX5_restore_X7_become rfl rfl rfl (by decide +kernel) (by subst hR; exact ⟨Nat.le_of_ble_eq_true rfl, Nat.le_of_ble_eq_true rfl⟩)) [20, 21, 22, 2, 3, 4] [0, 1, 5, 6, 7, 8, 9, 10, 11, 12, 13, 14, 15, 16, 17, 18, 19] [0, 1, 20, 21, 22, 2, 3, 4, 5, 6, 7, 8, 9, 10, 11, 12, 13, 14, 15, 16, 17, 18, 19] [(Ha, .inr (3, [.ref Ha_states, .int (0 : Int32)])), (Ha_states, .inl (cS, 6, .inr (.inr (.inr (.inr (fun i => some (H_b i))))))), (H_b 1, .inr (4, [.ref (H_e 1), .ref (H_v 1), .int (H_no 1), .int (H_ro 1)])), (H_e 1, .inl (cI, 16, .inl (H_re 1))), (H_v 1, .inl (cI, 8, .inl (H_va 1))), (H_b 2, .inr (4, [.ref (H_e 2), .ref (H_v 2), .int (H_no 2), .int (H_ro 2)])), (H_e 2, .inl (cI, 16, .inl (H_re 2))), (H_v 2, .inl (cI, 8, .inl (H_va 2))), (H_b 3, .inr (4, [.ref (H_e 3), .ref (H_v 3), .int (H_no 3), .int (H_ro 3)])), (H_e 3, .inl (cI, 16, .inl (H_re 3))), (H_v 3, .inl (cI, 8, .inl (H_va 3))), (H_b 4, .inr (4, [.ref (H_e 4), .ref (H_v 4), .int (H_no 4), .int (H_ro 4)])), (H_e 4, .inl (cI, 16, .inl (H_re 4))), (H_v 4, .inl (cI, 8, .inl (H_va 4))), (H_b 5, .inr (4, [.ref (H_e 5), .ref (H_v 5), .int (H_no 5), .int (H_ro 5)])), (H_e 5, .inl (cI, 16, .inl (H_re 5))), (H_v 5, .inl (cI, 8, .inl (H_va 5)))] (sh_X5s Ha Ha_states Sa Sa_roundEdges Sa_values cI cC cS (0 : Int32) H_b H_e H_v H_re H_va H_no H_ro o1.1 o1.2.1 o1.2.2.1 o1.2.2.2) rfl rfl rfl rfl (by decide) rfl rfl rfl rfl rfl rfl hl.1 rfl (Nat.le_of_ble_eq_true rfl) ⟨Nat.zero_le _, Nat.zero_le _⟩ dX5_restore_27 (fun H locs hP hD hS => ?_)
      have hf := Option.some.inj hf
      subst hf
      exact rt_v hx hb hr hlocks hQ hK hP hD hS dX5_restore_30
    · have e1 : (1 : Int32).toNatClampNeg = 1 := by decide
      rw [e1] at hf
      obtain ⟨o1, ho1, hf⟩ := bd_some hf
      refine sx_aald (j := 1) (v := H_b 1) hx hb hK hP 1 2 rfl rfl (inb_vp hz) (by decide) rfl dX5_restore_26 ?_
      refine cv_v (ci := 4) (q := (RX7, TX7, 4)) (As := [.ref (H_b 1)]) (rest := []) hx hb hml hown hts hK hP hD hA hS (kX7_become l D cI cC cS Sa Sa_roundEdges Sa_values (H_b 1) (H_e 1) (H_v 1) S_roundEdges S_values S_nodes S_rounds (H_re 1) (H_va 1) (H_no 1) (H_ro 1) o1 ho1) (cwV 1 hts gX5_restore_X7_become rfl rfl rfl (by decide +kernel) (by subst hR; exact ⟨Nat.le_of_ble_eq_true rfl, Nat.le_of_ble_eq_true rfl⟩)) [20, 21, 22, 5, 6, 7] [0, 1, 2, 3, 4, 8, 9, 10, 11, 12, 13, 14, 15, 16, 17, 18, 19] [0, 1, 2, 3, 4, 20, 21, 22, 5, 6, 7, 8, 9, 10, 11, 12, 13, 14, 15, 16, 17, 18, 19] [(Ha, .inr (3, [.ref Ha_states, .int (1 : Int32)])), (Ha_states, .inl (cS, 6, .inr (.inr (.inr (.inr (fun i => some (H_b i))))))), (H_b 0, .inr (4, [.ref (H_e 0), .ref (H_v 0), .int (H_no 0), .int (H_ro 0)])), (H_e 0, .inl (cI, 16, .inl (H_re 0))), (H_v 0, .inl (cI, 8, .inl (H_va 0))), (H_b 2, .inr (4, [.ref (H_e 2), .ref (H_v 2), .int (H_no 2), .int (H_ro 2)])), (H_e 2, .inl (cI, 16, .inl (H_re 2))), (H_v 2, .inl (cI, 8, .inl (H_va 2))), (H_b 3, .inr (4, [.ref (H_e 3), .ref (H_v 3), .int (H_no 3), .int (H_ro 3)])), (H_e 3, .inl (cI, 16, .inl (H_re 3))), (H_v 3, .inl (cI, 8, .inl (H_va 3))), (H_b 4, .inr (4, [.ref (H_e 4), .ref (H_v 4), .int (H_no 4), .int (H_ro 4)])), (H_e 4, .inl (cI, 16, .inl (H_re 4))), (H_v 4, .inl (cI, 8, .inl (H_va 4))), (H_b 5, .inr (4, [.ref (H_e 5), .ref (H_v 5), .int (H_no 5), .int (H_ro 5)])), (H_e 5, .inl (cI, 16, .inl (H_re 5))), (H_v 5, .inl (cI, 8, .inl (H_va 5)))] (sh_X5s Ha Ha_states Sa Sa_roundEdges Sa_values cI cC cS (1 : Int32) H_b H_e H_v H_re H_va H_no H_ro o1.1 o1.2.1 o1.2.2.1 o1.2.2.2) rfl rfl rfl rfl (by decide) rfl rfl rfl rfl rfl rfl hl.1 rfl (Nat.le_of_ble_eq_true rfl) ⟨Nat.zero_le _, Nat.zero_le _⟩ dX5_restore_27 (fun H locs hP hD hS => ?_)
      have hf := Option.some.inj hf
      subst hf
      exact rt_v hx hb hr hlocks hQ hK hP hD hS dX5_restore_30
    · have e2 : (2 : Int32).toNatClampNeg = 2 := by decide
      rw [e2] at hf
      obtain ⟨o1, ho1, hf⟩ := bd_some hf
      refine sx_aald (j := 2) (v := H_b 2) hx hb hK hP 1 2 rfl rfl (inb_vp hz) (by decide) rfl dX5_restore_26 ?_
      refine cv_v (ci := 4) (q := (RX7, TX7, 4)) (As := [.ref (H_b 2)]) (rest := []) hx hb hml hown hts hK hP hD hA hS (kX7_become l D cI cC cS Sa Sa_roundEdges Sa_values (H_b 2) (H_e 2) (H_v 2) S_roundEdges S_values S_nodes S_rounds (H_re 2) (H_va 2) (H_no 2) (H_ro 2) o1 ho1) (cwV 1 hts gX5_restore_X7_become rfl rfl rfl (by decide +kernel) (by subst hR; exact ⟨Nat.le_of_ble_eq_true rfl, Nat.le_of_ble_eq_true rfl⟩)) [20, 21, 22, 8, 9, 10] [0, 1, 2, 3, 4, 5, 6, 7, 11, 12, 13, 14, 15, 16, 17, 18, 19] [0, 1, 2, 3, 4, 5, 6, 7, 20, 21, 22, 8, 9, 10, 11, 12, 13, 14, 15, 16, 17, 18, 19] [(Ha, .inr (3, [.ref Ha_states, .int (2 : Int32)])), (Ha_states, .inl (cS, 6, .inr (.inr (.inr (.inr (fun i => some (H_b i))))))), (H_b 0, .inr (4, [.ref (H_e 0), .ref (H_v 0), .int (H_no 0), .int (H_ro 0)])), (H_e 0, .inl (cI, 16, .inl (H_re 0))), (H_v 0, .inl (cI, 8, .inl (H_va 0))), (H_b 1, .inr (4, [.ref (H_e 1), .ref (H_v 1), .int (H_no 1), .int (H_ro 1)])), (H_e 1, .inl (cI, 16, .inl (H_re 1))), (H_v 1, .inl (cI, 8, .inl (H_va 1))), (H_b 3, .inr (4, [.ref (H_e 3), .ref (H_v 3), .int (H_no 3), .int (H_ro 3)])), (H_e 3, .inl (cI, 16, .inl (H_re 3))), (H_v 3, .inl (cI, 8, .inl (H_va 3))), (H_b 4, .inr (4, [.ref (H_e 4), .ref (H_v 4), .int (H_no 4), .int (H_ro 4)])), (H_e 4, .inl (cI, 16, .inl (H_re 4))), (H_v 4, .inl (cI, 8, .inl (H_va 4))), (H_b 5, .inr (4, [.ref (H_e 5), .ref (H_v 5), .int (H_no 5), .int (H_ro 5)])), (H_e 5, .inl (cI, 16, .inl (H_re 5))), (H_v 5, .inl (cI, 8, .inl (H_va 5)))] (sh_X5s Ha Ha_states Sa Sa_roundEdges Sa_values cI cC cS (2 : Int32) H_b H_e H_v H_re H_va H_no H_ro o1.1 o1.2.1 o1.2.2.1 o1.2.2.2) rfl rfl rfl rfl (by decide) rfl rfl rfl rfl rfl rfl hl.1 rfl (Nat.le_of_ble_eq_true rfl) ⟨Nat.zero_le _, Nat.zero_le _⟩ dX5_restore_27 (fun H locs hP hD hS => ?_)
      have hf := Option.some.inj hf
      subst hf
      exact rt_v hx hb hr hlocks hQ hK hP hD hS dX5_restore_30
    · have e3 : (3 : Int32).toNatClampNeg = 3 := by decide
      rw [e3] at hf
      obtain ⟨o1, ho1, hf⟩ := bd_some hf
      refine sx_aald (j := 3) (v := H_b 3) hx hb hK hP 1 2 rfl rfl (inb_vp hz) (by decide) rfl dX5_restore_26 ?_
      refine cv_v (ci := 4) (q := (RX7, TX7, 4)) (As := [.ref (H_b 3)]) (rest := []) hx hb hml hown hts hK hP hD hA hS (kX7_become l D cI cC cS Sa Sa_roundEdges Sa_values (H_b 3) (H_e 3) (H_v 3) S_roundEdges S_values S_nodes S_rounds (H_re 3) (H_va 3) (H_no 3) (H_ro 3) o1 ho1) (cwV 1 hts gX5_restore_X7_become rfl rfl rfl (by decide +kernel) (by subst hR; exact ⟨Nat.le_of_ble_eq_true rfl, Nat.le_of_ble_eq_true rfl⟩)) [20, 21, 22, 11, 12, 13] [0, 1, 2, 3, 4, 5, 6, 7, 8, 9, 10, 14, 15, 16, 17, 18, 19] [0, 1, 2, 3, 4, 5, 6, 7, 8, 9, 10, 20, 21, 22, 11, 12, 13, 14, 15, 16, 17, 18, 19] [(Ha, .inr (3, [.ref Ha_states, .int (3 : Int32)])), (Ha_states, .inl (cS, 6, .inr (.inr (.inr (.inr (fun i => some (H_b i))))))), (H_b 0, .inr (4, [.ref (H_e 0), .ref (H_v 0), .int (H_no 0), .int (H_ro 0)])), (H_e 0, .inl (cI, 16, .inl (H_re 0))), (H_v 0, .inl (cI, 8, .inl (H_va 0))), (H_b 1, .inr (4, [.ref (H_e 1), .ref (H_v 1), .int (H_no 1), .int (H_ro 1)])), (H_e 1, .inl (cI, 16, .inl (H_re 1))), (H_v 1, .inl (cI, 8, .inl (H_va 1))), (H_b 2, .inr (4, [.ref (H_e 2), .ref (H_v 2), .int (H_no 2), .int (H_ro 2)])), (H_e 2, .inl (cI, 16, .inl (H_re 2))), (H_v 2, .inl (cI, 8, .inl (H_va 2))), (H_b 4, .inr (4, [.ref (H_e 4), .ref (H_v 4), .int (H_no 4), .int (H_ro 4)])), (H_e 4, .inl (cI, 16, .inl (H_re 4))), (H_v 4, .inl (cI, 8, .inl (H_va 4))), (H_b 5, .inr (4, [.ref (H_e 5), .ref (H_v 5), .int (H_no 5), .int (H_ro 5)])), (H_e 5, .inl (cI, 16, .inl (H_re 5))), (H_v 5, .inl (cI, 8, .inl (H_va 5)))] (sh_X5s Ha Ha_states Sa Sa_roundEdges Sa_values cI cC cS (3 : Int32) H_b H_e H_v H_re H_va H_no H_ro o1.1 o1.2.1 o1.2.2.1 o1.2.2.2) rfl rfl rfl rfl (by decide) rfl rfl rfl rfl rfl rfl hl.1 rfl (Nat.le_of_ble_eq_true rfl) ⟨Nat.zero_le _, Nat.zero_le _⟩ dX5_restore_27 (fun H locs hP hD hS => ?_)
      have hf := Option.some.inj hf
      subst hf
      exact rt_v hx hb hr hlocks hQ hK hP hD hS dX5_restore_30
    · have e4 : (4 : Int32).toNatClampNeg = 4 := by decide
      rw [e4] at hf
      obtain ⟨o1, ho1, hf⟩ := bd_some hf
      refine sx_aald (j := 4) (v := H_b 4) hx hb hK hP 1 2 rfl rfl (inb_vp hz) (by decide) rfl dX5_restore_26 ?_
      refine cv_v (ci := 4) (q := (RX7, TX7, 4)) (As := [.ref (H_b 4)]) (rest := []) hx hb hml hown hts hK hP hD hA hS (kX7_become l D cI cC cS Sa Sa_roundEdges Sa_values (H_b 4) (H_e 4) (H_v 4) S_roundEdges S_values S_nodes S_rounds (H_re 4) (H_va 4) (H_no 4) (H_ro 4) o1 ho1) (cwV 1 hts gX5_restore_X7_become rfl rfl rfl (by decide +kernel) (by subst hR; exact ⟨Nat.le_of_ble_eq_true rfl, Nat.le_of_ble_eq_true rfl⟩)) [20, 21, 22, 14, 15, 16] [0, 1, 2, 3, 4, 5, 6, 7, 8, 9, 10, 11, 12, 13, 17, 18, 19] [0, 1, 2, 3, 4, 5, 6, 7, 8, 9, 10, 11, 12, 13, 20, 21, 22, 14, 15, 16, 17, 18, 19] [(Ha, .inr (3, [.ref Ha_states, .int (4 : Int32)])), (Ha_states, .inl (cS, 6, .inr (.inr (.inr (.inr (fun i => some (H_b i))))))), (H_b 0, .inr (4, [.ref (H_e 0), .ref (H_v 0), .int (H_no 0), .int (H_ro 0)])), (H_e 0, .inl (cI, 16, .inl (H_re 0))), (H_v 0, .inl (cI, 8, .inl (H_va 0))), (H_b 1, .inr (4, [.ref (H_e 1), .ref (H_v 1), .int (H_no 1), .int (H_ro 1)])), (H_e 1, .inl (cI, 16, .inl (H_re 1))), (H_v 1, .inl (cI, 8, .inl (H_va 1))), (H_b 2, .inr (4, [.ref (H_e 2), .ref (H_v 2), .int (H_no 2), .int (H_ro 2)])), (H_e 2, .inl (cI, 16, .inl (H_re 2))), (H_v 2, .inl (cI, 8, .inl (H_va 2))), (H_b 3, .inr (4, [.ref (H_e 3), .ref (H_v 3), .int (H_no 3), .int (H_ro 3)])), (H_e 3, .inl (cI, 16, .inl (H_re 3))), (H_v 3, .inl (cI, 8, .inl (H_va 3))), (H_b 5, .inr (4, [.ref (H_e 5), .ref (H_v 5), .int (H_no 5), .int (H_ro 5)])), (H_e 5, .inl (cI, 16, .inl (H_re 5))), (H_v 5, .inl (cI, 8, .inl (H_va 5)))] (sh_X5s Ha Ha_states Sa Sa_roundEdges Sa_values cI cC cS (4 : Int32) H_b H_e H_v H_re H_va H_no H_ro o1.1 o1.2.1 o1.2.2.1 o1.2.2.2) rfl rfl rfl rfl (by decide) rfl rfl rfl rfl rfl rfl hl.1 rfl (Nat.le_of_ble_eq_true rfl) ⟨Nat.zero_le _, Nat.zero_le _⟩ dX5_restore_27 (fun H locs hP hD hS => ?_)
      have hf := Option.some.inj hf
      subst hf
      exact rt_v hx hb hr hlocks hQ hK hP hD hS dX5_restore_30
    · have e5 : (5 : Int32).toNatClampNeg = 5 := by decide
      rw [e5] at hf
      obtain ⟨o1, ho1, hf⟩ := bd_some hf
      refine sx_aald (j := 5) (v := H_b 5) hx hb hK hP 1 2 rfl rfl (inb_vp hz) (by decide) rfl dX5_restore_26 ?_
      refine cv_v (ci := 4) (q := (RX7, TX7, 4)) (As := [.ref (H_b 5)]) (rest := []) hx hb hml hown hts hK hP hD hA hS (kX7_become l D cI cC cS Sa Sa_roundEdges Sa_values (H_b 5) (H_e 5) (H_v 5) S_roundEdges S_values S_nodes S_rounds (H_re 5) (H_va 5) (H_no 5) (H_ro 5) o1 ho1) (cwV 1 hts gX5_restore_X7_become rfl rfl rfl (by decide +kernel) (by subst hR; exact ⟨Nat.le_of_ble_eq_true rfl, Nat.le_of_ble_eq_true rfl⟩)) [20, 21, 22, 17, 18, 19] [0, 1, 2, 3, 4, 5, 6, 7, 8, 9, 10, 11, 12, 13, 14, 15, 16] [0, 1, 2, 3, 4, 5, 6, 7, 8, 9, 10, 11, 12, 13, 14, 15, 16, 20, 21, 22, 17, 18, 19] [(Ha, .inr (3, [.ref Ha_states, .int (5 : Int32)])), (Ha_states, .inl (cS, 6, .inr (.inr (.inr (.inr (fun i => some (H_b i))))))), (H_b 0, .inr (4, [.ref (H_e 0), .ref (H_v 0), .int (H_no 0), .int (H_ro 0)])), (H_e 0, .inl (cI, 16, .inl (H_re 0))), (H_v 0, .inl (cI, 8, .inl (H_va 0))), (H_b 1, .inr (4, [.ref (H_e 1), .ref (H_v 1), .int (H_no 1), .int (H_ro 1)])), (H_e 1, .inl (cI, 16, .inl (H_re 1))), (H_v 1, .inl (cI, 8, .inl (H_va 1))), (H_b 2, .inr (4, [.ref (H_e 2), .ref (H_v 2), .int (H_no 2), .int (H_ro 2)])), (H_e 2, .inl (cI, 16, .inl (H_re 2))), (H_v 2, .inl (cI, 8, .inl (H_va 2))), (H_b 3, .inr (4, [.ref (H_e 3), .ref (H_v 3), .int (H_no 3), .int (H_ro 3)])), (H_e 3, .inl (cI, 16, .inl (H_re 3))), (H_v 3, .inl (cI, 8, .inl (H_va 3))), (H_b 4, .inr (4, [.ref (H_e 4), .ref (H_v 4), .int (H_no 4), .int (H_ro 4)])), (H_e 4, .inl (cI, 16, .inl (H_re 4))), (H_v 4, .inl (cI, 8, .inl (H_va 4)))] (sh_X5s Ha Ha_states Sa Sa_roundEdges Sa_values cI cC cS (5 : Int32) H_b H_e H_v H_re H_va H_no H_ro o1.1 o1.2.1 o1.2.2.1 o1.2.2.2) rfl rfl rfl rfl (by decide) rfl rfl rfl rfl rfl rfl hl.1 rfl (Nat.le_of_ble_eq_true rfl) ⟨Nat.zero_le _, Nat.zero_le _⟩ dX5_restore_27 (fun H locs hP hD hS => ?_)
      have hf := Option.some.inj hf
      subst hf
      exact rt_v hx hb hr hlocks hQ hK hP hD hS dX5_restore_30
