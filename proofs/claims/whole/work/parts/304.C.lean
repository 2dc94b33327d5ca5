set_option maxRecDepth 100000 in
set_option maxHeartbeats 4000000 in
theorem kX7_replace (l : Launch) (D : va_G) (cI cC cS : ClassId) (Sa Sa_roundEdges Sa_values : Nat) (x1 : Int32) (x2 : Int32) (S_roundEdges : Nat → Int32) (S_values : Nat → Int32) (S_nodes : Int32) (S_rounds : Int32) (o : (Nat → Int32)) (hf : fX7_replace x1 x2 S_roundEdges S_rounds = some o) : CV l D yX7_replace wsX7_replace ({ frames := 1, cells := 0, slots := 0, locals := 21 } : Room) (tysK cI cC cS) [.ref Sa, .int x1, .int x2] (sh_X7 Sa Sa_roundEdges Sa_values cI cC cS S_roundEdges S_values S_nodes S_rounds) (sh_X7 Sa Sa_roundEdges Sa_values cI cC cS o S_values S_nodes S_rounds) := by
  refine met_v (cc := cX7_replace) (maxL := 3) (ret := none) (by decide) rfl (Nat.le_of_ble_eq_true rfl) ?_
  intro p e s m args below meth c R Q A F hR hQ hP hK hD hA hS ls hl
  obtain ⟨hx, hb, hr, hts, hml, hlocks, hown⟩ := F
  have hown : s.vm.findClass RX7 = some m.cls := hown
  have hi_X7 : ∀ w ∈ u_ws RX7 TX7 4, w ∈ wsX7_replace := fun w h => List.mem_cons_of_mem _ (List.mem_append_right _ h)
  have q9 := hts (.fieldLink RX7 9 "ChangingRounds$Schedule" "roundEdges" "[I") (by decide +kernel)
  have hl : lv_has ls 3 [(0, .ref Sa), (1, .int x1), (2, .int x2)] := hl
  unfold fX7_replace at hf
  refine lv_aload_n hx hb dX7_replace_0 rfl (lv_at hl 0 rfl) ?_
  refine lv_iload_n hx hb dX7_replace_1 rfl (lv_at hl 1 rfl) ?_
  refine cv_i (ci := 4) (q := (RX7, TX7, 4)) (As := [.int x1]) (rest := []) hx hb hml hown hts hK hP hD hA hS (kX7_hasRound l D cI cC cS Sa Sa_roundEdges Sa_values x1 S_roundEdges S_values S_nodes S_rounds (fX7_hasRound x1 S_rounds) rfl) (cwV 1 hts gX7_replace_X7_hasRound rfl rfl rfl (by decide +kernel) (by subst hR; exact ⟨Nat.le_of_ble_eq_true rfl, Nat.le_of_ble_eq_true rfl⟩)) [0, 1, 2] [] [0, 1, 2] [] (sh_X7 Sa Sa_roundEdges Sa_values cI cC cS S_roundEdges S_values S_nodes S_rounds) rfl rfl rfl rfl (by decide) rfl rfl rfl rfl rfl rfl hl.1 rfl (Nat.le_of_ble_eq_true rfl) ⟨Nat.zero_le _, Nat.zero_le _⟩ dX7_replace_2 (fun H locs hP hD hS => ?_)
  refine lv_if_eq (tgt := 15) hx hb dX7_replace_5 (by decide) (fun c1 => ?_) (fun c1 => ?_)
  · have hf := if_t c1 hf
    have hf := Option.some.inj hf
    subst hf
    exact rt_v hx hb hr hlocks hQ hK hP hD hS dX7_replace_15
  · have hf := if_f c1 hf
    refine lv_aload_n hx hb dX7_replace_8 rfl (lv_at hl 0 rfl) ?_
    refine va_get (D := D) (ci := 4) (v := .ref Sa_roundEdges) (C := RX7) (T := TX7) (N := 4) hx hb hts hi_X7 hown hK hP 0 rfl rfl 0 (by decide) q9 (fun _ h9 => h9) rfl dX7_replace_9 ?_
    refine lv_iload_n hx hb dX7_replace_12 rfl (lv_at hl 1 rfl) ?_
    refine lv_iload_n hx hb dX7_replace_13 rfl (lv_at hl 2 rfl) ?_
    obtain ⟨hz, hf⟩ := ck_some hf
    refine sx_iast (j := x1.toNatClampNeg) hx hb hK hP hD hS 1 0 rfl rfl (inb_vp hz) rfl dX7_replace_14 (sh_X7 Sa Sa_roundEdges Sa_values cI cC cS (upd S_roundEdges x1.toNatClampNeg x2) S_values S_nodes S_rounds) rfl (fun H locs hP hD hS => ?_)
    have hf := Option.some.inj hf
    subst hf
    exact rt_v hx hb hr hlocks hQ hK hP hD hS dX7_replace_15
set_option maxRecDepth 100000 in
set_option maxHeartbeats 4000000 in
theorem kX7_removeAt (l : Launch) (D : va_G) (cI cC cS : ClassId) (Sa Sa_roundEdges Sa_values : Nat) (x1 : Int32) (S_roundEdges : Nat → Int32) (S_values : Nat → Int32) (S_nodes : Int32) (S_rounds : Int32) (o : (Nat → Int32) × Int32) (hf : fX7_removeAt x1 S_roundEdges S_rounds = some o) : CV l D yX7_removeAt wsX7_removeAt ({ frames := 1, cells := 0, slots := 0, locals := 21 } : Room) (tysK cI cC cS) [.ref Sa, .int x1] (sh_X7 Sa Sa_roundEdges Sa_values cI cC cS S_roundEdges S_values S_nodes S_rounds) (sh_X7 Sa Sa_roundEdges Sa_values cI cC cS o.1 S_values S_nodes o.2) := by
  refine met_v (cc := cX7_removeAt) (maxL := 3) (ret := none) (by decide) rfl (Nat.le_of_ble_eq_true rfl) ?_
  intro p e s m args below meth c R Q A F hR hQ hP hK hD hA hS ls hl
  obtain ⟨hx, hb, hr, hts, hml, hlocks, hown⟩ := F
  have hown : s.vm.findClass RX7 = some m.cls := hown
  have hi_X7 : ∀ w ∈ u_ws RX7 TX7 4, w ∈ wsX7_removeAt := fun w h => List.mem_cons_of_mem _ (List.mem_append_right _ h)
  have q26 := hts (.fieldLink RX7 26 "ChangingRounds$Schedule" "rounds" "I") (by decide +kernel)
  have q9 := hts (.fieldLink RX7 9 "ChangingRounds$Schedule" "roundEdges" "[I") (by decide +kernel)
  have hl : lv_has ls 3 [(0, .ref Sa), (1, .int x1)] := hl
  unfold fX7_removeAt at hf
  have L12 : ∀ (S_rounds : Int32) (n12 : Nat) (x2 : Int32) (S_roundEdges : Nat → Int32) (H : Heap) (locs : List Loc) (ls : Array Slot), fX7_removeAt_l12 S_rounds n12 x2 S_roundEdges = some o → va_P D vwCl (sh_X7 Sa Sa_roundEdges Sa_values cI cC cS S_roundEdges S_values S_nodes S_rounds) H → va_D A (sh_X7 Sa Sa_roundEdges Sa_values cI cC cS S_roundEdges S_values S_nodes S_rounds) → va_S A s.heap H locs → lv_has ls 3 [(0, .ref Sa), (2, .int x2)] → W p l e R s m args below meth c H locs 0 0 Q (F0 m 12 ls []) := by
    intro S_rounds n12
    induction n12 with
    | zero => intro x2 S_roundEdges H locs ls hf; cases (show (none : Option _) = some _ from hf)
    | succ n12 ih12 =>
      intro x2 S_roundEdges H locs ls hf hP hD hS hl
      rw [fX7_removeAt_l12] at hf
      refine lv_iload_n hx hb dX7_removeAt_12 rfl (lv_at hl 1 rfl) ?_
      refine lv_aload_n hx hb dX7_removeAt_13 rfl (lv_at hl 0 rfl) ?_
      refine va_get (D := D) (ci := 4) (v := .int S_rounds) (C := RX7) (T := TX7) (N := 4) hx hb hts hi_X7 hown hK hP 0 rfl rfl 3 (by decide) q26 (fun _ h9 => h9) rfl dX7_removeAt_14 ?_
      refine lv_icmp_ge (tgt := 40) hx hb dX7_removeAt_17 (by decide) (fun c1 => ?_) (fun c1 => ?_)
      · have hf := if_t c1 hf
        refine lv_aload_n hx hb dX7_removeAt_40 rfl (lv_at hl 0 rfl) ?_
        refine lv_dup hx hb dX7_removeAt_41 rfl ?_
        refine va_get (D := D) (ci := 4) (v := .int S_rounds) (C := RX7) (T := TX7) (N := 4) hx hb hts hi_X7 hown hK hP 0 rfl rfl 3 (by decide) q26 (fun _ h9 => h9) rfl dX7_removeAt_42 ?_
        refine lv_iconst (v := (1 : Int32)) hx hb dX7_removeAt_45 (by decide) ?_
        refine lv_isub hx hb dX7_removeAt_46 ?_
        refine sx_put (D := D) (ci := 4) (v := .int (S_rounds - (1 : Int32))) (ty := .int) (C := RX7) (T := TX7) (N := 4) hx hb hts hi_X7 tyX7 tyX7_ok nmX7 hown hK hP hD hS 0 rfl rfl 3 (by decide) q26 (fun _ h9 => h9) rfl (by decide +kernel) rfl rfl (Nat.le_of_ble_eq_true rfl) dX7_removeAt_47 (sh_X7 Sa Sa_roundEdges Sa_values cI cC cS S_roundEdges S_values S_nodes (S_rounds - (1 : Int32))) rfl (fun H locs hP hD hS => ?_)
        have hf := Option.some.inj hf
        subst hf
        exact rt_v hx hb hr hlocks hQ hK hP hD hS dX7_removeAt_50
      · have hf := if_f c1 hf
        refine lv_aload_n hx hb dX7_removeAt_20 rfl (lv_at hl 0 rfl) ?_
        refine va_get (D := D) (ci := 4) (v := .ref Sa_roundEdges) (C := RX7) (T := TX7) (N := 4) hx hb hts hi_X7 hown hK hP 0 rfl rfl 0 (by decide) q9 (fun _ h9 => h9) rfl dX7_removeAt_21 ?_
        refine lv_iload_n hx hb dX7_removeAt_24 rfl (lv_at hl 1 rfl) ?_
        refine lv_iconst (v := (1 : Int32)) hx hb dX7_removeAt_25 (by decide) ?_
        refine lv_isub hx hb dX7_removeAt_26 ?_
        refine lv_aload_n hx hb dX7_removeAt_27 rfl (lv_at hl 0 rfl) ?_
        refine va_get (D := D) (ci := 4) (v := .ref Sa_roundEdges) (C := RX7) (T := TX7) (N := 4) hx hb hts hi_X7 hown hK hP 0 rfl rfl 0 (by decide) q9 (fun _ h9 => h9) rfl dX7_removeAt_28 ?_
        refine lv_iload_n hx hb dX7_removeAt_31 rfl (lv_at hl 1 rfl) ?_
        obtain ⟨hz, hf⟩ := ck_some hf
        refine sx_iald (j := x2.toNatClampNeg) hx hb hK hP 1 0 rfl rfl (inb_vp hz) rfl dX7_removeAt_32 ?_
        obtain ⟨hz, hf⟩ := ck_some hf
        refine sx_iast (j := (x2 - (1 : Int32)).toNatClampNeg) hx hb hK hP hD hS 1 0 rfl rfl (inb_vp hz) rfl dX7_removeAt_33 (sh_X7 Sa Sa_roundEdges Sa_values cI cC cS (upd S_roundEdges ((x2 - (1 : Int32)).toNatClampNeg) (S_roundEdges x2.toNatClampNeg)) S_values S_nodes S_rounds) rfl (fun H locs hP hD hS => ?_)
        refine lv_iinc (v := (x2 + 1)) (lv' := [(2, .int (x2 + 1)), (0, .ref Sa)]) hx hb dX7_removeAt_34 hl (k := 1) rfl rfl (by decide) rfl (fun ls hl => ?_)
        refine lv_goto (tgt := 12) hx hb dX7_removeAt_37 (by decide) ?_
        exact ih12 (x2 + 1) (upd S_roundEdges ((x2 - (1 : Int32)).toNatClampNeg) (S_roundEdges x2.toNatClampNeg)) _ _ _ hf hP hD hS (lv_sub hl [1, 0] rfl)
  refine lv_aload_n hx hb dX7_removeAt_0 rfl (lv_at hl 0 rfl) ?_
  refine lv_iload_n hx hb dX7_removeAt_1 rfl (lv_at hl 1 rfl) ?_
  refine cv_i (ci := 4) (q := (RX7, TX7, 4)) (As := [.int x1]) (rest := []) hx hb hml hown hts hK hP hD hA hS (kX7_hasRound l D cI cC cS Sa Sa_roundEdges Sa_values x1 S_roundEdges S_values S_nodes S_rounds (fX7_hasRound x1 S_rounds) rfl) (cwV 1 hts gX7_removeAt_X7_hasRound rfl rfl rfl (by decide +kernel) (by subst hR; exact ⟨Nat.le_of_ble_eq_true rfl, Nat.le_of_ble_eq_true rfl⟩)) [0, 1, 2] [] [0, 1, 2] [] (sh_X7 Sa Sa_roundEdges Sa_values cI cC cS S_roundEdges S_values S_nodes S_rounds) rfl rfl rfl rfl (by decide) rfl rfl rfl rfl rfl rfl hl.1 rfl (Nat.le_of_ble_eq_true rfl) ⟨Nat.zero_le _, Nat.zero_le _⟩ dX7_removeAt_2 (fun H locs hP hD hS => ?_)
  refine lv_if_eq (tgt := 50) hx hb dX7_removeAt_5 (by decide) (fun c2 => ?_) (fun c2 => ?_)
  · have hf := if_t c2 hf
    have hf := Option.some.inj hf
    subst hf
    exact rt_v hx hb hr hlocks hQ hK hP hD hS dX7_removeAt_50
  · have hf := if_f c2 hf
    refine lv_iload_n hx hb dX7_removeAt_8 rfl (lv_at hl 1 rfl) ?_
    refine lv_iconst (v := (1 : Int32)) hx hb dX7_removeAt_9 (by decide) ?_
    refine lv_iadd hx hb dX7_removeAt_10 ?_
    refine lv_istore_n (lv' := [(2, .int (x1 + (1 : Int32))), (0, .ref Sa), (1, .int x1)]) hx hb dX7_removeAt_11 rfl hl (by decide) rfl (fun ls hl => ?_)
    exact L12 S_rounds fuel (x1 + (1 : Int32)) S_roundEdges _ _ _ hf hP hD hS (lv_sub hl [1, 0] rfl)
set_option maxRecDepth 100000 in
set_option maxHeartbeats 4000000 in
theorem kX7_edgesOf (l : Launch) (D : va_G) (cI cC cS : ClassId) (Sa Sa_roundEdges Sa_values : Nat) (x1 : Int32) (S_roundEdges : Nat → Int32) (S_values : Nat → Int32) (S_nodes : Int32) (S_rounds : Int32) (o : Int32) (hf : fX7_edgesOf x1 S_roundEdges S_rounds = some o) : CI l D yX7_edgesOf wsX7_edgesOf ({ frames := 1, cells := 0, slots := 0, locals := 21 } : Room) (tysK cI cC cS) [.ref Sa, .int x1] (sh_X7 Sa Sa_roundEdges Sa_values cI cC cS S_roundEdges S_values S_nodes S_rounds) o (sh_X7 Sa Sa_roundEdges Sa_values cI cC cS S_roundEdges S_values S_nodes S_rounds) := by
  refine met_i (cc := cX7_edgesOf) (maxL := 2) (ret := (some .int)) (by decide) rfl (Nat.le_of_ble_eq_true rfl) ?_
  intro p e s m args below meth c R Q A F hR hQ hP hK hD hA hS ls hl
  obtain ⟨hx, hb, hr, hts, hml, hlocks, hown⟩ := F
  have hown : s.vm.findClass RX7 = some m.cls := hown
  have hi_X7 : ∀ w ∈ u_ws RX7 TX7 4, w ∈ wsX7_edgesOf := fun w h => List.mem_cons_of_mem _ (List.mem_append_right _ h)
  have q9 := hts (.fieldLink RX7 9 "ChangingRounds$Schedule" "roundEdges" "[I") (by decide +kernel)
  have hl : lv_has ls 2 [(0, .ref Sa), (1, .int x1)] := hl
  unfold fX7_edgesOf at hf
  refine lv_aload_n hx hb dX7_edgesOf_0 rfl (lv_at hl 0 rfl) ?_
  refine lv_iload_n hx hb dX7_edgesOf_1 rfl (lv_at hl 1 rfl) ?_
  refine cv_i (ci := 4) (q := (RX7, TX7, 4)) (As := [.int x1]) (rest := []) hx hb hml hown hts hK hP hD hA hS (kX7_hasRound l D cI cC cS Sa Sa_roundEdges Sa_values x1 S_roundEdges S_values S_nodes S_rounds (fX7_hasRound x1 S_rounds) rfl) (cwV 1 hts gX7_edgesOf_X7_hasRound rfl rfl rfl (by decide +kernel) (by subst hR; exact ⟨Nat.le_of_ble_eq_true rfl, Nat.le_of_ble_eq_true rfl⟩)) [0, 1, 2] [] [0, 1, 2] [] (sh_X7 Sa Sa_roundEdges Sa_values cI cC cS S_roundEdges S_values S_nodes S_rounds) rfl rfl rfl rfl (by decide) rfl rfl rfl rfl rfl rfl hl.1 rfl (Nat.le_of_ble_eq_true rfl) ⟨Nat.zero_le _, Nat.zero_le _⟩ dX7_edgesOf_2 (fun H locs hP hD hS => ?_)
  refine lv_if_eq (tgt := 17) hx hb dX7_edgesOf_5 (by decide) (fun c1 => ?_) (fun c1 => ?_)
  · have hf := if_t c1 hf
    refine lv_iconst (v := (0 : Int32)) hx hb dX7_edgesOf_17 (by decide) ?_
    have hf := Option.some.inj hf
    subst hf
    exact rt_i hx hb hr hlocks hQ hK hP hD hS rfl dX7_edgesOf_18
  · have hf := if_f c1 hf
    refine lv_aload_n hx hb dX7_edgesOf_8 rfl (lv_at hl 0 rfl) ?_
    refine va_get (D := D) (ci := 4) (v := .ref Sa_roundEdges) (C := RX7) (T := TX7) (N := 4) hx hb hts hi_X7 hown hK hP 0 rfl rfl 0 (by decide) q9 (fun _ h9 => h9) rfl dX7_edgesOf_9 ?_
    refine lv_iload_n hx hb dX7_edgesOf_12 rfl (lv_at hl 1 rfl) ?_
    obtain ⟨hz, hf⟩ := ck_some hf
    refine sx_iald (j := x1.toNatClampNeg) hx hb hK hP 1 0 rfl rfl (inb_vp hz) rfl dX7_edgesOf_13 ?_
    refine lv_goto (tgt := 18) hx hb dX7_edgesOf_14 (by decide) ?_
    have hf := Option.some.inj hf
    subst hf
    exact rt_i hx hb hr hlocks hQ hK hP hD hS rfl dX7_edgesOf_18
set_option maxRecDepth 100000 in
set_option maxHeartbeats 4000000 in
theorem kX7_edgesAtStep (l : Launch) (D : va_G) (cI cC cS : ClassId) (Sa Sa_roundEdges Sa_values : Nat) (x1 : Int32) (S_roundEdges : Nat → Int32) (S_values : Nat → Int32) (S_nodes : Int32) (S_rounds : Int32) (o : Int32) (hf : fX7_edgesAtStep x1 S_roundEdges S_rounds = some o) : CI l D yX7_edgesAtStep wsX7_edgesAtStep ({ frames := 0, cells := 0, slots := 0, locals := 0 } : Room) (tysK cI cC cS) [.ref Sa, .int x1] (sh_X7 Sa Sa_roundEdges Sa_values cI cC cS S_roundEdges S_values S_nodes S_rounds) o (sh_X7 Sa Sa_roundEdges Sa_values cI cC cS S_roundEdges S_values S_nodes S_rounds) := by
  refine met_i (cc := cX7_edgesAtStep) (maxL := 2) (ret := (some .int)) (by decide) rfl (Nat.le_of_ble_eq_true rfl) ?_
  intro p e s m args below meth c R Q A F hR hQ hP hK hD hA hS ls hl
  obtain ⟨hx, hb, hr, hts, hml, hlocks, hown⟩ := F
  have hown : s.vm.findClass RX7 = some m.cls := hown
  have hi_X7 : ∀ w ∈ u_ws RX7 TX7 4, w ∈ wsX7_edgesAtStep := fun w h => List.mem_cons_of_mem _ (List.mem_append_right _ h)
  have q26 := hts (.fieldLink RX7 26 "ChangingRounds$Schedule" "rounds" "I") (by decide +kernel)
  have q9 := hts (.fieldLink RX7 9 "ChangingRounds$Schedule" "roundEdges" "[I") (by decide +kernel)
  have hl : lv_has ls 2 [(0, .ref Sa), (1, .int x1)] := hl
  unfold fX7_edgesAtStep at hf
  refine lv_aload_n hx hb dX7_edgesAtStep_0 rfl (lv_at hl 0 rfl) ?_
  refine va_get (D := D) (ci := 4) (v := .int S_rounds) (C := RX7) (T := TX7) (N := 4) hx hb hts hi_X7 hown hK hP 0 rfl rfl 3 (by decide) q26 (fun _ h9 => h9) rfl dX7_edgesAtStep_1 ?_
  refine lv_if_le (tgt := 25) hx hb dX7_edgesAtStep_4 (by decide) (fun c1 => ?_) (fun c1 => ?_)
  · have hf := if_t c1 hf
    refine lv_iconst (v := (0 : Int32)) hx hb dX7_edgesAtStep_25 (by decide) ?_
    have hf := Option.some.inj hf
    subst hf
    exact rt_i hx hb hr hlocks hQ hK hP hD hS rfl dX7_edgesAtStep_26
  · have hf := if_f c1 hf
    refine lv_iload_n hx hb dX7_edgesAtStep_7 rfl (lv_at hl 1 rfl) ?_
    refine lv_if_lt (tgt := 25) hx hb dX7_edgesAtStep_8 (by decide) (fun c2 => ?_) (fun c2 => ?_)
    · have hf := if_t c2 hf
      refine lv_iconst (v := (0 : Int32)) hx hb dX7_edgesAtStep_25 (by decide) ?_
      have hf := Option.some.inj hf
      subst hf
      exact rt_i hx hb hr hlocks hQ hK hP hD hS rfl dX7_edgesAtStep_26
    · have hf := if_f c2 hf
      refine lv_aload_n hx hb dX7_edgesAtStep_11 rfl (lv_at hl 0 rfl) ?_
      refine va_get (D := D) (ci := 4) (v := .ref Sa_roundEdges) (C := RX7) (T := TX7) (N := 4) hx hb hts hi_X7 hown hK hP 0 rfl rfl 0 (by decide) q9 (fun _ h9 => h9) rfl dX7_edgesAtStep_12 ?_
      refine lv_iload_n hx hb dX7_edgesAtStep_15 rfl (lv_at hl 1 rfl) ?_
      refine lv_aload_n hx hb dX7_edgesAtStep_16 rfl (lv_at hl 0 rfl) ?_
      refine va_get (D := D) (ci := 4) (v := .int S_rounds) (C := RX7) (T := TX7) (N := 4) hx hb hts hi_X7 hown hK hP 0 rfl rfl 3 (by decide) q26 (fun _ h9 => h9) rfl dX7_edgesAtStep_17 ?_
      obtain ⟨hz, hf⟩ := ck_some hf
      refine lv_irem hx hb dX7_edgesAtStep_20 (nz_ne hz) ?_
      obtain ⟨hz, hf⟩ := ck_some hf
      refine sx_iald (j := (x1 - x1 / S_rounds * S_rounds).toNatClampNeg) hx hb hK hP 1 0 rfl rfl (inb_vp hz) rfl dX7_edgesAtStep_21 ?_
      refine lv_goto (tgt := 26) hx hb dX7_edgesAtStep_22 (by decide) ?_
      have hf := Option.some.inj hf
      subst hf
      exact rt_i hx hb hr hlocks hQ hK hP hD hS rfl dX7_edgesAtStep_26
set_option maxRecDepth 100000 in
set_option maxHeartbeats 4000000 in
theorem kX7_longestFlooding (l : Launch) (D : va_G) (cI cC cS : ClassId) (Sa Sa_roundEdges Sa_values : Nat) (S_roundEdges : Nat → Int32) (S_values : Nat → Int32) (S_nodes : Int32) (S_rounds : Int32) (o : Int32) (hf : fX7_longestFlooding S_nodes S_rounds = o) : CI l D yX7_longestFlooding wsX7_longestFlooding ({ frames := 0, cells := 0, slots := 0, locals := 0 } : Room) (tysK cI cC cS) [.ref Sa] (sh_X7 Sa Sa_roundEdges Sa_values cI cC cS S_roundEdges S_values S_nodes S_rounds) o (sh_X7 Sa Sa_roundEdges Sa_values cI cC cS S_roundEdges S_values S_nodes S_rounds) := by
  refine met_i (cc := cX7_longestFlooding) (maxL := 1) (ret := (some .int)) (by decide) rfl (Nat.le_of_ble_eq_true rfl) ?_
  intro p e s m args below meth c R Q A F hR hQ hP hK hD hA hS ls hl
  obtain ⟨hx, hb, hr, hts, hml, hlocks, hown⟩ := F
  have hown : s.vm.findClass RX7 = some m.cls := hown
  have hi_X7 : ∀ w ∈ u_ws RX7 TX7 4, w ∈ wsX7_longestFlooding := fun w h => List.mem_cons_of_mem _ (List.mem_append_right _ h)
  have q22 := hts (.fieldLink RX7 22 "ChangingRounds$Schedule" "nodes" "I") (by decide +kernel)
  have q26 := hts (.fieldLink RX7 26 "ChangingRounds$Schedule" "rounds" "I") (by decide +kernel)
  have hl : lv_has ls 1 [(0, .ref Sa)] := hl
  unfold fX7_longestFlooding at hf
  refine lv_aload_n hx hb dX7_longestFlooding_0 rfl (lv_at hl 0 rfl) ?_
  refine va_get (D := D) (ci := 4) (v := .int S_nodes) (C := RX7) (T := TX7) (N := 4) hx hb hts hi_X7 hown hK hP 0 rfl rfl 2 (by decide) q22 (fun _ h9 => h9) rfl dX7_longestFlooding_1 ?_
  refine lv_aload_n hx hb dX7_longestFlooding_4 rfl (lv_at hl 0 rfl) ?_
  refine va_get (D := D) (ci := 4) (v := .int S_rounds) (C := RX7) (T := TX7) (N := 4) hx hb hts hi_X7 hown hK hP 0 rfl rfl 3 (by decide) q26 (fun _ h9 => h9) rfl dX7_longestFlooding_5 ?_
  refine lv_imul hx hb dX7_longestFlooding_8 ?_
  subst hf
  exact rt_i hx hb hr hlocks hQ hK hP hD hS rfl dX7_longestFlooding_9
set_option maxRecDepth 100000 in
set_option maxHeartbeats 4000000 in
theorem kX7_valueOf (l : Launch) (D : va_G) (cI cC cS : ClassId) (Sa Sa_roundEdges Sa_values : Nat) (x1 : Int32) (S_roundEdges : Nat → Int32) (S_values : Nat → Int32) (S_nodes : Int32) (S_rounds : Int32) (o : Int32) (hf : fX7_valueOf x1 S_values S_nodes = some o) : CI l D yX7_valueOf wsX7_valueOf ({ frames := 1, cells := 0, slots := 0, locals := 21 } : Room) (tysK cI cC cS) [.ref Sa, .int x1] (sh_X7 Sa Sa_roundEdges Sa_values cI cC cS S_roundEdges S_values S_nodes S_rounds) o (sh_X7 Sa Sa_roundEdges Sa_values cI cC cS S_roundEdges S_values S_nodes S_rounds) := by
  refine met_i (cc := cX7_valueOf) (maxL := 2) (ret := (some .int)) (by decide) rfl (Nat.le_of_ble_eq_true rfl) ?_
  intro p e s m args below meth c R Q A F hR hQ hP hK hD hA hS ls hl
  obtain ⟨hx, hb, hr, hts, hml, hlocks, hown⟩ := F
  have hown : s.vm.findClass RX7 = some m.cls := hown
  have hi_X7 : ∀ w ∈ u_ws RX7 TX7 4, w ∈ wsX7_valueOf := fun w h => List.mem_cons_of_mem _ (List.mem_append_right _ h)
  have q15 := hts (.fieldLink RX7 15 "ChangingRounds$Schedule" "values" "[I") (by decide +kernel)
  have hl : lv_has ls 2 [(0, .ref Sa), (1, .int x1)] := hl
  unfold fX7_valueOf at hf
  refine lv_aload_n hx hb dX7_valueOf_0 rfl (lv_at hl 0 rfl) ?_
  refine lv_iload_n hx hb dX7_valueOf_1 rfl (lv_at hl 1 rfl) ?_
  refine cv_i (ci := 4) (q := (RX7, TX7, 4)) (As := [.int x1]) (rest := []) hx hb hml hown hts hK hP hD hA hS (kX7_hasNode l D cI cC cS Sa Sa_roundEdges Sa_values x1 S_roundEdges S_values S_nodes S_rounds (fX7_hasNode x1 S_nodes) rfl) (cwV 1 hts gX7_valueOf_X7_hasNode rfl rfl rfl (by decide +kernel) (by subst hR; exact ⟨Nat.le_of_ble_eq_true rfl, Nat.le_of_ble_eq_true rfl⟩)) [0, 1, 2] [] [0, 1, 2] [] (sh_X7 Sa Sa_roundEdges Sa_values cI cC cS S_roundEdges S_values S_nodes S_rounds) rfl rfl rfl rfl (by decide) rfl rfl rfl rfl rfl rfl hl.1 rfl (Nat.le_of_ble_eq_true rfl) ⟨Nat.zero_le _, Nat.zero_le _⟩ dX7_valueOf_2 (fun H locs hP hD hS => ?_)
  refine lv_if_eq (tgt := 17) hx hb dX7_valueOf_5 (by decide) (fun c1 => ?_) (fun c1 => ?_)
  · have hf := if_t c1 hf
    refine lv_iconst (v := (0 : Int32)) hx hb dX7_valueOf_17 (by decide) ?_
    have hf := Option.some.inj hf
    subst hf
    exact rt_i hx hb hr hlocks hQ hK hP hD hS rfl dX7_valueOf_18
  · have hf := if_f c1 hf
    refine lv_aload_n hx hb dX7_valueOf_8 rfl (lv_at hl 0 rfl) ?_
    refine va_get (D := D) (ci := 4) (v := .ref Sa_values) (C := RX7) (T := TX7) (N := 4) hx hb hts hi_X7 hown hK hP 0 rfl rfl 1 (by decide) q15 (fun _ h9 => h9) rfl dX7_valueOf_9 ?_
    refine lv_iload_n hx hb dX7_valueOf_12 rfl (lv_at hl 1 rfl) ?_
    obtain ⟨hz, hf⟩ := ck_some hf
    refine sx_iald (j := x1.toNatClampNeg) hx hb hK hP 2 0 rfl rfl (inb_vp hz) rfl dX7_valueOf_13 ?_
    refine lv_goto (tgt := 18) hx hb dX7_valueOf_14 (by decide) ?_
    have hf := Option.some.inj hf
    subst hf
    exact rt_i hx hb hr hlocks hQ hK hP hD hS rfl dX7_valueOf_18
set_option maxRecDepth 100000 in
set_option maxHeartbeats 4000000 in
theorem kX7_give (l : Launch) (D : va_G) (cI cC cS : ClassId) (Sa Sa_roundEdges Sa_values : Nat) (x1 : Int32) (x2 : Int32) (S_roundEdges : Nat → Int32) (S_values : Nat → Int32) (S_nodes : Int32) (S_rounds : Int32) (o : (Nat → Int32)) (hf : fX7_give x1 x2 S_values S_nodes = some o) : CV l D yX7_give wsX7_give ({ frames := 1, cells := 0, slots := 0, locals := 21 } : Room) (tysK cI cC cS) [.ref Sa, .int x1, .int x2] (sh_X7 Sa Sa_roundEdges Sa_values cI cC cS S_roundEdges S_values S_nodes S_rounds) (sh_X7 Sa Sa_roundEdges Sa_values cI cC cS S_roundEdges o S_nodes S_rounds) := by
  refine met_v (cc := cX7_give) (maxL := 3) (ret := none) (by decide) rfl (Nat.le_of_ble_eq_true rfl) ?_
  intro p e s m args below meth c R Q A F hR hQ hP hK hD hA hS ls hl
  obtain ⟨hx, hb, hr, hts, hml, hlocks, hown⟩ := F
  have hown : s.vm.findClass RX7 = some m.cls := hown
  have hi_X7 : ∀ w ∈ u_ws RX7 TX7 4, w ∈ wsX7_give := fun w h => List.mem_cons_of_mem _ (List.mem_append_right _ h)
  have q15 := hts (.fieldLink RX7 15 "ChangingRounds$Schedule" "values" "[I") (by decide +kernel)
  have hl : lv_has ls 3 [(0, .ref Sa), (1, .int x1), (2, .int x2)] := hl
  unfold fX7_give at hf
  refine lv_aload_n hx hb dX7_give_0 rfl (lv_at hl 0 rfl) ?_
  refine lv_iload_n hx hb dX7_give_1 rfl (lv_at hl 1 rfl) ?_
  refine cv_i (ci := 4) (q := (RX7, TX7, 4)) (As := [.int x1]) (rest := []) hx hb hml hown hts hK hP hD hA hS (kX7_hasNode l D cI cC cS Sa Sa_roundEdges Sa_values x1 S_roundEdges S_values S_nodes S_rounds (fX7_hasNode x1 S_nodes) rfl) (cwV 1 hts gX7_give_X7_hasNode rfl rfl rfl (by decide +kernel) (by subst hR; exact ⟨Nat.le_of_ble_eq_true rfl, Nat.le_of_ble_eq_true rfl⟩)) [0, 1, 2] [] [0, 1, 2] [] (sh_X7 Sa Sa_roundEdges Sa_values cI cC cS S_roundEdges S_values S_nodes S_rounds) rfl rfl rfl rfl (by decide) rfl rfl rfl rfl rfl rfl hl.1 rfl (Nat.le_of_ble_eq_true rfl) ⟨Nat.zero_le _, Nat.zero_le _⟩ dX7_give_2 (fun H locs hP hD hS => ?_)
  refine lv_if_eq (tgt := 15) hx hb dX7_give_5 (by decide) (fun c1 => ?_) (fun c1 => ?_)
  · have hf := if_t c1 hf
    have hf := Option.some.inj hf
    subst hf
    exact rt_v hx hb hr hlocks hQ hK hP hD hS dX7_give_15
  · have hf := if_f c1 hf
    refine lv_aload_n hx hb dX7_give_8 rfl (lv_at hl 0 rfl) ?_
    refine va_get (D := D) (ci := 4) (v := .ref Sa_values) (C := RX7) (T := TX7) (N := 4) hx hb hts hi_X7 hown hK hP 0 rfl rfl 1 (by decide) q15 (fun _ h9 => h9) rfl dX7_give_9 ?_
    refine lv_iload_n hx hb dX7_give_12 rfl (lv_at hl 1 rfl) ?_
    refine lv_iload_n hx hb dX7_give_13 rfl (lv_at hl 2 rfl) ?_
    obtain ⟨hz, hf⟩ := ck_some hf
    refine sx_iast (j := x1.toNatClampNeg) hx hb hK hP hD hS 2 0 rfl rfl (inb_vp hz) rfl dX7_give_14 (sh_X7 Sa Sa_roundEdges Sa_values cI cC cS S_roundEdges (upd S_values x1.toNatClampNeg x2) S_nodes S_rounds) rfl (fun H locs hP hD hS => ?_)
    have hf := Option.some.inj hf
    subst hf
    exact rt_v hx hb hr hlocks hQ hK hP hD hS dX7_give_15
set_option maxRecDepth 100000 in
set_option maxHeartbeats 4000000 in
theorem kX7_smallestValue (l : Launch) (D : va_G) (cI cC cS : ClassId) (Sa Sa_roundEdges Sa_values : Nat) (x1 : Int32) (S_roundEdges : Nat → Int32) (S_values : Nat → Int32) (S_nodes : Int32) (S_rounds : Int32) (o : Int32) (hf : fX7_smallestValue x1 S_values S_nodes = some o) : CI l D yX7_smallestValue wsX7_smallestValue ({ frames := 1, cells := 0, slots := 0, locals := 21 } : Room) (tysK cI cC cS) [.ref Sa, .int x1] (sh_X7 Sa Sa_roundEdges Sa_values cI cC cS S_roundEdges S_values S_nodes S_rounds) o (sh_X7 Sa Sa_roundEdges Sa_values cI cC cS S_roundEdges S_values S_nodes S_rounds) := by
  refine met_i (cc := cX7_smallestValue) (maxL := 4) (ret := (some .int)) (by decide) rfl (Nat.le_of_ble_eq_true rfl) ?_
  intro p e s m args below meth c R Q A F hR hQ hP hK hD hA hS ls hl
  obtain ⟨hx, hb, hr, hts, hml, hlocks, hown⟩ := F
  have hown : s.vm.findClass RX7 = some m.cls := hown
  have hi_X7 : ∀ w ∈ u_ws RX7 TX7 4, w ∈ wsX7_smallestValue := fun w h => List.mem_cons_of_mem _ (List.mem_append_right _ h)
  have q22 := hts (.fieldLink RX7 22 "ChangingRounds$Schedule" "nodes" "I") (by decide +kernel)
  have q15 := hts (.fieldLink RX7 15 "ChangingRounds$Schedule" "values" "[I") (by decide +kernel)
  have qm46 := hts (.methodLink RX7 46 Lib.Math.min.name) (by decide +kernel)
  have qs46 := hts (.static Lib.Math.min.name) (by decide +kernel)
  have qi46 := hts (.initialized "java/lang/Math") (by decide +kernel)
  have qk46 := hts (.code Lib.Math.min.name Lib.Math.min.code 2 (some .int)) (by decide +kernel)
  have hl : lv_has ls 4 [(0, .ref Sa), (1, .int x1)] := hl
  unfold fX7_smallestValue at hf
  have L5 : ∀ (n5 : Nat) (x2 : Int32) (x3 : Int32) (H : Heap) (locs : List Loc) (ls : Array Slot), fX7_smallestValue_l5 x1 S_values S_nodes n5 x2 x3 = some o → va_P D vwCl (sh_X7 Sa Sa_roundEdges Sa_values cI cC cS S_roundEdges S_values S_nodes S_rounds) H → va_D A (sh_X7 Sa Sa_roundEdges Sa_values cI cC cS S_roundEdges S_values S_nodes S_rounds) → va_S A s.heap H locs → lv_has ls 4 [(0, .ref Sa), (1, .int x1), (2, .int x2), (3, .int x3)] → W p l e R s m args below meth c H locs 0 0 Q (F0 m 5 ls []) := by
    intro n5
    induction n5 with
    | zero => intro x2 x3 H locs ls hf; cases (show (none : Option _) = some _ from hf)
    | succ n5 ih5 =>
      intro x2 x3 H locs ls hf hP hD hS hl
      rw [fX7_smallestValue_l5] at hf
      refine lv_iload_n hx hb dX7_smallestValue_5 rfl (lv_at hl 3 rfl) ?_
      refine lv_aload_n hx hb dX7_smallestValue_6 rfl (lv_at hl 0 rfl) ?_
      refine va_get (D := D) (ci := 4) (v := .int S_nodes) (C := RX7) (T := TX7) (N := 4) hx hb hts hi_X7 hown hK hP 0 rfl rfl 2 (by decide) q22 (fun _ h9 => h9) rfl dX7_smallestValue_7 ?_
      refine lv_icmp_ge (tgt := 38) hx hb dX7_smallestValue_10 (by decide) (fun c1 => ?_) (fun c1 => ?_)
      · have hf := if_t c1 hf
        refine lv_iload_n hx hb dX7_smallestValue_38 rfl (lv_at hl 2 rfl) ?_
        have hf := Option.some.inj hf
        subst hf
        exact rt_i hx hb hr hlocks hQ hK hP hD hS rfl dX7_smallestValue_39
      · have hf := if_f c1 hf
        refine lv_iload_n hx hb dX7_smallestValue_13 rfl (lv_at hl 1 rfl) ?_
        refine lv_iload_n hx hb dX7_smallestValue_14 rfl (lv_at hl 3 rfl) ?_
        refine cs_i (As := [.int x1, .int x3]) (rest := []) hx hb hml hown hts hK hP hD hA hS (kX6_has l D cI cC cS  x1 x3  (fX6_has x1 x3) rfl) (va_cwS 2 hts gX7_smallestValue_X6_has rfl rfl rfl (by decide +kernel) (by subst hR; exact ⟨Nat.le_of_ble_eq_true rfl, Nat.le_of_ble_eq_true rfl⟩)) rfl hl.1 rfl (Nat.le_of_ble_eq_true rfl) ⟨Nat.zero_le _, Nat.zero_le _⟩ dX7_smallestValue_15 (fun H locs hP hD hS => ?_)
        refine lv_if_eq (tgt := 32) hx hb dX7_smallestValue_18 (by decide) (fun c2 => ?_) (fun c2 => ?_)
        · have hf := if_t c2 hf
          refine lv_iinc (v := (x3 + 1)) (lv' := [(3, .int (x3 + 1)), (0, .ref Sa), (1, .int x1), (2, .int x2)]) hx hb dX7_smallestValue_32 hl (k := 3) rfl rfl (by decide) rfl (fun ls hl => ?_)
          refine lv_goto (tgt := 5) hx hb dX7_smallestValue_35 (by decide) ?_
          exact ih5 x2 (x3 + 1) _ _ _ hf hP hD hS (lv_sub hl [1, 2, 3, 0] rfl)
        · have hf := if_f c2 hf
          refine lv_iload_n hx hb dX7_smallestValue_21 rfl (lv_at hl 2 rfl) ?_
          refine lv_aload_n hx hb dX7_smallestValue_22 rfl (lv_at hl 0 rfl) ?_
          refine va_get (D := D) (ci := 4) (v := .ref Sa_values) (C := RX7) (T := TX7) (N := 4) hx hb hts hi_X7 hown hK hP 0 rfl rfl 1 (by decide) q15 (fun _ h9 => h9) rfl dX7_smallestValue_23 ?_
          refine lv_iload_n hx hb dX7_smallestValue_26 rfl (lv_at hl 3 rfl) ?_
          obtain ⟨hz, hf⟩ := ck_some hf
          refine sx_iald (j := x3.toNatClampNeg) hx hb hK hP 2 0 rfl rfl (inb_vp hz) rfl dX7_smallestValue_27 ?_
          refine va_mmin hx hb (by rw [hml]; exact hl.1.symm) hown qm46 qs46 qi46 qk46 (by subst hR; exact Nat.le_of_ble_eq_true rfl) (by subst hR; exact Nat.le_of_ble_eq_true rfl) (Nat.zero_le _) (Nat.zero_le _) dX7_smallestValue_28 ?_
          refine lv_istore_n (lv' := [(2, .int (if (S_values x3.toNatClampNeg) < x2 then (S_values x3.toNatClampNeg) else x2)), (0, .ref Sa), (1, .int x1), (3, .int x3)]) hx hb dX7_smallestValue_31 rfl hl (by decide) rfl (fun ls hl => ?_)
          refine lv_iinc (v := (x3 + 1)) (lv' := [(3, .int (x3 + 1)), (2, .int (if (S_values x3.toNatClampNeg) < x2 then (S_values x3.toNatClampNeg) else x2)), (0, .ref Sa), (1, .int x1)]) hx hb dX7_smallestValue_32 hl (k := 3) rfl rfl (by decide) rfl (fun ls hl => ?_)
          refine lv_goto (tgt := 5) hx hb dX7_smallestValue_35 (by decide) ?_
          exact ih5 (if (S_values x3.toNatClampNeg) < x2 then (S_values x3.toNatClampNeg) else x2) (x3 + 1) _ _ _ hf hP hD hS (lv_sub hl [2, 3, 1, 0] rfl)
  refine lv_bipush (v := (99 : Int32)) hx hb dX7_smallestValue_0 (by decide) ?_
  refine lv_istore_n (lv' := [(2, .int (99 : Int32)), (0, .ref Sa), (1, .int x1)]) hx hb dX7_smallestValue_2 rfl hl (by decide) rfl (fun ls hl => ?_)
  refine lv_iconst (v := (0 : Int32)) hx hb dX7_smallestValue_3 (by decide) ?_
  refine lv_istore_n (lv' := [(3, .int (0 : Int32)), (2, .int (99 : Int32)), (0, .ref Sa), (1, .int x1)]) hx hb dX7_smallestValue_4 rfl hl (by decide) rfl (fun ls hl => ?_)
  exact L5  fuel (99 : Int32) (0 : Int32) _ _ _ hf hP hD hS (lv_sub hl [2, 3, 1, 0] rfl)
set_option maxRecDepth 100000 in
set_option maxHeartbeats 4000000 in
theorem kX7_edgesInAll (l : Launch) (D : va_G) (cI cC cS : ClassId) (Sa Sa_roundEdges Sa_values : Nat) (S_roundEdges : Nat → Int32) (S_values : Nat → Int32) (S_nodes : Int32) (S_rounds : Int32) (o : Int32) (hf : fX7_edgesInAll S_roundEdges S_rounds = some o) : CI l D yX7_edgesInAll wsX7_edgesInAll ({ frames := 1, cells := 0, slots := 0, locals := 20 } : Room) (tysK cI cC cS) [.ref Sa] (sh_X7 Sa Sa_roundEdges Sa_values cI cC cS S_roundEdges S_values S_nodes S_rounds) o (sh_X7 Sa Sa_roundEdges Sa_values cI cC cS S_roundEdges S_values S_nodes S_rounds) := by
  refine met_i (cc := cX7_edgesInAll) (maxL := 3) (ret := (some .int)) (by decide) rfl (Nat.le_of_ble_eq_true rfl) ?_
  intro p e s m args below meth c R Q A F hR hQ hP hK hD hA hS ls hl
  obtain ⟨hx, hb, hr, hts, hml, hlocks, hown⟩ := F
  have hown : s.vm.findClass RX7 = some m.cls := hown
  have hi_X7 : ∀ w ∈ u_ws RX7 TX7 4, w ∈ wsX7_edgesInAll := fun w h => List.mem_cons_of_mem _ (List.mem_append_right _ h)
  have q26 := hts (.fieldLink RX7 26 "ChangingRounds$Schedule" "rounds" "I") (by decide +kernel)
  have q9 := hts (.fieldLink RX7 9 "ChangingRounds$Schedule" "roundEdges" "[I") (by decide +kernel)
  have hl : lv_has ls 3 [(0, .ref Sa)] := hl
  unfold fX7_edgesInAll at hf
  have L4 : ∀ (n4 : Nat) (x1 : Int32) (x2 : Int32) (H : Heap) (locs : List Loc) (ls : Array Slot), fX7_edgesInAll_l4 S_roundEdges S_rounds n4 x1 x2 = some o → va_P D vwCl (sh_X7 Sa Sa_roundEdges Sa_values cI cC cS S_roundEdges S_values S_nodes S_rounds) H → va_D A (sh_X7 Sa Sa_roundEdges Sa_values cI cC cS S_roundEdges S_values S_nodes S_rounds) → va_S A s.heap H locs → lv_has ls 3 [(0, .ref Sa), (1, .int x1), (2, .int x2)] → W p l e R s m args below meth c H locs 0 0 Q (F0 m 4 ls []) := by
    intro n4
    induction n4 with
    | zero => intro x1 x2 H locs ls hf; cases (show (none : Option _) = some _ from hf)
    | succ n4 ih4 =>
      intro x1 x2 H locs ls hf hP hD hS hl
      rw [fX7_edgesInAll_l4] at hf
      refine lv_iload_n hx hb dX7_edgesInAll_4 rfl (lv_at hl 2 rfl) ?_
      refine lv_aload_n hx hb dX7_edgesInAll_5 rfl (lv_at hl 0 rfl) ?_
      refine va_get (D := D) (ci := 4) (v := .int S_rounds) (C := RX7) (T := TX7) (N := 4) hx hb hts hi_X7 hown hK hP 0 rfl rfl 3 (by decide) q26 (fun _ h9 => h9) rfl dX7_edgesInAll_6 ?_
      refine lv_icmp_ge (tgt := 30) hx hb dX7_edgesInAll_9 (by decide) (fun c1 => ?_) (fun c1 => ?_)
      · have hf := if_t c1 hf
        refine lv_iload_n hx hb dX7_edgesInAll_30 rfl (lv_at hl 1 rfl) ?_
        have hf := Option.some.inj hf
        subst hf
        exact rt_i hx hb hr hlocks hQ hK hP hD hS rfl dX7_edgesInAll_31
      · have hf := if_f c1 hf
        refine lv_iload_n hx hb dX7_edgesInAll_12 rfl (lv_at hl 1 rfl) ?_
        refine lv_aload_n hx hb dX7_edgesInAll_13 rfl (lv_at hl 0 rfl) ?_
        refine va_get (D := D) (ci := 4) (v := .ref Sa_roundEdges) (C := RX7) (T := TX7) (N := 4) hx hb hts hi_X7 hown hK hP 0 rfl rfl 0 (by decide) q9 (fun _ h9 => h9) rfl dX7_edgesInAll_14 ?_
        refine lv_iload_n hx hb dX7_edgesInAll_17 rfl (lv_at hl 2 rfl) ?_
        obtain ⟨hz, hf⟩ := ck_some hf
        refine sx_iald (j := x2.toNatClampNeg) hx hb hK hP 1 0 rfl rfl (inb_vp hz) rfl dX7_edgesInAll_18 ?_
        refine cs_i (As := [.int (S_roundEdges x2.toNatClampNeg)]) (rest := [.int x1]) hx hb hml hown hts hK hP hD hA hS (kJ6_bitCount_0f7a4 l D cI cC cS  (S_roundEdges x2.toNatClampNeg)  (fJ6_bitCount_0f7a4 (S_roundEdges x2.toNatClampNeg)) rfl) (va_cwS 1 hts gX7_edgesInAll_J6_bitCount_0f7a4 rfl rfl rfl (by decide +kernel) (by subst hR; exact ⟨Nat.le_of_ble_eq_true rfl, Nat.le_of_ble_eq_true rfl⟩)) rfl hl.1 rfl (Nat.le_of_ble_eq_true rfl) ⟨Nat.zero_le _, Nat.zero_le _⟩ dX7_edgesInAll_19 (fun H locs hP hD hS => ?_)
        refine lv_iadd hx hb dX7_edgesInAll_22 ?_
        refine lv_istore_n (lv' := [(1, .int (x1 + (fJ6_bitCount_0f7a4 (S_roundEdges x2.toNatClampNeg)))), (0, .ref Sa), (2, .int x2)]) hx hb dX7_edgesInAll_23 rfl hl (by decide) rfl (fun ls hl => ?_)
        refine lv_iinc (v := (x2 + 1)) (lv' := [(2, .int (x2 + 1)), (1, .int (x1 + (fJ6_bitCount_0f7a4 (S_roundEdges x2.toNatClampNeg)))), (0, .ref Sa)]) hx hb dX7_edgesInAll_24 hl (k := 2) rfl rfl (by decide) rfl (fun ls hl => ?_)
        refine lv_goto (tgt := 4) hx hb dX7_edgesInAll_27 (by decide) ?_
        exact ih4 (x1 + (fJ6_bitCount_0f7a4 (S_roundEdges x2.toNatClampNeg))) (x2 + 1) _ _ _ hf hP hD hS (lv_sub hl [2, 1, 0] rfl)
  refine lv_iconst (v := (0 : Int32)) hx hb dX7_edgesInAll_0 (by decide) ?_
  refine lv_istore_n (lv' := [(1, .int (0 : Int32)), (0, .ref Sa)]) hx hb dX7_edgesInAll_1 rfl hl (by decide) rfl (fun ls hl => ?_)
  refine lv_iconst (v := (0 : Int32)) hx hb dX7_edgesInAll_2 (by decide) ?_
  refine lv_istore_n (lv' := [(2, .int (0 : Int32)), (1, .int (0 : Int32)), (0, .ref Sa)]) hx hb dX7_edgesInAll_3 rfl hl (by decide) rfl (fun ls hl => ?_)
  exact L4  fuel (0 : Int32) (0 : Int32) _ _ _ hf hP hD hS (lv_sub hl [2, 1, 0] rfl)
set_option maxRecDepth 100000 in
set_option maxHeartbeats 4000000 in
theorem kX7_connectedRounds (l : Launch) (D : va_G) (cI cC cS : ClassId) (Sa Sa_roundEdges Sa_values : Nat) (S_roundEdges : Nat → Int32) (S_values : Nat → Int32) (S_nodes : Int32) (S_rounds : Int32) (o : Int32) (hf : fX7_connectedRounds S_roundEdges S_nodes S_rounds = some o) : CI l D yX7_connectedRounds wsX7_connectedRounds ({ frames := 5, cells := 0, slots := 0, locals := 114 } : Room) (tysK cI cC cS) [.ref Sa] (sh_X7 Sa Sa_roundEdges Sa_values cI cC cS S_roundEdges S_values S_nodes S_rounds) o (sh_X7 Sa Sa_roundEdges Sa_values cI cC cS S_roundEdges S_values S_nodes S_rounds) := by
  refine met_i (cc := cX7_connectedRounds) (maxL := 3) (ret := (some .int)) (by decide) rfl (Nat.le_of_ble_eq_true rfl) ?_
  intro p e s m args below meth c R Q A F hR hQ hP hK hD hA hS ls hl
  obtain ⟨hx, hb, hr, hts, hml, hlocks, hown⟩ := F
  have hown : s.vm.findClass RX7 = some m.cls := hown
  have hi_X7 : ∀ w ∈ u_ws RX7 TX7 4, w ∈ wsX7_connectedRounds := fun w h => List.mem_cons_of_mem _ (List.mem_append_right _ h)
  have q26 := hts (.fieldLink RX7 26 "ChangingRounds$Schedule" "rounds" "I") (by decide +kernel)
  have q9 := hts (.fieldLink RX7 9 "ChangingRounds$Schedule" "roundEdges" "[I") (by decide +kernel)
  have q22 := hts (.fieldLink RX7 22 "ChangingRounds$Schedule" "nodes" "I") (by decide +kernel)
  have hl : lv_has ls 3 [(0, .ref Sa)] := hl
  unfold fX7_connectedRounds at hf
  have L4 : ∀ (n4 : Nat) (x1 : Int32) (x2 : Int32) (H : Heap) (locs : List Loc) (ls : Array Slot), fX7_connectedRounds_l4 S_roundEdges S_nodes S_rounds n4 x1 x2 = some o → va_P D vwCl (sh_X7 Sa Sa_roundEdges Sa_values cI cC cS S_roundEdges S_values S_nodes S_rounds) H → va_D A (sh_X7 Sa Sa_roundEdges Sa_values cI cC cS S_roundEdges S_values S_nodes S_rounds) → va_S A s.heap H locs → lv_has ls 3 [(0, .ref Sa), (1, .int x1), (2, .int x2)] → W p l e R s m args below meth c H locs 0 0 Q (F0 m 4 ls []) := by
    intro n4
    induction n4 with
    | zero => intro x1 x2 H locs ls hf; cases (show (none : Option _) = some _ from hf)
    | succ n4 ih4 =>
      intro x1 x2 H locs ls hf hP hD hS hl
      rw [fX7_connectedRounds_l4] at hf
      refine lv_iload_n hx hb dX7_connectedRounds_4 rfl (lv_at hl 2 rfl) ?_
      refine lv_aload_n hx hb dX7_connectedRounds_5 rfl (lv_at hl 0 rfl) ?_
      refine va_get (D := D) (ci := 4) (v := .int S_rounds) (C := RX7) (T := TX7) (N := 4) hx hb hts hi_X7 hown hK hP 0 rfl rfl 3 (by decide) q26 (fun _ h9 => h9) rfl dX7_connectedRounds_6 ?_
      refine lv_icmp_ge (tgt := 37) hx hb dX7_connectedRounds_9 (by decide) (fun c1 => ?_) (fun c1 => ?_)
      · have hf := if_t c1 hf
        refine lv_iload_n hx hb dX7_connectedRounds_37 rfl (lv_at hl 1 rfl) ?_
        have hf := Option.some.inj hf
        subst hf
        exact rt_i hx hb hr hlocks hQ hK hP hD hS rfl dX7_connectedRounds_38
      · have hf := if_f c1 hf
        refine lv_aload_n hx hb dX7_connectedRounds_12 rfl (lv_at hl 0 rfl) ?_
        refine va_get (D := D) (ci := 4) (v := .ref Sa_roundEdges) (C := RX7) (T := TX7) (N := 4) hx hb hts hi_X7 hown hK hP 0 rfl rfl 0 (by decide) q9 (fun _ h9 => h9) rfl dX7_connectedRounds_13 ?_
        refine lv_iload_n hx hb dX7_connectedRounds_16 rfl (lv_at hl 2 rfl) ?_
        obtain ⟨hz, hf⟩ := ck_some hf
        refine sx_iald (j := x2.toNatClampNeg) hx hb hK hP 1 0 rfl rfl (inb_vp hz) rfl dX7_connectedRounds_17 ?_
        refine lv_aload_n hx hb dX7_connectedRounds_18 rfl (lv_at hl 0 rfl) ?_
        refine va_get (D := D) (ci := 4) (v := .int S_nodes) (C := RX7) (T := TX7) (N := 4) hx hb hts hi_X7 hown hK hP 0 rfl rfl 2 (by decide) q22 (fun _ h9 => h9) rfl dX7_connectedRounds_19 ?_
        obtain ⟨o2, ho2, hf⟩ := bd_some hf
        refine cs_i (As := [.int (S_roundEdges x2.toNatClampNeg), .int S_nodes]) (rest := []) hx hb hml hown hts hK hP hD hA hS (kX2_areConnected l D cI cC cS  (S_roundEdges x2.toNatClampNeg) S_nodes  o2 ho2) (va_cwS 2 hts gX7_connectedRounds_X2_areConnected rfl rfl rfl (by decide +kernel) (by subst hR; exact ⟨Nat.le_of_ble_eq_true rfl, Nat.le_of_ble_eq_true rfl⟩)) rfl hl.1 rfl (Nat.le_of_ble_eq_true rfl) ⟨Nat.zero_le _, Nat.zero_le _⟩ dX7_connectedRounds_22 (fun H locs hP hD hS => ?_)
        refine lv_if_eq (tgt := 31) hx hb dX7_connectedRounds_25 (by decide) (fun c3 => ?_) (fun c3 => ?_)
        · have hf := if_t c3 hf
          refine lv_iinc (v := (x2 + 1)) (lv' := [(2, .int (x2 + 1)), (0, .ref Sa), (1, .int x1)]) hx hb dX7_connectedRounds_31 hl (k := 2) rfl rfl (by decide) rfl (fun ls hl => ?_)
          refine lv_goto (tgt := 4) hx hb dX7_connectedRounds_34 (by decide) ?_
          exact ih4 x1 (x2 + 1) _ _ _ hf hP hD hS (lv_sub hl [1, 2, 0] rfl)
        · have hf := if_f c3 hf
          refine lv_iinc (v := (x1 + 1)) (lv' := [(1, .int (x1 + 1)), (0, .ref Sa), (2, .int x2)]) hx hb dX7_connectedRounds_28 hl (k := 1) rfl rfl (by decide) rfl (fun ls hl => ?_)
          refine lv_iinc (v := (x2 + 1)) (lv' := [(2, .int (x2 + 1)), (1, .int (x1 + 1)), (0, .ref Sa)]) hx hb dX7_connectedRounds_31 hl (k := 2) rfl rfl (by decide) rfl (fun ls hl => ?_)
          refine lv_goto (tgt := 4) hx hb dX7_connectedRounds_34 (by decide) ?_
          exact ih4 (x1 + 1) (x2 + 1) _ _ _ hf hP hD hS (lv_sub hl [2, 1, 0] rfl)
  refine lv_iconst (v := (0 : Int32)) hx hb dX7_connectedRounds_0 (by decide) ?_
  refine lv_istore_n (lv' := [(1, .int (0 : Int32)), (0, .ref Sa)]) hx hb dX7_connectedRounds_1 rfl hl (by decide) rfl (fun ls hl => ?_)
  refine lv_iconst (v := (0 : Int32)) hx hb dX7_connectedRounds_2 (by decide) ?_
  refine lv_istore_n (lv' := [(2, .int (0 : Int32)), (1, .int (0 : Int32)), (0, .ref Sa)]) hx hb dX7_connectedRounds_3 rfl hl (by decide) rfl (fun ls hl => ?_)
  exact L4  fuel (0 : Int32) (0 : Int32) _ _ _ hf hP hD hS (lv_sub hl [2, 1, 0] rfl)
set_option maxRecDepth 100000 in
set_option maxHeartbeats 4000000 in
theorem kX7_edgesThatStay (l : Launch) (D : va_G) (cI cC cS : ClassId) (Sa Sa_roundEdges Sa_values : Nat) (x1 : Int32) (x2 : Int32) (S_roundEdges : Nat → Int32) (S_values : Nat → Int32) (S_nodes : Int32) (S_rounds : Int32) (o : Int32) (hf : fX7_edgesThatStay x1 x2 S_roundEdges S_rounds = some o) : CI l D yX7_edgesThatStay wsX7_edgesThatStay ({ frames := 2, cells := 0, slots := 0, locals := 42 } : Room) (tysK cI cC cS) [.ref Sa, .int x1, .int x2] (sh_X7 Sa Sa_roundEdges Sa_values cI cC cS S_roundEdges S_values S_nodes S_rounds) o (sh_X7 Sa Sa_roundEdges Sa_values cI cC cS S_roundEdges S_values S_nodes S_rounds) := by
  refine met_i (cc := cX7_edgesThatStay) (maxL := 5) (ret := (some .int)) (by decide) rfl (Nat.le_of_ble_eq_true rfl) ?_
  intro p e s m args below meth c R Q A F hR hQ hP hK hD hA hS ls hl
  obtain ⟨hx, hb, hr, hts, hml, hlocks, hown⟩ := F
  have hown : s.vm.findClass RX7 = some m.cls := hown
  have hl : lv_has ls 5 [(0, .ref Sa), (1, .int x1), (2, .int x2)] := hl
  unfold fX7_edgesThatStay at hf
  have L9 : ∀ (n9 : Nat) (x3 : Int32) (x4 : Int32) (H : Heap) (locs : List Loc) (ls : Array Slot), fX7_edgesThatStay_l9 x1 x2 S_roundEdges S_rounds n9 x3 x4 = some o → va_P D vwCl (sh_X7 Sa Sa_roundEdges Sa_values cI cC cS S_roundEdges S_values S_nodes S_rounds) H → va_D A (sh_X7 Sa Sa_roundEdges Sa_values cI cC cS S_roundEdges S_values S_nodes S_rounds) → va_S A s.heap H locs → lv_has ls 5 [(0, .ref Sa), (1, .int x1), (2, .int x2), (3, .int x3), (4, .int x4)] → W p l e R s m args below meth c H locs 0 0 Q (F0 m 9 ls []) := by
    intro n9
    induction n9 with
    | zero => intro x3 x4 H locs ls hf; cases (show (none : Option _) = some _ from hf)
    | succ n9 ih9 =>
      intro x3 x4 H locs ls hf hP hD hS hl
      rw [fX7_edgesThatStay_l9] at hf
      refine lv_iload hx hb dX7_edgesThatStay_9 (lv_at hl 4 rfl) ?_
      refine lv_iload_n hx hb dX7_edgesThatStay_11 rfl (lv_at hl 2 rfl) ?_
      refine lv_icmp_ge (tgt := 32) hx hb dX7_edgesThatStay_12 (by decide) (fun c1 => ?_) (fun c1 => ?_)
      · have hf := if_t c1 hf
        refine lv_iload_n hx hb dX7_edgesThatStay_32 rfl (lv_at hl 3 rfl) ?_
        have hf := Option.some.inj hf
        subst hf
        exact rt_i hx hb hr hlocks hQ hK hP hD hS rfl dX7_edgesThatStay_33
      · have hf := if_f c1 hf
        refine lv_iload_n hx hb dX7_edgesThatStay_15 rfl (lv_at hl 3 rfl) ?_
        refine lv_aload_n hx hb dX7_edgesThatStay_16 rfl (lv_at hl 0 rfl) ?_
        refine lv_iload_n hx hb dX7_edgesThatStay_17 rfl (lv_at hl 1 rfl) ?_
        refine lv_iload hx hb dX7_edgesThatStay_18 (lv_at hl 4 rfl) ?_
        refine lv_iadd hx hb dX7_edgesThatStay_20 ?_
        obtain ⟨o2, ho2, hf⟩ := bd_some hf
        refine cv_i (ci := 4) (q := (RX7, TX7, 4)) (As := [.int (x1 + x4)]) (rest := [.int x3]) hx hb hml hown hts hK hP hD hA hS (kX7_edgesOf l D cI cC cS Sa Sa_roundEdges Sa_values (x1 + x4) S_roundEdges S_values S_nodes S_rounds o2 ho2) (cwV 1 hts gX7_edgesThatStay_X7_edgesOf rfl rfl rfl (by decide +kernel) (by subst hR; exact ⟨Nat.le_of_ble_eq_true rfl, Nat.le_of_ble_eq_true rfl⟩)) [0, 1, 2] [] [0, 1, 2] [] (sh_X7 Sa Sa_roundEdges Sa_values cI cC cS S_roundEdges S_values S_nodes S_rounds) rfl rfl rfl rfl (by decide) rfl rfl rfl rfl rfl rfl hl.1 rfl (Nat.le_of_ble_eq_true rfl) ⟨Nat.zero_le _, Nat.zero_le _⟩ dX7_edgesThatStay_21 (fun H locs hP hD hS => ?_)
        refine lv_iand hx hb dX7_edgesThatStay_24 ?_
        refine lv_istore_n (lv' := [(3, .int (x3 &&& o2)), (0, .ref Sa), (1, .int x1), (2, .int x2), (4, .int x4)]) hx hb dX7_edgesThatStay_25 rfl hl (by decide) rfl (fun ls hl => ?_)
        refine lv_iinc (v := (x4 + 1)) (lv' := [(4, .int (x4 + 1)), (3, .int (x3 &&& o2)), (0, .ref Sa), (1, .int x1), (2, .int x2)]) hx hb dX7_edgesThatStay_26 hl (k := 4) rfl rfl (by decide) rfl (fun ls hl => ?_)
        refine lv_goto (tgt := 9) hx hb dX7_edgesThatStay_29 (by decide) ?_
        exact ih9 (x3 &&& o2) (x4 + 1) _ _ _ hf hP hD hS (lv_sub hl [2, 3, 4, 1, 0] rfl)
  refine lv_aload_n hx hb dX7_edgesThatStay_0 rfl (lv_at hl 0 rfl) ?_
  refine lv_iload_n hx hb dX7_edgesThatStay_1 rfl (lv_at hl 1 rfl) ?_
  obtain ⟨o3, ho3, hf⟩ := bd_some hf
  refine cv_i (ci := 4) (q := (RX7, TX7, 4)) (As := [.int x1]) (rest := []) hx hb hml hown hts hK hP hD hA hS (kX7_edgesOf l D cI cC cS Sa Sa_roundEdges Sa_values x1 S_roundEdges S_values S_nodes S_rounds o3 ho3) (cwV 1 hts gX7_edgesThatStay_X7_edgesOf rfl rfl rfl (by decide +kernel) (by subst hR; exact ⟨Nat.le_of_ble_eq_true rfl, Nat.le_of_ble_eq_true rfl⟩)) [0, 1, 2] [] [0, 1, 2] [] (sh_X7 Sa Sa_roundEdges Sa_values cI cC cS S_roundEdges S_values S_nodes S_rounds) rfl rfl rfl rfl (by decide) rfl rfl rfl rfl rfl rfl hl.1 rfl (Nat.le_of_ble_eq_true rfl) ⟨Nat.zero_le _, Nat.zero_le _⟩ dX7_edgesThatStay_2 (fun H locs hP hD hS => ?_)
  refine lv_istore_n (lv' := [(3, .int o3), (0, .ref Sa), (1, .int x1), (2, .int x2)]) hx hb dX7_edgesThatStay_5 rfl hl (by decide) rfl (fun ls hl => ?_)
  refine lv_iconst (v := (1 : Int32)) hx hb dX7_edgesThatStay_6 (by decide) ?_
  refine lv_istore (lv' := [(4, .int (1 : Int32)), (3, .int o3), (0, .ref Sa), (1, .int x1), (2, .int x2)]) hx hb dX7_edgesThatStay_7 hl (by decide) rfl (fun ls hl => ?_)
  exact L9  fuel o3 (1 : Int32) _ _ _ hf hP hD hS (lv_sub hl [2, 3, 4, 1, 0] rfl)
