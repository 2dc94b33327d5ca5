set_option maxRecDepth 100000 in
set_option maxHeartbeats 4000000 in
theorem kX1_answerOf (l : Launch) (D : va_G) (cI cC cS : ClassId) (Ca Ca_answers Fa Fa_known Fa_knownBefore Sa Sa_roundEdges Sa_values : Nat) (x1 : Int32) (C_answers : Nat → Int32) (C_steps : Int32) (F_known : Nat → Int32) (F_knownBefore : Nat → Int32) (F_step : Int32) (S_roundEdges : Nat → Int32) (S_values : Nat → Int32) (S_nodes : Int32) (S_rounds : Int32) (o : Int32) (hf : fX1_answerOf x1 C_answers S_nodes = some o) : CI l D yX1_answerOf wsX1_answerOf ({ frames := 1, cells := 0, slots := 0, locals := 21 } : Room) (tysK cI cC cS) [.ref Ca, .int x1] (sh_X1 Ca Ca_answers Fa Fa_known Fa_knownBefore Sa Sa_roundEdges Sa_values cI cC cS C_answers C_steps F_known F_knownBefore F_step S_roundEdges S_values S_nodes S_rounds) o (sh_X1 Ca Ca_answers Fa Fa_known Fa_knownBefore Sa Sa_roundEdges Sa_values cI cC cS C_answers C_steps F_known F_knownBefore F_step S_roundEdges S_values S_nodes S_rounds) := by
  refine met_i (cc := cX1_answerOf) (maxL := 2) (ret := (some .int)) (by decide) rfl (Nat.le_of_ble_eq_true rfl) ?_
  intro p e s m args below meth c R Q A F hR hQ hP hK hD hA hS ls hl
  obtain ⟨hx, hb, hr, hts, hml, hlocks, hown⟩ := F
  have hown : s.vm.findClass RX1 = some m.cls := hown
  have hi_X1 : ∀ w ∈ u_ws RX1 TX1 4, w ∈ wsX1_answerOf := fun w h => List.mem_cons_of_mem _ (List.mem_append_left _ (List.mem_append_right _ h))
  have q15 := hts (.fieldLink RX1 15 "ChangingRounds$Counting" "schedule" "LChangingRounds$Schedule;") (by decide +kernel)
  have q9 := hts (.fieldLink RX1 9 "ChangingRounds$Counting" "answers" "[I") (by decide +kernel)
  have hl : lv_has ls 2 [(0, .ref Ca), (1, .int x1)] := hl
  unfold fX1_answerOf at hf
  refine lv_aload_n hx hb dX1_answerOf_0 rfl (lv_at hl 0 rfl) ?_
  refine va_get (D := D) (ci := 0) (v := .ref Sa) (C := RX1) (T := TX1) (N := 4) hx hb hts hi_X1 hown hK hP 0 rfl rfl 0 (by decide) q15 (fun _ h9 => h9) rfl dX1_answerOf_1 ?_
  refine lv_iload_n hx hb dX1_answerOf_4 rfl (lv_at hl 1 rfl) ?_
  refine cv_i (ci := 4) (q := (RX7, TX7, 4)) (As := [.int x1]) (rest := []) hx hb hml hown hts hK hP hD hA hS (kX7_hasNode l D cI cC cS Sa Sa_roundEdges Sa_values x1 S_roundEdges S_values S_nodes S_rounds (fX7_hasNode x1 S_nodes) rfl) (cwV 1 hts gX1_answerOf_X7_hasNode rfl rfl rfl (by decide +kernel) (by subst hR; exact ⟨Nat.le_of_ble_eq_true rfl, Nat.le_of_ble_eq_true rfl⟩)) [5, 6, 7] [0, 1, 2, 3, 4] [0, 1, 2, 3, 4, 5, 6, 7] [(Ca, .inr (0, [.ref Sa, .ref Fa, .ref Ca_answers, .int C_steps])), (Ca_answers, .inl (cI, 8, .inl C_answers)), (Fa, .inr (1, [.ref Sa, .ref Fa_known, .ref Fa_knownBefore, .int F_step])), (Fa_known, .inl (cI, 8, .inl F_known)), (Fa_knownBefore, .inl (cI, 8, .inl F_knownBefore))] (sh_X1 Ca Ca_answers Fa Fa_known Fa_knownBefore Sa Sa_roundEdges Sa_values cI cC cS C_answers C_steps F_known F_knownBefore F_step S_roundEdges S_values S_nodes S_rounds) rfl rfl rfl rfl (by decide) rfl rfl rfl rfl rfl rfl hl.1 rfl (Nat.le_of_ble_eq_true rfl) ⟨Nat.zero_le _, Nat.zero_le _⟩ dX1_answerOf_5 (fun H locs hP hD hS => ?_)
  refine lv_if_eq (tgt := 20) hx hb dX1_answerOf_8 (by decide) (fun c1 => ?_) (fun c1 => ?_)
  · have hf := if_t c1 hf
    refine lv_iconst (v := (0 : Int32)) hx hb dX1_answerOf_20 (by decide) ?_
    have hf := Option.some.inj hf
    subst hf
    exact rt_i hx hb hr hlocks hQ hK hP hD hS rfl dX1_answerOf_21
  · have hf := if_f c1 hf
    refine lv_aload_n hx hb dX1_answerOf_11 rfl (lv_at hl 0 rfl) ?_
    refine va_get (D := D) (ci := 0) (v := .ref Ca_answers) (C := RX1) (T := TX1) (N := 4) hx hb hts hi_X1 hown hK hP 0 rfl rfl 2 (by decide) q9 (fun _ h9 => h9) rfl dX1_answerOf_12 ?_
    refine lv_iload_n hx hb dX1_answerOf_15 rfl (lv_at hl 1 rfl) ?_
    obtain ⟨hz, hf⟩ := ck_some hf
    refine sx_iald (j := x1.toNatClampNeg) hx hb hK hP 1 0 rfl rfl (inb_vp hz) rfl dX1_answerOf_16 ?_
    refine lv_goto (tgt := 21) hx hb dX1_answerOf_17 (by decide) ?_
    have hf := Option.some.inj hf
    subst hf
    exact rt_i hx hb hr hlocks hQ hK hP hD hS rfl dX1_answerOf_21
set_option maxRecDepth 100000 in
set_option maxHeartbeats 4000000 in
theorem kX1_wrongAnswers (l : Launch) (D : va_G) (cI cC cS : ClassId) (Ca Ca_answers Fa Fa_known Fa_knownBefore Sa Sa_roundEdges Sa_values : Nat) (C_answers : Nat → Int32) (C_steps : Int32) (F_known : Nat → Int32) (F_knownBefore : Nat → Int32) (F_step : Int32) (S_roundEdges : Nat → Int32) (S_values : Nat → Int32) (S_nodes : Int32) (S_rounds : Int32) (o : Int32) (hf : fX1_wrongAnswers C_answers S_nodes = some o) : CI l D yX1_wrongAnswers wsX1_wrongAnswers ({ frames := 1, cells := 0, slots := 0, locals := 20 } : Room) (tysK cI cC cS) [.ref Ca] (sh_X1 Ca Ca_answers Fa Fa_known Fa_knownBefore Sa Sa_roundEdges Sa_values cI cC cS C_answers C_steps F_known F_knownBefore F_step S_roundEdges S_values S_nodes S_rounds) o (sh_X1 Ca Ca_answers Fa Fa_known Fa_knownBefore Sa Sa_roundEdges Sa_values cI cC cS C_answers C_steps F_known F_knownBefore F_step S_roundEdges S_values S_nodes S_rounds) := by
  refine met_i (cc := cX1_wrongAnswers) (maxL := 3) (ret := (some .int)) (by decide) rfl (Nat.le_of_ble_eq_true rfl) ?_
  intro p e s m args below meth c R Q A F hR hQ hP hK hD hA hS ls hl
  obtain ⟨hx, hb, hr, hts, hml, hlocks, hown⟩ := F
  have hown : s.vm.findClass RX1 = some m.cls := hown
  have hi_X1 : ∀ w ∈ u_ws RX1 TX1 4, w ∈ wsX1_wrongAnswers := fun w h => List.mem_cons_of_mem _ (List.mem_append_left _ (List.mem_append_right _ h))
  have q15 := hts (.fieldLink RX1 15 "ChangingRounds$Counting" "schedule" "LChangingRounds$Schedule;") (by decide +kernel)
  have q9 := hts (.fieldLink RX1 9 "ChangingRounds$Counting" "answers" "[I") (by decide +kernel)
  have hl : lv_has ls 3 [(0, .ref Ca)] := hl
  unfold fX1_wrongAnswers at hf
  have L4 : ∀ (n4 : Nat) (x1 : Int32) (x2 : Int32) (H : Heap) (locs : List Loc) (ls : Array Slot), fX1_wrongAnswers_l4 C_answers S_nodes n4 x1 x2 = some o → va_P D vwCl (sh_X1 Ca Ca_answers Fa Fa_known Fa_knownBefore Sa Sa_roundEdges Sa_values cI cC cS C_answers C_steps F_known F_knownBefore F_step S_roundEdges S_values S_nodes S_rounds) H → va_D A (sh_X1 Ca Ca_answers Fa Fa_known Fa_knownBefore Sa Sa_roundEdges Sa_values cI cC cS C_answers C_steps F_known F_knownBefore F_step S_roundEdges S_values S_nodes S_rounds) → va_S A s.heap H locs → lv_has ls 3 [(0, .ref Ca), (1, .int x1), (2, .int x2)] → W p l e R s m args below meth c H locs 0 0 Q (F0 m 4 ls []) := by
    intro n4
    induction n4 with
    | zero => intro x1 x2 H locs ls hf; cases (show (none : Option _) = some _ from hf)
    | succ n4 ih4 =>
      intro x1 x2 H locs ls hf hP hD hS hl
      rw [fX1_wrongAnswers_l4] at hf
      refine lv_iload_n hx hb dX1_wrongAnswers_4 rfl (lv_at hl 2 rfl) ?_
      refine lv_aload_n hx hb dX1_wrongAnswers_5 rfl (lv_at hl 0 rfl) ?_
      refine va_get (D := D) (ci := 0) (v := .ref Sa) (C := RX1) (T := TX1) (N := 4) hx hb hts hi_X1 hown hK hP 0 rfl rfl 0 (by decide) q15 (fun _ h9 => h9) rfl dX1_wrongAnswers_6 ?_
      refine cv_i (ci := 4) (q := (RX7, TX7, 4)) (As := []) (rest := [.int x2]) hx hb hml hown hts hK hP hD hA hS (kX7_nodes l D cI cC cS Sa Sa_roundEdges Sa_values  S_roundEdges S_values S_nodes S_rounds (fX7_nodes S_nodes) rfl) (cwV 0 hts gX1_wrongAnswers_X7_nodes rfl rfl rfl (by decide +kernel) (by subst hR; exact ⟨Nat.le_of_ble_eq_true rfl, Nat.le_of_ble_eq_true rfl⟩)) [5, 6, 7] [0, 1, 2, 3, 4] [0, 1, 2, 3, 4, 5, 6, 7] [(Ca, .inr (0, [.ref Sa, .ref Fa, .ref Ca_answers, .int C_steps])), (Ca_answers, .inl (cI, 8, .inl C_answers)), (Fa, .inr (1, [.ref Sa, .ref Fa_known, .ref Fa_knownBefore, .int F_step])), (Fa_known, .inl (cI, 8, .inl F_known)), (Fa_knownBefore, .inl (cI, 8, .inl F_knownBefore))] (sh_X1 Ca Ca_answers Fa Fa_known Fa_knownBefore Sa Sa_roundEdges Sa_values cI cC cS C_answers C_steps F_known F_knownBefore F_step S_roundEdges S_values S_nodes S_rounds) rfl rfl rfl rfl (by decide) rfl rfl rfl rfl rfl rfl hl.1 rfl (Nat.le_of_ble_eq_true rfl) ⟨Nat.zero_le _, Nat.zero_le _⟩ dX1_wrongAnswers_9 (fun H locs hP hD hS => ?_)
      refine lv_icmp_ge (tgt := 40) hx hb dX1_wrongAnswers_12 (by decide) (fun c1 => ?_) (fun c1 => ?_)
      · have hf := if_t c1 hf
        refine lv_iload_n hx hb dX1_wrongAnswers_40 rfl (lv_at hl 1 rfl) ?_
        have hf := Option.some.inj hf
        subst hf
        exact rt_i hx hb hr hlocks hQ hK hP hD hS rfl dX1_wrongAnswers_41
      · have hf := if_f c1 hf
        refine lv_aload_n hx hb dX1_wrongAnswers_15 rfl (lv_at hl 0 rfl) ?_
        refine va_get (D := D) (ci := 0) (v := .ref Ca_answers) (C := RX1) (T := TX1) (N := 4) hx hb hts hi_X1 hown hK hP 0 rfl rfl 2 (by decide) q9 (fun _ h9 => h9) rfl dX1_wrongAnswers_16 ?_
        refine lv_iload_n hx hb dX1_wrongAnswers_19 rfl (lv_at hl 2 rfl) ?_
        obtain ⟨hz, hf⟩ := ck_some hf
        refine sx_iald (j := x2.toNatClampNeg) hx hb hK hP 1 0 rfl rfl (inb_vp hz) rfl dX1_wrongAnswers_20 ?_
        refine lv_aload_n hx hb dX1_wrongAnswers_21 rfl (lv_at hl 0 rfl) ?_
        refine va_get (D := D) (ci := 0) (v := .ref Sa) (C := RX1) (T := TX1) (N := 4) hx hb hts hi_X1 hown hK hP 0 rfl rfl 0 (by decide) q15 (fun _ h9 => h9) rfl dX1_wrongAnswers_22 ?_
        refine cv_i (ci := 4) (q := (RX7, TX7, 4)) (As := []) (rest := [.int (C_answers x2.toNatClampNeg)]) hx hb hml hown hts hK hP hD hA hS (kX7_nodes l D cI cC cS Sa Sa_roundEdges Sa_values  S_roundEdges S_values S_nodes S_rounds (fX7_nodes S_nodes) rfl) (cwV 0 hts gX1_wrongAnswers_X7_nodes rfl rfl rfl (by decide +kernel) (by subst hR; exact ⟨Nat.le_of_ble_eq_true rfl, Nat.le_of_ble_eq_true rfl⟩)) [5, 6, 7] [0, 1, 2, 3, 4] [0, 1, 2, 3, 4, 5, 6, 7] [(Ca, .inr (0, [.ref Sa, .ref Fa, .ref Ca_answers, .int C_steps])), (Ca_answers, .inl (cI, 8, .inl C_answers)), (Fa, .inr (1, [.ref Sa, .ref Fa_known, .ref Fa_knownBefore, .int F_step])), (Fa_known, .inl (cI, 8, .inl F_known)), (Fa_knownBefore, .inl (cI, 8, .inl F_knownBefore))] (sh_X1 Ca Ca_answers Fa Fa_known Fa_knownBefore Sa Sa_roundEdges Sa_values cI cC cS C_answers C_steps F_known F_knownBefore F_step S_roundEdges S_values S_nodes S_rounds) rfl rfl rfl rfl (by decide) rfl rfl rfl rfl rfl rfl hl.1 rfl (Nat.le_of_ble_eq_true rfl) ⟨Nat.zero_le _, Nat.zero_le _⟩ dX1_wrongAnswers_25 (fun H locs hP hD hS => ?_)
        refine lv_icmp_eq (tgt := 34) hx hb dX1_wrongAnswers_28 (by decide) (fun c2 => ?_) (fun c2 => ?_)
        · have hf := if_t c2 hf
          refine lv_iinc (v := (x2 + 1)) (lv' := [(2, .int (x2 + 1)), (0, .ref Ca), (1, .int x1)]) hx hb dX1_wrongAnswers_34 hl (k := 2) rfl rfl (by decide) rfl (fun ls hl => ?_)
          refine lv_goto (tgt := 4) hx hb dX1_wrongAnswers_37 (by decide) ?_
          exact ih4 x1 (x2 + 1) _ _ _ hf hP hD hS (lv_sub hl [1, 2, 0] rfl)
        · have hf := if_f c2 hf
          refine lv_iinc (v := (x1 + 1)) (lv' := [(1, .int (x1 + 1)), (0, .ref Ca), (2, .int x2)]) hx hb dX1_wrongAnswers_31 hl (k := 1) rfl rfl (by decide) rfl (fun ls hl => ?_)
          refine lv_iinc (v := (x2 + 1)) (lv' := [(2, .int (x2 + 1)), (1, .int (x1 + 1)), (0, .ref Ca)]) hx hb dX1_wrongAnswers_34 hl (k := 2) rfl rfl (by decide) rfl (fun ls hl => ?_)
          refine lv_goto (tgt := 4) hx hb dX1_wrongAnswers_37 (by decide) ?_
          exact ih4 (x1 + 1) (x2 + 1) _ _ _ hf hP hD hS (lv_sub hl [2, 1, 0] rfl)
  refine lv_iconst (v := (0 : Int32)) hx hb dX1_wrongAnswers_0 (by decide) ?_
  refine lv_istore_n (lv' := [(1, .int (0 : Int32)), (0, .ref Ca)]) hx hb dX1_wrongAnswers_1 rfl hl (by decide) rfl (fun ls hl => ?_)
  refine lv_iconst (v := (0 : Int32)) hx hb dX1_wrongAnswers_2 (by decide) ?_
  refine lv_istore_n (lv' := [(2, .int (0 : Int32)), (1, .int (0 : Int32)), (0, .ref Ca)]) hx hb dX1_wrongAnswers_3 rfl hl (by decide) rfl (fun ls hl => ?_)
  exact L4  fuel (0 : Int32) (0 : Int32) _ _ _ hf hP hD hS (lv_sub hl [2, 1, 0] rfl)
set_option maxRecDepth 100000 in
set_option maxHeartbeats 4000000 in
theorem kX5_size (l : Launch) (D : va_G) (cI cC cS : ClassId) (Ha Ha_states : Nat) (H_size : Int32) (H_b : Nat → Nat) (H_e : Nat → Nat) (H_v : Nat → Nat) (H_re : Nat → Nat → Int32) (H_va : Nat → Nat → Int32) (H_no : Nat → Int32) (H_ro : Nat → Int32) (o : Int32) (hf : fX5_size H_size = o) : CI l D yX5_size wsX5_size ({ frames := 0, cells := 0, slots := 0, locals := 0 } : Room) (tysK cI cC cS) [.ref Ha] (sh_X5 Ha Ha_states cI cC cS H_size H_b H_e H_v H_re H_va H_no H_ro) o (sh_X5 Ha Ha_states cI cC cS H_size H_b H_e H_v H_re H_va H_no H_ro) := by
  refine met_i (cc := cX5_size) (maxL := 1) (ret := (some .int)) (by decide) rfl (Nat.le_of_ble_eq_true rfl) ?_
  intro p e s m args below meth c R Q A F hR hQ hP hK hD hA hS ls hl
  obtain ⟨hx, hb, hr, hts, hml, hlocks, hown⟩ := F
  have hown : s.vm.findClass RX5 = some m.cls := hown
  have hi_X5 : ∀ w ∈ u_ws RX5 TX5 2, w ∈ wsX5_size := fun w h => List.mem_cons_of_mem _ (List.mem_append_right _ h)
  have q18 := hts (.fieldLink RX5 18 "ChangingRounds$History" "size" "I") (by decide +kernel)
  have hl : lv_has ls 1 [(0, .ref Ha)] := hl
  unfold fX5_size at hf
  refine lv_aload_n hx hb dX5_size_0 rfl (lv_at hl 0 rfl) ?_
  refine va_get (D := D) (ci := 3) (v := .int H_size) (C := RX5) (T := TX5) (N := 2) hx hb hts hi_X5 hown hK hP 0 rfl rfl 1 (by decide) q18 (fun _ h9 => h9) rfl dX5_size_1 ?_
  subst hf
  exact rt_i hx hb hr hlocks hQ hK hP hD hS rfl dX5_size_4
set_option maxRecDepth 100000 in
set_option maxHeartbeats 4000000 in
theorem kX8_length (l : Launch) (D : va_G) (cI cC cS : ClassId) (Xa Xa_characters : Nat) (X_characters : Nat → Int32) (X_length : Int32) (X_kind : Int32) (X_start : Int32) (X_end : Int32) (o : Int32) (hf : fX8_length X_length = o) : CI l D yX8_length wsX8_length ({ frames := 0, cells := 0, slots := 0, locals := 0 } : Room) (tysK cI cC cS) [.ref Xa] (sh_X8 Xa Xa_characters cI cC cS X_characters X_length X_kind X_start X_end) o (sh_X8 Xa Xa_characters cI cC cS X_characters X_length X_kind X_start X_end) := by
  refine met_i (cc := cX8_length) (maxL := 1) (ret := (some .int)) (by decide) rfl (Nat.le_of_ble_eq_true rfl) ?_
  intro p e s m args below meth c R Q A F hR hQ hP hK hD hA hS ls hl
  obtain ⟨hx, hb, hr, hts, hml, hlocks, hown⟩ := F
  have hown : s.vm.findClass RX8 = some m.cls := hown
  have hi_X8 : ∀ w ∈ u_ws RX8 TX8 5, w ∈ wsX8_length := fun w h => List.mem_cons_of_mem _ (List.mem_append_right _ h)
  have q15 := hts (.fieldLink RX8 15 "ChangingRounds$ScheduleText" "length" "I") (by decide +kernel)
  have hl : lv_has ls 1 [(0, .ref Xa)] := hl
  unfold fX8_length at hf
  refine lv_aload_n hx hb dX8_length_0 rfl (lv_at hl 0 rfl) ?_
  refine va_get (D := D) (ci := 5) (v := .int X_length) (C := RX8) (T := TX8) (N := 5) hx hb hts hi_X8 hown hK hP 0 rfl rfl 1 (by decide) q15 (fun _ h9 => h9) rfl dX8_length_1 ?_
  subst hf
  exact rt_i hx hb hr hlocks hQ hK hP hD hS rfl dX8_length_4
set_option maxRecDepth 100000 in
set_option maxHeartbeats 4000000 in
theorem kX8_isFull (l : Launch) (D : va_G) (cI cC cS : ClassId) (Xa Xa_characters : Nat) (X_characters : Nat → Int32) (X_length : Int32) (X_kind : Int32) (X_start : Int32) (X_end : Int32) (o : Bool) (hf : fX8_isFull X_length = o) : CI l D yX8_isFull wsX8_isFull ({ frames := 0, cells := 0, slots := 0, locals := 0 } : Room) (tysK cI cC cS) [.ref Xa] (sh_X8 Xa Xa_characters cI cC cS X_characters X_length X_kind X_start X_end) (b2i o) (sh_X8 Xa Xa_characters cI cC cS X_characters X_length X_kind X_start X_end) := by
  refine met_i (cc := cX8_isFull) (maxL := 1) (ret := (some .boolean)) (by decide) rfl (Nat.le_of_ble_eq_true rfl) ?_
  intro p e s m args below meth c R Q A F hR hQ hP hK hD hA hS ls hl
  obtain ⟨hx, hb, hr, hts, hml, hlocks, hown⟩ := F
  have hown : s.vm.findClass RX8 = some m.cls := hown
  have hi_X8 : ∀ w ∈ u_ws RX8 TX8 5, w ∈ wsX8_isFull := fun w h => List.mem_cons_of_mem _ (List.mem_append_right _ h)
  have q15 := hts (.fieldLink RX8 15 "ChangingRounds$ScheduleText" "length" "I") (by decide +kernel)
  have hl : lv_has ls 1 [(0, .ref Xa)] := hl
  unfold fX8_isFull at hf
  refine lv_aload_n hx hb dX8_isFull_0 rfl (lv_at hl 0 rfl) ?_
  refine va_get (D := D) (ci := 5) (v := .int X_length) (C := RX8) (T := TX8) (N := 5) hx hb hts hi_X8 hown hK hP 0 rfl rfl 1 (by decide) q15 (fun _ h9 => h9) rfl dX8_isFull_1 ?_
  refine lv_bipush (v := (120 : Int32)) hx hb dX8_isFull_4 (by decide) ?_
  refine lv_icmp_lt (tgt := 13) hx hb dX8_isFull_6 (by decide) (fun c1 => ?_) (fun c1 => ?_)
  · have hf := if_t c1 hf
    refine lv_iconst (v := (0 : Int32)) hx hb dX8_isFull_13 (by decide) ?_
    subst hf
    exact rt_z (ty := .boolean) hx hb hr rfl hlocks hQ hK hP hD hS rfl dX8_isFull_14
  · have hf := if_f c1 hf
    refine lv_iconst (v := (1 : Int32)) hx hb dX8_isFull_9 (by decide) ?_
    refine lv_goto (tgt := 14) hx hb dX8_isFull_10 (by decide) ?_
    subst hf
    exact rt_z (ty := .boolean) hx hb hr rfl hlocks hQ hK hP hD hS rfl dX8_isFull_14
set_option maxRecDepth 100000 in
set_option maxHeartbeats 4000000 in
theorem kX8_append (l : Launch) (D : va_G) (cI cC cS : ClassId) (Xa Xa_characters : Nat) (x1 : Int32) (X_characters : Nat → Int32) (X_length : Int32) (X_kind : Int32) (X_start : Int32) (X_end : Int32) (o : (Nat → Int32) × Int32) (hf : fX8_append x1 X_characters X_length = some o) : CV l D yX8_append wsX8_append ({ frames := 1, cells := 0, slots := 0, locals := 20 } : Room) (tysK cI cC cS) [.ref Xa, .int x1] (sh_X8 Xa Xa_characters cI cC cS X_characters X_length X_kind X_start X_end) (sh_X8 Xa Xa_characters cI cC cS o.1 o.2 X_kind X_start X_end) := by
  refine met_v (cc := cX8_append) (maxL := 2) (ret := none) (by decide) rfl (Nat.le_of_ble_eq_true rfl) ?_
  intro p e s m args below meth c R Q A F hR hQ hP hK hD hA hS ls hl
  obtain ⟨hx, hb, hr, hts, hml, hlocks, hown⟩ := F
  have hown : s.vm.findClass RX8 = some m.cls := hown
  have hi_X8 : ∀ w ∈ u_ws RX8 TX8 5, w ∈ wsX8_append := fun w h => List.mem_cons_of_mem _ (List.mem_append_right _ h)
  have q9 := hts (.fieldLink RX8 9 "ChangingRounds$ScheduleText" "characters" "[C") (by decide +kernel)
  have q15 := hts (.fieldLink RX8 15 "ChangingRounds$ScheduleText" "length" "I") (by decide +kernel)
  have hl : lv_has ls 2 [(0, .ref Xa), (1, .int x1)] := hl
  unfold fX8_append at hf
  refine lv_aload_n hx hb dX8_append_0 rfl (lv_at hl 0 rfl) ?_
  refine cv_i (ci := 5) (q := (RX8, TX8, 5)) (As := []) (rest := []) hx hb hml hown hts hK hP hD hA hS (kX8_isFull l D cI cC cS Xa Xa_characters  X_characters X_length X_kind X_start X_end (fX8_isFull X_length) rfl) (cwV 0 hts gX8_append_X8_isFull rfl rfl rfl (by decide +kernel) (by subst hR; exact ⟨Nat.le_of_ble_eq_true rfl, Nat.le_of_ble_eq_true rfl⟩)) [0, 1] [] [0, 1] [] (sh_X8 Xa Xa_characters cI cC cS X_characters X_length X_kind X_start X_end) rfl rfl rfl rfl (by decide) rfl rfl rfl rfl rfl rfl hl.1 rfl (Nat.le_of_ble_eq_true rfl) ⟨Nat.zero_le _, Nat.zero_le _⟩ dX8_append_1 (fun H locs hP hD hS => ?_)
  refine lv_if_ne (tgt := 28) hx hb dX8_append_4 (by decide) (fun c1 => ?_) (fun c1 => ?_)
  · have hf := if_f c1 hf
    have hf := Option.some.inj hf
    subst hf
    exact rt_v hx hb hr hlocks hQ hK hP hD hS dX8_append_28
  · have hf := if_t c1 hf
    refine lv_aload_n hx hb dX8_append_7 rfl (lv_at hl 0 rfl) ?_
    refine va_get (D := D) (ci := 5) (v := .ref Xa_characters) (C := RX8) (T := TX8) (N := 5) hx hb hts hi_X8 hown hK hP 0 rfl rfl 0 (by decide) q9 (fun _ h9 => h9) rfl dX8_append_8 ?_
    refine lv_aload_n hx hb dX8_append_11 rfl (lv_at hl 0 rfl) ?_
    refine va_get (D := D) (ci := 5) (v := .int X_length) (C := RX8) (T := TX8) (N := 5) hx hb hts hi_X8 hown hK hP 0 rfl rfl 1 (by decide) q15 (fun _ h9 => h9) rfl dX8_append_12 ?_
    refine lv_iload_n hx hb dX8_append_15 rfl (lv_at hl 1 rfl) ?_
    refine lv_i2c (v := (x1.toUInt32 % 65536).toInt32) hx hb dX8_append_16 rfl ?_
    obtain ⟨hz, hf⟩ := ck_some hf
    refine sx_cast (j := X_length.toNatClampNeg) hx hb hK hP hD hS 1 1 rfl rfl (inb_vp hz) rfl dX8_append_17 (sh_X8 Xa Xa_characters cI cC cS (upd X_characters X_length.toNatClampNeg (vp_nar .char ((x1.toUInt32 % 65536).toInt32))) X_length X_kind X_start X_end) rfl (fun H locs hP hD hS => ?_)
    refine lv_aload_n hx hb dX8_append_18 rfl (lv_at hl 0 rfl) ?_
    refine lv_dup hx hb dX8_append_19 rfl ?_
    refine va_get (D := D) (ci := 5) (v := .int X_length) (C := RX8) (T := TX8) (N := 5) hx hb hts hi_X8 hown hK hP 0 rfl rfl 1 (by decide) q15 (fun _ h9 => h9) rfl dX8_append_20 ?_
    refine lv_iconst (v := (1 : Int32)) hx hb dX8_append_23 (by decide) ?_
    refine lv_iadd hx hb dX8_append_24 ?_
    refine sx_put (D := D) (ci := 5) (v := .int (X_length + (1 : Int32))) (ty := .int) (C := RX8) (T := TX8) (N := 5) hx hb hts hi_X8 tyX8 tyX8_ok nmX8 hown hK hP hD hS 0 rfl rfl 1 (by decide) q15 (fun _ h9 => h9) rfl (by decide +kernel) rfl rfl (Nat.le_of_ble_eq_true rfl) dX8_append_25 (sh_X8 Xa Xa_characters cI cC cS (upd X_characters X_length.toNatClampNeg (vp_nar .char ((x1.toUInt32 % 65536).toInt32))) (X_length + (1 : Int32)) X_kind X_start X_end) rfl (fun H locs hP hD hS => ?_)
    have hf := Option.some.inj hf
    subst hf
    exact rt_v hx hb hr hlocks hQ hK hP hD hS dX8_append_28
set_option maxRecDepth 100000 in
set_option maxHeartbeats 4000000 in
theorem kX8_clear (l : Launch) (D : va_G) (cI cC cS : ClassId) (Xa Xa_characters : Nat) (X_characters : Nat → Int32) (X_length : Int32) (X_kind : Int32) (X_start : Int32) (X_end : Int32) (o : Int32) (hf : fX8_clear X_length = o) : CV l D yX8_clear wsX8_clear ({ frames := 0, cells := 0, slots := 0, locals := 0 } : Room) (tysK cI cC cS) [.ref Xa] (sh_X8 Xa Xa_characters cI cC cS X_characters X_length X_kind X_start X_end) (sh_X8 Xa Xa_characters cI cC cS X_characters o X_kind X_start X_end) := by
  refine met_v (cc := cX8_clear) (maxL := 1) (ret := none) (by decide) rfl (Nat.le_of_ble_eq_true rfl) ?_
  intro p e s m args below meth c R Q A F hR hQ hP hK hD hA hS ls hl
  obtain ⟨hx, hb, hr, hts, hml, hlocks, hown⟩ := F
  have hown : s.vm.findClass RX8 = some m.cls := hown
  have hi_X8 : ∀ w ∈ u_ws RX8 TX8 5, w ∈ wsX8_clear := fun w h => List.mem_cons_of_mem _ (List.mem_append_right _ h)
  have q15 := hts (.fieldLink RX8 15 "ChangingRounds$ScheduleText" "length" "I") (by decide +kernel)
  have hl : lv_has ls 1 [(0, .ref Xa)] := hl
  unfold fX8_clear at hf
  refine lv_aload_n hx hb dX8_clear_0 rfl (lv_at hl 0 rfl) ?_
  refine lv_iconst (v := (0 : Int32)) hx hb dX8_clear_1 (by decide) ?_
  refine sx_put (D := D) (ci := 5) (v := .int (0 : Int32)) (ty := .int) (C := RX8) (T := TX8) (N := 5) hx hb hts hi_X8 tyX8 tyX8_ok nmX8 hown hK hP hD hS 0 rfl rfl 1 (by decide) q15 (fun _ h9 => h9) rfl (by decide +kernel) rfl rfl (Nat.le_of_ble_eq_true rfl) dX8_clear_2 (sh_X8 Xa Xa_characters cI cC cS X_characters (0 : Int32) X_kind X_start X_end) rfl (fun H locs hP hD hS => ?_)
  subst hf
  exact rt_v hx hb hr hlocks hQ hK hP hD hS dX8_clear_5
set_option maxRecDepth 100000 in
set_option maxHeartbeats 4000000 in
theorem kX8_characterAt (l : Launch) (D : va_G) (cI cC cS : ClassId) (Xa Xa_characters : Nat) (x1 : Int32) (X_characters : Nat → Int32) (X_length : Int32) (X_kind : Int32) (X_start : Int32) (X_end : Int32) (o : Int32) (hf : fX8_characterAt x1 X_characters X_length = some o) : CI l D yX8_characterAt wsX8_characterAt ({ frames := 0, cells := 0, slots := 0, locals := 0 } : Room) (tysK cI cC cS) [.ref Xa, .int x1] (sh_X8 Xa Xa_characters cI cC cS X_characters X_length X_kind X_start X_end) o (sh_X8 Xa Xa_characters cI cC cS X_characters X_length X_kind X_start X_end) := by
  refine met_i (cc := cX8_characterAt) (maxL := 2) (ret := (some .char)) (by decide) rfl (Nat.le_of_ble_eq_true rfl) ?_
  intro p e s m args below meth c R Q A F hR hQ hP hK hD hA hS ls hl
  obtain ⟨hx, hb, hr, hts, hml, hlocks, hown⟩ := F
  have hown : s.vm.findClass RX8 = some m.cls := hown
  have hi_X8 : ∀ w ∈ u_ws RX8 TX8 5, w ∈ wsX8_characterAt := fun w h => List.mem_cons_of_mem _ (List.mem_append_right _ h)
  have q15 := hts (.fieldLink RX8 15 "ChangingRounds$ScheduleText" "length" "I") (by decide +kernel)
  have q9 := hts (.fieldLink RX8 9 "ChangingRounds$ScheduleText" "characters" "[C") (by decide +kernel)
  have hl : lv_has ls 2 [(0, .ref Xa), (1, .int x1)] := hl
  unfold fX8_characterAt at hf
  refine lv_iload_n hx hb dX8_characterAt_0 rfl (lv_at hl 1 rfl) ?_
  refine lv_if_lt (tgt := 21) hx hb dX8_characterAt_1 (by decide) (fun c1 => ?_) (fun c1 => ?_)
  · have hf := if_t c1 hf
    refine lv_bipush (v := (32 : Int32)) hx hb dX8_characterAt_21 (by decide) ?_
    obtain ⟨hz, hf⟩ := ck_some hf
    have hf := Option.some.inj hf
    subst hf
    exact rt_z (ty := .char) hx hb hr (isc_nar hz) hlocks hQ hK hP hD hS rfl dX8_characterAt_23
  · have hf := if_f c1 hf
    refine lv_iload_n hx hb dX8_characterAt_4 rfl (lv_at hl 1 rfl) ?_
    refine lv_aload_n hx hb dX8_characterAt_5 rfl (lv_at hl 0 rfl) ?_
    refine va_get (D := D) (ci := 5) (v := .int X_length) (C := RX8) (T := TX8) (N := 5) hx hb hts hi_X8 hown hK hP 0 rfl rfl 1 (by decide) q15 (fun _ h9 => h9) rfl dX8_characterAt_6 ?_
    refine lv_icmp_ge (tgt := 21) hx hb dX8_characterAt_9 (by decide) (fun c2 => ?_) (fun c2 => ?_)
    · have hf := if_t c2 hf
      refine lv_bipush (v := (32 : Int32)) hx hb dX8_characterAt_21 (by decide) ?_
      obtain ⟨hz, hf⟩ := ck_some hf
      have hf := Option.some.inj hf
      subst hf
      exact rt_z (ty := .char) hx hb hr (isc_nar hz) hlocks hQ hK hP hD hS rfl dX8_characterAt_23
    · have hf := if_f c2 hf
      refine lv_aload_n hx hb dX8_characterAt_12 rfl (lv_at hl 0 rfl) ?_
      refine va_get (D := D) (ci := 5) (v := .ref Xa_characters) (C := RX8) (T := TX8) (N := 5) hx hb hts hi_X8 hown hK hP 0 rfl rfl 0 (by decide) q9 (fun _ h9 => h9) rfl dX8_characterAt_13 ?_
      refine lv_iload_n hx hb dX8_characterAt_16 rfl (lv_at hl 1 rfl) ?_
      obtain ⟨hz, hf⟩ := ck_some hf
      refine sx_cald (j := x1.toNatClampNeg) hx hb hK hP 1 1 rfl rfl (inb_vp hz) rfl dX8_characterAt_17 ?_
      refine lv_goto (tgt := 23) hx hb dX8_characterAt_18 (by decide) ?_
      obtain ⟨hz, hf⟩ := ck_some hf
      have hf := Option.some.inj hf
      subst hf
      exact rt_z (ty := .char) hx hb hr (isc_nar hz) hlocks hQ hK hP hD hS rfl dX8_characterAt_23
set_option maxRecDepth 100000 in
set_option maxHeartbeats 4000000 in
theorem kX8_kindAt (l : Launch) (D : va_G) (cI cC cS : ClassId) (Xa Xa_characters : Nat) (x1 : Int32) (X_characters : Nat → Int32) (X_length : Int32) (X_kind : Int32) (X_start : Int32) (X_end : Int32) (o : Int32) (hf : fX8_kindAt x1 X_characters X_length = some o) : CI l D yX8_kindAt wsX8_kindAt ({ frames := 1, cells := 0, slots := 0, locals := 21 } : Room) (tysK cI cC cS) [.ref Xa, .int x1] (sh_X8 Xa Xa_characters cI cC cS X_characters X_length X_kind X_start X_end) o (sh_X8 Xa Xa_characters cI cC cS X_characters X_length X_kind X_start X_end) := by
  refine met_i (cc := cX8_kindAt) (maxL := 3) (ret := (some .int)) (by decide) rfl (Nat.le_of_ble_eq_true rfl) ?_
  intro p e s m args below meth c R Q A F hR hQ hP hK hD hA hS ls hl
  obtain ⟨hx, hb, hr, hts, hml, hlocks, hown⟩ := F
  have hown : s.vm.findClass RX8 = some m.cls := hown
  have hi_X8 : ∀ w ∈ u_ws RX8 TX8 5, w ∈ wsX8_kindAt := fun w h => List.mem_cons_of_mem _ (List.mem_append_right _ h)
  have q15 := hts (.fieldLink RX8 15 "ChangingRounds$ScheduleText" "length" "I") (by decide +kernel)
  have hl : lv_has ls 3 [(0, .ref Xa), (1, .int x1)] := hl
  unfold fX8_kindAt at hf
  have J44 : ∀ (x2 : Int32) (H : Heap) (locs : List Loc) (ls : Array Slot), fX8_kindAt_b44 x2 = some o → va_P D vwCl (sh_X8 Xa Xa_characters cI cC cS X_characters X_length X_kind X_start X_end) H → va_D A (sh_X8 Xa Xa_characters cI cC cS X_characters X_length X_kind X_start X_end) → va_S A s.heap H locs → lv_has ls 3 [(2, .int x2)] → W p l e R s m args below meth c H locs 0 0 Q (F0 m 44 ls []) := by
    intro x2 H locs ls hf hP hD hS hl
    unfold fX8_kindAt_b44 at hf
    refine lv_iload_n hx hb dX8_kindAt_44 rfl (lv_at hl 0 rfl) ?_
    refine lv_bipush (v := (59 : Int32)) hx hb dX8_kindAt_45 (by decide) ?_
    refine lv_icmp_ne (tgt := 54) hx hb dX8_kindAt_47 (by decide) (fun c1 => ?_) (fun c1 => ?_)
    · have hf := if_f c1 hf
      refine lv_iconst (v := (4 : Int32)) hx hb dX8_kindAt_54 (by decide) ?_
      have hf := Option.some.inj hf
      subst hf
      exact rt_i hx hb hr hlocks hQ hK hP hD hS rfl dX8_kindAt_55
    · have hf := if_t c1 hf
      refine lv_iconst (v := (3 : Int32)) hx hb dX8_kindAt_50 (by decide) ?_
      refine lv_goto (tgt := 55) hx hb dX8_kindAt_51 (by decide) ?_
      have hf := Option.some.inj hf
      subst hf
      exact rt_i hx hb hr hlocks hQ hK hP hD hS rfl dX8_kindAt_55
  have J30 : ∀ (x2 : Int32) (H : Heap) (locs : List Loc) (ls : Array Slot), fX8_kindAt_b30 x2 = some o → va_P D vwCl (sh_X8 Xa Xa_characters cI cC cS X_characters X_length X_kind X_start X_end) H → va_D A (sh_X8 Xa Xa_characters cI cC cS X_characters X_length X_kind X_start X_end) → va_S A s.heap H locs → lv_has ls 3 [(2, .int x2)] → W p l e R s m args below meth c H locs 0 0 Q (F0 m 30 ls []) := by
    intro x2 H locs ls hf hP hD hS hl
    unfold fX8_kindAt_b30 at hf
    refine lv_iload_n hx hb dX8_kindAt_30 rfl (lv_at hl 0 rfl) ?_
    refine lv_bipush (v := (48 : Int32)) hx hb dX8_kindAt_31 (by decide) ?_
    refine lv_icmp_lt (tgt := 44) hx hb dX8_kindAt_33 (by decide) (fun c2 => ?_) (fun c2 => ?_)
    · have hf := if_t c2 hf
      exact J44 x2 _ _ _ hf hP hD hS (lv_sub hl [0] rfl)
    · have hf := if_f c2 hf
      refine lv_iload_n hx hb dX8_kindAt_36 rfl (lv_at hl 0 rfl) ?_
      refine lv_bipush (v := (57 : Int32)) hx hb dX8_kindAt_37 (by decide) ?_
      refine lv_icmp_gt (tgt := 44) hx hb dX8_kindAt_39 (by decide) (fun c3 => ?_) (fun c3 => ?_)
      · have hf := if_t c3 hf
        exact J44 x2 _ _ _ hf hP hD hS (lv_sub hl [0] rfl)
      · have hf := if_f c3 hf
        refine lv_iconst (v := (2 : Int32)) hx hb dX8_kindAt_42 (by decide) ?_
        have hf := Option.some.inj hf
        subst hf
        exact rt_i hx hb hr hlocks hQ hK hP hD hS rfl dX8_kindAt_43
  refine lv_iload_n hx hb dX8_kindAt_0 rfl (lv_at hl 1 rfl) ?_
  refine lv_aload_n hx hb dX8_kindAt_1 rfl (lv_at hl 0 rfl) ?_
  refine va_get (D := D) (ci := 5) (v := .int X_length) (C := RX8) (T := TX8) (N := 5) hx hb hts hi_X8 hown hK hP 0 rfl rfl 1 (by decide) q15 (fun _ h9 => h9) rfl dX8_kindAt_2 ?_
  refine lv_icmp_lt (tgt := 10) hx hb dX8_kindAt_5 (by decide) (fun c4 => ?_) (fun c4 => ?_)
  · have hf := if_t c4 hf
    refine lv_aload_n hx hb dX8_kindAt_10 rfl (lv_at hl 0 rfl) ?_
    refine lv_iload_n hx hb dX8_kindAt_11 rfl (lv_at hl 1 rfl) ?_
    obtain ⟨o5, ho5, hf⟩ := bd_some hf
    refine cv_i (ci := 5) (q := (RX8, TX8, 5)) (As := [.int x1]) (rest := []) hx hb hml hown hts hK hP hD hA hS (kX8_characterAt l D cI cC cS Xa Xa_characters x1 X_characters X_length X_kind X_start X_end o5 ho5) (cwV 1 hts gX8_kindAt_X8_characterAt rfl rfl rfl (by decide +kernel) (by subst hR; exact ⟨Nat.le_of_ble_eq_true rfl, Nat.le_of_ble_eq_true rfl⟩)) [0, 1] [] [0, 1] [] (sh_X8 Xa Xa_characters cI cC cS X_characters X_length X_kind X_start X_end) rfl rfl rfl rfl (by decide) rfl rfl rfl rfl rfl rfl hl.1 rfl (Nat.le_of_ble_eq_true rfl) ⟨Nat.zero_le _, Nat.zero_le _⟩ dX8_kindAt_12 (fun H locs hP hD hS => ?_)
    refine lv_istore_n (lv' := [(2, .int o5), (0, .ref Xa), (1, .int x1)]) hx hb dX8_kindAt_15 rfl hl (by decide) rfl (fun ls hl => ?_)
    refine lv_iload_n hx hb dX8_kindAt_16 rfl (lv_at hl 0 rfl) ?_
    refine lv_bipush (v := (97 : Int32)) hx hb dX8_kindAt_17 (by decide) ?_
    refine lv_icmp_lt (tgt := 30) hx hb dX8_kindAt_19 (by decide) (fun c6 => ?_) (fun c6 => ?_)
    · have hf := if_t c6 hf
      exact J30 o5 _ _ _ hf hP hD hS (lv_sub hl [0] rfl)
    · have hf := if_f c6 hf
      refine lv_iload_n hx hb dX8_kindAt_22 rfl (lv_at hl 0 rfl) ?_
      refine lv_bipush (v := (122 : Int32)) hx hb dX8_kindAt_23 (by decide) ?_
      refine lv_icmp_gt (tgt := 30) hx hb dX8_kindAt_25 (by decide) (fun c7 => ?_) (fun c7 => ?_)
      · have hf := if_t c7 hf
        exact J30 o5 _ _ _ hf hP hD hS (lv_sub hl [0] rfl)
      · have hf := if_f c7 hf
        refine lv_iconst (v := (1 : Int32)) hx hb dX8_kindAt_28 (by decide) ?_
        have hf := Option.some.inj hf
        subst hf
        exact rt_i hx hb hr hlocks hQ hK hP hD hS rfl dX8_kindAt_29
  · have hf := if_f c4 hf
    refine lv_iconst (v := (0 : Int32)) hx hb dX8_kindAt_8 (by decide) ?_
    have hf := Option.some.inj hf
    subst hf
    exact rt_i hx hb hr hlocks hQ hK hP hD hS rfl dX8_kindAt_9
set_option maxRecDepth 100000 in
set_option maxHeartbeats 4000000 in
theorem kX8_nextToken (l : Launch) (D : va_G) (cI cC cS : ClassId) (Xa Xa_characters : Nat) (X_characters : Nat → Int32) (X_length : Int32) (X_kind : Int32) (X_start : Int32) (X_end : Int32) (o : Int32 × Int32 × Int32) (hf : fX8_nextToken X_characters X_length X_kind X_start X_end = some o) : CV l D yX8_nextToken wsX8_nextToken ({ frames := 2, cells := 0, slots := 0, locals := 43 } : Room) (tysK cI cC cS) [.ref Xa] (sh_X8 Xa Xa_characters cI cC cS X_characters X_length X_kind X_start X_end) (sh_X8 Xa Xa_characters cI cC cS X_characters X_length o.1 o.2.1 o.2.2) := by
  refine met_v (cc := cX8_nextToken) (maxL := 1) (ret := none) (by decide) rfl (Nat.le_of_ble_eq_true rfl) ?_
  intro p e s m args below meth c R Q A F hR hQ hP hK hD hA hS ls hl
  obtain ⟨hx, hb, hr, hts, hml, hlocks, hown⟩ := F
  have hown : s.vm.findClass RX8 = some m.cls := hown
  have hi_X8 : ∀ w ∈ u_ws RX8 TX8 5, w ∈ wsX8_nextToken := fun w h => List.mem_cons_of_mem _ (List.mem_append_right _ h)
  have q29 := hts (.fieldLink RX8 29 "ChangingRounds$ScheduleText" "end" "I") (by decide +kernel)
  have q42 := hts (.fieldLink RX8 42 "ChangingRounds$ScheduleText" "start" "I") (by decide +kernel)
  have q15 := hts (.fieldLink RX8 15 "ChangingRounds$ScheduleText" "length" "I") (by decide +kernel)
  have q35 := hts (.fieldLink RX8 35 "ChangingRounds$ScheduleText" "kind" "I") (by decide +kernel)
  have hl : lv_has ls 1 [(0, .ref Xa)] := hl
  unfold fX8_nextToken at hf
  have L81 : ∀ (X_kind : Int32) (X_start : Int32) (n81 : Nat) (X_end : Int32) (H : Heap) (locs : List Loc) (ls : Array Slot), fX8_nextToken_l81 X_characters X_length X_kind X_start n81 X_end = some o → va_P D vwCl (sh_X8 Xa Xa_characters cI cC cS X_characters X_length X_kind X_start X_end) H → va_D A (sh_X8 Xa Xa_characters cI cC cS X_characters X_length X_kind X_start X_end) → va_S A s.heap H locs → lv_has ls 1 [(0, .ref Xa)] → W p l e R s m args below meth c H locs 0 0 Q (F0 m 81 ls []) := by
    intro X_kind X_start n81
    induction n81 with
    | zero => intro X_end H locs ls hf; cases (show (none : Option _) = some _ from hf)
    | succ n81 ih81 =>
      intro X_end H locs ls hf hP hD hS hl
      rw [fX8_nextToken_l81] at hf
      refine lv_aload_n hx hb dX8_nextToken_81 rfl (lv_at hl 0 rfl) ?_
      refine va_get (D := D) (ci := 5) (v := .int X_end) (C := RX8) (T := TX8) (N := 5) hx hb hts hi_X8 hown hK hP 0 rfl rfl 4 (by decide) q29 (fun _ h9 => h9) rfl dX8_nextToken_82 ?_
      refine lv_aload_n hx hb dX8_nextToken_85 rfl (lv_at hl 0 rfl) ?_
      refine va_get (D := D) (ci := 5) (v := .int X_length) (C := RX8) (T := TX8) (N := 5) hx hb hts hi_X8 hown hK hP 0 rfl rfl 1 (by decide) q15 (fun _ h9 => h9) rfl dX8_nextToken_86 ?_
      refine lv_icmp_ge (tgt := 137) hx hb dX8_nextToken_89 (by decide) (fun c1 => ?_) (fun c1 => ?_)
      · have hf := if_t c1 hf
        have hf := Option.some.inj hf
        subst hf
        exact rt_v hx hb hr hlocks hQ hK hP hD hS dX8_nextToken_137
      · have hf := if_f c1 hf
        refine lv_aload_n hx hb dX8_nextToken_92 rfl (lv_at hl 0 rfl) ?_
        refine lv_aload_n hx hb dX8_nextToken_93 rfl (lv_at hl 0 rfl) ?_
        refine va_get (D := D) (ci := 5) (v := .int X_end) (C := RX8) (T := TX8) (N := 5) hx hb hts hi_X8 hown hK hP 0 rfl rfl 4 (by decide) q29 (fun _ h9 => h9) rfl dX8_nextToken_94 ?_
        obtain ⟨o2, ho2, hf⟩ := bd_some hf
        refine cv_i (ci := 5) (q := (RX8, TX8, 5)) (As := [.int X_end]) (rest := []) hx hb hml hown hts hK hP hD hA hS (kX8_kindAt l D cI cC cS Xa Xa_characters X_end X_characters X_length X_kind X_start X_end o2 ho2) (cwV 1 hts gX8_nextToken_X8_kindAt rfl rfl rfl (by decide +kernel) (by subst hR; exact ⟨Nat.le_of_ble_eq_true rfl, Nat.le_of_ble_eq_true rfl⟩)) [0, 1] [] [0, 1] [] (sh_X8 Xa Xa_characters cI cC cS X_characters X_length X_kind X_start X_end) rfl rfl rfl rfl (by decide) rfl rfl rfl rfl rfl rfl hl.1 rfl (Nat.le_of_ble_eq_true rfl) ⟨Nat.zero_le _, Nat.zero_le _⟩ dX8_nextToken_97 (fun H locs hP hD hS => ?_)
        refine lv_aload_n hx hb dX8_nextToken_100 rfl (lv_at hl 0 rfl) ?_
        refine va_get (D := D) (ci := 5) (v := .int X_kind) (C := RX8) (T := TX8) (N := 5) hx hb hts hi_X8 hown hK hP 0 rfl rfl 2 (by decide) q35 (fun _ h9 => h9) rfl dX8_nextToken_101 ?_
        refine lv_icmp_ne (tgt := 137) hx hb dX8_nextToken_104 (by decide) (fun c3 => ?_) (fun c3 => ?_)
        · have hf := if_f c3 hf
          have hf := Option.some.inj hf
          subst hf
          exact rt_v hx hb hr hlocks hQ hK hP hD hS dX8_nextToken_137
        · have hf := if_t c3 hf
          refine lv_aload_n hx hb dX8_nextToken_107 rfl (lv_at hl 0 rfl) ?_
          refine lv_dup hx hb dX8_nextToken_108 rfl ?_
          refine va_get (D := D) (ci := 5) (v := .int X_end) (C := RX8) (T := TX8) (N := 5) hx hb hts hi_X8 hown hK hP 0 rfl rfl 4 (by decide) q29 (fun _ h9 => h9) rfl dX8_nextToken_109 ?_
          refine lv_iconst (v := (1 : Int32)) hx hb dX8_nextToken_112 (by decide) ?_
          refine lv_iadd hx hb dX8_nextToken_113 ?_
          refine sx_put (D := D) (ci := 5) (v := .int (X_end + (1 : Int32))) (ty := .int) (C := RX8) (T := TX8) (N := 5) hx hb hts hi_X8 tyX8 tyX8_ok nmX8 hown hK hP hD hS 0 rfl rfl 4 (by decide) q29 (fun _ h9 => h9) rfl (by decide +kernel) rfl rfl (Nat.le_of_ble_eq_true rfl) dX8_nextToken_114 (sh_X8 Xa Xa_characters cI cC cS X_characters X_length X_kind X_start (X_end + (1 : Int32))) rfl (fun H locs hP hD hS => ?_)
          refine lv_goto (tgt := 81) hx hb dX8_nextToken_117 (by decide) ?_
          exact ih81 (X_end + (1 : Int32)) _ _ _ hf hP hD hS (lv_sub hl [0] rfl)
  have J45 : ∀ (X_kind : Int32) (X_start : Int32) (X_end : Int32) (H : Heap) (locs : List Loc) (ls : Array Slot), fX8_nextToken_b45 X_characters X_length X_kind X_start X_end = some o → va_P D vwCl (sh_X8 Xa Xa_characters cI cC cS X_characters X_length X_kind X_start X_end) H → va_D A (sh_X8 Xa Xa_characters cI cC cS X_characters X_length X_kind X_start X_end) → va_S A s.heap H locs → lv_has ls 1 [(0, .ref Xa)] → W p l e R s m args below meth c H locs 0 0 Q (F0 m 45 ls []) := by
    intro X_kind X_start X_end H locs ls hf hP hD hS hl
    unfold fX8_nextToken_b45 at hf
    refine lv_aload_n hx hb dX8_nextToken_45 rfl (lv_at hl 0 rfl) ?_
    refine lv_aload_n hx hb dX8_nextToken_46 rfl (lv_at hl 0 rfl) ?_
    refine va_get (D := D) (ci := 5) (v := .int X_start) (C := RX8) (T := TX8) (N := 5) hx hb hts hi_X8 hown hK hP 0 rfl rfl 3 (by decide) q42 (fun _ h9 => h9) rfl dX8_nextToken_47 ?_
    refine sx_put (D := D) (ci := 5) (v := .int X_start) (ty := .int) (C := RX8) (T := TX8) (N := 5) hx hb hts hi_X8 tyX8 tyX8_ok nmX8 hown hK hP hD hS 0 rfl rfl 4 (by decide) q29 (fun _ h9 => h9) rfl (by decide +kernel) rfl rfl (Nat.le_of_ble_eq_true rfl) dX8_nextToken_50 (sh_X8 Xa Xa_characters cI cC cS X_characters X_length X_kind X_start X_start) rfl (fun H locs hP hD hS => ?_)
    refine lv_aload_n hx hb dX8_nextToken_53 rfl (lv_at hl 0 rfl) ?_
    refine lv_aload_n hx hb dX8_nextToken_54 rfl (lv_at hl 0 rfl) ?_
    refine lv_aload_n hx hb dX8_nextToken_55 rfl (lv_at hl 0 rfl) ?_
    refine va_get (D := D) (ci := 5) (v := .int X_start) (C := RX8) (T := TX8) (N := 5) hx hb hts hi_X8 hown hK hP 0 rfl rfl 3 (by decide) q42 (fun _ h9 => h9) rfl dX8_nextToken_56 ?_
    obtain ⟨o4, ho4, hf⟩ := bd_some hf
    refine cv_i (ci := 5) (q := (RX8, TX8, 5)) (As := [.int X_start]) (rest := [.ref Xa]) hx hb hml hown hts hK hP hD hA hS (kX8_kindAt l D cI cC cS Xa Xa_characters X_start X_characters X_length X_kind X_start X_start o4 ho4) (cwV 1 hts gX8_nextToken_X8_kindAt rfl rfl rfl (by decide +kernel) (by subst hR; exact ⟨Nat.le_of_ble_eq_true rfl, Nat.le_of_ble_eq_true rfl⟩)) [0, 1] [] [0, 1] [] (sh_X8 Xa Xa_characters cI cC cS X_characters X_length X_kind X_start X_start) rfl rfl rfl rfl (by decide) rfl rfl rfl rfl rfl rfl hl.1 rfl (Nat.le_of_ble_eq_true rfl) ⟨Nat.zero_le _, Nat.zero_le _⟩ dX8_nextToken_59 (fun H locs hP hD hS => ?_)
    refine sx_put (D := D) (ci := 5) (v := .int o4) (ty := .int) (C := RX8) (T := TX8) (N := 5) hx hb hts hi_X8 tyX8 tyX8_ok nmX8 hown hK hP hD hS 0 rfl rfl 2 (by decide) q35 (fun _ h9 => h9) rfl (by decide +kernel) rfl rfl (Nat.le_of_ble_eq_true rfl) dX8_nextToken_62 (sh_X8 Xa Xa_characters cI cC cS X_characters X_length o4 X_start X_start) rfl (fun H locs hP hD hS => ?_)
    refine lv_aload_n hx hb dX8_nextToken_65 rfl (lv_at hl 0 rfl) ?_
    refine va_get (D := D) (ci := 5) (v := .int o4) (C := RX8) (T := TX8) (N := 5) hx hb hts hi_X8 hown hK hP 0 rfl rfl 2 (by decide) q35 (fun _ h9 => h9) rfl dX8_nextToken_66 ?_
    refine lv_iconst (v := (1 : Int32)) hx hb dX8_nextToken_69 (by decide) ?_
    refine lv_icmp_eq (tgt := 81) hx hb dX8_nextToken_70 (by decide) (fun c5 => ?_) (fun c5 => ?_)
    · have hf := if_t c5 hf
      exact L81 o4 X_start fuel X_start _ _ _ hf hP hD hS (lv_sub hl [0] rfl)
    · have hf := if_f c5 hf
      refine lv_aload_n hx hb dX8_nextToken_73 rfl (lv_at hl 0 rfl) ?_
      refine va_get (D := D) (ci := 5) (v := .int o4) (C := RX8) (T := TX8) (N := 5) hx hb hts hi_X8 hown hK hP 0 rfl rfl 2 (by decide) q35 (fun _ h9 => h9) rfl dX8_nextToken_74 ?_
      refine lv_iconst (v := (2 : Int32)) hx hb dX8_nextToken_77 (by decide) ?_
      refine lv_icmp_ne (tgt := 120) hx hb dX8_nextToken_78 (by decide) (fun c6 => ?_) (fun c6 => ?_)
      · have hf := if_f c6 hf
        refine lv_aload_n hx hb dX8_nextToken_120 rfl (lv_at hl 0 rfl) ?_
        refine va_get (D := D) (ci := 5) (v := .int o4) (C := RX8) (T := TX8) (N := 5) hx hb hts hi_X8 hown hK hP 0 rfl rfl 2 (by decide) q35 (fun _ h9 => h9) rfl dX8_nextToken_121 ?_
        refine lv_if_eq (tgt := 137) hx hb dX8_nextToken_124 (by decide) (fun c7 => ?_) (fun c7 => ?_)
        · have hf := if_t c7 hf
          have hf := Option.some.inj hf
          subst hf
          exact rt_v hx hb hr hlocks hQ hK hP hD hS dX8_nextToken_137
        · have hf := if_f c7 hf
          refine lv_aload_n hx hb dX8_nextToken_127 rfl (lv_at hl 0 rfl) ?_
          refine lv_dup hx hb dX8_nextToken_128 rfl ?_
          refine va_get (D := D) (ci := 5) (v := .int X_start) (C := RX8) (T := TX8) (N := 5) hx hb hts hi_X8 hown hK hP 0 rfl rfl 4 (by decide) q29 (fun _ h9 => h9) rfl dX8_nextToken_129 ?_
          refine lv_iconst (v := (1 : Int32)) hx hb dX8_nextToken_132 (by decide) ?_
          refine lv_iadd hx hb dX8_nextToken_133 ?_
          refine sx_put (D := D) (ci := 5) (v := .int (X_start + (1 : Int32))) (ty := .int) (C := RX8) (T := TX8) (N := 5) hx hb hts hi_X8 tyX8 tyX8_ok nmX8 hown hK hP hD hS 0 rfl rfl 4 (by decide) q29 (fun _ h9 => h9) rfl (by decide +kernel) rfl rfl (Nat.le_of_ble_eq_true rfl) dX8_nextToken_134 (sh_X8 Xa Xa_characters cI cC cS X_characters X_length o4 X_start (X_start + (1 : Int32))) rfl (fun H locs hP hD hS => ?_)
          have hf := Option.some.inj hf
          subst hf
          exact rt_v hx hb hr hlocks hQ hK hP hD hS dX8_nextToken_137
      · have hf := if_t c6 hf
        exact L81 o4 X_start fuel X_start _ _ _ hf hP hD hS (lv_sub hl [0] rfl)
  have L8 : ∀ (X_kind : Int32) (X_end : Int32) (n8 : Nat) (X_start : Int32) (H : Heap) (locs : List Loc) (ls : Array Slot), fX8_nextToken_l8 X_characters X_length X_kind X_end n8 X_start = some o → va_P D vwCl (sh_X8 Xa Xa_characters cI cC cS X_characters X_length X_kind X_start X_end) H → va_D A (sh_X8 Xa Xa_characters cI cC cS X_characters X_length X_kind X_start X_end) → va_S A s.heap H locs → lv_has ls 1 [(0, .ref Xa)] → W p l e R s m args below meth c H locs 0 0 Q (F0 m 8 ls []) := by
    intro X_kind X_end n8
    induction n8 with
    | zero => intro X_start H locs ls hf; cases (show (none : Option _) = some _ from hf)
    | succ n8 ih8 =>
      intro X_start H locs ls hf hP hD hS hl
      rw [fX8_nextToken_l8] at hf
      refine lv_aload_n hx hb dX8_nextToken_8 rfl (lv_at hl 0 rfl) ?_
      refine va_get (D := D) (ci := 5) (v := .int X_start) (C := RX8) (T := TX8) (N := 5) hx hb hts hi_X8 hown hK hP 0 rfl rfl 3 (by decide) q42 (fun _ h9 => h9) rfl dX8_nextToken_9 ?_
      refine lv_aload_n hx hb dX8_nextToken_12 rfl (lv_at hl 0 rfl) ?_
      refine va_get (D := D) (ci := 5) (v := .int X_length) (C := RX8) (T := TX8) (N := 5) hx hb hts hi_X8 hown hK hP 0 rfl rfl 1 (by decide) q15 (fun _ h9 => h9) rfl dX8_nextToken_13 ?_
      refine lv_icmp_ge (tgt := 45) hx hb dX8_nextToken_16 (by decide) (fun c8 => ?_) (fun c8 => ?_)
      · have hf := if_t c8 hf
        exact J45 X_kind X_start X_end _ _ _ hf hP hD hS (lv_sub hl [0] rfl)
      · have hf := if_f c8 hf
        refine lv_aload_n hx hb dX8_nextToken_19 rfl (lv_at hl 0 rfl) ?_
        refine lv_aload_n hx hb dX8_nextToken_20 rfl (lv_at hl 0 rfl) ?_
        refine va_get (D := D) (ci := 5) (v := .int X_start) (C := RX8) (T := TX8) (N := 5) hx hb hts hi_X8 hown hK hP 0 rfl rfl 3 (by decide) q42 (fun _ h9 => h9) rfl dX8_nextToken_21 ?_
        obtain ⟨o9, ho9, hf⟩ := bd_some hf
        refine cv_i (ci := 5) (q := (RX8, TX8, 5)) (As := [.int X_start]) (rest := []) hx hb hml hown hts hK hP hD hA hS (kX8_characterAt l D cI cC cS Xa Xa_characters X_start X_characters X_length X_kind X_start X_end o9 ho9) (cwV 1 hts gX8_nextToken_X8_characterAt rfl rfl rfl (by decide +kernel) (by subst hR; exact ⟨Nat.le_of_ble_eq_true rfl, Nat.le_of_ble_eq_true rfl⟩)) [0, 1] [] [0, 1] [] (sh_X8 Xa Xa_characters cI cC cS X_characters X_length X_kind X_start X_end) rfl rfl rfl rfl (by decide) rfl rfl rfl rfl rfl rfl hl.1 rfl (Nat.le_of_ble_eq_true rfl) ⟨Nat.zero_le _, Nat.zero_le _⟩ dX8_nextToken_24 (fun H locs hP hD hS => ?_)
        refine lv_bipush (v := (32 : Int32)) hx hb dX8_nextToken_27 (by decide) ?_
        refine lv_icmp_ne (tgt := 45) hx hb dX8_nextToken_29 (by decide) (fun c10 => ?_) (fun c10 => ?_)
        · have hf := if_f c10 hf
          exact J45 X_kind X_start X_end _ _ _ hf hP hD hS (lv_sub hl [0] rfl)
        · have hf := if_t c10 hf
          refine lv_aload_n hx hb dX8_nextToken_32 rfl (lv_at hl 0 rfl) ?_
          refine lv_dup hx hb dX8_nextToken_33 rfl ?_
          refine va_get (D := D) (ci := 5) (v := .int X_start) (C := RX8) (T := TX8) (N := 5) hx hb hts hi_X8 hown hK hP 0 rfl rfl 3 (by decide) q42 (fun _ h9 => h9) rfl dX8_nextToken_34 ?_
          refine lv_iconst (v := (1 : Int32)) hx hb dX8_nextToken_37 (by decide) ?_
          refine lv_iadd hx hb dX8_nextToken_38 ?_
          refine sx_put (D := D) (ci := 5) (v := .int (X_start + (1 : Int32))) (ty := .int) (C := RX8) (T := TX8) (N := 5) hx hb hts hi_X8 tyX8 tyX8_ok nmX8 hown hK hP hD hS 0 rfl rfl 3 (by decide) q42 (fun _ h9 => h9) rfl (by decide +kernel) rfl rfl (Nat.le_of_ble_eq_true rfl) dX8_nextToken_39 (sh_X8 Xa Xa_characters cI cC cS X_characters X_length X_kind (X_start + (1 : Int32)) X_end) rfl (fun H locs hP hD hS => ?_)
          refine lv_goto (tgt := 8) hx hb dX8_nextToken_42 (by decide) ?_
          exact ih8 (X_start + (1 : Int32)) _ _ _ hf hP hD hS (lv_sub hl [0] rfl)
  refine lv_aload_n hx hb dX8_nextToken_0 rfl (lv_at hl 0 rfl) ?_
  refine lv_aload_n hx hb dX8_nextToken_1 rfl (lv_at hl 0 rfl) ?_
  refine va_get (D := D) (ci := 5) (v := .int X_end) (C := RX8) (T := TX8) (N := 5) hx hb hts hi_X8 hown hK hP 0 rfl rfl 4 (by decide) q29 (fun _ h9 => h9) rfl dX8_nextToken_2 ?_
  refine sx_put (D := D) (ci := 5) (v := .int X_end) (ty := .int) (C := RX8) (T := TX8) (N := 5) hx hb hts hi_X8 tyX8 tyX8_ok nmX8 hown hK hP hD hS 0 rfl rfl 3 (by decide) q42 (fun _ h9 => h9) rfl (by decide +kernel) rfl rfl (Nat.le_of_ble_eq_true rfl) dX8_nextToken_5 (sh_X8 Xa Xa_characters cI cC cS X_characters X_length X_kind X_end X_end) rfl (fun H locs hP hD hS => ?_)
  exact L8 X_kind X_end fuel X_end _ _ _ hf hP hD hS (lv_sub hl [0] rfl)
