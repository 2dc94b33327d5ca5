set_option maxRecDepth 100000 in
set_option maxHeartbeats 4000000 in
theorem kX9_value (l : Launch) (D : va_G) (cI cC cS : ClassId) (Ta Sa Sa_roundEdges Sa_values Tr_draft Tr_history Tr_text Tr_flooding Tr_gossiping Tr_counting : Nat) (x1 : Int32) (S_roundEdges : Nat → Int32) (S_values : Nat → Int32) (S_nodes : Int32) (S_rounds : Int32) (o : Int32) (hf : fX9_value x1 S_values S_nodes = some o) : CI l D yX9_value wsX9_value ({ frames := 2, cells := 0, slots := 0, locals := 42 } : Room) (tysK cI cC cS) [.ref Ta, .int x1] (sh_X9S Ta Sa Sa_roundEdges Sa_values Tr_draft Tr_history Tr_text Tr_flooding Tr_gossiping Tr_counting cI cC cS S_roundEdges S_values S_nodes S_rounds) o (sh_X9S Ta Sa Sa_roundEdges Sa_values Tr_draft Tr_history Tr_text Tr_flooding Tr_gossiping Tr_counting cI cC cS S_roundEdges S_values S_nodes S_rounds) := by
  refine met_i (cc := cX9_value) (maxL := 2) (ret := (some .int)) (by decide) rfl (Nat.le_of_ble_eq_true rfl) ?_
  intro p e s m args below meth c R Q A F hR hQ hP hK hD hA hS ls hl
  obtain ⟨hx, hb, hr, hts, hml, hlocks, hown⟩ := F
  have hown : s.vm.findClass RX9 = some m.cls := hown
  have hi_X9 : ∀ w ∈ u_ws RX9 TX9 7, w ∈ wsX9_value := fun w h => List.mem_cons_of_mem _ (List.mem_append_left _ (List.mem_append_right _ h))
  have q10 := hts (.fieldLink RX9 10 "ChangingRounds" "schedule" "LChangingRounds$Schedule;") (by decide +kernel)
  have hl : lv_has ls 2 [(0, .ref Ta), (1, .int x1)] := hl
  unfold fX9_value at hf
  refine lv_aload_n hx hb dX9_value_0 rfl (lv_at hl 0 rfl) ?_
  refine va_get (D := D) (ci := 6) (v := .ref Sa) (C := RX9) (T := TX9) (N := 7) hx hb hts hi_X9 hown hK hP 0 rfl rfl 0 (by decide) q10 (fun _ h9 => h9) rfl dX9_value_1 ?_
  refine lv_iload_n hx hb dX9_value_4 rfl (lv_at hl 1 rfl) ?_
  refine cv_i (ci := 4) (q := (RX7, TX7, 4)) (As := [.int x1]) (rest := []) hx hb hml hown hts hK hP hD hA hS (kX7_hasNode l D cI cC cS Sa Sa_roundEdges Sa_values x1 S_roundEdges S_values S_nodes S_rounds (fX7_hasNode x1 S_nodes) rfl) (cwV 1 hts gX9_value_X7_hasNode rfl rfl rfl (by decide +kernel) (by subst hR; exact ⟨Nat.le_of_ble_eq_true rfl, Nat.le_of_ble_eq_true rfl⟩)) [1, 2, 3] [0] [0, 1, 2, 3] [(Ta, .inr (6, [.ref Sa, .ref Tr_draft, .ref Tr_history, .ref Tr_text, .ref Tr_flooding, .ref Tr_gossiping, .ref Tr_counting]))] (sh_X9S Ta Sa Sa_roundEdges Sa_values Tr_draft Tr_history Tr_text Tr_flooding Tr_gossiping Tr_counting cI cC cS S_roundEdges S_values S_nodes S_rounds) rfl rfl rfl rfl (by decide) rfl rfl rfl rfl rfl rfl hl.1 rfl (Nat.le_of_ble_eq_true rfl) ⟨Nat.zero_le _, Nat.zero_le _⟩ dX9_value_5 (fun H locs hP hD hS => ?_)
  refine lv_if_ne (tgt := 13) hx hb dX9_value_8 (by decide) (fun c1 => ?_) (fun c1 => ?_)
  · have hf := if_f c1 hf
    refine lv_aload_n hx hb dX9_value_13 rfl (lv_at hl 0 rfl) ?_
    refine va_get (D := D) (ci := 6) (v := .ref Sa) (C := RX9) (T := TX9) (N := 7) hx hb hts hi_X9 hown hK hP 0 rfl rfl 0 (by decide) q10 (fun _ h9 => h9) rfl dX9_value_14 ?_
    refine lv_iload_n hx hb dX9_value_17 rfl (lv_at hl 1 rfl) ?_
    obtain ⟨o2, ho2, hf⟩ := bd_some hf
    refine cv_i (ci := 4) (q := (RX7, TX7, 4)) (As := [.int x1]) (rest := []) hx hb hml hown hts hK hP hD hA hS (kX7_valueOf l D cI cC cS Sa Sa_roundEdges Sa_values x1 S_roundEdges S_values S_nodes S_rounds o2 ho2) (cwV 1 hts gX9_value_X7_valueOf rfl rfl rfl (by decide +kernel) (by subst hR; exact ⟨Nat.le_of_ble_eq_true rfl, Nat.le_of_ble_eq_true rfl⟩)) [1, 2, 3] [0] [0, 1, 2, 3] [(Ta, .inr (6, [.ref Sa, .ref Tr_draft, .ref Tr_history, .ref Tr_text, .ref Tr_flooding, .ref Tr_gossiping, .ref Tr_counting]))] (sh_X9S Ta Sa Sa_roundEdges Sa_values Tr_draft Tr_history Tr_text Tr_flooding Tr_gossiping Tr_counting cI cC cS S_roundEdges S_values S_nodes S_rounds) rfl rfl rfl rfl (by decide) rfl rfl rfl rfl rfl rfl hl.1 rfl (Nat.le_of_ble_eq_true rfl) ⟨Nat.zero_le _, Nat.zero_le _⟩ dX9_value_18 (fun H locs hP hD hS => ?_)
    have hf := Option.some.inj hf
    subst hf
    exact rt_i hx hb hr hlocks hQ hK hP hD hS rfl dX9_value_21
  · have hf := if_t c1 hf
    refine lv_iconst (v := (-1 : Int32)) hx hb dX9_value_11 (by decide) ?_
    have hf := Option.some.inj hf
    subst hf
    exact rt_i hx hb hr hlocks hQ hK hP hD hS rfl dX9_value_12
set_option maxRecDepth 100000 in
set_option maxHeartbeats 4000000 in
theorem kX9_appendCharacter (l : Launch) (D : va_G) (cI cC cS : ClassId) (Ta Xa Xa_characters Tr_schedule Tr_draft Tr_history Tr_flooding Tr_gossiping Tr_counting : Nat) (x1 : Int32) (X_characters : Nat → Int32) (X_length : Int32) (X_kind : Int32) (X_start : Int32) (X_end : Int32) (o : Int32 × (Nat → Int32) × Int32) (hf : fX9_appendCharacter x1 X_characters X_length = some o) : CI l D yX9_appendCharacter wsX9_appendCharacter ({ frames := 2, cells := 0, slots := 0, locals := 41 } : Room) (tysK cI cC cS) [.ref Ta, .int x1] (sh_X9X Ta Xa Xa_characters Tr_schedule Tr_draft Tr_history Tr_flooding Tr_gossiping Tr_counting cI cC cS X_characters X_length X_kind X_start X_end) o.1 (sh_X9X Ta Xa Xa_characters Tr_schedule Tr_draft Tr_history Tr_flooding Tr_gossiping Tr_counting cI cC cS o.2.1 o.2.2 X_kind X_start X_end) := by
  refine met_i (cc := cX9_appendCharacter) (maxL := 2) (ret := (some .int)) (by decide) rfl (Nat.le_of_ble_eq_true rfl) ?_
  intro p e s m args below meth c R Q A F hR hQ hP hK hD hA hS ls hl
  obtain ⟨hx, hb, hr, hts, hml, hlocks, hown⟩ := F
  have hown : s.vm.findClass RX9 = some m.cls := hown
  have hi_X9 : ∀ w ∈ u_ws RX9 TX9 7, w ∈ wsX9_appendCharacter := fun w h => List.mem_cons_of_mem _ (List.mem_append_left _ (List.mem_append_right _ h))
  have q29 := hts (.fieldLink RX9 29 "ChangingRounds" "text" "LChangingRounds$ScheduleText;") (by decide +kernel)
  have hl : lv_has ls 2 [(0, .ref Ta), (1, .int x1)] := hl
  unfold fX9_appendCharacter at hf
  refine lv_iload_n hx hb dX9_appendCharacter_0 rfl (lv_at hl 1 rfl) ?_
  refine lv_if_lt (tgt := 11) hx hb dX9_appendCharacter_1 (by decide) (fun c1 => ?_) (fun c1 => ?_)
  · have hf := if_t c1 hf
    refine lv_iconst (v := (-1 : Int32)) hx hb dX9_appendCharacter_11 (by decide) ?_
    have hf := Option.some.inj hf
    subst hf
    exact rt_i hx hb hr hlocks hQ hK hP hD hS rfl dX9_appendCharacter_12
  · have hf := if_f c1 hf
    refine lv_iload_n hx hb dX9_appendCharacter_4 rfl (lv_at hl 1 rfl) ?_
    refine lv_sipush (v := (255 : Int32)) hx hb dX9_appendCharacter_5 (by decide) ?_
    refine lv_icmp_le (tgt := 13) hx hb dX9_appendCharacter_8 (by decide) (fun c2 => ?_) (fun c2 => ?_)
    · have hf := if_t c2 hf
      refine lv_aload_n hx hb dX9_appendCharacter_13 rfl (lv_at hl 0 rfl) ?_
      refine va_get (D := D) (ci := 6) (v := .ref Xa) (C := RX9) (T := TX9) (N := 7) hx hb hts hi_X9 hown hK hP 0 rfl rfl 3 (by decide) q29 (fun _ h9 => h9) rfl dX9_appendCharacter_14 ?_
      refine cv_i (ci := 5) (q := (RX8, TX8, 5)) (As := []) (rest := []) hx hb hml hown hts hK hP hD hA hS (kX8_isFull l D cI cC cS Xa Xa_characters  X_characters X_length X_kind X_start X_end (fX8_isFull X_length) rfl) (cwV 0 hts gX9_appendCharacter_X8_isFull rfl rfl rfl (by decide +kernel) (by subst hR; exact ⟨Nat.le_of_ble_eq_true rfl, Nat.le_of_ble_eq_true rfl⟩)) [1, 2] [0] [0, 1, 2] [(Ta, .inr (6, [.ref Tr_schedule, .ref Tr_draft, .ref Tr_history, .ref Xa, .ref Tr_flooding, .ref Tr_gossiping, .ref Tr_counting]))] (sh_X9X Ta Xa Xa_characters Tr_schedule Tr_draft Tr_history Tr_flooding Tr_gossiping Tr_counting cI cC cS X_characters X_length X_kind X_start X_end) rfl rfl rfl rfl (by decide) rfl rfl rfl rfl rfl rfl hl.1 rfl (Nat.le_of_ble_eq_true rfl) ⟨Nat.zero_le _, Nat.zero_le _⟩ dX9_appendCharacter_17 (fun H locs hP hD hS => ?_)
      refine lv_if_eq (tgt := 26) hx hb dX9_appendCharacter_20 (by decide) (fun c3 => ?_) (fun c3 => ?_)
      · have hf := if_t c3 hf
        refine lv_aload_n hx hb dX9_appendCharacter_26 rfl (lv_at hl 0 rfl) ?_
        refine va_get (D := D) (ci := 6) (v := .ref Xa) (C := RX9) (T := TX9) (N := 7) hx hb hts hi_X9 hown hK hP 0 rfl rfl 3 (by decide) q29 (fun _ h9 => h9) rfl dX9_appendCharacter_27 ?_
        refine lv_iload_n hx hb dX9_appendCharacter_30 rfl (lv_at hl 1 rfl) ?_
        obtain ⟨o4, ho4, hf⟩ := bd_some hf
        refine cv_v (ci := 5) (q := (RX8, TX8, 5)) (As := [.int x1]) (rest := []) hx hb hml hown hts hK hP hD hA hS (kX8_append l D cI cC cS Xa Xa_characters x1 X_characters X_length X_kind X_start X_end o4 ho4) (cwV 1 hts gX9_appendCharacter_X8_append rfl rfl rfl (by decide +kernel) (by subst hR; exact ⟨Nat.le_of_ble_eq_true rfl, Nat.le_of_ble_eq_true rfl⟩)) [1, 2] [0] [0, 1, 2] [(Ta, .inr (6, [.ref Tr_schedule, .ref Tr_draft, .ref Tr_history, .ref Xa, .ref Tr_flooding, .ref Tr_gossiping, .ref Tr_counting]))] (sh_X9X Ta Xa Xa_characters Tr_schedule Tr_draft Tr_history Tr_flooding Tr_gossiping Tr_counting cI cC cS o4.1 o4.2 X_kind X_start X_end) rfl rfl rfl rfl (by decide) rfl rfl rfl rfl rfl rfl hl.1 rfl (Nat.le_of_ble_eq_true rfl) ⟨Nat.zero_le _, Nat.zero_le _⟩ dX9_appendCharacter_31 (fun H locs hP hD hS => ?_)
        refine lv_aload_n hx hb dX9_appendCharacter_34 rfl (lv_at hl 0 rfl) ?_
        refine va_get (D := D) (ci := 6) (v := .ref Xa) (C := RX9) (T := TX9) (N := 7) hx hb hts hi_X9 hown hK hP 0 rfl rfl 3 (by decide) q29 (fun _ h9 => h9) rfl dX9_appendCharacter_35 ?_
        refine cv_i (ci := 5) (q := (RX8, TX8, 5)) (As := []) (rest := []) hx hb hml hown hts hK hP hD hA hS (kX8_length l D cI cC cS Xa Xa_characters  o4.1 o4.2 X_kind X_start X_end (fX8_length o4.2) rfl) (cwV 0 hts gX9_appendCharacter_X8_length rfl rfl rfl (by decide +kernel) (by subst hR; exact ⟨Nat.le_of_ble_eq_true rfl, Nat.le_of_ble_eq_true rfl⟩)) [1, 2] [0] [0, 1, 2] [(Ta, .inr (6, [.ref Tr_schedule, .ref Tr_draft, .ref Tr_history, .ref Xa, .ref Tr_flooding, .ref Tr_gossiping, .ref Tr_counting]))] (sh_X9X Ta Xa Xa_characters Tr_schedule Tr_draft Tr_history Tr_flooding Tr_gossiping Tr_counting cI cC cS o4.1 o4.2 X_kind X_start X_end) rfl rfl rfl rfl (by decide) rfl rfl rfl rfl rfl rfl hl.1 rfl (Nat.le_of_ble_eq_true rfl) ⟨Nat.zero_le _, Nat.zero_le _⟩ dX9_appendCharacter_38 (fun H locs hP hD hS => ?_)
        have hf := Option.some.inj hf
        subst hf
        exact rt_i hx hb hr hlocks hQ hK hP hD hS rfl dX9_appendCharacter_41
      · have hf := if_f c3 hf
        refine lv_bipush (v := (-3 : Int32)) hx hb dX9_appendCharacter_23 (by decide) ?_
        have hf := Option.some.inj hf
        subst hf
        exact rt_i hx hb hr hlocks hQ hK hP hD hS rfl dX9_appendCharacter_25
    · have hf := if_f c2 hf
      refine lv_iconst (v := (-1 : Int32)) hx hb dX9_appendCharacter_11 (by decide) ?_
      have hf := Option.some.inj hf
      subst hf
      exact rt_i hx hb hr hlocks hQ hK hP hD hS rfl dX9_appendCharacter_12
set_option maxRecDepth 100000 in
set_option maxHeartbeats 4000000 in
theorem kX9_clearText (l : Launch) (D : va_G) (cI cC cS : ClassId) (Ta Xa Xa_characters Tr_schedule Tr_draft Tr_history Tr_flooding Tr_gossiping Tr_counting : Nat) (X_characters : Nat → Int32) (X_length : Int32) (X_kind : Int32) (X_start : Int32) (X_end : Int32) (o : Int32 × Int32) (hf : fX9_clearText X_length = o) : CI l D yX9_clearText wsX9_clearText ({ frames := 1, cells := 0, slots := 0, locals := 20 } : Room) (tysK cI cC cS) [.ref Ta] (sh_X9X Ta Xa Xa_characters Tr_schedule Tr_draft Tr_history Tr_flooding Tr_gossiping Tr_counting cI cC cS X_characters X_length X_kind X_start X_end) o.1 (sh_X9X Ta Xa Xa_characters Tr_schedule Tr_draft Tr_history Tr_flooding Tr_gossiping Tr_counting cI cC cS X_characters o.2 X_kind X_start X_end) := by
  refine met_i (cc := cX9_clearText) (maxL := 2) (ret := (some .int)) (by decide) rfl (Nat.le_of_ble_eq_true rfl) ?_
  intro p e s m args below meth c R Q A F hR hQ hP hK hD hA hS ls hl
  obtain ⟨hx, hb, hr, hts, hml, hlocks, hown⟩ := F
  have hown : s.vm.findClass RX9 = some m.cls := hown
  have hi_X9 : ∀ w ∈ u_ws RX9 TX9 7, w ∈ wsX9_clearText := fun w h => List.mem_cons_of_mem _ (List.mem_append_left _ (List.mem_append_right _ h))
  have q29 := hts (.fieldLink RX9 29 "ChangingRounds" "text" "LChangingRounds$ScheduleText;") (by decide +kernel)
  have hl : lv_has ls 2 [(0, .ref Ta)] := hl
  unfold fX9_clearText at hf
  refine lv_aload_n hx hb dX9_clearText_0 rfl (lv_at hl 0 rfl) ?_
  refine va_get (D := D) (ci := 6) (v := .ref Xa) (C := RX9) (T := TX9) (N := 7) hx hb hts hi_X9 hown hK hP 0 rfl rfl 3 (by decide) q29 (fun _ h9 => h9) rfl dX9_clearText_1 ?_
  refine cv_i (ci := 5) (q := (RX8, TX8, 5)) (As := []) (rest := []) hx hb hml hown hts hK hP hD hA hS (kX8_length l D cI cC cS Xa Xa_characters  X_characters X_length X_kind X_start X_end (fX8_length X_length) rfl) (cwV 0 hts gX9_clearText_X8_length rfl rfl rfl (by decide +kernel) (by subst hR; exact ⟨Nat.le_of_ble_eq_true rfl, Nat.le_of_ble_eq_true rfl⟩)) [1, 2] [0] [0, 1, 2] [(Ta, .inr (6, [.ref Tr_schedule, .ref Tr_draft, .ref Tr_history, .ref Xa, .ref Tr_flooding, .ref Tr_gossiping, .ref Tr_counting]))] (sh_X9X Ta Xa Xa_characters Tr_schedule Tr_draft Tr_history Tr_flooding Tr_gossiping Tr_counting cI cC cS X_characters X_length X_kind X_start X_end) rfl rfl rfl rfl (by decide) rfl rfl rfl rfl rfl rfl hl.1 rfl (Nat.le_of_ble_eq_true rfl) ⟨Nat.zero_le _, Nat.zero_le _⟩ dX9_clearText_4 (fun H locs hP hD hS => ?_)
  refine lv_istore_n (lv' := [(1, .int (fX8_length X_length)), (0, .ref Ta)]) hx hb dX9_clearText_7 rfl hl (by decide) rfl (fun ls hl => ?_)
  refine lv_aload_n hx hb dX9_clearText_8 rfl (lv_at hl 1 rfl) ?_
  refine va_get (D := D) (ci := 6) (v := .ref Xa) (C := RX9) (T := TX9) (N := 7) hx hb hts hi_X9 hown hK hP 0 rfl rfl 3 (by decide) q29 (fun _ h9 => h9) rfl dX9_clearText_9 ?_
  refine cv_v (ci := 5) (q := (RX8, TX8, 5)) (As := []) (rest := []) hx hb hml hown hts hK hP hD hA hS (kX8_clear l D cI cC cS Xa Xa_characters  X_characters X_length X_kind X_start X_end (fX8_clear X_length) rfl) (cwV 0 hts gX9_clearText_X8_clear rfl rfl rfl (by decide +kernel) (by subst hR; exact ⟨Nat.le_of_ble_eq_true rfl, Nat.le_of_ble_eq_true rfl⟩)) [1, 2] [0] [0, 1, 2] [(Ta, .inr (6, [.ref Tr_schedule, .ref Tr_draft, .ref Tr_history, .ref Xa, .ref Tr_flooding, .ref Tr_gossiping, .ref Tr_counting]))] (sh_X9X Ta Xa Xa_characters Tr_schedule Tr_draft Tr_history Tr_flooding Tr_gossiping Tr_counting cI cC cS X_characters (fX8_clear X_length) X_kind X_start X_end) rfl rfl rfl rfl (by decide) rfl rfl rfl rfl rfl rfl hl.1 rfl (Nat.le_of_ble_eq_true rfl) ⟨Nat.zero_le _, Nat.zero_le _⟩ dX9_clearText_12 (fun H locs hP hD hS => ?_)
  refine lv_iload_n hx hb dX9_clearText_15 rfl (lv_at hl 0 rfl) ?_
  subst hf
  exact rt_i hx hb hr hlocks hQ hK hP hD hS rfl dX9_clearText_16
set_option maxRecDepth 100000 in
set_option maxHeartbeats 4000000 in
theorem kX9_round (l : Launch) (D : va_G) (cI cC cS : ClassId) (Ta Sa Sa_roundEdges Sa_values Tr_draft Tr_history Tr_text Tr_flooding Tr_gossiping Tr_counting : Nat) (x1 : Int32) (x2 : Int32) (S_roundEdges : Nat → Int32) (S_values : Nat → Int32) (S_nodes : Int32) (S_rounds : Int32) (o : Int32) (hf : fX9_round x1 x2 S_roundEdges S_nodes S_rounds = some o) : CI l D yX9_round wsX9_round ({ frames := 5, cells := 0, slots := 0, locals := 117 } : Room) (tysK cI cC cS) [.ref Ta, .int x1, .int x2] (sh_X9S Ta Sa Sa_roundEdges Sa_values Tr_draft Tr_history Tr_text Tr_flooding Tr_gossiping Tr_counting cI cC cS S_roundEdges S_values S_nodes S_rounds) o (sh_X9S Ta Sa Sa_roundEdges Sa_values Tr_draft Tr_history Tr_text Tr_flooding Tr_gossiping Tr_counting cI cC cS S_roundEdges S_values S_nodes S_rounds) := by
  refine met_i (cc := cX9_round) (maxL := 4) (ret := (some .int)) (by decide) rfl (Nat.le_of_ble_eq_true rfl) ?_
  intro p e s m args below meth c R Q A F hR hQ hP hK hD hA hS ls hl
  obtain ⟨hx, hb, hr, hts, hml, hlocks, hown⟩ := F
  have hown : s.vm.findClass RX9 = some m.cls := hown
  have hi_X9 : ∀ w ∈ u_ws RX9 TX9 7, w ∈ wsX9_round := fun w h => List.mem_cons_of_mem _ (List.mem_append_left _ (List.mem_append_right _ h))
  have q10 := hts (.fieldLink RX9 10 "ChangingRounds" "schedule" "LChangingRounds$Schedule;") (by decide +kernel)
  have hl : lv_has ls 4 [(0, .ref Ta), (1, .int x1), (2, .int x2)] := hl
  unfold fX9_round at hf
  refine lv_aload_n hx hb dX9_round_0 rfl (lv_at hl 0 rfl) ?_
  refine va_get (D := D) (ci := 6) (v := .ref Sa) (C := RX9) (T := TX9) (N := 7) hx hb hts hi_X9 hown hK hP 0 rfl rfl 0 (by decide) q10 (fun _ h9 => h9) rfl dX9_round_1 ?_
  refine lv_iload_n hx hb dX9_round_4 rfl (lv_at hl 1 rfl) ?_
  refine cv_i (ci := 4) (q := (RX7, TX7, 4)) (As := [.int x1]) (rest := []) hx hb hml hown hts hK hP hD hA hS (kX7_hasRound l D cI cC cS Sa Sa_roundEdges Sa_values x1 S_roundEdges S_values S_nodes S_rounds (fX7_hasRound x1 S_rounds) rfl) (cwV 1 hts gX9_round_X7_hasRound rfl rfl rfl (by decide +kernel) (by subst hR; exact ⟨Nat.le_of_ble_eq_true rfl, Nat.le_of_ble_eq_true rfl⟩)) [1, 2, 3] [0] [0, 1, 2, 3] [(Ta, .inr (6, [.ref Sa, .ref Tr_draft, .ref Tr_history, .ref Tr_text, .ref Tr_flooding, .ref Tr_gossiping, .ref Tr_counting]))] (sh_X9S Ta Sa Sa_roundEdges Sa_values Tr_draft Tr_history Tr_text Tr_flooding Tr_gossiping Tr_counting cI cC cS S_roundEdges S_values S_nodes S_rounds) rfl rfl rfl rfl (by decide) rfl rfl rfl rfl rfl rfl hl.1 rfl (Nat.le_of_ble_eq_true rfl) ⟨Nat.zero_le _, Nat.zero_le _⟩ dX9_round_5 (fun H locs hP hD hS => ?_)
  refine lv_if_ne (tgt := 13) hx hb dX9_round_8 (by decide) (fun c1 => ?_) (fun c1 => ?_)
  · have hf := if_f c1 hf
    refine lv_aload_n hx hb dX9_round_13 rfl (lv_at hl 0 rfl) ?_
    refine va_get (D := D) (ci := 6) (v := .ref Sa) (C := RX9) (T := TX9) (N := 7) hx hb hts hi_X9 hown hK hP 0 rfl rfl 0 (by decide) q10 (fun _ h9 => h9) rfl dX9_round_14 ?_
    refine lv_iload_n hx hb dX9_round_17 rfl (lv_at hl 1 rfl) ?_
    obtain ⟨o2, ho2, hf⟩ := bd_some hf
    refine cv_i (ci := 4) (q := (RX7, TX7, 4)) (As := [.int x1]) (rest := []) hx hb hml hown hts hK hP hD hA hS (kX7_edgesOf l D cI cC cS Sa Sa_roundEdges Sa_values x1 S_roundEdges S_values S_nodes S_rounds o2 ho2) (cwV 1 hts gX9_round_X7_edgesOf rfl rfl rfl (by decide +kernel) (by subst hR; exact ⟨Nat.le_of_ble_eq_true rfl, Nat.le_of_ble_eq_true rfl⟩)) [1, 2, 3] [0] [0, 1, 2, 3] [(Ta, .inr (6, [.ref Sa, .ref Tr_draft, .ref Tr_history, .ref Tr_text, .ref Tr_flooding, .ref Tr_gossiping, .ref Tr_counting]))] (sh_X9S Ta Sa Sa_roundEdges Sa_values Tr_draft Tr_history Tr_text Tr_flooding Tr_gossiping Tr_counting cI cC cS S_roundEdges S_values S_nodes S_rounds) rfl rfl rfl rfl (by decide) rfl rfl rfl rfl rfl rfl hl.1 rfl (Nat.le_of_ble_eq_true rfl) ⟨Nat.zero_le _, Nat.zero_le _⟩ dX9_round_18 (fun H locs hP hD hS => ?_)
    refine lv_istore_n (lv' := [(3, .int o2), (0, .ref Ta), (1, .int x1), (2, .int x2)]) hx hb dX9_round_21 rfl hl (by decide) rfl (fun ls hl => ?_)
    refine lv_iload_n hx hb dX9_round_22 rfl (lv_at hl 3 rfl) ?_
    by_cases c3 : x2 = 0
    · have hf := if_t c3 hf
      refine lv_tableIn (tgt := 52) (off := 29) hx hb dX9_round_23 (by rw [c3]; decide) (by rw [c3]; decide) (by rw [c3]; rfl) (by decide) ?_
      refine lv_iload_n hx hb dX9_round_52 rfl (lv_at hl 0 rfl) ?_
      refine cs_i (As := [.int o2]) (rest := []) hx hb hml hown hts hK hP hD hA hS (kJ6_bitCount_0f7a4 l D cI cC cS  o2  (fJ6_bitCount_0f7a4 o2) rfl) (va_cwS 1 hts gX9_round_J6_bitCount_0f7a4 rfl rfl rfl (by decide +kernel) (by subst hR; exact ⟨Nat.le_of_ble_eq_true rfl, Nat.le_of_ble_eq_true rfl⟩)) rfl hl.1 rfl (Nat.le_of_ble_eq_true rfl) ⟨Nat.zero_le _, Nat.zero_le _⟩ dX9_round_53 (fun H locs hP hD hS => ?_)
      have hf := Option.some.inj hf
      subst hf
      exact rt_i hx hb hr hlocks hQ hK hP hD hS rfl dX9_round_56
    · have hf := if_f c3 hf
      by_cases c4 : x2 = 1
      · have hf := if_t c4 hf
        refine lv_tableIn (tgt := 57) (off := 34) hx hb dX9_round_23 (by rw [c4]; decide) (by rw [c4]; decide) (by rw [c4]; rfl) (by decide) ?_
        refine lv_iload_n hx hb dX9_round_57 rfl (lv_at hl 0 rfl) ?_
        refine lv_aload_n hx hb dX9_round_58 rfl (lv_at hl 1 rfl) ?_
        refine va_get (D := D) (ci := 6) (v := .ref Sa) (C := RX9) (T := TX9) (N := 7) hx hb hts hi_X9 hown hK hP 0 rfl rfl 0 (by decide) q10 (fun _ h9 => h9) rfl dX9_round_59 ?_
        refine cv_i (ci := 4) (q := (RX7, TX7, 4)) (As := []) (rest := [.int o2]) hx hb hml hown hts hK hP hD hA hS (kX7_nodes l D cI cC cS Sa Sa_roundEdges Sa_values  S_roundEdges S_values S_nodes S_rounds (fX7_nodes S_nodes) rfl) (cwV 0 hts gX9_round_X7_nodes rfl rfl rfl (by decide +kernel) (by subst hR; exact ⟨Nat.le_of_ble_eq_true rfl, Nat.le_of_ble_eq_true rfl⟩)) [1, 2, 3] [0] [0, 1, 2, 3] [(Ta, .inr (6, [.ref Sa, .ref Tr_draft, .ref Tr_history, .ref Tr_text, .ref Tr_flooding, .ref Tr_gossiping, .ref Tr_counting]))] (sh_X9S Ta Sa Sa_roundEdges Sa_values Tr_draft Tr_history Tr_text Tr_flooding Tr_gossiping Tr_counting cI cC cS S_roundEdges S_values S_nodes S_rounds) rfl rfl rfl rfl (by decide) rfl rfl rfl rfl rfl rfl hl.1 rfl (Nat.le_of_ble_eq_true rfl) ⟨Nat.zero_le _, Nat.zero_le _⟩ dX9_round_62 (fun H locs hP hD hS => ?_)
        obtain ⟨o5, ho5, hf⟩ := bd_some hf
        refine cs_i (As := [.int o2, .int (fX7_nodes S_nodes)]) (rest := []) hx hb hml hown hts hK hP hD hA hS (kX2_areConnected l D cI cC cS  o2 (fX7_nodes S_nodes)  o5 ho5) (va_cwS 2 hts gX9_round_X2_areConnected rfl rfl rfl (by decide +kernel) (by subst hR; exact ⟨Nat.le_of_ble_eq_true rfl, Nat.le_of_ble_eq_true rfl⟩)) rfl hl.1 rfl (Nat.le_of_ble_eq_true rfl) ⟨Nat.zero_le _, Nat.zero_le _⟩ dX9_round_65 (fun H locs hP hD hS => ?_)
        refine cs_i (As := [.int (b2i o5)]) (rest := []) hx hb hml hown hts hK hP hD hA hS (kX9_oneIf l D cI cC cS  (b2i o5)  (fX9_oneIf (b2i o5)) rfl) (va_cwS 1 hts gX9_round_X9_oneIf rfl rfl rfl (by decide +kernel) (by subst hR; exact ⟨Nat.le_of_ble_eq_true rfl, Nat.le_of_ble_eq_true rfl⟩)) rfl hl.1 rfl (Nat.le_of_ble_eq_true rfl) ⟨Nat.zero_le _, Nat.zero_le _⟩ dX9_round_68 (fun H locs hP hD hS => ?_)
        have hf := Option.some.inj hf
        subst hf
        exact rt_i hx hb hr hlocks hQ hK hP hD hS rfl dX9_round_71
      · have hf := if_f c4 hf
        by_cases c6 : x2 = 2
        · have hf := if_t c6 hf
          refine lv_tableIn (tgt := 72) (off := 49) hx hb dX9_round_23 (by rw [c6]; decide) (by rw [c6]; decide) (by rw [c6]; rfl) (by decide) ?_
          refine lv_iload_n hx hb dX9_round_72 rfl (lv_at hl 0 rfl) ?_
          refine lv_aload_n hx hb dX9_round_73 rfl (lv_at hl 1 rfl) ?_
          refine va_get (D := D) (ci := 6) (v := .ref Sa) (C := RX9) (T := TX9) (N := 7) hx hb hts hi_X9 hown hK hP 0 rfl rfl 0 (by decide) q10 (fun _ h9 => h9) rfl dX9_round_74 ?_
          refine cv_i (ci := 4) (q := (RX7, TX7, 4)) (As := []) (rest := [.int o2]) hx hb hml hown hts hK hP hD hA hS (kX7_nodes l D cI cC cS Sa Sa_roundEdges Sa_values  S_roundEdges S_values S_nodes S_rounds (fX7_nodes S_nodes) rfl) (cwV 0 hts gX9_round_X7_nodes rfl rfl rfl (by decide +kernel) (by subst hR; exact ⟨Nat.le_of_ble_eq_true rfl, Nat.le_of_ble_eq_true rfl⟩)) [1, 2, 3] [0] [0, 1, 2, 3] [(Ta, .inr (6, [.ref Sa, .ref Tr_draft, .ref Tr_history, .ref Tr_text, .ref Tr_flooding, .ref Tr_gossiping, .ref Tr_counting]))] (sh_X9S Ta Sa Sa_roundEdges Sa_values Tr_draft Tr_history Tr_text Tr_flooding Tr_gossiping Tr_counting cI cC cS S_roundEdges S_values S_nodes S_rounds) rfl rfl rfl rfl (by decide) rfl rfl rfl rfl rfl rfl hl.1 rfl (Nat.le_of_ble_eq_true rfl) ⟨Nat.zero_le _, Nat.zero_le _⟩ dX9_round_77 (fun H locs hP hD hS => ?_)
          obtain ⟨o7, ho7, hf⟩ := bd_some hf
          refine cs_i (As := [.int o2, .int (fX7_nodes S_nodes)]) (rest := []) hx hb hml hown hts hK hP hD hA hS (kX2_components l D cI cC cS  o2 (fX7_nodes S_nodes)  o7 ho7) (va_cwS 2 hts gX9_round_X2_components rfl rfl rfl (by decide +kernel) (by subst hR; exact ⟨Nat.le_of_ble_eq_true rfl, Nat.le_of_ble_eq_true rfl⟩)) rfl hl.1 rfl (Nat.le_of_ble_eq_true rfl) ⟨Nat.zero_le _, Nat.zero_le _⟩ dX9_round_80 (fun H locs hP hD hS => ?_)
          have hf := Option.some.inj hf
          subst hf
          exact rt_i hx hb hr hlocks hQ hK hP hD hS rfl dX9_round_83
        · have hf := if_f c6 hf
          by_cases c8 : x2 = 3
          · have hf := if_t c8 hf
            refine lv_tableIn (tgt := 84) (off := 61) hx hb dX9_round_23 (by rw [c8]; decide) (by rw [c8]; decide) (by rw [c8]; rfl) (by decide) ?_
            refine lv_iload_n hx hb dX9_round_84 rfl (lv_at hl 0 rfl) ?_
            refine lv_aload_n hx hb dX9_round_85 rfl (lv_at hl 1 rfl) ?_
            refine va_get (D := D) (ci := 6) (v := .ref Sa) (C := RX9) (T := TX9) (N := 7) hx hb hts hi_X9 hown hK hP 0 rfl rfl 0 (by decide) q10 (fun _ h9 => h9) rfl dX9_round_86 ?_
            refine cv_i (ci := 4) (q := (RX7, TX7, 4)) (As := []) (rest := [.int o2]) hx hb hml hown hts hK hP hD hA hS (kX7_nodes l D cI cC cS Sa Sa_roundEdges Sa_values  S_roundEdges S_values S_nodes S_rounds (fX7_nodes S_nodes) rfl) (cwV 0 hts gX9_round_X7_nodes rfl rfl rfl (by decide +kernel) (by subst hR; exact ⟨Nat.le_of_ble_eq_true rfl, Nat.le_of_ble_eq_true rfl⟩)) [1, 2, 3] [0] [0, 1, 2, 3] [(Ta, .inr (6, [.ref Sa, .ref Tr_draft, .ref Tr_history, .ref Tr_text, .ref Tr_flooding, .ref Tr_gossiping, .ref Tr_counting]))] (sh_X9S Ta Sa Sa_roundEdges Sa_values Tr_draft Tr_history Tr_text Tr_flooding Tr_gossiping Tr_counting cI cC cS S_roundEdges S_values S_nodes S_rounds) rfl rfl rfl rfl (by decide) rfl rfl rfl rfl rfl rfl hl.1 rfl (Nat.le_of_ble_eq_true rfl) ⟨Nat.zero_le _, Nat.zero_le _⟩ dX9_round_89 (fun H locs hP hD hS => ?_)
            obtain ⟨o9, ho9, hf⟩ := bd_some hf
            refine cs_i (As := [.int o2, .int (fX7_nodes S_nodes)]) (rest := []) hx hb hml hown hts hK hP hD hA hS (kX2_greatestDegree l D cI cC cS  o2 (fX7_nodes S_nodes)  o9 ho9) (va_cwS 2 hts gX9_round_X2_greatestDegree rfl rfl rfl (by decide +kernel) (by subst hR; exact ⟨Nat.le_of_ble_eq_true rfl, Nat.le_of_ble_eq_true rfl⟩)) rfl hl.1 rfl (Nat.le_of_ble_eq_true rfl) ⟨Nat.zero_le _, Nat.zero_le _⟩ dX9_round_92 (fun H locs hP hD hS => ?_)
            have hf := Option.some.inj hf
            subst hf
            exact rt_i hx hb hr hlocks hQ hK hP hD hS rfl dX9_round_95
          · have hf := if_f c8 hf
            refine lv_tableOut (tgt := 96) hx hb dX9_round_23 (tsw4 c3 c4 c6 c8) (by decide) ?_
            refine lv_iconst (v := (-1 : Int32)) hx hb dX9_round_96 (by decide) ?_
            have hf := Option.some.inj hf
            subst hf
            exact rt_i hx hb hr hlocks hQ hK hP hD hS rfl dX9_round_97
  · have hf := if_t c1 hf
    refine lv_iconst (v := (-1 : Int32)) hx hb dX9_round_11 (by decide) ?_
    have hf := Option.some.inj hf
    subst hf
    exact rt_i hx hb hr hlocks hQ hK hP hD hS rfl dX9_round_12
set_option maxRecDepth 100000 in
set_option maxHeartbeats 4000000 in
theorem kX9_staying (l : Launch) (D : va_G) (cI cC cS : ClassId) (Ta Sa Sa_roundEdges Sa_values Tr_draft Tr_history Tr_text Tr_flooding Tr_gossiping Tr_counting : Nat) (x1 : Int32) (x2 : Int32) (S_roundEdges : Nat → Int32) (S_values : Nat → Int32) (S_nodes : Int32) (S_rounds : Int32) (o : Int32) (hf : fX9_staying x1 x2 S_roundEdges S_rounds = some o) : CI l D yX9_staying wsX9_staying ({ frames := 3, cells := 0, slots := 0, locals := 66 } : Room) (tysK cI cC cS) [.ref Ta, .int x1, .int x2] (sh_X9S Ta Sa Sa_roundEdges Sa_values Tr_draft Tr_history Tr_text Tr_flooding Tr_gossiping Tr_counting cI cC cS S_roundEdges S_values S_nodes S_rounds) o (sh_X9S Ta Sa Sa_roundEdges Sa_values Tr_draft Tr_history Tr_text Tr_flooding Tr_gossiping Tr_counting cI cC cS S_roundEdges S_values S_nodes S_rounds) := by
  refine met_i (cc := cX9_staying) (maxL := 3) (ret := (some .int)) (by decide) rfl (Nat.le_of_ble_eq_true rfl) ?_
  intro p e s m args below meth c R Q A F hR hQ hP hK hD hA hS ls hl
  obtain ⟨hx, hb, hr, hts, hml, hlocks, hown⟩ := F
  have hown : s.vm.findClass RX9 = some m.cls := hown
  have hi_X9 : ∀ w ∈ u_ws RX9 TX9 7, w ∈ wsX9_staying := fun w h => List.mem_cons_of_mem _ (List.mem_append_left _ (List.mem_append_right _ h))
  have q10 := hts (.fieldLink RX9 10 "ChangingRounds" "schedule" "LChangingRounds$Schedule;") (by decide +kernel)
  have hl : lv_has ls 3 [(0, .ref Ta), (1, .int x1), (2, .int x2)] := hl
  unfold fX9_staying at hf
  refine lv_aload_n hx hb dX9_staying_0 rfl (lv_at hl 0 rfl) ?_
  refine va_get (D := D) (ci := 6) (v := .ref Sa) (C := RX9) (T := TX9) (N := 7) hx hb hts hi_X9 hown hK hP 0 rfl rfl 0 (by decide) q10 (fun _ h9 => h9) rfl dX9_staying_1 ?_
  refine lv_iload_n hx hb dX9_staying_4 rfl (lv_at hl 1 rfl) ?_
  refine cv_i (ci := 4) (q := (RX7, TX7, 4)) (As := [.int x1]) (rest := []) hx hb hml hown hts hK hP hD hA hS (kX7_hasRound l D cI cC cS Sa Sa_roundEdges Sa_values x1 S_roundEdges S_values S_nodes S_rounds (fX7_hasRound x1 S_rounds) rfl) (cwV 1 hts gX9_staying_X7_hasRound rfl rfl rfl (by decide +kernel) (by subst hR; exact ⟨Nat.le_of_ble_eq_true rfl, Nat.le_of_ble_eq_true rfl⟩)) [1, 2, 3] [0] [0, 1, 2, 3] [(Ta, .inr (6, [.ref Sa, .ref Tr_draft, .ref Tr_history, .ref Tr_text, .ref Tr_flooding, .ref Tr_gossiping, .ref Tr_counting]))] (sh_X9S Ta Sa Sa_roundEdges Sa_values Tr_draft Tr_history Tr_text Tr_flooding Tr_gossiping Tr_counting cI cC cS S_roundEdges S_values S_nodes S_rounds) rfl rfl rfl rfl (by decide) rfl rfl rfl rfl rfl rfl hl.1 rfl (Nat.le_of_ble_eq_true rfl) ⟨Nat.zero_le _, Nat.zero_le _⟩ dX9_staying_5 (fun H locs hP hD hS => ?_)
  refine lv_if_eq (tgt := 29) hx hb dX9_staying_8 (by decide) (fun c1 => ?_) (fun c1 => ?_)
  · have hf := if_t c1 hf
    refine lv_iconst (v := (-1 : Int32)) hx hb dX9_staying_29 (by decide) ?_
    have hf := Option.some.inj hf
    subst hf
    exact rt_i hx hb hr hlocks hQ hK hP hD hS rfl dX9_staying_30
  · have hf := if_f c1 hf
    refine lv_iload_n hx hb dX9_staying_11 rfl (lv_at hl 2 rfl) ?_
    refine lv_iconst (v := (1 : Int32)) hx hb dX9_staying_12 (by decide) ?_
    refine lv_icmp_lt (tgt := 29) hx hb dX9_staying_13 (by decide) (fun c2 => ?_) (fun c2 => ?_)
    · have hf := if_t c2 hf
      refine lv_iconst (v := (-1 : Int32)) hx hb dX9_staying_29 (by decide) ?_
      have hf := Option.some.inj hf
      subst hf
      exact rt_i hx hb hr hlocks hQ hK hP hD hS rfl dX9_staying_30
    · have hf := if_f c2 hf
      refine lv_iload_n hx hb dX9_staying_16 rfl (lv_at hl 2 rfl) ?_
      refine lv_aload_n hx hb dX9_staying_17 rfl (lv_at hl 0 rfl) ?_
      refine va_get (D := D) (ci := 6) (v := .ref Sa) (C := RX9) (T := TX9) (N := 7) hx hb hts hi_X9 hown hK hP 0 rfl rfl 0 (by decide) q10 (fun _ h9 => h9) rfl dX9_staying_18 ?_
      refine cv_i (ci := 4) (q := (RX7, TX7, 4)) (As := []) (rest := [.int x2]) hx hb hml hown hts hK hP hD hA hS (kX7_rounds l D cI cC cS Sa Sa_roundEdges Sa_values  S_roundEdges S_values S_nodes S_rounds (fX7_rounds S_rounds) rfl) (cwV 0 hts gX9_staying_X7_rounds rfl rfl rfl (by decide +kernel) (by subst hR; exact ⟨Nat.le_of_ble_eq_true rfl, Nat.le_of_ble_eq_true rfl⟩)) [1, 2, 3] [0] [0, 1, 2, 3] [(Ta, .inr (6, [.ref Sa, .ref Tr_draft, .ref Tr_history, .ref Tr_text, .ref Tr_flooding, .ref Tr_gossiping, .ref Tr_counting]))] (sh_X9S Ta Sa Sa_roundEdges Sa_values Tr_draft Tr_history Tr_text Tr_flooding Tr_gossiping Tr_counting cI cC cS S_roundEdges S_values S_nodes S_rounds) rfl rfl rfl rfl (by decide) rfl rfl rfl rfl rfl rfl hl.1 rfl (Nat.le_of_ble_eq_true rfl) ⟨Nat.zero_le _, Nat.zero_le _⟩ dX9_staying_21 (fun H locs hP hD hS => ?_)
      refine lv_iload_n hx hb dX9_staying_24 rfl (lv_at hl 1 rfl) ?_
      refine lv_isub hx hb dX9_staying_25 ?_
      refine lv_icmp_le (tgt := 31) hx hb dX9_staying_26 (by decide) (fun c3 => ?_) (fun c3 => ?_)
      · have hf := if_t c3 hf
        refine lv_aload_n hx hb dX9_staying_31 rfl (lv_at hl 0 rfl) ?_
        refine va_get (D := D) (ci := 6) (v := .ref Sa) (C := RX9) (T := TX9) (N := 7) hx hb hts hi_X9 hown hK hP 0 rfl rfl 0 (by decide) q10 (fun _ h9 => h9) rfl dX9_staying_32 ?_
        refine lv_iload_n hx hb dX9_staying_35 rfl (lv_at hl 1 rfl) ?_
        refine lv_iload_n hx hb dX9_staying_36 rfl (lv_at hl 2 rfl) ?_
        obtain ⟨o4, ho4, hf⟩ := bd_some hf
        refine cv_i (ci := 4) (q := (RX7, TX7, 4)) (As := [.int x1, .int x2]) (rest := []) hx hb hml hown hts hK hP hD hA hS (kX7_edgesThatStay l D cI cC cS Sa Sa_roundEdges Sa_values x1 x2 S_roundEdges S_values S_nodes S_rounds o4 ho4) (cwV 2 hts gX9_staying_X7_edgesThatStay rfl rfl rfl (by decide +kernel) (by subst hR; exact ⟨Nat.le_of_ble_eq_true rfl, Nat.le_of_ble_eq_true rfl⟩)) [1, 2, 3] [0] [0, 1, 2, 3] [(Ta, .inr (6, [.ref Sa, .ref Tr_draft, .ref Tr_history, .ref Tr_text, .ref Tr_flooding, .ref Tr_gossiping, .ref Tr_counting]))] (sh_X9S Ta Sa Sa_roundEdges Sa_values Tr_draft Tr_history Tr_text Tr_flooding Tr_gossiping Tr_counting cI cC cS S_roundEdges S_values S_nodes S_rounds) rfl rfl rfl rfl (by decide) rfl rfl rfl rfl rfl rfl hl.1 rfl (Nat.le_of_ble_eq_true rfl) ⟨Nat.zero_le _, Nat.zero_le _⟩ dX9_staying_37 (fun H locs hP hD hS => ?_)
        refine cs_i (As := [.int o4]) (rest := []) hx hb hml hown hts hK hP hD hA hS (kJ6_bitCount_0f7a4 l D cI cC cS  o4  (fJ6_bitCount_0f7a4 o4) rfl) (va_cwS 1 hts gX9_staying_J6_bitCount_0f7a4 rfl rfl rfl (by decide +kernel) (by subst hR; exact ⟨Nat.le_of_ble_eq_true rfl, Nat.le_of_ble_eq_true rfl⟩)) rfl hl.1 rfl (Nat.le_of_ble_eq_true rfl) ⟨Nat.zero_le _, Nat.zero_le _⟩ dX9_staying_40 (fun H locs hP hD hS => ?_)
        have hf := Option.some.inj hf
        subst hf
        exact rt_i hx hb hr hlocks hQ hK hP hD hS rfl dX9_staying_43
      · have hf := if_f c3 hf
        refine lv_iconst (v := (-1 : Int32)) hx hb dX9_staying_29 (by decide) ?_
        have hf := Option.some.inj hf
        subst hf
        exact rt_i hx hb hr hlocks hQ hK hP hD hS rfl dX9_staying_30
set_option maxRecDepth 100000 in
set_option maxHeartbeats 4000000 in
theorem kX9_isStable (l : Launch) (D : va_G) (cI cC cS : ClassId) (Ta Sa Sa_roundEdges Sa_values Tr_draft Tr_history Tr_text Tr_flooding Tr_gossiping Tr_counting : Nat) (x1 : Int32) (S_roundEdges : Nat → Int32) (S_values : Nat → Int32) (S_nodes : Int32) (S_rounds : Int32) (o : Int32) (hf : fX9_isStable x1 S_roundEdges S_nodes S_rounds = some o) : CI l D yX9_isStable wsX9_isStable ({ frames := 6, cells := 0, slots := 0, locals := 136 } : Room) (tysK cI cC cS) [.ref Ta, .int x1] (sh_X9S Ta Sa Sa_roundEdges Sa_values Tr_draft Tr_history Tr_text Tr_flooding Tr_gossiping Tr_counting cI cC cS S_roundEdges S_values S_nodes S_rounds) o (sh_X9S Ta Sa Sa_roundEdges Sa_values Tr_draft Tr_history Tr_text Tr_flooding Tr_gossiping Tr_counting cI cC cS S_roundEdges S_values S_nodes S_rounds) := by
  refine met_i (cc := cX9_isStable) (maxL := 2) (ret := (some .int)) (by decide) rfl (Nat.le_of_ble_eq_true rfl) ?_
  intro p e s m args below meth c R Q A F hR hQ hP hK hD hA hS ls hl
  obtain ⟨hx, hb, hr, hts, hml, hlocks, hown⟩ := F
  have hown : s.vm.findClass RX9 = some m.cls := hown
  have hi_X9 : ∀ w ∈ u_ws RX9 TX9 7, w ∈ wsX9_isStable := fun w h => List.mem_cons_of_mem _ (List.mem_append_left _ (List.mem_append_right _ h))
  have q10 := hts (.fieldLink RX9 10 "ChangingRounds" "schedule" "LChangingRounds$Schedule;") (by decide +kernel)
  have hl : lv_has ls 2 [(0, .ref Ta), (1, .int x1)] := hl
  unfold fX9_isStable at hf
  refine lv_iload_n hx hb dX9_isStable_0 rfl (lv_at hl 1 rfl) ?_
  refine lv_iconst (v := (1 : Int32)) hx hb dX9_isStable_1 (by decide) ?_
  refine lv_icmp_lt (tgt := 16) hx hb dX9_isStable_2 (by decide) (fun c1 => ?_) (fun c1 => ?_)
  · have hf := if_t c1 hf
    refine lv_iconst (v := (-1 : Int32)) hx hb dX9_isStable_16 (by decide) ?_
    have hf := Option.some.inj hf
    subst hf
    exact rt_i hx hb hr hlocks hQ hK hP hD hS rfl dX9_isStable_17
  · have hf := if_f c1 hf
    refine lv_iload_n hx hb dX9_isStable_5 rfl (lv_at hl 1 rfl) ?_
    refine lv_aload_n hx hb dX9_isStable_6 rfl (lv_at hl 0 rfl) ?_
    refine va_get (D := D) (ci := 6) (v := .ref Sa) (C := RX9) (T := TX9) (N := 7) hx hb hts hi_X9 hown hK hP 0 rfl rfl 0 (by decide) q10 (fun _ h9 => h9) rfl dX9_isStable_7 ?_
    refine cv_i (ci := 4) (q := (RX7, TX7, 4)) (As := []) (rest := [.int x1]) hx hb hml hown hts hK hP hD hA hS (kX7_rounds l D cI cC cS Sa Sa_roundEdges Sa_values  S_roundEdges S_values S_nodes S_rounds (fX7_rounds S_rounds) rfl) (cwV 0 hts gX9_isStable_X7_rounds rfl rfl rfl (by decide +kernel) (by subst hR; exact ⟨Nat.le_of_ble_eq_true rfl, Nat.le_of_ble_eq_true rfl⟩)) [1, 2, 3] [0] [0, 1, 2, 3] [(Ta, .inr (6, [.ref Sa, .ref Tr_draft, .ref Tr_history, .ref Tr_text, .ref Tr_flooding, .ref Tr_gossiping, .ref Tr_counting]))] (sh_X9S Ta Sa Sa_roundEdges Sa_values Tr_draft Tr_history Tr_text Tr_flooding Tr_gossiping Tr_counting cI cC cS S_roundEdges S_values S_nodes S_rounds) rfl rfl rfl rfl (by decide) rfl rfl rfl rfl rfl rfl hl.1 rfl (Nat.le_of_ble_eq_true rfl) ⟨Nat.zero_le _, Nat.zero_le _⟩ dX9_isStable_10 (fun H locs hP hD hS => ?_)
    refine lv_icmp_le (tgt := 18) hx hb dX9_isStable_13 (by decide) (fun c2 => ?_) (fun c2 => ?_)
    · have hf := if_t c2 hf
      refine lv_aload_n hx hb dX9_isStable_18 rfl (lv_at hl 0 rfl) ?_
      refine va_get (D := D) (ci := 6) (v := .ref Sa) (C := RX9) (T := TX9) (N := 7) hx hb hts hi_X9 hown hK hP 0 rfl rfl 0 (by decide) q10 (fun _ h9 => h9) rfl dX9_isStable_19 ?_
      refine lv_iload_n hx hb dX9_isStable_22 rfl (lv_at hl 1 rfl) ?_
      obtain ⟨o3, ho3, hf⟩ := bd_some hf
      refine cv_i (ci := 4) (q := (RX7, TX7, 4)) (As := [.int x1]) (rest := []) hx hb hml hown hts hK hP hD hA hS (kX7_staysConnected l D cI cC cS Sa Sa_roundEdges Sa_values x1 S_roundEdges S_values S_nodes S_rounds o3 ho3) (cwV 1 hts gX9_isStable_X7_staysConnected rfl rfl rfl (by decide +kernel) (by subst hR; exact ⟨Nat.le_of_ble_eq_true rfl, Nat.le_of_ble_eq_true rfl⟩)) [1, 2, 3] [0] [0, 1, 2, 3] [(Ta, .inr (6, [.ref Sa, .ref Tr_draft, .ref Tr_history, .ref Tr_text, .ref Tr_flooding, .ref Tr_gossiping, .ref Tr_counting]))] (sh_X9S Ta Sa Sa_roundEdges Sa_values Tr_draft Tr_history Tr_text Tr_flooding Tr_gossiping Tr_counting cI cC cS S_roundEdges S_values S_nodes S_rounds) rfl rfl rfl rfl (by decide) rfl rfl rfl rfl rfl rfl hl.1 rfl (Nat.le_of_ble_eq_true rfl) ⟨Nat.zero_le _, Nat.zero_le _⟩ dX9_isStable_23 (fun H locs hP hD hS => ?_)
      refine cs_i (As := [.int (b2i o3)]) (rest := []) hx hb hml hown hts hK hP hD hA hS (kX9_oneIf l D cI cC cS  (b2i o3)  (fX9_oneIf (b2i o3)) rfl) (va_cwS 1 hts gX9_isStable_X9_oneIf rfl rfl rfl (by decide +kernel) (by subst hR; exact ⟨Nat.le_of_ble_eq_true rfl, Nat.le_of_ble_eq_true rfl⟩)) rfl hl.1 rfl (Nat.le_of_ble_eq_true rfl) ⟨Nat.zero_le _, Nat.zero_le _⟩ dX9_isStable_26 (fun H locs hP hD hS => ?_)
      have hf := Option.some.inj hf
      subst hf
      exact rt_i hx hb hr hlocks hQ hK hP hD hS rfl dX9_isStable_29
    · have hf := if_f c2 hf
      refine lv_iconst (v := (-1 : Int32)) hx hb dX9_isStable_16 (by decide) ?_
      have hf := Option.some.inj hf
      subst hf
      exact rt_i hx hb hr hlocks hQ hK hP hD hS rfl dX9_isStable_17
set_option maxRecDepth 100000 in
set_option maxHeartbeats 4000000 in
theorem kX9_greatestStable (l : Launch) (D : va_G) (cI cC cS : ClassId) (Ta Sa Sa_roundEdges Sa_values Tr_draft Tr_history Tr_text Tr_flooding Tr_gossiping Tr_counting : Nat) (S_roundEdges : Nat → Int32) (S_values : Nat → Int32) (S_nodes : Int32) (S_rounds : Int32) (o : Int32) (hf : fX9_greatestStable S_roundEdges S_nodes S_rounds = some o) : CI l D yX9_greatestStable wsX9_greatestStable ({ frames := 6, cells := 0, slots := 0, locals := 136 } : Room) (tysK cI cC cS) [.ref Ta] (sh_X9S Ta Sa Sa_roundEdges Sa_values Tr_draft Tr_history Tr_text Tr_flooding Tr_gossiping Tr_counting cI cC cS S_roundEdges S_values S_nodes S_rounds) o (sh_X9S Ta Sa Sa_roundEdges Sa_values Tr_draft Tr_history Tr_text Tr_flooding Tr_gossiping Tr_counting cI cC cS S_roundEdges S_values S_nodes S_rounds) := by
  refine met_i (cc := cX9_greatestStable) (maxL := 2) (ret := (some .int)) (by decide) rfl (Nat.le_of_ble_eq_true rfl) ?_
  intro p e s m args below meth c R Q A F hR hQ hP hK hD hA hS ls hl
  obtain ⟨hx, hb, hr, hts, hml, hlocks, hown⟩ := F
  have hown : s.vm.findClass RX9 = some m.cls := hown
  have hi_X9 : ∀ w ∈ u_ws RX9 TX9 7, w ∈ wsX9_greatestStable := fun w h => List.mem_cons_of_mem _ (List.mem_append_left _ (List.mem_append_right _ h))
  have q10 := hts (.fieldLink RX9 10 "ChangingRounds" "schedule" "LChangingRounds$Schedule;") (by decide +kernel)
  have hl : lv_has ls 2 [(0, .ref Ta)] := hl
  unfold fX9_greatestStable at hf
  have L8 : ∀ (n8 : Nat) (x1 : Int32) (H : Heap) (locs : List Loc) (ls : Array Slot), fX9_greatestStable_l8 S_roundEdges S_nodes S_rounds n8 x1 = some o → va_P D vwCl (sh_X9S Ta Sa Sa_roundEdges Sa_values Tr_draft Tr_history Tr_text Tr_flooding Tr_gossiping Tr_counting cI cC cS S_roundEdges S_values S_nodes S_rounds) H → va_D A (sh_X9S Ta Sa Sa_roundEdges Sa_values Tr_draft Tr_history Tr_text Tr_flooding Tr_gossiping Tr_counting cI cC cS S_roundEdges S_values S_nodes S_rounds) → va_S A s.heap H locs → lv_has ls 2 [(0, .ref Ta), (1, .int x1)] → W p l e R s m args below meth c H locs 0 0 Q (F0 m 8 ls []) := by
    intro n8
    induction n8 with
    | zero => intro x1 H locs ls hf; cases (show (none : Option _) = some _ from hf)
    | succ n8 ih8 =>
      intro x1 H locs ls hf hP hD hS hl
      rw [fX9_greatestStable_l8] at hf
      refine lv_iload_n hx hb dX9_greatestStable_8 rfl (lv_at hl 1 rfl) ?_
      refine lv_iconst (v := (1 : Int32)) hx hb dX9_greatestStable_9 (by decide) ?_
      refine lv_icmp_lt (tgt := 32) hx hb dX9_greatestStable_10 (by decide) (fun c1 => ?_) (fun c1 => ?_)
      · have hf := if_t c1 hf
        refine lv_iconst (v := (0 : Int32)) hx hb dX9_greatestStable_32 (by decide) ?_
        have hf := Option.some.inj hf
        subst hf
        exact rt_i hx hb hr hlocks hQ hK hP hD hS rfl dX9_greatestStable_33
      · have hf := if_f c1 hf
        refine lv_aload_n hx hb dX9_greatestStable_13 rfl (lv_at hl 0 rfl) ?_
        refine va_get (D := D) (ci := 6) (v := .ref Sa) (C := RX9) (T := TX9) (N := 7) hx hb hts hi_X9 hown hK hP 0 rfl rfl 0 (by decide) q10 (fun _ h9 => h9) rfl dX9_greatestStable_14 ?_
        refine lv_iload_n hx hb dX9_greatestStable_17 rfl (lv_at hl 1 rfl) ?_
        obtain ⟨o2, ho2, hf⟩ := bd_some hf
        refine cv_i (ci := 4) (q := (RX7, TX7, 4)) (As := [.int x1]) (rest := []) hx hb hml hown hts hK hP hD hA hS (kX7_staysConnected l D cI cC cS Sa Sa_roundEdges Sa_values x1 S_roundEdges S_values S_nodes S_rounds o2 ho2) (cwV 1 hts gX9_greatestStable_X7_staysConnected rfl rfl rfl (by decide +kernel) (by subst hR; exact ⟨Nat.le_of_ble_eq_true rfl, Nat.le_of_ble_eq_true rfl⟩)) [1, 2, 3] [0] [0, 1, 2, 3] [(Ta, .inr (6, [.ref Sa, .ref Tr_draft, .ref Tr_history, .ref Tr_text, .ref Tr_flooding, .ref Tr_gossiping, .ref Tr_counting]))] (sh_X9S Ta Sa Sa_roundEdges Sa_values Tr_draft Tr_history Tr_text Tr_flooding Tr_gossiping Tr_counting cI cC cS S_roundEdges S_values S_nodes S_rounds) rfl rfl rfl rfl (by decide) rfl rfl rfl rfl rfl rfl hl.1 rfl (Nat.le_of_ble_eq_true rfl) ⟨Nat.zero_le _, Nat.zero_le _⟩ dX9_greatestStable_18 (fun H locs hP hD hS => ?_)
        refine lv_if_eq (tgt := 26) hx hb dX9_greatestStable_21 (by decide) (fun c3 => ?_) (fun c3 => ?_)
        · have hf := if_t c3 hf
          refine lv_iinc (v := (x1 + (-1))) (lv' := [(1, .int (x1 + (-1))), (0, .ref Ta)]) hx hb dX9_greatestStable_26 hl (k := 1) rfl rfl (by decide) rfl (fun ls hl => ?_)
          refine lv_goto (tgt := 8) hx hb dX9_greatestStable_29 (by decide) ?_
          exact ih8 (x1 + (-1)) _ _ _ hf hP hD hS (lv_sub hl [1, 0] rfl)
        · have hf := if_f c3 hf
          refine lv_iload_n hx hb dX9_greatestStable_24 rfl (lv_at hl 1 rfl) ?_
          have hf := Option.some.inj hf
          subst hf
          exact rt_i hx hb hr hlocks hQ hK hP hD hS rfl dX9_greatestStable_25
  refine lv_aload_n hx hb dX9_greatestStable_0 rfl (lv_at hl 0 rfl) ?_
  refine va_get (D := D) (ci := 6) (v := .ref Sa) (C := RX9) (T := TX9) (N := 7) hx hb hts hi_X9 hown hK hP 0 rfl rfl 0 (by decide) q10 (fun _ h9 => h9) rfl dX9_greatestStable_1 ?_
  refine cv_i (ci := 4) (q := (RX7, TX7, 4)) (As := []) (rest := []) hx hb hml hown hts hK hP hD hA hS (kX7_rounds l D cI cC cS Sa Sa_roundEdges Sa_values  S_roundEdges S_values S_nodes S_rounds (fX7_rounds S_rounds) rfl) (cwV 0 hts gX9_greatestStable_X7_rounds rfl rfl rfl (by decide +kernel) (by subst hR; exact ⟨Nat.le_of_ble_eq_true rfl, Nat.le_of_ble_eq_true rfl⟩)) [1, 2, 3] [0] [0, 1, 2, 3] [(Ta, .inr (6, [.ref Sa, .ref Tr_draft, .ref Tr_history, .ref Tr_text, .ref Tr_flooding, .ref Tr_gossiping, .ref Tr_counting]))] (sh_X9S Ta Sa Sa_roundEdges Sa_values Tr_draft Tr_history Tr_text Tr_flooding Tr_gossiping Tr_counting cI cC cS S_roundEdges S_values S_nodes S_rounds) rfl rfl rfl rfl (by decide) rfl rfl rfl rfl rfl rfl hl.1 rfl (Nat.le_of_ble_eq_true rfl) ⟨Nat.zero_le _, Nat.zero_le _⟩ dX9_greatestStable_4 (fun H locs hP hD hS => ?_)
  refine lv_istore_n (lv' := [(1, .int (fX7_rounds S_rounds)), (0, .ref Ta)]) hx hb dX9_greatestStable_7 rfl hl (by decide) rfl (fun ls hl => ?_)
  exact L8  fuel (fX7_rounds S_rounds) _ _ _ hf hP hD hS (lv_sub hl [1, 0] rfl)
set_option maxRecDepth 100000 in
set_option maxHeartbeats 4000000 in
theorem kX9_window (l : Launch) (D : va_G) (cI cC cS : ClassId) (Ta Sa Sa_roundEdges Sa_values Tr_draft Tr_history Tr_text Tr_flooding Tr_gossiping Tr_counting : Nat) (x1 : Int32) (S_roundEdges : Nat → Int32) (S_values : Nat → Int32) (S_nodes : Int32) (S_rounds : Int32) (o : Int32) (hf : fX9_window x1 S_roundEdges S_nodes S_rounds = some o) : CI l D yX9_window wsX9_window ({ frames := 6, cells := 0, slots := 0, locals := 136 } : Room) (tysK cI cC cS) [.ref Ta, .int x1] (sh_X9S Ta Sa Sa_roundEdges Sa_values Tr_draft Tr_history Tr_text Tr_flooding Tr_gossiping Tr_counting cI cC cS S_roundEdges S_values S_nodes S_rounds) o (sh_X9S Ta Sa Sa_roundEdges Sa_values Tr_draft Tr_history Tr_text Tr_flooding Tr_gossiping Tr_counting cI cC cS S_roundEdges S_values S_nodes S_rounds) := by
  refine met_i (cc := cX9_window) (maxL := 2) (ret := (some .int)) (by decide) rfl (Nat.le_of_ble_eq_true rfl) ?_
  intro p e s m args below meth c R Q A F hR hQ hP hK hD hA hS ls hl
  obtain ⟨hx, hb, hr, hts, hml, hlocks, hown⟩ := F
  have hown : s.vm.findClass RX9 = some m.cls := hown
  have hi_X9 : ∀ w ∈ u_ws RX9 TX9 7, w ∈ wsX9_window := fun w h => List.mem_cons_of_mem _ (List.mem_append_left _ (List.mem_append_right _ h))
  have q10 := hts (.fieldLink RX9 10 "ChangingRounds" "schedule" "LChangingRounds$Schedule;") (by decide +kernel)
  have hl : lv_has ls 2 [(0, .ref Ta), (1, .int x1)] := hl
  unfold fX9_window at hf
  refine lv_aload_n hx hb dX9_window_0 rfl (lv_at hl 0 rfl) ?_
  refine va_get (D := D) (ci := 6) (v := .ref Sa) (C := RX9) (T := TX9) (N := 7) hx hb hts hi_X9 hown hK hP 0 rfl rfl 0 (by decide) q10 (fun _ h9 => h9) rfl dX9_window_1 ?_
  refine lv_iload_n hx hb dX9_window_4 rfl (lv_at hl 1 rfl) ?_
  refine cv_i (ci := 4) (q := (RX7, TX7, 4)) (As := [.int x1]) (rest := []) hx hb hml hown hts hK hP hD hA hS (kX7_hasRound l D cI cC cS Sa Sa_roundEdges Sa_values x1 S_roundEdges S_values S_nodes S_rounds (fX7_hasRound x1 S_rounds) rfl) (cwV 1 hts gX9_window_X7_hasRound rfl rfl rfl (by decide +kernel) (by subst hR; exact ⟨Nat.le_of_ble_eq_true rfl, Nat.le_of_ble_eq_true rfl⟩)) [1, 2, 3] [0] [0, 1, 2, 3] [(Ta, .inr (6, [.ref Sa, .ref Tr_draft, .ref Tr_history, .ref Tr_text, .ref Tr_flooding, .ref Tr_gossiping, .ref Tr_counting]))] (sh_X9S Ta Sa Sa_roundEdges Sa_values Tr_draft Tr_history Tr_text Tr_flooding Tr_gossiping Tr_counting cI cC cS S_roundEdges S_values S_nodes S_rounds) rfl rfl rfl rfl (by decide) rfl rfl rfl rfl rfl rfl hl.1 rfl (Nat.le_of_ble_eq_true rfl) ⟨Nat.zero_le _, Nat.zero_le _⟩ dX9_window_5 (fun H locs hP hD hS => ?_)
  refine lv_if_ne (tgt := 13) hx hb dX9_window_8 (by decide) (fun c1 => ?_) (fun c1 => ?_)
  · have hf := if_f c1 hf
    refine lv_aload_n hx hb dX9_window_13 rfl (lv_at hl 0 rfl) ?_
    refine va_get (D := D) (ci := 6) (v := .ref Sa) (C := RX9) (T := TX9) (N := 7) hx hb hts hi_X9 hown hK hP 0 rfl rfl 0 (by decide) q10 (fun _ h9 => h9) rfl dX9_window_14 ?_
    refine lv_iload_n hx hb dX9_window_17 rfl (lv_at hl 1 rfl) ?_
    obtain ⟨o2, ho2, hf⟩ := bd_some hf
    refine cv_i (ci := 4) (q := (RX7, TX7, 4)) (As := [.int x1]) (rest := []) hx hb hml hown hts hK hP hD hA hS (kX7_longestWindow l D cI cC cS Sa Sa_roundEdges Sa_values x1 S_roundEdges S_values S_nodes S_rounds o2 ho2) (cwV 1 hts gX9_window_X7_longestWindow rfl rfl rfl (by decide +kernel) (by subst hR; exact ⟨Nat.le_of_ble_eq_true rfl, Nat.le_of_ble_eq_true rfl⟩)) [1, 2, 3] [0] [0, 1, 2, 3] [(Ta, .inr (6, [.ref Sa, .ref Tr_draft, .ref Tr_history, .ref Tr_text, .ref Tr_flooding, .ref Tr_gossiping, .ref Tr_counting]))] (sh_X9S Ta Sa Sa_roundEdges Sa_values Tr_draft Tr_history Tr_text Tr_flooding Tr_gossiping Tr_counting cI cC cS S_roundEdges S_values S_nodes S_rounds) rfl rfl rfl rfl (by decide) rfl rfl rfl rfl rfl rfl hl.1 rfl (Nat.le_of_ble_eq_true rfl) ⟨Nat.zero_le _, Nat.zero_le _⟩ dX9_window_18 (fun H locs hP hD hS => ?_)
    have hf := Option.some.inj hf
    subst hf
    exact rt_i hx hb hr hlocks hQ hK hP hD hS rfl dX9_window_21
  · have hf := if_t c1 hf
    refine lv_iconst (v := (-1 : Int32)) hx hb dX9_window_11 (by decide) ?_
    have hf := Option.some.inj hf
    subst hf
    exact rt_i hx hb hr hlocks hQ hK hP hD hS rfl dX9_window_12
set_option maxRecDepth 100000 in
set_option maxHeartbeats 4000000 in
theorem kX9_isStep (l : Launch) (D : va_G) (cI cC cS : ClassId) (x0 : Int32) (o : Bool) (hf : fX9_isStep x0 = o) : CI l D yX9_isStep wsX9_isStep ({ frames := 0, cells := 0, slots := 0, locals := 0 } : Room) (tysK cI cC cS) [.int x0] [] (b2i o) [] := by
  refine met_i (cc := cX9_isStep) (maxL := 1) (ret := (some .boolean)) (by decide) rfl (Nat.le_of_ble_eq_true rfl) ?_
  intro p e s m args below meth c R Q A F hR hQ hP hK hD hA hS ls hl
  obtain ⟨hx, hb, hr, hts, hml, hlocks, hown⟩ := F
  have hown : s.vm.findClass RX9 = some m.cls := hown
  have hl : lv_has ls 1 [(0, .int x0)] := hl
  unfold fX9_isStep at hf
  refine lv_iload_n hx hb dX9_isStep_0 rfl (lv_at hl 0 rfl) ?_
  refine lv_if_lt (tgt := 14) hx hb dX9_isStep_1 (by decide) (fun c1 => ?_) (fun c1 => ?_)
  · have hf := if_t c1 hf
    refine lv_iconst (v := (0 : Int32)) hx hb dX9_isStep_14 (by decide) ?_
    subst hf
    exact rt_z (ty := .boolean) hx hb hr rfl hlocks hQ hK hP hD hS rfl dX9_isStep_15
  · have hf := if_f c1 hf
    refine lv_iload_n hx hb dX9_isStep_4 rfl (lv_at hl 0 rfl) ?_
    refine lv_bipush (v := (99 : Int32)) hx hb dX9_isStep_5 (by decide) ?_
    refine lv_icmp_gt (tgt := 14) hx hb dX9_isStep_7 (by decide) (fun c2 => ?_) (fun c2 => ?_)
    · have hf := if_t c2 hf
      refine lv_iconst (v := (0 : Int32)) hx hb dX9_isStep_14 (by decide) ?_
      subst hf
      exact rt_z (ty := .boolean) hx hb hr rfl hlocks hQ hK hP hD hS rfl dX9_isStep_15
    · have hf := if_f c2 hf
      refine lv_iconst (v := (1 : Int32)) hx hb dX9_isStep_10 (by decide) ?_
      refine lv_goto (tgt := 15) hx hb dX9_isStep_11 (by decide) ?_
      subst hf
      exact rt_z (ty := .boolean) hx hb hr rfl hlocks hQ hK hP hD hS rfl dX9_isStep_15
set_option maxRecDepth 100000 in
set_option maxHeartbeats 4000000 in
theorem kX9_heard (l : Launch) (D : va_G) (cI cC cS : ClassId) (Ta Sa Sa_roundEdges Sa_values Fa Fa_known Fa_knownBefore Tr_draft Tr_history Tr_text Tr_gossiping Tr_counting : Nat) (x1 : Int32) (x2 : Int32) (x3 : Int32) (S_roundEdges : Nat → Int32) (S_values : Nat → Int32) (S_nodes : Int32) (S_rounds : Int32) (F_known : Nat → Int32) (F_knownBefore : Nat → Int32) (F_step : Int32) (o : Int32 × (Nat → Int32) × (Nat → Int32) × Int32) (hf : fX9_heard x1 x2 x3 S_roundEdges S_nodes S_rounds F_known F_knownBefore F_step = some o) : CI l D yX9_heard wsX9_heard ({ frames := 4, cells := 0, slots := 0, locals := 88 } : Room) (tysK cI cC cS) [.ref Ta, .int x1, .int x2, .int x3] (sh_X9SF Ta Sa Sa_roundEdges Sa_values Fa Fa_known Fa_knownBefore Tr_draft Tr_history Tr_text Tr_gossiping Tr_counting cI cC cS S_roundEdges S_values S_nodes S_rounds F_known F_knownBefore F_step) o.1 (sh_X9SF Ta Sa Sa_roundEdges Sa_values Fa Fa_known Fa_knownBefore Tr_draft Tr_history Tr_text Tr_gossiping Tr_counting cI cC cS S_roundEdges S_values S_nodes S_rounds o.2.1 o.2.2.1 o.2.2.2) := by
  refine met_i (cc := cX9_heard) (maxL := 4) (ret := (some .int)) (by decide) rfl (Nat.le_of_ble_eq_true rfl) ?_
  intro p e s m args below meth c R Q A F hR hQ hP hK hD hA hS ls hl
  obtain ⟨hx, hb, hr, hts, hml, hlocks, hown⟩ := F
  have hown : s.vm.findClass RX9 = some m.cls := hown
  have hi_X9 : ∀ w ∈ u_ws RX9 TX9 7, w ∈ wsX9_heard := fun w h => List.mem_cons_of_mem _ (List.mem_append_left _ (List.mem_append_left _ (List.mem_append_right _ h)))
  have q10 := hts (.fieldLink RX9 10 "ChangingRounds" "schedule" "LChangingRounds$Schedule;") (by decide +kernel)
  have q38 := hts (.fieldLink RX9 38 "ChangingRounds" "flooding" "LChangingRounds$Flooding;") (by decide +kernel)
  have hl : lv_has ls 4 [(0, .ref Ta), (1, .int x1), (2, .int x2), (3, .int x3)] := hl
  unfold fX9_heard at hf
  refine lv_aload_n hx hb dX9_heard_0 rfl (lv_at hl 0 rfl) ?_
  refine va_get (D := D) (ci := 6) (v := .ref Sa) (C := RX9) (T := TX9) (N := 7) hx hb hts hi_X9 hown hK hP 0 rfl rfl 0 (by decide) q10 (fun _ h9 => h9) rfl dX9_heard_1 ?_
  refine lv_iload_n hx hb dX9_heard_4 rfl (lv_at hl 1 rfl) ?_
  refine cv_i (ci := 4) (q := (RX7, TX7, 4)) (As := [.int x1]) (rest := []) hx hb hml hown hts hK hP hD hA hS (kX7_hasNode l D cI cC cS Sa Sa_roundEdges Sa_values x1 S_roundEdges S_values S_nodes S_rounds (fX7_hasNode x1 S_nodes) rfl) (cwV 1 hts gX9_heard_X7_hasNode rfl rfl rfl (by decide +kernel) (by subst hR; exact ⟨Nat.le_of_ble_eq_true rfl, Nat.le_of_ble_eq_true rfl⟩)) [1, 2, 3] [0, 4, 5, 6] [0, 4, 5, 6, 1, 2, 3] [(Ta, .inr (6, [.ref Sa, .ref Tr_draft, .ref Tr_history, .ref Tr_text, .ref Fa, .ref Tr_gossiping, .ref Tr_counting])), (Fa, .inr (1, [.ref Sa, .ref Fa_known, .ref Fa_knownBefore, .int F_step])), (Fa_known, .inl (cI, 8, .inl F_known)), (Fa_knownBefore, .inl (cI, 8, .inl F_knownBefore))] (sh_X9SF Ta Sa Sa_roundEdges Sa_values Fa Fa_known Fa_knownBefore Tr_draft Tr_history Tr_text Tr_gossiping Tr_counting cI cC cS S_roundEdges S_values S_nodes S_rounds F_known F_knownBefore F_step) rfl rfl rfl rfl (by decide) rfl rfl rfl rfl rfl rfl hl.1 rfl (Nat.le_of_ble_eq_true rfl) ⟨Nat.zero_le _, Nat.zero_le _⟩ dX9_heard_5 (fun H locs hP hD hS => ?_)
  refine lv_if_eq (tgt := 25) hx hb dX9_heard_8 (by decide) (fun c1 => ?_) (fun c1 => ?_)
  · have hf := if_t c1 hf
    refine lv_iconst (v := (-1 : Int32)) hx hb dX9_heard_25 (by decide) ?_
    have hf := Option.some.inj hf
    subst hf
    exact rt_i hx hb hr hlocks hQ hK hP hD hS rfl dX9_heard_26
  · have hf := if_f c1 hf
    refine lv_iload_n hx hb dX9_heard_11 rfl (lv_at hl 2 rfl) ?_
    refine cs_i (As := [.int x2]) (rest := []) hx hb hml hown hts hK hP hD hA hS (kX9_isStep l D cI cC cS  x2  (fX9_isStep x2) rfl) (va_cwS 1 hts gX9_heard_X9_isStep rfl rfl rfl (by decide +kernel) (by subst hR; exact ⟨Nat.le_of_ble_eq_true rfl, Nat.le_of_ble_eq_true rfl⟩)) rfl hl.1 rfl (Nat.le_of_ble_eq_true rfl) ⟨Nat.zero_le _, Nat.zero_le _⟩ dX9_heard_12 (fun H locs hP hD hS => ?_)
    refine lv_if_eq (tgt := 25) hx hb dX9_heard_15 (by decide) (fun c2 => ?_) (fun c2 => ?_)
    · have hf := if_t c2 hf
      refine lv_iconst (v := (-1 : Int32)) hx hb dX9_heard_25 (by decide) ?_
      have hf := Option.some.inj hf
      subst hf
      exact rt_i hx hb hr hlocks hQ hK hP hD hS rfl dX9_heard_26
    · have hf := if_f c2 hf
      refine lv_iload_n hx hb dX9_heard_18 rfl (lv_at hl 3 rfl) ?_
      refine cs_i (As := [.int x3]) (rest := []) hx hb hml hown hts hK hP hD hA hS (kX9_isStep l D cI cC cS  x3  (fX9_isStep x3) rfl) (va_cwS 1 hts gX9_heard_X9_isStep rfl rfl rfl (by decide +kernel) (by subst hR; exact ⟨Nat.le_of_ble_eq_true rfl, Nat.le_of_ble_eq_true rfl⟩)) rfl hl.1 rfl (Nat.le_of_ble_eq_true rfl) ⟨Nat.zero_le _, Nat.zero_le _⟩ dX9_heard_19 (fun H locs hP hD hS => ?_)
      refine lv_if_ne (tgt := 27) hx hb dX9_heard_22 (by decide) (fun c3 => ?_) (fun c3 => ?_)
      · have hf := if_f c3 hf
        refine lv_aload_n hx hb dX9_heard_27 rfl (lv_at hl 0 rfl) ?_
        refine va_get (D := D) (ci := 6) (v := .ref Fa) (C := RX9) (T := TX9) (N := 7) hx hb hts hi_X9 hown hK hP 0 rfl rfl 4 (by decide) q38 (fun _ h9 => h9) rfl dX9_heard_28 ?_
        refine lv_iload_n hx hb dX9_heard_31 rfl (lv_at hl 2 rfl) ?_
        obtain ⟨o4, ho4, hf⟩ := bd_some hf
        refine cv_v (ci := 1) (q := (RX3, TX3, 4)) (As := [.int x2]) (rest := []) hx hb hml hown hts hK hP hD hA hS (kX3_begin l D cI cC cS Fa Fa_known Fa_knownBefore Sa Sa_roundEdges Sa_values x2 F_known F_knownBefore F_step S_roundEdges S_values S_nodes S_rounds o4 ho4) (cwV 1 hts gX9_heard_X3_begin rfl rfl rfl (by decide +kernel) (by subst hR; exact ⟨Nat.le_of_ble_eq_true rfl, Nat.le_of_ble_eq_true rfl⟩)) [4, 5, 6, 1, 2, 3] [0] [0, 4, 5, 6, 1, 2, 3] [(Ta, .inr (6, [.ref Sa, .ref Tr_draft, .ref Tr_history, .ref Tr_text, .ref Fa, .ref Tr_gossiping, .ref Tr_counting]))] (sh_X9SF Ta Sa Sa_roundEdges Sa_values Fa Fa_known Fa_knownBefore Tr_draft Tr_history Tr_text Tr_gossiping Tr_counting cI cC cS S_roundEdges S_values S_nodes S_rounds o4.1 F_knownBefore o4.2) rfl rfl rfl rfl (by decide) rfl rfl rfl rfl rfl rfl hl.1 rfl (Nat.le_of_ble_eq_true rfl) ⟨Nat.zero_le _, Nat.zero_le _⟩ dX9_heard_32 (fun H locs hP hD hS => ?_)
        refine lv_aload_n hx hb dX9_heard_35 rfl (lv_at hl 0 rfl) ?_
        refine va_get (D := D) (ci := 6) (v := .ref Fa) (C := RX9) (T := TX9) (N := 7) hx hb hts hi_X9 hown hK hP 0 rfl rfl 4 (by decide) q38 (fun _ h9 => h9) rfl dX9_heard_36 ?_
        refine lv_iload_n hx hb dX9_heard_39 rfl (lv_at hl 3 rfl) ?_
        obtain ⟨o5, ho5, hf⟩ := bd_some hf
        refine cv_v (ci := 1) (q := (RX3, TX3, 4)) (As := [.int x3]) (rest := []) hx hb hml hown hts hK hP hD hA hS (kX3_advanceBy l D cI cC cS Fa Fa_known Fa_knownBefore Sa Sa_roundEdges Sa_values x3 o4.1 F_knownBefore o4.2 S_roundEdges S_values S_nodes S_rounds o5 ho5) (cwV 1 hts gX9_heard_X3_advanceBy rfl rfl rfl (by decide +kernel) (by subst hR; exact ⟨Nat.le_of_ble_eq_true rfl, Nat.le_of_ble_eq_true rfl⟩)) [4, 5, 6, 1, 2, 3] [0] [0, 4, 5, 6, 1, 2, 3] [(Ta, .inr (6, [.ref Sa, .ref Tr_draft, .ref Tr_history, .ref Tr_text, .ref Fa, .ref Tr_gossiping, .ref Tr_counting]))] (sh_X9SF Ta Sa Sa_roundEdges Sa_values Fa Fa_known Fa_knownBefore Tr_draft Tr_history Tr_text Tr_gossiping Tr_counting cI cC cS S_roundEdges S_values S_nodes S_rounds o5.1 o5.2.1 o5.2.2) rfl rfl rfl rfl (by decide) rfl rfl rfl rfl rfl rfl hl.1 rfl (Nat.le_of_ble_eq_true rfl) ⟨Nat.zero_le _, Nat.zero_le _⟩ dX9_heard_40 (fun H locs hP hD hS => ?_)
        refine lv_aload_n hx hb dX9_heard_43 rfl (lv_at hl 0 rfl) ?_
        refine va_get (D := D) (ci := 6) (v := .ref Fa) (C := RX9) (T := TX9) (N := 7) hx hb hts hi_X9 hown hK hP 0 rfl rfl 4 (by decide) q38 (fun _ h9 => h9) rfl dX9_heard_44 ?_
        refine lv_iload_n hx hb dX9_heard_47 rfl (lv_at hl 1 rfl) ?_
        obtain ⟨o6, ho6, hf⟩ := bd_some hf
        refine cv_i (ci := 1) (q := (RX3, TX3, 4)) (As := [.int x1]) (rest := []) hx hb hml hown hts hK hP hD hA hS (kX3_tokensOf l D cI cC cS Fa Fa_known Fa_knownBefore Sa Sa_roundEdges Sa_values x1 o5.1 o5.2.1 o5.2.2 S_roundEdges S_values S_nodes S_rounds o6 ho6) (cwV 1 hts gX9_heard_X3_tokensOf rfl rfl rfl (by decide +kernel) (by subst hR; exact ⟨Nat.le_of_ble_eq_true rfl, Nat.le_of_ble_eq_true rfl⟩)) [4, 5, 6, 1, 2, 3] [0] [0, 4, 5, 6, 1, 2, 3] [(Ta, .inr (6, [.ref Sa, .ref Tr_draft, .ref Tr_history, .ref Tr_text, .ref Fa, .ref Tr_gossiping, .ref Tr_counting]))] (sh_X9SF Ta Sa Sa_roundEdges Sa_values Fa Fa_known Fa_knownBefore Tr_draft Tr_history Tr_text Tr_gossiping Tr_counting cI cC cS S_roundEdges S_values S_nodes S_rounds o5.1 o5.2.1 o5.2.2) rfl rfl rfl rfl (by decide) rfl rfl rfl rfl rfl rfl hl.1 rfl (Nat.le_of_ble_eq_true rfl) ⟨Nat.zero_le _, Nat.zero_le _⟩ dX9_heard_48 (fun H locs hP hD hS => ?_)
        have hf := Option.some.inj hf
        subst hf
        exact rt_i hx hb hr hlocks hQ hK hP hD hS rfl dX9_heard_51
      · have hf := if_t c3 hf
        refine lv_iconst (v := (-1 : Int32)) hx hb dX9_heard_25 (by decide) ?_
        have hf := Option.some.inj hf
        subst hf
        exact rt_i hx hb hr hlocks hQ hK hP hD hS rfl dX9_heard_26
