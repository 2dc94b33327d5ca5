set_option maxRecDepth 100000 in
set_option maxHeartbeats 4000000 in
theorem kX9_journey (l : Launch) (D : va_G) (cI cC cS : ClassId) (Ta Sa Sa_roundEdges Sa_values Fa Fa_known Fa_knownBefore Tr_draft Tr_history Tr_text Tr_gossiping Tr_counting : Nat) (x1 : Int32) (x2 : Int32) (x3 : Int32) (S_roundEdges : Nat → Int32) (S_values : Nat → Int32) (S_nodes : Int32) (S_rounds : Int32) (F_known : Nat → Int32) (F_knownBefore : Nat → Int32) (F_step : Int32) (o : Int32 × (Nat → Int32) × (Nat → Int32) × Int32) (hf : fX9_journey x1 x2 x3 S_roundEdges S_nodes S_rounds F_known F_knownBefore F_step = some o) : CI l D yX9_journey wsX9_journey ({ frames := 3, cells := 0, slots := 0, locals := 66 } : Room) (tysK cI cC cS) [.ref Ta, .int x1, .int x2, .int x3] (sh_X9SF Ta Sa Sa_roundEdges Sa_values Fa Fa_known Fa_knownBefore Tr_draft Tr_history Tr_text Tr_gossiping Tr_counting cI cC cS S_roundEdges S_values S_nodes S_rounds F_known F_knownBefore F_step) o.1 (sh_X9SF Ta Sa Sa_roundEdges Sa_values Fa Fa_known Fa_knownBefore Tr_draft Tr_history Tr_text Tr_gossiping Tr_counting cI cC cS S_roundEdges S_values S_nodes S_rounds o.2.1 o.2.2.1 o.2.2.2) := by
  refine met_i (cc := cX9_journey) (maxL := 5) (ret := (some .int)) (by decide) rfl (Nat.le_of_ble_eq_true rfl) ?_
  intro p e s m args below meth c R Q A F hR hQ hP hK hD hA hS ls hl
  obtain ⟨hx, hb, hr, hts, hml, hlocks, hown⟩ := F
  have hown : s.vm.findClass RX9 = some m.cls := hown
  have hi_X9 : ∀ w ∈ u_ws RX9 TX9 7, w ∈ wsX9_journey := fun w h => List.mem_cons_of_mem _ (List.mem_append_left _ (List.mem_append_left _ (List.mem_append_right _ h)))
  have q10 := hts (.fieldLink RX9 10 "ChangingRounds" "schedule" "LChangingRounds$Schedule;") (by decide +kernel)
  have q38 := hts (.fieldLink RX9 38 "ChangingRounds" "flooding" "LChangingRounds$Flooding;") (by decide +kernel)
  have hl : lv_has ls 5 [(0, .ref Ta), (1, .int x1), (2, .int x2), (3, .int x3)] := hl
  unfold fX9_journey at hf
  have L42 : ∀ (n42 : Nat) (x4 : Int32) (F_known : Nat → Int32) (F_knownBefore : Nat → Int32) (F_step : Int32) (H : Heap) (locs : List Loc) (ls : Array Slot), fX9_journey_l42 x1 x2 S_roundEdges S_nodes S_rounds n42 x4 F_known F_knownBefore F_step = some o → va_P D vwCl (sh_X9SF Ta Sa Sa_roundEdges Sa_values Fa Fa_known Fa_knownBefore Tr_draft Tr_history Tr_text Tr_gossiping Tr_counting cI cC cS S_roundEdges S_values S_nodes S_rounds F_known F_knownBefore F_step) H → va_D A (sh_X9SF Ta Sa Sa_roundEdges Sa_values Fa Fa_known Fa_knownBefore Tr_draft Tr_history Tr_text Tr_gossiping Tr_counting cI cC cS S_roundEdges S_values S_nodes S_rounds F_known F_knownBefore F_step) → va_S A s.heap H locs → lv_has ls 5 [(0, .ref Ta), (1, .int x1), (2, .int x2), (4, .int x4)] → W p l e R s m args below meth c H locs 0 0 Q (F0 m 42 ls []) := by
    intro n42
    induction n42 with
    | zero => intro x4 F_known F_knownBefore F_step H locs ls hf; cases (show (none : Option _) = some _ from hf)
    | succ n42 ih42 =>
      intro x4 F_known F_knownBefore F_step H locs ls hf hP hD hS hl
      rw [fX9_journey_l42] at hf
      refine lv_iload hx hb dX9_journey_42 (lv_at hl 3 rfl) ?_
      refine lv_aload_n hx hb dX9_journey_44 rfl (lv_at hl 0 rfl) ?_
      refine va_get (D := D) (ci := 6) (v := .ref Sa) (C := RX9) (T := TX9) (N := 7) hx hb hts hi_X9 hown hK hP 0 rfl rfl 0 (by decide) q10 (fun _ h9 => h9) rfl dX9_journey_45 ?_
      refine cv_i (ci := 4) (q := (RX7, TX7, 4)) (As := []) (rest := [.int x4]) hx hb hml hown hts hK hP hD hA hS (kX7_longestFlooding l D cI cC cS Sa Sa_roundEdges Sa_values  S_roundEdges S_values S_nodes S_rounds (fX7_longestFlooding S_nodes S_rounds) rfl) (cwV 0 hts gX9_journey_X7_longestFlooding rfl rfl rfl (by decide +kernel) (by subst hR; exact ⟨Nat.le_of_ble_eq_true rfl, Nat.le_of_ble_eq_true rfl⟩)) [1, 2, 3] [0, 4, 5, 6] [0, 4, 5, 6, 1, 2, 3] [(Ta, .inr (6, [.ref Sa, .ref Tr_draft, .ref Tr_history, .ref Tr_text, .ref Fa, .ref Tr_gossiping, .ref Tr_counting])), (Fa, .inr (1, [.ref Sa, .ref Fa_known, .ref Fa_knownBefore, .int F_step])), (Fa_known, .inl (cI, 8, .inl F_known)), (Fa_knownBefore, .inl (cI, 8, .inl F_knownBefore))] (sh_X9SF Ta Sa Sa_roundEdges Sa_values Fa Fa_known Fa_knownBefore Tr_draft Tr_history Tr_text Tr_gossiping Tr_counting cI cC cS S_roundEdges S_values S_nodes S_rounds F_known F_knownBefore F_step) rfl rfl rfl rfl (by decide) rfl rfl rfl rfl rfl rfl hl.1 rfl (Nat.le_of_ble_eq_true rfl) ⟨Nat.zero_le _, Nat.zero_le _⟩ dX9_journey_48 (fun H locs hP hD hS => ?_)
      refine lv_icmp_gt (tgt := 85) hx hb dX9_journey_51 (by decide) (fun c1 => ?_) (fun c1 => ?_)
      · have hf := if_t c1 hf
        refine lv_bipush (v := (-9 : Int32)) hx hb dX9_journey_85 (by decide) ?_
        have hf := Option.some.inj hf
        subst hf
        exact rt_i hx hb hr hlocks hQ hK hP hD hS rfl dX9_journey_87
      · have hf := if_f c1 hf
        refine lv_aload_n hx hb dX9_journey_54 rfl (lv_at hl 0 rfl) ?_
        refine va_get (D := D) (ci := 6) (v := .ref Fa) (C := RX9) (T := TX9) (N := 7) hx hb hts hi_X9 hown hK hP 0 rfl rfl 4 (by decide) q38 (fun _ h9 => h9) rfl dX9_journey_55 ?_
        refine lv_iload_n hx hb dX9_journey_58 rfl (lv_at hl 2 rfl) ?_
        obtain ⟨o2, ho2, hf⟩ := bd_some hf
        refine cv_i (ci := 1) (q := (RX3, TX3, 4)) (As := [.int x2]) (rest := []) hx hb hml hown hts hK hP hD hA hS (kX3_tokensOf l D cI cC cS Fa Fa_known Fa_knownBefore Sa Sa_roundEdges Sa_values x2 F_known F_knownBefore F_step S_roundEdges S_values S_nodes S_rounds o2 ho2) (cwV 1 hts gX9_journey_X3_tokensOf rfl rfl rfl (by decide +kernel) (by subst hR; exact ⟨Nat.le_of_ble_eq_true rfl, Nat.le_of_ble_eq_true rfl⟩)) [4, 5, 6, 1, 2, 3] [0] [0, 4, 5, 6, 1, 2, 3] [(Ta, .inr (6, [.ref Sa, .ref Tr_draft, .ref Tr_history, .ref Tr_text, .ref Fa, .ref Tr_gossiping, .ref Tr_counting]))] (sh_X9SF Ta Sa Sa_roundEdges Sa_values Fa Fa_known Fa_knownBefore Tr_draft Tr_history Tr_text Tr_gossiping Tr_counting cI cC cS S_roundEdges S_values S_nodes S_rounds F_known F_knownBefore F_step) rfl rfl rfl rfl (by decide) rfl rfl rfl rfl rfl rfl hl.1 rfl (Nat.le_of_ble_eq_true rfl) ⟨Nat.zero_le _, Nat.zero_le _⟩ dX9_journey_59 (fun H locs hP hD hS => ?_)
        refine lv_iload_n hx hb dX9_journey_62 rfl (lv_at hl 1 rfl) ?_
        refine cs_i (As := [.int o2, .int x1]) (rest := []) hx hb hml hown hts hK hP hD hA hS (kX6_has l D cI cC cS  o2 x1  (fX6_has o2 x1) rfl) (va_cwS 2 hts gX9_journey_X6_has rfl rfl rfl (by decide +kernel) (by subst hR; exact ⟨Nat.le_of_ble_eq_true rfl, Nat.le_of_ble_eq_true rfl⟩)) rfl hl.1 rfl (Nat.le_of_ble_eq_true rfl) ⟨Nat.zero_le _, Nat.zero_le _⟩ dX9_journey_63 (fun H locs hP hD hS => ?_)
        refine lv_if_eq (tgt := 72) hx hb dX9_journey_66 (by decide) (fun c3 => ?_) (fun c3 => ?_)
        · have hf := if_t c3 hf
          refine lv_aload_n hx hb dX9_journey_72 rfl (lv_at hl 0 rfl) ?_
          refine va_get (D := D) (ci := 6) (v := .ref Fa) (C := RX9) (T := TX9) (N := 7) hx hb hts hi_X9 hown hK hP 0 rfl rfl 4 (by decide) q38 (fun _ h9 => h9) rfl dX9_journey_73 ?_
          obtain ⟨o4, ho4, hf⟩ := bd_some hf
          refine cv_v (ci := 1) (q := (RX3, TX3, 4)) (As := []) (rest := []) hx hb hml hown hts hK hP hD hA hS (kX3_advance l D cI cC cS Fa Fa_known Fa_knownBefore Sa Sa_roundEdges Sa_values  F_known F_knownBefore F_step S_roundEdges S_values S_nodes S_rounds o4 ho4) (cwV 0 hts gX9_journey_X3_advance rfl rfl rfl (by decide +kernel) (by subst hR; exact ⟨Nat.le_of_ble_eq_true rfl, Nat.le_of_ble_eq_true rfl⟩)) [4, 5, 6, 1, 2, 3] [0] [0, 4, 5, 6, 1, 2, 3] [(Ta, .inr (6, [.ref Sa, .ref Tr_draft, .ref Tr_history, .ref Tr_text, .ref Fa, .ref Tr_gossiping, .ref Tr_counting]))] (sh_X9SF Ta Sa Sa_roundEdges Sa_values Fa Fa_known Fa_knownBefore Tr_draft Tr_history Tr_text Tr_gossiping Tr_counting cI cC cS S_roundEdges S_values S_nodes S_rounds o4.1 o4.2.1 o4.2.2) rfl rfl rfl rfl (by decide) rfl rfl rfl rfl rfl rfl hl.1 rfl (Nat.le_of_ble_eq_true rfl) ⟨Nat.zero_le _, Nat.zero_le _⟩ dX9_journey_76 (fun H locs hP hD hS => ?_)
          refine lv_iinc (v := (x4 + 1)) (lv' := [(4, .int (x4 + 1)), (0, .ref Ta), (1, .int x1), (2, .int x2)]) hx hb dX9_journey_79 hl (k := 3) rfl rfl (by decide) rfl (fun ls hl => ?_)
          refine lv_goto (tgt := 42) hx hb dX9_journey_82 (by decide) ?_
          exact ih42 (x4 + 1) o4.1 o4.2.1 o4.2.2 _ _ _ hf hP hD hS (lv_sub hl [1, 2, 3, 0] rfl)
        · have hf := if_f c3 hf
          refine lv_iload hx hb dX9_journey_69 (lv_at hl 3 rfl) ?_
          have hf := Option.some.inj hf
          subst hf
          exact rt_i hx hb hr hlocks hQ hK hP hD hS rfl dX9_journey_71
  refine lv_aload_n hx hb dX9_journey_0 rfl (lv_at hl 0 rfl) ?_
  refine va_get (D := D) (ci := 6) (v := .ref Sa) (C := RX9) (T := TX9) (N := 7) hx hb hts hi_X9 hown hK hP 0 rfl rfl 0 (by decide) q10 (fun _ h9 => h9) rfl dX9_journey_1 ?_
  refine lv_iload_n hx hb dX9_journey_4 rfl (lv_at hl 1 rfl) ?_
  refine cv_i (ci := 4) (q := (RX7, TX7, 4)) (As := [.int x1]) (rest := []) hx hb hml hown hts hK hP hD hA hS (kX7_hasNode l D cI cC cS Sa Sa_roundEdges Sa_values x1 S_roundEdges S_values S_nodes S_rounds (fX7_hasNode x1 S_nodes) rfl) (cwV 1 hts gX9_journey_X7_hasNode rfl rfl rfl (by decide +kernel) (by subst hR; exact ⟨Nat.le_of_ble_eq_true rfl, Nat.le_of_ble_eq_true rfl⟩)) [1, 2, 3] [0, 4, 5, 6] [0, 4, 5, 6, 1, 2, 3] [(Ta, .inr (6, [.ref Sa, .ref Tr_draft, .ref Tr_history, .ref Tr_text, .ref Fa, .ref Tr_gossiping, .ref Tr_counting])), (Fa, .inr (1, [.ref Sa, .ref Fa_known, .ref Fa_knownBefore, .int F_step])), (Fa_known, .inl (cI, 8, .inl F_known)), (Fa_knownBefore, .inl (cI, 8, .inl F_knownBefore))] (sh_X9SF Ta Sa Sa_roundEdges Sa_values Fa Fa_known Fa_knownBefore Tr_draft Tr_history Tr_text Tr_gossiping Tr_counting cI cC cS S_roundEdges S_values S_nodes S_rounds F_known F_knownBefore F_step) rfl rfl rfl rfl (by decide) rfl rfl rfl rfl rfl rfl hl.1 rfl (Nat.le_of_ble_eq_true rfl) ⟨Nat.zero_le _, Nat.zero_le _⟩ dX9_journey_5 (fun H locs hP hD hS => ?_)
  refine lv_if_eq (tgt := 29) hx hb dX9_journey_8 (by decide) (fun c5 => ?_) (fun c5 => ?_)
  · have hf := if_t c5 hf
    refine lv_iconst (v := (-1 : Int32)) hx hb dX9_journey_29 (by decide) ?_
    have hf := Option.some.inj hf
    subst hf
    exact rt_i hx hb hr hlocks hQ hK hP hD hS rfl dX9_journey_30
  · have hf := if_f c5 hf
    refine lv_aload_n hx hb dX9_journey_11 rfl (lv_at hl 0 rfl) ?_
    refine va_get (D := D) (ci := 6) (v := .ref Sa) (C := RX9) (T := TX9) (N := 7) hx hb hts hi_X9 hown hK hP 0 rfl rfl 0 (by decide) q10 (fun _ h9 => h9) rfl dX9_journey_12 ?_
    refine lv_iload_n hx hb dX9_journey_15 rfl (lv_at hl 2 rfl) ?_
    refine cv_i (ci := 4) (q := (RX7, TX7, 4)) (As := [.int x2]) (rest := []) hx hb hml hown hts hK hP hD hA hS (kX7_hasNode l D cI cC cS Sa Sa_roundEdges Sa_values x2 S_roundEdges S_values S_nodes S_rounds (fX7_hasNode x2 S_nodes) rfl) (cwV 1 hts gX9_journey_X7_hasNode rfl rfl rfl (by decide +kernel) (by subst hR; exact ⟨Nat.le_of_ble_eq_true rfl, Nat.le_of_ble_eq_true rfl⟩)) [1, 2, 3] [0, 4, 5, 6] [0, 4, 5, 6, 1, 2, 3] [(Ta, .inr (6, [.ref Sa, .ref Tr_draft, .ref Tr_history, .ref Tr_text, .ref Fa, .ref Tr_gossiping, .ref Tr_counting])), (Fa, .inr (1, [.ref Sa, .ref Fa_known, .ref Fa_knownBefore, .int F_step])), (Fa_known, .inl (cI, 8, .inl F_known)), (Fa_knownBefore, .inl (cI, 8, .inl F_knownBefore))] (sh_X9SF Ta Sa Sa_roundEdges Sa_values Fa Fa_known Fa_knownBefore Tr_draft Tr_history Tr_text Tr_gossiping Tr_counting cI cC cS S_roundEdges S_values S_nodes S_rounds F_known F_knownBefore F_step) rfl rfl rfl rfl (by decide) rfl rfl rfl rfl rfl rfl hl.1 rfl (Nat.le_of_ble_eq_true rfl) ⟨Nat.zero_le _, Nat.zero_le _⟩ dX9_journey_16 (fun H locs hP hD hS => ?_)
    refine lv_if_eq (tgt := 29) hx hb dX9_journey_19 (by decide) (fun c6 => ?_) (fun c6 => ?_)
    · have hf := if_t c6 hf
      refine lv_iconst (v := (-1 : Int32)) hx hb dX9_journey_29 (by decide) ?_
      have hf := Option.some.inj hf
      subst hf
      exact rt_i hx hb hr hlocks hQ hK hP hD hS rfl dX9_journey_30
    · have hf := if_f c6 hf
      refine lv_iload_n hx hb dX9_journey_22 rfl (lv_at hl 3 rfl) ?_
      refine cs_i (As := [.int x3]) (rest := []) hx hb hml hown hts hK hP hD hA hS (kX9_isStep l D cI cC cS  x3  (fX9_isStep x3) rfl) (va_cwS 1 hts gX9_journey_X9_isStep rfl rfl rfl (by decide +kernel) (by subst hR; exact ⟨Nat.le_of_ble_eq_true rfl, Nat.le_of_ble_eq_true rfl⟩)) rfl hl.1 rfl (Nat.le_of_ble_eq_true rfl) ⟨Nat.zero_le _, Nat.zero_le _⟩ dX9_journey_23 (fun H locs hP hD hS => ?_)
      refine lv_if_ne (tgt := 31) hx hb dX9_journey_26 (by decide) (fun c7 => ?_) (fun c7 => ?_)
      · have hf := if_f c7 hf
        refine lv_aload_n hx hb dX9_journey_31 rfl (lv_at hl 0 rfl) ?_
        refine va_get (D := D) (ci := 6) (v := .ref Fa) (C := RX9) (T := TX9) (N := 7) hx hb hts hi_X9 hown hK hP 0 rfl rfl 4 (by decide) q38 (fun _ h9 => h9) rfl dX9_journey_32 ?_
        refine lv_iload_n hx hb dX9_journey_35 rfl (lv_at hl 3 rfl) ?_
        obtain ⟨o8, ho8, hf⟩ := bd_some hf
        refine cv_v (ci := 1) (q := (RX3, TX3, 4)) (As := [.int x3]) (rest := []) hx hb hml hown hts hK hP hD hA hS (kX3_begin l D cI cC cS Fa Fa_known Fa_knownBefore Sa Sa_roundEdges Sa_values x3 F_known F_knownBefore F_step S_roundEdges S_values S_nodes S_rounds o8 ho8) (cwV 1 hts gX9_journey_X3_begin rfl rfl rfl (by decide +kernel) (by subst hR; exact ⟨Nat.le_of_ble_eq_true rfl, Nat.le_of_ble_eq_true rfl⟩)) [4, 5, 6, 1, 2, 3] [0] [0, 4, 5, 6, 1, 2, 3] [(Ta, .inr (6, [.ref Sa, .ref Tr_draft, .ref Tr_history, .ref Tr_text, .ref Fa, .ref Tr_gossiping, .ref Tr_counting]))] (sh_X9SF Ta Sa Sa_roundEdges Sa_values Fa Fa_known Fa_knownBefore Tr_draft Tr_history Tr_text Tr_gossiping Tr_counting cI cC cS S_roundEdges S_values S_nodes S_rounds o8.1 F_knownBefore o8.2) rfl rfl rfl rfl (by decide) rfl rfl rfl rfl rfl rfl hl.1 rfl (Nat.le_of_ble_eq_true rfl) ⟨Nat.zero_le _, Nat.zero_le _⟩ dX9_journey_36 (fun H locs hP hD hS => ?_)
        refine lv_iconst (v := (0 : Int32)) hx hb dX9_journey_39 (by decide) ?_
        refine lv_istore (lv' := [(4, .int (0 : Int32)), (0, .ref Ta), (1, .int x1), (2, .int x2), (3, .int x3)]) hx hb dX9_journey_40 hl (by decide) rfl (fun ls hl => ?_)
        exact L42  fuel (0 : Int32) o8.1 F_knownBefore o8.2 _ _ _ hf hP hD hS (lv_sub hl [1, 2, 3, 0] rfl)
      · have hf := if_t c7 hf
        refine lv_iconst (v := (-1 : Int32)) hx hb dX9_journey_29 (by decide) ?_
        have hf := Option.some.inj hf
        subst hf
        exact rt_i hx hb hr hlocks hQ hK hP hD hS rfl dX9_journey_30
set_option maxRecDepth 100000 in
set_option maxHeartbeats 4000000 in
theorem kX9_diameter (l : Launch) (D : va_G) (cI cC cS : ClassId) (Ta Sa Sa_roundEdges Sa_values Fa Fa_known Fa_knownBefore Tr_draft Tr_history Tr_text Tr_gossiping Tr_counting : Nat) (x1 : Int32) (S_roundEdges : Nat → Int32) (S_values : Nat → Int32) (S_nodes : Int32) (S_rounds : Int32) (F_known : Nat → Int32) (F_knownBefore : Nat → Int32) (F_step : Int32) (o : Int32 × (Nat → Int32) × (Nat → Int32) × Int32) (hf : fX9_diameter x1 S_roundEdges S_nodes S_rounds F_known F_knownBefore F_step = some o) : CI l D yX9_diameter wsX9_diameter ({ frames := 3, cells := 0, slots := 0, locals := 66 } : Room) (tysK cI cC cS) [.ref Ta, .int x1] (sh_X9SF Ta Sa Sa_roundEdges Sa_values Fa Fa_known Fa_knownBefore Tr_draft Tr_history Tr_text Tr_gossiping Tr_counting cI cC cS S_roundEdges S_values S_nodes S_rounds F_known F_knownBefore F_step) o.1 (sh_X9SF Ta Sa Sa_roundEdges Sa_values Fa Fa_known Fa_knownBefore Tr_draft Tr_history Tr_text Tr_gossiping Tr_counting cI cC cS S_roundEdges S_values S_nodes S_rounds o.2.1 o.2.2.1 o.2.2.2) := by
  refine met_i (cc := cX9_diameter) (maxL := 3) (ret := (some .int)) (by decide) rfl (Nat.le_of_ble_eq_true rfl) ?_
  intro p e s m args below meth c R Q A F hR hQ hP hK hD hA hS ls hl
  obtain ⟨hx, hb, hr, hts, hml, hlocks, hown⟩ := F
  have hown : s.vm.findClass RX9 = some m.cls := hown
  have hi_X9 : ∀ w ∈ u_ws RX9 TX9 7, w ∈ wsX9_diameter := fun w h => List.mem_cons_of_mem _ (List.mem_append_left _ (List.mem_append_left _ (List.mem_append_right _ h)))
  have q38 := hts (.fieldLink RX9 38 "ChangingRounds" "flooding" "LChangingRounds$Flooding;") (by decide +kernel)
  have q10 := hts (.fieldLink RX9 10 "ChangingRounds" "schedule" "LChangingRounds$Schedule;") (by decide +kernel)
  have hl : lv_has ls 3 [(0, .ref Ta), (1, .int x1)] := hl
  unfold fX9_diameter at hf
  have L19 : ∀ (n19 : Nat) (x2 : Int32) (F_known : Nat → Int32) (F_knownBefore : Nat → Int32) (F_step : Int32) (H : Heap) (locs : List Loc) (ls : Array Slot), fX9_diameter_l19 S_roundEdges S_nodes S_rounds n19 x2 F_known F_knownBefore F_step = some o → va_P D vwCl (sh_X9SF Ta Sa Sa_roundEdges Sa_values Fa Fa_known Fa_knownBefore Tr_draft Tr_history Tr_text Tr_gossiping Tr_counting cI cC cS S_roundEdges S_values S_nodes S_rounds F_known F_knownBefore F_step) H → va_D A (sh_X9SF Ta Sa Sa_roundEdges Sa_values Fa Fa_known Fa_knownBefore Tr_draft Tr_history Tr_text Tr_gossiping Tr_counting cI cC cS S_roundEdges S_values S_nodes S_rounds F_known F_knownBefore F_step) → va_S A s.heap H locs → lv_has ls 3 [(0, .ref Ta), (2, .int x2)] → W p l e R s m args below meth c H locs 0 0 Q (F0 m 19 ls []) := by
    intro n19
    induction n19 with
    | zero => intro x2 F_known F_knownBefore F_step H locs ls hf; cases (show (none : Option _) = some _ from hf)
    | succ n19 ih19 =>
      intro x2 F_known F_knownBefore F_step H locs ls hf hP hD hS hl
      rw [fX9_diameter_l19] at hf
      refine lv_iload_n hx hb dX9_diameter_19 rfl (lv_at hl 1 rfl) ?_
      refine lv_aload_n hx hb dX9_diameter_20 rfl (lv_at hl 0 rfl) ?_
      refine va_get (D := D) (ci := 6) (v := .ref Sa) (C := RX9) (T := TX9) (N := 7) hx hb hts hi_X9 hown hK hP 0 rfl rfl 0 (by decide) q10 (fun _ h9 => h9) rfl dX9_diameter_21 ?_
      refine cv_i (ci := 4) (q := (RX7, TX7, 4)) (As := []) (rest := [.int x2]) hx hb hml hown hts hK hP hD hA hS (kX7_longestFlooding l D cI cC cS Sa Sa_roundEdges Sa_values  S_roundEdges S_values S_nodes S_rounds (fX7_longestFlooding S_nodes S_rounds) rfl) (cwV 0 hts gX9_diameter_X7_longestFlooding rfl rfl rfl (by decide +kernel) (by subst hR; exact ⟨Nat.le_of_ble_eq_true rfl, Nat.le_of_ble_eq_true rfl⟩)) [1, 2, 3] [0, 4, 5, 6] [0, 4, 5, 6, 1, 2, 3] [(Ta, .inr (6, [.ref Sa, .ref Tr_draft, .ref Tr_history, .ref Tr_text, .ref Fa, .ref Tr_gossiping, .ref Tr_counting])), (Fa, .inr (1, [.ref Sa, .ref Fa_known, .ref Fa_knownBefore, .int F_step])), (Fa_known, .inl (cI, 8, .inl F_known)), (Fa_knownBefore, .inl (cI, 8, .inl F_knownBefore))] (sh_X9SF Ta Sa Sa_roundEdges Sa_values Fa Fa_known Fa_knownBefore Tr_draft Tr_history Tr_text Tr_gossiping Tr_counting cI cC cS S_roundEdges S_values S_nodes S_rounds F_known F_knownBefore F_step) rfl rfl rfl rfl (by decide) rfl rfl rfl rfl rfl rfl hl.1 rfl (Nat.le_of_ble_eq_true rfl) ⟨Nat.zero_le _, Nat.zero_le _⟩ dX9_diameter_24 (fun H locs hP hD hS => ?_)
      refine lv_icmp_gt (tgt := 65) hx hb dX9_diameter_27 (by decide) (fun c1 => ?_) (fun c1 => ?_)
      · have hf := if_t c1 hf
        refine lv_bipush (v := (-9 : Int32)) hx hb dX9_diameter_65 (by decide) ?_
        have hf := Option.some.inj hf
        subst hf
        exact rt_i hx hb hr hlocks hQ hK hP hD hS rfl dX9_diameter_67
      · have hf := if_f c1 hf
        refine lv_aload_n hx hb dX9_diameter_30 rfl (lv_at hl 0 rfl) ?_
        refine va_get (D := D) (ci := 6) (v := .ref Fa) (C := RX9) (T := TX9) (N := 7) hx hb hts hi_X9 hown hK hP 0 rfl rfl 4 (by decide) q38 (fun _ h9 => h9) rfl dX9_diameter_31 ?_
        obtain ⟨o2, ho2, hf⟩ := bd_some hf
        refine cv_i (ci := 1) (q := (RX3, TX3, 4)) (As := []) (rest := []) hx hb hml hown hts hK hP hD hA hS (kX3_tokensOfAll l D cI cC cS Fa Fa_known Fa_knownBefore Sa Sa_roundEdges Sa_values  F_known F_knownBefore F_step S_roundEdges S_values S_nodes S_rounds o2 ho2) (cwV 0 hts gX9_diameter_X3_tokensOfAll rfl rfl rfl (by decide +kernel) (by subst hR; exact ⟨Nat.le_of_ble_eq_true rfl, Nat.le_of_ble_eq_true rfl⟩)) [4, 5, 6, 1, 2, 3] [0] [0, 4, 5, 6, 1, 2, 3] [(Ta, .inr (6, [.ref Sa, .ref Tr_draft, .ref Tr_history, .ref Tr_text, .ref Fa, .ref Tr_gossiping, .ref Tr_counting]))] (sh_X9SF Ta Sa Sa_roundEdges Sa_values Fa Fa_known Fa_knownBefore Tr_draft Tr_history Tr_text Tr_gossiping Tr_counting cI cC cS S_roundEdges S_values S_nodes S_rounds F_known F_knownBefore F_step) rfl rfl rfl rfl (by decide) rfl rfl rfl rfl rfl rfl hl.1 rfl (Nat.le_of_ble_eq_true rfl) ⟨Nat.zero_le _, Nat.zero_le _⟩ dX9_diameter_34 (fun H locs hP hD hS => ?_)
        refine lv_aload_n hx hb dX9_diameter_37 rfl (lv_at hl 0 rfl) ?_
        refine va_get (D := D) (ci := 6) (v := .ref Sa) (C := RX9) (T := TX9) (N := 7) hx hb hts hi_X9 hown hK hP 0 rfl rfl 0 (by decide) q10 (fun _ h9 => h9) rfl dX9_diameter_38 ?_
        refine cv_i (ci := 4) (q := (RX7, TX7, 4)) (As := []) (rest := [.int o2]) hx hb hml hown hts hK hP hD hA hS (kX7_nodes l D cI cC cS Sa Sa_roundEdges Sa_values  S_roundEdges S_values S_nodes S_rounds (fX7_nodes S_nodes) rfl) (cwV 0 hts gX9_diameter_X7_nodes rfl rfl rfl (by decide +kernel) (by subst hR; exact ⟨Nat.le_of_ble_eq_true rfl, Nat.le_of_ble_eq_true rfl⟩)) [1, 2, 3] [0, 4, 5, 6] [0, 4, 5, 6, 1, 2, 3] [(Ta, .inr (6, [.ref Sa, .ref Tr_draft, .ref Tr_history, .ref Tr_text, .ref Fa, .ref Tr_gossiping, .ref Tr_counting])), (Fa, .inr (1, [.ref Sa, .ref Fa_known, .ref Fa_knownBefore, .int F_step])), (Fa_known, .inl (cI, 8, .inl F_known)), (Fa_knownBefore, .inl (cI, 8, .inl F_knownBefore))] (sh_X9SF Ta Sa Sa_roundEdges Sa_values Fa Fa_known Fa_knownBefore Tr_draft Tr_history Tr_text Tr_gossiping Tr_counting cI cC cS S_roundEdges S_values S_nodes S_rounds F_known F_knownBefore F_step) rfl rfl rfl rfl (by decide) rfl rfl rfl rfl rfl rfl hl.1 rfl (Nat.le_of_ble_eq_true rfl) ⟨Nat.zero_le _, Nat.zero_le _⟩ dX9_diameter_41 (fun H locs hP hD hS => ?_)
        refine cs_i (As := [.int (fX7_nodes S_nodes)]) (rest := [.int o2]) hx hb hml hown hts hK hP hD hA hS (kX6_firstOnes l D cI cC cS  (fX7_nodes S_nodes)  (fX6_firstOnes (fX7_nodes S_nodes)) rfl) (va_cwS 1 hts gX9_diameter_X6_firstOnes rfl rfl rfl (by decide +kernel) (by subst hR; exact ⟨Nat.le_of_ble_eq_true rfl, Nat.le_of_ble_eq_true rfl⟩)) rfl hl.1 rfl (Nat.le_of_ble_eq_true rfl) ⟨Nat.zero_le _, Nat.zero_le _⟩ dX9_diameter_44 (fun H locs hP hD hS => ?_)
        refine lv_icmp_ne (tgt := 52) hx hb dX9_diameter_47 (by decide) (fun c3 => ?_) (fun c3 => ?_)
        · have hf := if_f c3 hf
          refine lv_aload_n hx hb dX9_diameter_52 rfl (lv_at hl 0 rfl) ?_
          refine va_get (D := D) (ci := 6) (v := .ref Fa) (C := RX9) (T := TX9) (N := 7) hx hb hts hi_X9 hown hK hP 0 rfl rfl 4 (by decide) q38 (fun _ h9 => h9) rfl dX9_diameter_53 ?_
          obtain ⟨o4, ho4, hf⟩ := bd_some hf
          refine cv_v (ci := 1) (q := (RX3, TX3, 4)) (As := []) (rest := []) hx hb hml hown hts hK hP hD hA hS (kX3_advance l D cI cC cS Fa Fa_known Fa_knownBefore Sa Sa_roundEdges Sa_values  F_known F_knownBefore F_step S_roundEdges S_values S_nodes S_rounds o4 ho4) (cwV 0 hts gX9_diameter_X3_advance rfl rfl rfl (by decide +kernel) (by subst hR; exact ⟨Nat.le_of_ble_eq_true rfl, Nat.le_of_ble_eq_true rfl⟩)) [4, 5, 6, 1, 2, 3] [0] [0, 4, 5, 6, 1, 2, 3] [(Ta, .inr (6, [.ref Sa, .ref Tr_draft, .ref Tr_history, .ref Tr_text, .ref Fa, .ref Tr_gossiping, .ref Tr_counting]))] (sh_X9SF Ta Sa Sa_roundEdges Sa_values Fa Fa_known Fa_knownBefore Tr_draft Tr_history Tr_text Tr_gossiping Tr_counting cI cC cS S_roundEdges S_values S_nodes S_rounds o4.1 o4.2.1 o4.2.2) rfl rfl rfl rfl (by decide) rfl rfl rfl rfl rfl rfl hl.1 rfl (Nat.le_of_ble_eq_true rfl) ⟨Nat.zero_le _, Nat.zero_le _⟩ dX9_diameter_56 (fun H locs hP hD hS => ?_)
          refine lv_iinc (v := (x2 + 1)) (lv' := [(2, .int (x2 + 1)), (0, .ref Ta)]) hx hb dX9_diameter_59 hl (k := 1) rfl rfl (by decide) rfl (fun ls hl => ?_)
          refine lv_goto (tgt := 19) hx hb dX9_diameter_62 (by decide) ?_
          exact ih19 (x2 + 1) o4.1 o4.2.1 o4.2.2 _ _ _ hf hP hD hS (lv_sub hl [1, 0] rfl)
        · have hf := if_t c3 hf
          refine lv_iload_n hx hb dX9_diameter_50 rfl (lv_at hl 1 rfl) ?_
          have hf := Option.some.inj hf
          subst hf
          exact rt_i hx hb hr hlocks hQ hK hP hD hS rfl dX9_diameter_51
  refine lv_iload_n hx hb dX9_diameter_0 rfl (lv_at hl 1 rfl) ?_
  refine cs_i (As := [.int x1]) (rest := []) hx hb hml hown hts hK hP hD hA hS (kX9_isStep l D cI cC cS  x1  (fX9_isStep x1) rfl) (va_cwS 1 hts gX9_diameter_X9_isStep rfl rfl rfl (by decide +kernel) (by subst hR; exact ⟨Nat.le_of_ble_eq_true rfl, Nat.le_of_ble_eq_true rfl⟩)) rfl hl.1 rfl (Nat.le_of_ble_eq_true rfl) ⟨Nat.zero_le _, Nat.zero_le _⟩ dX9_diameter_1 (fun H locs hP hD hS => ?_)
  refine lv_if_ne (tgt := 9) hx hb dX9_diameter_4 (by decide) (fun c5 => ?_) (fun c5 => ?_)
  · have hf := if_f c5 hf
    refine lv_aload_n hx hb dX9_diameter_9 rfl (lv_at hl 0 rfl) ?_
    refine va_get (D := D) (ci := 6) (v := .ref Fa) (C := RX9) (T := TX9) (N := 7) hx hb hts hi_X9 hown hK hP 0 rfl rfl 4 (by decide) q38 (fun _ h9 => h9) rfl dX9_diameter_10 ?_
    refine lv_iload_n hx hb dX9_diameter_13 rfl (lv_at hl 1 rfl) ?_
    obtain ⟨o6, ho6, hf⟩ := bd_some hf
    refine cv_v (ci := 1) (q := (RX3, TX3, 4)) (As := [.int x1]) (rest := []) hx hb hml hown hts hK hP hD hA hS (kX3_begin l D cI cC cS Fa Fa_known Fa_knownBefore Sa Sa_roundEdges Sa_values x1 F_known F_knownBefore F_step S_roundEdges S_values S_nodes S_rounds o6 ho6) (cwV 1 hts gX9_diameter_X3_begin rfl rfl rfl (by decide +kernel) (by subst hR; exact ⟨Nat.le_of_ble_eq_true rfl, Nat.le_of_ble_eq_true rfl⟩)) [4, 5, 6, 1, 2, 3] [0] [0, 4, 5, 6, 1, 2, 3] [(Ta, .inr (6, [.ref Sa, .ref Tr_draft, .ref Tr_history, .ref Tr_text, .ref Fa, .ref Tr_gossiping, .ref Tr_counting]))] (sh_X9SF Ta Sa Sa_roundEdges Sa_values Fa Fa_known Fa_knownBefore Tr_draft Tr_history Tr_text Tr_gossiping Tr_counting cI cC cS S_roundEdges S_values S_nodes S_rounds o6.1 F_knownBefore o6.2) rfl rfl rfl rfl (by decide) rfl rfl rfl rfl rfl rfl hl.1 rfl (Nat.le_of_ble_eq_true rfl) ⟨Nat.zero_le _, Nat.zero_le _⟩ dX9_diameter_14 (fun H locs hP hD hS => ?_)
    refine lv_iconst (v := (0 : Int32)) hx hb dX9_diameter_17 (by decide) ?_
    refine lv_istore_n (lv' := [(2, .int (0 : Int32)), (0, .ref Ta), (1, .int x1)]) hx hb dX9_diameter_18 rfl hl (by decide) rfl (fun ls hl => ?_)
    exact L19  fuel (0 : Int32) o6.1 F_knownBefore o6.2 _ _ _ hf hP hD hS (lv_sub hl [1, 0] rfl)
  · have hf := if_t c5 hf
    refine lv_iconst (v := (-1 : Int32)) hx hb dX9_diameter_7 (by decide) ?_
    have hf := Option.some.inj hf
    subst hf
    exact rt_i hx hb hr hlocks hQ hK hP hD hS rfl dX9_diameter_8
set_option maxRecDepth 100000 in
set_option maxHeartbeats 4000000 in
theorem kX9_center (l : Launch) (D : va_G) (cI cC cS : ClassId) (Ta Sa Sa_roundEdges Sa_values Fa Fa_known Fa_knownBefore Tr_draft Tr_history Tr_text Tr_gossiping Tr_counting : Nat) (S_roundEdges : Nat → Int32) (S_values : Nat → Int32) (S_nodes : Int32) (S_rounds : Int32) (F_known : Nat → Int32) (F_knownBefore : Nat → Int32) (F_step : Int32) (o : Int32 × (Nat → Int32) × (Nat → Int32) × Int32) (hf : fX9_center S_roundEdges S_nodes S_rounds F_known F_knownBefore F_step = some o) : CI l D yX9_center wsX9_center ({ frames := 3, cells := 0, slots := 0, locals := 66 } : Room) (tysK cI cC cS) [.ref Ta] (sh_X9SF Ta Sa Sa_roundEdges Sa_values Fa Fa_known Fa_knownBefore Tr_draft Tr_history Tr_text Tr_gossiping Tr_counting cI cC cS S_roundEdges S_values S_nodes S_rounds F_known F_knownBefore F_step) o.1 (sh_X9SF Ta Sa Sa_roundEdges Sa_values Fa Fa_known Fa_knownBefore Tr_draft Tr_history Tr_text Tr_gossiping Tr_counting cI cC cS S_roundEdges S_values S_nodes S_rounds o.2.1 o.2.2.1 o.2.2.2) := by
  refine met_i (cc := cX9_center) (maxL := 3) (ret := (some .int)) (by decide) rfl (Nat.le_of_ble_eq_true rfl) ?_
  intro p e s m args below meth c R Q A F hR hQ hP hK hD hA hS ls hl
  obtain ⟨hx, hb, hr, hts, hml, hlocks, hown⟩ := F
  have hown : s.vm.findClass RX9 = some m.cls := hown
  have hi_X9 : ∀ w ∈ u_ws RX9 TX9 7, w ∈ wsX9_center := fun w h => List.mem_cons_of_mem _ (List.mem_append_left _ (List.mem_append_left _ (List.mem_append_right _ h)))
  have q38 := hts (.fieldLink RX9 38 "ChangingRounds" "flooding" "LChangingRounds$Flooding;") (by decide +kernel)
  have q10 := hts (.fieldLink RX9 10 "ChangingRounds" "schedule" "LChangingRounds$Schedule;") (by decide +kernel)
  have hl : lv_has ls 3 [(0, .ref Ta)] := hl
  unfold fX9_center at hf
  have L10 : ∀ (n10 : Nat) (x1 : Int32) (F_known : Nat → Int32) (F_knownBefore : Nat → Int32) (F_step : Int32) (H : Heap) (locs : List Loc) (ls : Array Slot), fX9_center_l10 S_roundEdges S_nodes S_rounds n10 x1 F_known F_knownBefore F_step = some o → va_P D vwCl (sh_X9SF Ta Sa Sa_roundEdges Sa_values Fa Fa_known Fa_knownBefore Tr_draft Tr_history Tr_text Tr_gossiping Tr_counting cI cC cS S_roundEdges S_values S_nodes S_rounds F_known F_knownBefore F_step) H → va_D A (sh_X9SF Ta Sa Sa_roundEdges Sa_values Fa Fa_known Fa_knownBefore Tr_draft Tr_history Tr_text Tr_gossiping Tr_counting cI cC cS S_roundEdges S_values S_nodes S_rounds F_known F_knownBefore F_step) → va_S A s.heap H locs → lv_has ls 3 [(0, .ref Ta), (1, .int x1)] → W p l e R s m args below meth c H locs 0 0 Q (F0 m 10 ls []) := by
    intro n10
    induction n10 with
    | zero => intro x1 F_known F_knownBefore F_step H locs ls hf; cases (show (none : Option _) = some _ from hf)
    | succ n10 ih10 =>
      intro x1 F_known F_knownBefore F_step H locs ls hf hP hD hS hl
      rw [fX9_center_l10] at hf
      refine lv_iload_n hx hb dX9_center_10 rfl (lv_at hl 1 rfl) ?_
      refine lv_aload_n hx hb dX9_center_11 rfl (lv_at hl 0 rfl) ?_
      refine va_get (D := D) (ci := 6) (v := .ref Sa) (C := RX9) (T := TX9) (N := 7) hx hb hts hi_X9 hown hK hP 0 rfl rfl 0 (by decide) q10 (fun _ h9 => h9) rfl dX9_center_12 ?_
      refine cv_i (ci := 4) (q := (RX7, TX7, 4)) (As := []) (rest := [.int x1]) hx hb hml hown hts hK hP hD hA hS (kX7_longestFlooding l D cI cC cS Sa Sa_roundEdges Sa_values  S_roundEdges S_values S_nodes S_rounds (fX7_longestFlooding S_nodes S_rounds) rfl) (cwV 0 hts gX9_center_X7_longestFlooding rfl rfl rfl (by decide +kernel) (by subst hR; exact ⟨Nat.le_of_ble_eq_true rfl, Nat.le_of_ble_eq_true rfl⟩)) [1, 2, 3] [0, 4, 5, 6] [0, 4, 5, 6, 1, 2, 3] [(Ta, .inr (6, [.ref Sa, .ref Tr_draft, .ref Tr_history, .ref Tr_text, .ref Fa, .ref Tr_gossiping, .ref Tr_counting])), (Fa, .inr (1, [.ref Sa, .ref Fa_known, .ref Fa_knownBefore, .int F_step])), (Fa_known, .inl (cI, 8, .inl F_known)), (Fa_knownBefore, .inl (cI, 8, .inl F_knownBefore))] (sh_X9SF Ta Sa Sa_roundEdges Sa_values Fa Fa_known Fa_knownBefore Tr_draft Tr_history Tr_text Tr_gossiping Tr_counting cI cC cS S_roundEdges S_values S_nodes S_rounds F_known F_knownBefore F_step) rfl rfl rfl rfl (by decide) rfl rfl rfl rfl rfl rfl hl.1 rfl (Nat.le_of_ble_eq_true rfl) ⟨Nat.zero_le _, Nat.zero_le _⟩ dX9_center_15 (fun H locs hP hD hS => ?_)
      refine lv_icmp_gt (tgt := 51) hx hb dX9_center_18 (by decide) (fun c1 => ?_) (fun c1 => ?_)
      · have hf := if_t c1 hf
        refine lv_bipush (v := (-9 : Int32)) hx hb dX9_center_51 (by decide) ?_
        have hf := Option.some.inj hf
        subst hf
        exact rt_i hx hb hr hlocks hQ hK hP hD hS rfl dX9_center_53
      · have hf := if_f c1 hf
        refine lv_aload_n hx hb dX9_center_21 rfl (lv_at hl 0 rfl) ?_
        refine va_get (D := D) (ci := 6) (v := .ref Fa) (C := RX9) (T := TX9) (N := 7) hx hb hts hi_X9 hown hK hP 0 rfl rfl 4 (by decide) q38 (fun _ h9 => h9) rfl dX9_center_22 ?_
        obtain ⟨o2, ho2, hf⟩ := bd_some hf
        refine cv_i (ci := 1) (q := (RX3, TX3, 4)) (As := []) (rest := []) hx hb hml hown hts hK hP hD hA hS (kX3_tokensOfAll l D cI cC cS Fa Fa_known Fa_knownBefore Sa Sa_roundEdges Sa_values  F_known F_knownBefore F_step S_roundEdges S_values S_nodes S_rounds o2 ho2) (cwV 0 hts gX9_center_X3_tokensOfAll rfl rfl rfl (by decide +kernel) (by subst hR; exact ⟨Nat.le_of_ble_eq_true rfl, Nat.le_of_ble_eq_true rfl⟩)) [4, 5, 6, 1, 2, 3] [0] [0, 4, 5, 6, 1, 2, 3] [(Ta, .inr (6, [.ref Sa, .ref Tr_draft, .ref Tr_history, .ref Tr_text, .ref Fa, .ref Tr_gossiping, .ref Tr_counting]))] (sh_X9SF Ta Sa Sa_roundEdges Sa_values Fa Fa_known Fa_knownBefore Tr_draft Tr_history Tr_text Tr_gossiping Tr_counting cI cC cS S_roundEdges S_values S_nodes S_rounds F_known F_knownBefore F_step) rfl rfl rfl rfl (by decide) rfl rfl rfl rfl rfl rfl hl.1 rfl (Nat.le_of_ble_eq_true rfl) ⟨Nat.zero_le _, Nat.zero_le _⟩ dX9_center_25 (fun H locs hP hD hS => ?_)
        refine lv_istore_n (lv' := [(2, .int o2), (0, .ref Ta), (1, .int x1)]) hx hb dX9_center_28 rfl hl (by decide) rfl (fun ls hl => ?_)
        refine lv_iload_n hx hb dX9_center_29 rfl (lv_at hl 0 rfl) ?_
        refine lv_if_eq (tgt := 38) hx hb dX9_center_30 (by decide) (fun c3 => ?_) (fun c3 => ?_)
        · have hf := if_t c3 hf
          refine lv_aload_n hx hb dX9_center_38 rfl (lv_at hl 1 rfl) ?_
          refine va_get (D := D) (ci := 6) (v := .ref Fa) (C := RX9) (T := TX9) (N := 7) hx hb hts hi_X9 hown hK hP 0 rfl rfl 4 (by decide) q38 (fun _ h9 => h9) rfl dX9_center_39 ?_
          obtain ⟨o4, ho4, hf⟩ := bd_some hf
          refine cv_v (ci := 1) (q := (RX3, TX3, 4)) (As := []) (rest := []) hx hb hml hown hts hK hP hD hA hS (kX3_advance l D cI cC cS Fa Fa_known Fa_knownBefore Sa Sa_roundEdges Sa_values  F_known F_knownBefore F_step S_roundEdges S_values S_nodes S_rounds o4 ho4) (cwV 0 hts gX9_center_X3_advance rfl rfl rfl (by decide +kernel) (by subst hR; exact ⟨Nat.le_of_ble_eq_true rfl, Nat.le_of_ble_eq_true rfl⟩)) [4, 5, 6, 1, 2, 3] [0] [0, 4, 5, 6, 1, 2, 3] [(Ta, .inr (6, [.ref Sa, .ref Tr_draft, .ref Tr_history, .ref Tr_text, .ref Fa, .ref Tr_gossiping, .ref Tr_counting]))] (sh_X9SF Ta Sa Sa_roundEdges Sa_values Fa Fa_known Fa_knownBefore Tr_draft Tr_history Tr_text Tr_gossiping Tr_counting cI cC cS S_roundEdges S_values S_nodes S_rounds o4.1 o4.2.1 o4.2.2) rfl rfl rfl rfl (by decide) rfl rfl rfl rfl rfl rfl hl.1 rfl (Nat.le_of_ble_eq_true rfl) ⟨Nat.zero_le _, Nat.zero_le _⟩ dX9_center_42 (fun H locs hP hD hS => ?_)
          refine lv_iinc (v := (x1 + 1)) (lv' := [(1, .int (x1 + 1)), (2, .int o2), (0, .ref Ta)]) hx hb dX9_center_45 hl (k := 2) rfl rfl (by decide) rfl (fun ls hl => ?_)
          refine lv_goto (tgt := 10) hx hb dX9_center_48 (by decide) ?_
          exact ih10 (x1 + 1) o4.1 o4.2.1 o4.2.2 _ _ _ hf hP hD hS (lv_sub hl [2, 0] rfl)
        · have hf := if_f c3 hf
          refine lv_iload_n hx hb dX9_center_33 rfl (lv_at hl 0 rfl) ?_
          obtain ⟨o5, ho5, hf⟩ := bd_some hf
          refine cs_i (As := [.int o2]) (rest := []) hx hb hml hown hts hK hP hD hA hS (kX6_smallest l D cI cC cS  o2  o5 ho5) (va_cwS 1 hts gX9_center_X6_smallest rfl rfl rfl (by decide +kernel) (by subst hR; exact ⟨Nat.le_of_ble_eq_true rfl, Nat.le_of_ble_eq_true rfl⟩)) rfl hl.1 rfl (Nat.le_of_ble_eq_true rfl) ⟨Nat.zero_le _, Nat.zero_le _⟩ dX9_center_34 (fun H locs hP hD hS => ?_)
          have hf := Option.some.inj hf
          subst hf
          exact rt_i hx hb hr hlocks hQ hK hP hD hS rfl dX9_center_37
  refine lv_aload_n hx hb dX9_center_0 rfl (lv_at hl 0 rfl) ?_
  refine va_get (D := D) (ci := 6) (v := .ref Fa) (C := RX9) (T := TX9) (N := 7) hx hb hts hi_X9 hown hK hP 0 rfl rfl 4 (by decide) q38 (fun _ h9 => h9) rfl dX9_center_1 ?_
  refine lv_iconst (v := (0 : Int32)) hx hb dX9_center_4 (by decide) ?_
  obtain ⟨o6, ho6, hf⟩ := bd_some hf
  refine cv_v (ci := 1) (q := (RX3, TX3, 4)) (As := [.int (0 : Int32)]) (rest := []) hx hb hml hown hts hK hP hD hA hS (kX3_begin l D cI cC cS Fa Fa_known Fa_knownBefore Sa Sa_roundEdges Sa_values (0 : Int32) F_known F_knownBefore F_step S_roundEdges S_values S_nodes S_rounds o6 ho6) (cwV 1 hts gX9_center_X3_begin rfl rfl rfl (by decide +kernel) (by subst hR; exact ⟨Nat.le_of_ble_eq_true rfl, Nat.le_of_ble_eq_true rfl⟩)) [4, 5, 6, 1, 2, 3] [0] [0, 4, 5, 6, 1, 2, 3] [(Ta, .inr (6, [.ref Sa, .ref Tr_draft, .ref Tr_history, .ref Tr_text, .ref Fa, .ref Tr_gossiping, .ref Tr_counting]))] (sh_X9SF Ta Sa Sa_roundEdges Sa_values Fa Fa_known Fa_knownBefore Tr_draft Tr_history Tr_text Tr_gossiping Tr_counting cI cC cS S_roundEdges S_values S_nodes S_rounds o6.1 F_knownBefore o6.2) rfl rfl rfl rfl (by decide) rfl rfl rfl rfl rfl rfl hl.1 rfl (Nat.le_of_ble_eq_true rfl) ⟨Nat.zero_le _, Nat.zero_le _⟩ dX9_center_5 (fun H locs hP hD hS => ?_)
  refine lv_iconst (v := (0 : Int32)) hx hb dX9_center_8 (by decide) ?_
  refine lv_istore_n (lv' := [(1, .int (0 : Int32)), (0, .ref Ta)]) hx hb dX9_center_9 rfl hl (by decide) rfl (fun ls hl => ?_)
  exact L10  fuel (0 : Int32) o6.1 F_knownBefore o6.2 _ _ _ hf hP hD hS (lv_sub hl [1, 0] rfl)
set_option maxRecDepth 100000 in
set_option maxHeartbeats 4000000 in
theorem kX9_isRule (l : Launch) (D : va_G) (cI cC cS : ClassId) (x0 : Int32) (o : Bool) (hf : fX9_isRule x0 = o) : CI l D yX9_isRule wsX9_isRule ({ frames := 0, cells := 0, slots := 0, locals := 0 } : Room) (tysK cI cC cS) [.int x0] [] (b2i o) [] := by
  refine met_i (cc := cX9_isRule) (maxL := 1) (ret := (some .boolean)) (by decide) rfl (Nat.le_of_ble_eq_true rfl) ?_
  intro p e s m args below meth c R Q A F hR hQ hP hK hD hA hS ls hl
  obtain ⟨hx, hb, hr, hts, hml, hlocks, hown⟩ := F
  have hown : s.vm.findClass RX9 = some m.cls := hown
  have hl : lv_has ls 1 [(0, .int x0)] := hl
  unfold fX9_isRule at hf
  refine lv_iload_n hx hb dX9_isRule_0 rfl (lv_at hl 0 rfl) ?_
  refine lv_if_lt (tgt := 13) hx hb dX9_isRule_1 (by decide) (fun c1 => ?_) (fun c1 => ?_)
  · have hf := if_t c1 hf
    refine lv_iconst (v := (0 : Int32)) hx hb dX9_isRule_13 (by decide) ?_
    subst hf
    exact rt_z (ty := .boolean) hx hb hr rfl hlocks hQ hK hP hD hS rfl dX9_isRule_14
  · have hf := if_f c1 hf
    refine lv_iload_n hx hb dX9_isRule_4 rfl (lv_at hl 0 rfl) ?_
    refine lv_iconst (v := (2 : Int32)) hx hb dX9_isRule_5 (by decide) ?_
    refine lv_icmp_gt (tgt := 13) hx hb dX9_isRule_6 (by decide) (fun c2 => ?_) (fun c2 => ?_)
    · have hf := if_t c2 hf
      refine lv_iconst (v := (0 : Int32)) hx hb dX9_isRule_13 (by decide) ?_
      subst hf
      exact rt_z (ty := .boolean) hx hb hr rfl hlocks hQ hK hP hD hS rfl dX9_isRule_14
    · have hf := if_f c2 hf
      refine lv_iconst (v := (1 : Int32)) hx hb dX9_isRule_9 (by decide) ?_
      refine lv_goto (tgt := 14) hx hb dX9_isRule_10 (by decide) ?_
      subst hf
      exact rt_z (ty := .boolean) hx hb hr rfl hlocks hQ hK hP hD hS rfl dX9_isRule_14
set_option maxRecDepth 100000 in
set_option maxHeartbeats 4000000 in
theorem kX9_gossip (l : Launch) (D : va_G) (cI cC cS : ClassId) (Ta Sa Sa_roundEdges Sa_values Ga Ga_known Ga_sent Ga_newest Ga_chosen Tr_draft Tr_history Tr_text Tr_flooding Tr_counting : Nat) (x1 : Int32) (x2 : Int32) (x3 : Int32) (S_roundEdges : Nat → Int32) (S_values : Nat → Int32) (S_nodes : Int32) (S_rounds : Int32) (G_known : Nat → Int32) (G_sent : Nat → Int32) (G_newest : Nat → Int32) (G_chosen : Nat → Int32) (G_rule : Int32) (G_step : Int32) (o : Int32 × (Nat → Int32) × (Nat → Int32) × (Nat → Int32) × (Nat → Int32) × Int32 × Int32) (hf : fX9_gossip x1 x2 x3 S_roundEdges S_nodes S_rounds G_known G_sent G_newest G_chosen G_rule G_step = some o) : CI l D yX9_gossip wsX9_gossip ({ frames := 4, cells := 0, slots := 0, locals := 89 } : Room) (tysK cI cC cS) [.ref Ta, .int x1, .int x2, .int x3] (sh_X9SG Ta Sa Sa_roundEdges Sa_values Ga Ga_known Ga_sent Ga_newest Ga_chosen Tr_draft Tr_history Tr_text Tr_flooding Tr_counting cI cC cS S_roundEdges S_values S_nodes S_rounds G_known G_sent G_newest G_chosen G_rule G_step) o.1 (sh_X9SG Ta Sa Sa_roundEdges Sa_values Ga Ga_known Ga_sent Ga_newest Ga_chosen Tr_draft Tr_history Tr_text Tr_flooding Tr_counting cI cC cS S_roundEdges S_values S_nodes S_rounds o.2.1 o.2.2.1 o.2.2.2.1 o.2.2.2.2.1 o.2.2.2.2.2.1 o.2.2.2.2.2.2) := by
  refine met_i (cc := cX9_gossip) (maxL := 5) (ret := (some .int)) (by decide) rfl (Nat.le_of_ble_eq_true rfl) ?_
  intro p e s m args below meth c R Q A F hR hQ hP hK hD hA hS ls hl
  obtain ⟨hx, hb, hr, hts, hml, hlocks, hown⟩ := F
  have hown : s.vm.findClass RX9 = some m.cls := hown
  have hi_X9 : ∀ w ∈ u_ws RX9 TX9 7, w ∈ wsX9_gossip := fun w h => List.mem_cons_of_mem _ (List.mem_append_left _ (List.mem_append_left _ (List.mem_append_right _ h)))
  have q10 := hts (.fieldLink RX9 10 "ChangingRounds" "schedule" "LChangingRounds$Schedule;") (by decide +kernel)
  have q45 := hts (.fieldLink RX9 45 "ChangingRounds" "gossiping" "LChangingRounds$Gossip;") (by decide +kernel)
  have hl : lv_has ls 5 [(0, .ref Ta), (1, .int x1), (2, .int x2), (3, .int x3)] := hl
  unfold fX9_gossip at hf
  have L38 : ∀ (G_rule : Int32) (n38 : Nat) (x4 : Int32) (G_known : Nat → Int32) (G_sent : Nat → Int32) (G_newest : Nat → Int32) (G_chosen : Nat → Int32) (G_step : Int32) (H : Heap) (locs : List Loc) (ls : Array Slot), fX9_gossip_l38 x2 x3 S_roundEdges S_nodes S_rounds G_rule n38 x4 G_known G_sent G_newest G_chosen G_step = some o → va_P D vwCl (sh_X9SG Ta Sa Sa_roundEdges Sa_values Ga Ga_known Ga_sent Ga_newest Ga_chosen Tr_draft Tr_history Tr_text Tr_flooding Tr_counting cI cC cS S_roundEdges S_values S_nodes S_rounds G_known G_sent G_newest G_chosen G_rule G_step) H → va_D A (sh_X9SG Ta Sa Sa_roundEdges Sa_values Ga Ga_known Ga_sent Ga_newest Ga_chosen Tr_draft Tr_history Tr_text Tr_flooding Tr_counting cI cC cS S_roundEdges S_values S_nodes S_rounds G_known G_sent G_newest G_chosen G_rule G_step) → va_S A s.heap H locs → lv_has ls 5 [(0, .ref Ta), (2, .int x2), (3, .int x3), (4, .int x4)] → W p l e R s m args below meth c H locs 0 0 Q (F0 m 38 ls []) := by
    intro G_rule n38
    induction n38 with
    | zero => intro x4 G_known G_sent G_newest G_chosen G_step H locs ls hf; cases (show (none : Option _) = some _ from hf)
    | succ n38 ih38 =>
      intro x4 G_known G_sent G_newest G_chosen G_step H locs ls hf hP hD hS hl
      rw [fX9_gossip_l38] at hf
      refine lv_iload hx hb dX9_gossip_38 (lv_at hl 3 rfl) ?_
      refine lv_iload_n hx hb dX9_gossip_40 rfl (lv_at hl 2 rfl) ?_
      refine lv_icmp_ge (tgt := 57) hx hb dX9_gossip_41 (by decide) (fun c1 => ?_) (fun c1 => ?_)
      · have hf := if_t c1 hf
        refine lv_aload_n hx hb dX9_gossip_57 rfl (lv_at hl 0 rfl) ?_
        refine va_get (D := D) (ci := 6) (v := .ref Ga) (C := RX9) (T := TX9) (N := 7) hx hb hts hi_X9 hown hK hP 0 rfl rfl 5 (by decide) q45 (fun _ h9 => h9) rfl dX9_gossip_58 ?_
        refine lv_iload_n hx hb dX9_gossip_61 rfl (lv_at hl 1 rfl) ?_
        obtain ⟨o2, ho2, hf⟩ := bd_some hf
        refine cv_i (ci := 2) (q := (RX4, TX4, 7)) (As := [.int x2]) (rest := []) hx hb hml hown hts hK hP hD hA hS (kX4_tokensOf l D cI cC cS Ga Ga_known Ga_sent Ga_newest Ga_chosen Sa Sa_roundEdges Sa_values x2 G_known G_sent G_newest G_chosen G_rule G_step S_roundEdges S_values S_nodes S_rounds o2 ho2) (cwV 1 hts gX9_gossip_X4_tokensOf rfl rfl rfl (by decide +kernel) (by subst hR; exact ⟨Nat.le_of_ble_eq_true rfl, Nat.le_of_ble_eq_true rfl⟩)) [4, 5, 6, 7, 8, 1, 2, 3] [0] [0, 6, 7, 8, 1, 2, 3, 4, 5] [(Ta, .inr (6, [.ref Sa, .ref Tr_draft, .ref Tr_history, .ref Tr_text, .ref Tr_flooding, .ref Ga, .ref Tr_counting]))] (sh_X9SG Ta Sa Sa_roundEdges Sa_values Ga Ga_known Ga_sent Ga_newest Ga_chosen Tr_draft Tr_history Tr_text Tr_flooding Tr_counting cI cC cS S_roundEdges S_values S_nodes S_rounds G_known G_sent G_newest G_chosen G_rule G_step) rfl rfl rfl rfl (by decide) rfl rfl rfl rfl rfl rfl hl.1 rfl (Nat.le_of_ble_eq_true rfl) ⟨Nat.zero_le _, Nat.zero_le _⟩ dX9_gossip_62 (fun H locs hP hD hS => ?_)
        have hf := Option.some.inj hf
        subst hf
        exact rt_i hx hb hr hlocks hQ hK hP hD hS rfl dX9_gossip_65
      · have hf := if_f c1 hf
        refine lv_aload_n hx hb dX9_gossip_44 rfl (lv_at hl 0 rfl) ?_
        refine va_get (D := D) (ci := 6) (v := .ref Ga) (C := RX9) (T := TX9) (N := 7) hx hb hts hi_X9 hown hK hP 0 rfl rfl 5 (by decide) q45 (fun _ h9 => h9) rfl dX9_gossip_45 ?_
        obtain ⟨o3, ho3, hf⟩ := bd_some hf
        refine cv_v (ci := 2) (q := (RX4, TX4, 7)) (As := []) (rest := []) hx hb hml hown hts hK hP hD hA hS (kX4_advance l D cI cC cS Ga Ga_known Ga_sent Ga_newest Ga_chosen Sa Sa_roundEdges Sa_values  G_known G_sent G_newest G_chosen G_rule G_step S_roundEdges S_values S_nodes S_rounds o3 ho3) (cwV 0 hts gX9_gossip_X4_advance rfl rfl rfl (by decide +kernel) (by subst hR; exact ⟨Nat.le_of_ble_eq_true rfl, Nat.le_of_ble_eq_true rfl⟩)) [4, 5, 6, 7, 8, 1, 2, 3] [0] [0, 6, 7, 8, 1, 2, 3, 4, 5] [(Ta, .inr (6, [.ref Sa, .ref Tr_draft, .ref Tr_history, .ref Tr_text, .ref Tr_flooding, .ref Ga, .ref Tr_counting]))] (sh_X9SG Ta Sa Sa_roundEdges Sa_values Ga Ga_known Ga_sent Ga_newest Ga_chosen Tr_draft Tr_history Tr_text Tr_flooding Tr_counting cI cC cS S_roundEdges S_values S_nodes S_rounds o3.1 o3.2.1 o3.2.2.1 o3.2.2.2.1 G_rule o3.2.2.2.2) rfl rfl rfl rfl (by decide) rfl rfl rfl rfl rfl rfl hl.1 rfl (Nat.le_of_ble_eq_true rfl) ⟨Nat.zero_le _, Nat.zero_le _⟩ dX9_gossip_48 (fun H locs hP hD hS => ?_)
        refine lv_iinc (v := (x4 + 1)) (lv' := [(4, .int (x4 + 1)), (0, .ref Ta), (2, .int x2), (3, .int x3)]) hx hb dX9_gossip_51 hl (k := 3) rfl rfl (by decide) rfl (fun ls hl => ?_)
        refine lv_goto (tgt := 38) hx hb dX9_gossip_54 (by decide) ?_
        exact ih38 (x4 + 1) o3.1 o3.2.1 o3.2.2.1 o3.2.2.2.1 o3.2.2.2.2 _ _ _ hf hP hD hS (lv_sub hl [1, 2, 3, 0] rfl)
  refine lv_iload_n hx hb dX9_gossip_0 rfl (lv_at hl 1 rfl) ?_
  refine cs_i (As := [.int x1]) (rest := []) hx hb hml hown hts hK hP hD hA hS (kX9_isRule l D cI cC cS  x1  (fX9_isRule x1) rfl) (va_cwS 1 hts gX9_gossip_X9_isRule rfl rfl rfl (by decide +kernel) (by subst hR; exact ⟨Nat.le_of_ble_eq_true rfl, Nat.le_of_ble_eq_true rfl⟩)) rfl hl.1 rfl (Nat.le_of_ble_eq_true rfl) ⟨Nat.zero_le _, Nat.zero_le _⟩ dX9_gossip_1 (fun H locs hP hD hS => ?_)
  refine lv_if_eq (tgt := 25) hx hb dX9_gossip_4 (by decide) (fun c4 => ?_) (fun c4 => ?_)
  · have hf := if_t c4 hf
    refine lv_iconst (v := (-1 : Int32)) hx hb dX9_gossip_25 (by decide) ?_
    have hf := Option.some.inj hf
    subst hf
    exact rt_i hx hb hr hlocks hQ hK hP hD hS rfl dX9_gossip_26
  · have hf := if_f c4 hf
    refine lv_aload_n hx hb dX9_gossip_7 rfl (lv_at hl 0 rfl) ?_
    refine va_get (D := D) (ci := 6) (v := .ref Sa) (C := RX9) (T := TX9) (N := 7) hx hb hts hi_X9 hown hK hP 0 rfl rfl 0 (by decide) q10 (fun _ h9 => h9) rfl dX9_gossip_8 ?_
    refine lv_iload_n hx hb dX9_gossip_11 rfl (lv_at hl 2 rfl) ?_
    refine cv_i (ci := 4) (q := (RX7, TX7, 4)) (As := [.int x2]) (rest := []) hx hb hml hown hts hK hP hD hA hS (kX7_hasNode l D cI cC cS Sa Sa_roundEdges Sa_values x2 S_roundEdges S_values S_nodes S_rounds (fX7_hasNode x2 S_nodes) rfl) (cwV 1 hts gX9_gossip_X7_hasNode rfl rfl rfl (by decide +kernel) (by subst hR; exact ⟨Nat.le_of_ble_eq_true rfl, Nat.le_of_ble_eq_true rfl⟩)) [1, 2, 3] [0, 4, 5, 6, 7, 8] [0, 6, 7, 8, 1, 2, 3, 4, 5] [(Ta, .inr (6, [.ref Sa, .ref Tr_draft, .ref Tr_history, .ref Tr_text, .ref Tr_flooding, .ref Ga, .ref Tr_counting])), (Ga, .inr (2, [.ref Sa, .ref Ga_known, .ref Ga_sent, .ref Ga_newest, .ref Ga_chosen, .int G_rule, .int G_step])), (Ga_known, .inl (cI, 8, .inl G_known)), (Ga_sent, .inl (cI, 8, .inl G_sent)), (Ga_newest, .inl (cI, 8, .inl G_newest)), (Ga_chosen, .inl (cI, 8, .inl G_chosen))] (sh_X9SG Ta Sa Sa_roundEdges Sa_values Ga Ga_known Ga_sent Ga_newest Ga_chosen Tr_draft Tr_history Tr_text Tr_flooding Tr_counting cI cC cS S_roundEdges S_values S_nodes S_rounds G_known G_sent G_newest G_chosen G_rule G_step) rfl rfl rfl rfl (by decide) rfl rfl rfl rfl rfl rfl hl.1 rfl (Nat.le_of_ble_eq_true rfl) ⟨Nat.zero_le _, Nat.zero_le _⟩ dX9_gossip_12 (fun H locs hP hD hS => ?_)
    refine lv_if_eq (tgt := 25) hx hb dX9_gossip_15 (by decide) (fun c5 => ?_) (fun c5 => ?_)
    · have hf := if_t c5 hf
      refine lv_iconst (v := (-1 : Int32)) hx hb dX9_gossip_25 (by decide) ?_
      have hf := Option.some.inj hf
      subst hf
      exact rt_i hx hb hr hlocks hQ hK hP hD hS rfl dX9_gossip_26
    · have hf := if_f c5 hf
      refine lv_iload_n hx hb dX9_gossip_18 rfl (lv_at hl 3 rfl) ?_
      refine cs_i (As := [.int x3]) (rest := []) hx hb hml hown hts hK hP hD hA hS (kX9_isStep l D cI cC cS  x3  (fX9_isStep x3) rfl) (va_cwS 1 hts gX9_gossip_X9_isStep rfl rfl rfl (by decide +kernel) (by subst hR; exact ⟨Nat.le_of_ble_eq_true rfl, Nat.le_of_ble_eq_true rfl⟩)) rfl hl.1 rfl (Nat.le_of_ble_eq_true rfl) ⟨Nat.zero_le _, Nat.zero_le _⟩ dX9_gossip_19 (fun H locs hP hD hS => ?_)
      refine lv_if_ne (tgt := 27) hx hb dX9_gossip_22 (by decide) (fun c6 => ?_) (fun c6 => ?_)
      · have hf := if_f c6 hf
        refine lv_aload_n hx hb dX9_gossip_27 rfl (lv_at hl 0 rfl) ?_
        refine va_get (D := D) (ci := 6) (v := .ref Ga) (C := RX9) (T := TX9) (N := 7) hx hb hts hi_X9 hown hK hP 0 rfl rfl 5 (by decide) q45 (fun _ h9 => h9) rfl dX9_gossip_28 ?_
        refine lv_iload_n hx hb dX9_gossip_31 rfl (lv_at hl 1 rfl) ?_
        obtain ⟨o7, ho7, hf⟩ := bd_some hf
        refine cv_v (ci := 2) (q := (RX4, TX4, 7)) (As := [.int x1]) (rest := []) hx hb hml hown hts hK hP hD hA hS (kX4_begin l D cI cC cS Ga Ga_known Ga_sent Ga_newest Ga_chosen Sa Sa_roundEdges Sa_values x1 G_known G_sent G_newest G_chosen G_rule G_step S_roundEdges S_values S_nodes S_rounds o7 ho7) (cwV 1 hts gX9_gossip_X4_begin rfl rfl rfl (by decide +kernel) (by subst hR; exact ⟨Nat.le_of_ble_eq_true rfl, Nat.le_of_ble_eq_true rfl⟩)) [4, 5, 6, 7, 8, 1, 2, 3] [0] [0, 6, 7, 8, 1, 2, 3, 4, 5] [(Ta, .inr (6, [.ref Sa, .ref Tr_draft, .ref Tr_history, .ref Tr_text, .ref Tr_flooding, .ref Ga, .ref Tr_counting]))] (sh_X9SG Ta Sa Sa_roundEdges Sa_values Ga Ga_known Ga_sent Ga_newest Ga_chosen Tr_draft Tr_history Tr_text Tr_flooding Tr_counting cI cC cS S_roundEdges S_values S_nodes S_rounds o7.1 o7.2.1 o7.2.2.1 G_chosen o7.2.2.2.1 o7.2.2.2.2) rfl rfl rfl rfl (by decide) rfl rfl rfl rfl rfl rfl hl.1 rfl (Nat.le_of_ble_eq_true rfl) ⟨Nat.zero_le _, Nat.zero_le _⟩ dX9_gossip_32 (fun H locs hP hD hS => ?_)
        refine lv_iconst (v := (0 : Int32)) hx hb dX9_gossip_35 (by decide) ?_
        refine lv_istore (lv' := [(4, .int (0 : Int32)), (0, .ref Ta), (1, .int x1), (2, .int x2), (3, .int x3)]) hx hb dX9_gossip_36 hl (by decide) rfl (fun ls hl => ?_)
        exact L38 o7.2.2.2.1 fuel (0 : Int32) o7.1 o7.2.1 o7.2.2.1 G_chosen o7.2.2.2.2 _ _ _ hf hP hD hS (lv_sub hl [1, 3, 4, 0] rfl)
      · have hf := if_t c6 hf
        refine lv_iconst (v := (-1 : Int32)) hx hb dX9_gossip_25 (by decide) ?_
        have hf := Option.some.inj hf
        subst hf
        exact rt_i hx hb hr hlocks hQ hK hP hD hS rfl dX9_gossip_26
set_option maxRecDepth 100000 in
set_option maxHeartbeats 4000000 in
theorem kX9_gossipTime (l : Launch) (D : va_G) (cI cC cS : ClassId) (Ta Sa Sa_roundEdges Sa_values Ga Ga_known Ga_sent Ga_newest Ga_chosen Tr_draft Tr_history Tr_text Tr_flooding Tr_counting : Nat) (x1 : Int32) (S_roundEdges : Nat → Int32) (S_values : Nat → Int32) (S_nodes : Int32) (S_rounds : Int32) (G_known : Nat → Int32) (G_sent : Nat → Int32) (G_newest : Nat → Int32) (G_chosen : Nat → Int32) (G_rule : Int32) (G_step : Int32) (o : Int32 × (Nat → Int32) × (Nat → Int32) × (Nat → Int32) × (Nat → Int32) × Int32 × Int32) (hf : fX9_gossipTime x1 S_roundEdges S_nodes S_rounds G_known G_sent G_newest G_chosen G_rule G_step = some o) : CI l D yX9_gossipTime wsX9_gossipTime ({ frames := 4, cells := 0, slots := 0, locals := 89 } : Room) (tysK cI cC cS) [.ref Ta, .int x1] (sh_X9SG Ta Sa Sa_roundEdges Sa_values Ga Ga_known Ga_sent Ga_newest Ga_chosen Tr_draft Tr_history Tr_text Tr_flooding Tr_counting cI cC cS S_roundEdges S_values S_nodes S_rounds G_known G_sent G_newest G_chosen G_rule G_step) o.1 (sh_X9SG Ta Sa Sa_roundEdges Sa_values Ga Ga_known Ga_sent Ga_newest Ga_chosen Tr_draft Tr_history Tr_text Tr_flooding Tr_counting cI cC cS S_roundEdges S_values S_nodes S_rounds o.2.1 o.2.2.1 o.2.2.2.1 o.2.2.2.2.1 o.2.2.2.2.2.1 o.2.2.2.2.2.2) := by
  refine met_i (cc := cX9_gossipTime) (maxL := 3) (ret := (some .int)) (by decide) rfl (Nat.le_of_ble_eq_true rfl) ?_
  intro p e s m args below meth c R Q A F hR hQ hP hK hD hA hS ls hl
  obtain ⟨hx, hb, hr, hts, hml, hlocks, hown⟩ := F
  have hown : s.vm.findClass RX9 = some m.cls := hown
  have hi_X9 : ∀ w ∈ u_ws RX9 TX9 7, w ∈ wsX9_gossipTime := fun w h => List.mem_cons_of_mem _ (List.mem_append_left _ (List.mem_append_left _ (List.mem_append_right _ h)))
  have q45 := hts (.fieldLink RX9 45 "ChangingRounds" "gossiping" "LChangingRounds$Gossip;") (by decide +kernel)
  have hl : lv_has ls 3 [(0, .ref Ta), (1, .int x1)] := hl
  unfold fX9_gossipTime at hf
  have L19 : ∀ (G_rule : Int32) (n19 : Nat) (x2 : Int32) (G_known : Nat → Int32) (G_sent : Nat → Int32) (G_newest : Nat → Int32) (G_chosen : Nat → Int32) (G_step : Int32) (H : Heap) (locs : List Loc) (ls : Array Slot), fX9_gossipTime_l19 S_roundEdges S_nodes S_rounds G_rule n19 x2 G_known G_sent G_newest G_chosen G_step = some o → va_P D vwCl (sh_X9SG Ta Sa Sa_roundEdges Sa_values Ga Ga_known Ga_sent Ga_newest Ga_chosen Tr_draft Tr_history Tr_text Tr_flooding Tr_counting cI cC cS S_roundEdges S_values S_nodes S_rounds G_known G_sent G_newest G_chosen G_rule G_step) H → va_D A (sh_X9SG Ta Sa Sa_roundEdges Sa_values Ga Ga_known Ga_sent Ga_newest Ga_chosen Tr_draft Tr_history Tr_text Tr_flooding Tr_counting cI cC cS S_roundEdges S_values S_nodes S_rounds G_known G_sent G_newest G_chosen G_rule G_step) → va_S A s.heap H locs → lv_has ls 3 [(0, .ref Ta), (2, .int x2)] → W p l e R s m args below meth c H locs 0 0 Q (F0 m 19 ls []) := by
    intro G_rule n19
    induction n19 with
    | zero => intro x2 G_known G_sent G_newest G_chosen G_step H locs ls hf; cases (show (none : Option _) = some _ from hf)
    | succ n19 ih19 =>
      intro x2 G_known G_sent G_newest G_chosen G_step H locs ls hf hP hD hS hl
      rw [fX9_gossipTime_l19] at hf
      refine lv_iload_n hx hb dX9_gossipTime_19 rfl (lv_at hl 1 rfl) ?_
      refine lv_bipush (v := (99 : Int32)) hx hb dX9_gossipTime_20 (by decide) ?_
      refine lv_icmp_gt (tgt := 50) hx hb dX9_gossipTime_22 (by decide) (fun c1 => ?_) (fun c1 => ?_)
      · have hf := if_t c1 hf
        refine lv_bipush (v := (-9 : Int32)) hx hb dX9_gossipTime_50 (by decide) ?_
        have hf := Option.some.inj hf
        subst hf
        exact rt_i hx hb hr hlocks hQ hK hP hD hS rfl dX9_gossipTime_52
      · have hf := if_f c1 hf
        refine lv_aload_n hx hb dX9_gossipTime_25 rfl (lv_at hl 0 rfl) ?_
        refine va_get (D := D) (ci := 6) (v := .ref Ga) (C := RX9) (T := TX9) (N := 7) hx hb hts hi_X9 hown hK hP 0 rfl rfl 5 (by decide) q45 (fun _ h9 => h9) rfl dX9_gossipTime_26 ?_
        obtain ⟨o2, ho2, hf⟩ := bd_some hf
        refine cv_i (ci := 2) (q := (RX4, TX4, 7)) (As := []) (rest := []) hx hb hml hown hts hK hP hD hA hS (kX4_allKnowAll l D cI cC cS Ga Ga_known Ga_sent Ga_newest Ga_chosen Sa Sa_roundEdges Sa_values  G_known G_sent G_newest G_chosen G_rule G_step S_roundEdges S_values S_nodes S_rounds o2 ho2) (cwV 0 hts gX9_gossipTime_X4_allKnowAll rfl rfl rfl (by decide +kernel) (by subst hR; exact ⟨Nat.le_of_ble_eq_true rfl, Nat.le_of_ble_eq_true rfl⟩)) [4, 5, 6, 7, 8, 1, 2, 3] [0] [0, 6, 7, 8, 1, 2, 3, 4, 5] [(Ta, .inr (6, [.ref Sa, .ref Tr_draft, .ref Tr_history, .ref Tr_text, .ref Tr_flooding, .ref Ga, .ref Tr_counting]))] (sh_X9SG Ta Sa Sa_roundEdges Sa_values Ga Ga_known Ga_sent Ga_newest Ga_chosen Tr_draft Tr_history Tr_text Tr_flooding Tr_counting cI cC cS S_roundEdges S_values S_nodes S_rounds G_known G_sent G_newest G_chosen G_rule G_step) rfl rfl rfl rfl (by decide) rfl rfl rfl rfl rfl rfl hl.1 rfl (Nat.le_of_ble_eq_true rfl) ⟨Nat.zero_le _, Nat.zero_le _⟩ dX9_gossipTime_29 (fun H locs hP hD hS => ?_)
        refine lv_if_eq (tgt := 37) hx hb dX9_gossipTime_32 (by decide) (fun c3 => ?_) (fun c3 => ?_)
        · have hf := if_t c3 hf
          refine lv_aload_n hx hb dX9_gossipTime_37 rfl (lv_at hl 0 rfl) ?_
          refine va_get (D := D) (ci := 6) (v := .ref Ga) (C := RX9) (T := TX9) (N := 7) hx hb hts hi_X9 hown hK hP 0 rfl rfl 5 (by decide) q45 (fun _ h9 => h9) rfl dX9_gossipTime_38 ?_
          obtain ⟨o4, ho4, hf⟩ := bd_some hf
          refine cv_v (ci := 2) (q := (RX4, TX4, 7)) (As := []) (rest := []) hx hb hml hown hts hK hP hD hA hS (kX4_advance l D cI cC cS Ga Ga_known Ga_sent Ga_newest Ga_chosen Sa Sa_roundEdges Sa_values  G_known G_sent G_newest G_chosen G_rule G_step S_roundEdges S_values S_nodes S_rounds o4 ho4) (cwV 0 hts gX9_gossipTime_X4_advance rfl rfl rfl (by decide +kernel) (by subst hR; exact ⟨Nat.le_of_ble_eq_true rfl, Nat.le_of_ble_eq_true rfl⟩)) [4, 5, 6, 7, 8, 1, 2, 3] [0] [0, 6, 7, 8, 1, 2, 3, 4, 5] [(Ta, .inr (6, [.ref Sa, .ref Tr_draft, .ref Tr_history, .ref Tr_text, .ref Tr_flooding, .ref Ga, .ref Tr_counting]))] (sh_X9SG Ta Sa Sa_roundEdges Sa_values Ga Ga_known Ga_sent Ga_newest Ga_chosen Tr_draft Tr_history Tr_text Tr_flooding Tr_counting cI cC cS S_roundEdges S_values S_nodes S_rounds o4.1 o4.2.1 o4.2.2.1 o4.2.2.2.1 G_rule o4.2.2.2.2) rfl rfl rfl rfl (by decide) rfl rfl rfl rfl rfl rfl hl.1 rfl (Nat.le_of_ble_eq_true rfl) ⟨Nat.zero_le _, Nat.zero_le _⟩ dX9_gossipTime_41 (fun H locs hP hD hS => ?_)
          refine lv_iinc (v := (x2 + 1)) (lv' := [(2, .int (x2 + 1)), (0, .ref Ta)]) hx hb dX9_gossipTime_44 hl (k := 1) rfl rfl (by decide) rfl (fun ls hl => ?_)
          refine lv_goto (tgt := 19) hx hb dX9_gossipTime_47 (by decide) ?_
          exact ih19 (x2 + 1) o4.1 o4.2.1 o4.2.2.1 o4.2.2.2.1 o4.2.2.2.2 _ _ _ hf hP hD hS (lv_sub hl [1, 0] rfl)
        · have hf := if_f c3 hf
          refine lv_iload_n hx hb dX9_gossipTime_35 rfl (lv_at hl 1 rfl) ?_
          have hf := Option.some.inj hf
          subst hf
          exact rt_i hx hb hr hlocks hQ hK hP hD hS rfl dX9_gossipTime_36
  refine lv_iload_n hx hb dX9_gossipTime_0 rfl (lv_at hl 1 rfl) ?_
  refine cs_i (As := [.int x1]) (rest := []) hx hb hml hown hts hK hP hD hA hS (kX9_isRule l D cI cC cS  x1  (fX9_isRule x1) rfl) (va_cwS 1 hts gX9_gossipTime_X9_isRule rfl rfl rfl (by decide +kernel) (by subst hR; exact ⟨Nat.le_of_ble_eq_true rfl, Nat.le_of_ble_eq_true rfl⟩)) rfl hl.1 rfl (Nat.le_of_ble_eq_true rfl) ⟨Nat.zero_le _, Nat.zero_le _⟩ dX9_gossipTime_1 (fun H locs hP hD hS => ?_)
  refine lv_if_ne (tgt := 9) hx hb dX9_gossipTime_4 (by decide) (fun c5 => ?_) (fun c5 => ?_)
  · have hf := if_f c5 hf
    refine lv_aload_n hx hb dX9_gossipTime_9 rfl (lv_at hl 0 rfl) ?_
    refine va_get (D := D) (ci := 6) (v := .ref Ga) (C := RX9) (T := TX9) (N := 7) hx hb hts hi_X9 hown hK hP 0 rfl rfl 5 (by decide) q45 (fun _ h9 => h9) rfl dX9_gossipTime_10 ?_
    refine lv_iload_n hx hb dX9_gossipTime_13 rfl (lv_at hl 1 rfl) ?_
    obtain ⟨o6, ho6, hf⟩ := bd_some hf
    refine cv_v (ci := 2) (q := (RX4, TX4, 7)) (As := [.int x1]) (rest := []) hx hb hml hown hts hK hP hD hA hS (kX4_begin l D cI cC cS Ga Ga_known Ga_sent Ga_newest Ga_chosen Sa Sa_roundEdges Sa_values x1 G_known G_sent G_newest G_chosen G_rule G_step S_roundEdges S_values S_nodes S_rounds o6 ho6) (cwV 1 hts gX9_gossipTime_X4_begin rfl rfl rfl (by decide +kernel) (by subst hR; exact ⟨Nat.le_of_ble_eq_true rfl, Nat.le_of_ble_eq_true rfl⟩)) [4, 5, 6, 7, 8, 1, 2, 3] [0] [0, 6, 7, 8, 1, 2, 3, 4, 5] [(Ta, .inr (6, [.ref Sa, .ref Tr_draft, .ref Tr_history, .ref Tr_text, .ref Tr_flooding, .ref Ga, .ref Tr_counting]))] (sh_X9SG Ta Sa Sa_roundEdges Sa_values Ga Ga_known Ga_sent Ga_newest Ga_chosen Tr_draft Tr_history Tr_text Tr_flooding Tr_counting cI cC cS S_roundEdges S_values S_nodes S_rounds o6.1 o6.2.1 o6.2.2.1 G_chosen o6.2.2.2.1 o6.2.2.2.2) rfl rfl rfl rfl (by decide) rfl rfl rfl rfl rfl rfl hl.1 rfl (Nat.le_of_ble_eq_true rfl) ⟨Nat.zero_le _, Nat.zero_le _⟩ dX9_gossipTime_14 (fun H locs hP hD hS => ?_)
    refine lv_iconst (v := (0 : Int32)) hx hb dX9_gossipTime_17 (by decide) ?_
    refine lv_istore_n (lv' := [(2, .int (0 : Int32)), (0, .ref Ta), (1, .int x1)]) hx hb dX9_gossipTime_18 rfl hl (by decide) rfl (fun ls hl => ?_)
    exact L19 o6.2.2.2.1 fuel (0 : Int32) o6.1 o6.2.1 o6.2.2.1 G_chosen o6.2.2.2.2 _ _ _ hf hP hD hS (lv_sub hl [1, 0] rfl)
  · have hf := if_t c5 hf
    refine lv_iconst (v := (-1 : Int32)) hx hb dX9_gossipTime_7 (by decide) ?_
    have hf := Option.some.inj hf
    subst hf
    exact rt_i hx hb hr hlocks hQ hK hP hD hS rfl dX9_gossipTime_8
set_option maxRecDepth 100000 in
set_option maxHeartbeats 4000000 in
theorem kX9_decision (l : Launch) (D : va_G) (cI cC cS : ClassId) (Ta Sa Sa_roundEdges Sa_values Fa Fa_known Fa_knownBefore Tr_draft Tr_history Tr_text Tr_gossiping Tr_counting : Nat) (x1 : Int32) (x2 : Int32) (S_roundEdges : Nat → Int32) (S_values : Nat → Int32) (S_nodes : Int32) (S_rounds : Int32) (F_known : Nat → Int32) (F_knownBefore : Nat → Int32) (F_step : Int32) (o : Int32 × (Nat → Int32) × (Nat → Int32) × Int32) (hf : fX9_decision x1 x2 S_roundEdges S_values S_nodes S_rounds F_known F_knownBefore F_step = some o) : CI l D yX9_decision wsX9_decision ({ frames := 4, cells := 0, slots := 0, locals := 88 } : Room) (tysK cI cC cS) [.ref Ta, .int x1, .int x2] (sh_X9SF Ta Sa Sa_roundEdges Sa_values Fa Fa_known Fa_knownBefore Tr_draft Tr_history Tr_text Tr_gossiping Tr_counting cI cC cS S_roundEdges S_values S_nodes S_rounds F_known F_knownBefore F_step) o.1 (sh_X9SF Ta Sa Sa_roundEdges Sa_values Fa Fa_known Fa_knownBefore Tr_draft Tr_history Tr_text Tr_gossiping Tr_counting cI cC cS S_roundEdges S_values S_nodes S_rounds o.2.1 o.2.2.1 o.2.2.2) := by
  refine met_i (cc := cX9_decision) (maxL := 3) (ret := (some .int)) (by decide) rfl (Nat.le_of_ble_eq_true rfl) ?_
  intro p e s m args below meth c R Q A F hR hQ hP hK hD hA hS ls hl
  obtain ⟨hx, hb, hr, hts, hml, hlocks, hown⟩ := F
  have hown : s.vm.findClass RX9 = some m.cls := hown
  have hi_X9 : ∀ w ∈ u_ws RX9 TX9 7, w ∈ wsX9_decision := fun w h => List.mem_cons_of_mem _ (List.mem_append_left _ (List.mem_append_left _ (List.mem_append_right _ h)))
  have q10 := hts (.fieldLink RX9 10 "ChangingRounds" "schedule" "LChangingRounds$Schedule;") (by decide +kernel)
  have q38 := hts (.fieldLink RX9 38 "ChangingRounds" "flooding" "LChangingRounds$Flooding;") (by decide +kernel)
  have hl : lv_has ls 3 [(0, .ref Ta), (1, .int x1), (2, .int x2)] := hl
  unfold fX9_decision at hf
  refine lv_aload_n hx hb dX9_decision_0 rfl (lv_at hl 0 rfl) ?_
  refine va_get (D := D) (ci := 6) (v := .ref Sa) (C := RX9) (T := TX9) (N := 7) hx hb hts hi_X9 hown hK hP 0 rfl rfl 0 (by decide) q10 (fun _ h9 => h9) rfl dX9_decision_1 ?_
  refine lv_iload_n hx hb dX9_decision_4 rfl (lv_at hl 1 rfl) ?_
  refine cv_i (ci := 4) (q := (RX7, TX7, 4)) (As := [.int x1]) (rest := []) hx hb hml hown hts hK hP hD hA hS (kX7_hasNode l D cI cC cS Sa Sa_roundEdges Sa_values x1 S_roundEdges S_values S_nodes S_rounds (fX7_hasNode x1 S_nodes) rfl) (cwV 1 hts gX9_decision_X7_hasNode rfl rfl rfl (by decide +kernel) (by subst hR; exact ⟨Nat.le_of_ble_eq_true rfl, Nat.le_of_ble_eq_true rfl⟩)) [1, 2, 3] [0, 4, 5, 6] [0, 4, 5, 6, 1, 2, 3] [(Ta, .inr (6, [.ref Sa, .ref Tr_draft, .ref Tr_history, .ref Tr_text, .ref Fa, .ref Tr_gossiping, .ref Tr_counting])), (Fa, .inr (1, [.ref Sa, .ref Fa_known, .ref Fa_knownBefore, .int F_step])), (Fa_known, .inl (cI, 8, .inl F_known)), (Fa_knownBefore, .inl (cI, 8, .inl F_knownBefore))] (sh_X9SF Ta Sa Sa_roundEdges Sa_values Fa Fa_known Fa_knownBefore Tr_draft Tr_history Tr_text Tr_gossiping Tr_counting cI cC cS S_roundEdges S_values S_nodes S_rounds F_known F_knownBefore F_step) rfl rfl rfl rfl (by decide) rfl rfl rfl rfl rfl rfl hl.1 rfl (Nat.le_of_ble_eq_true rfl) ⟨Nat.zero_le _, Nat.zero_le _⟩ dX9_decision_5 (fun H locs hP hD hS => ?_)
  refine lv_if_eq (tgt := 18) hx hb dX9_decision_8 (by decide) (fun c1 => ?_) (fun c1 => ?_)
  · have hf := if_t c1 hf
    refine lv_iconst (v := (-1 : Int32)) hx hb dX9_decision_18 (by decide) ?_
    have hf := Option.some.inj hf
    subst hf
    exact rt_i hx hb hr hlocks hQ hK hP hD hS rfl dX9_decision_19
  · have hf := if_f c1 hf
    refine lv_iload_n hx hb dX9_decision_11 rfl (lv_at hl 2 rfl) ?_
    refine cs_i (As := [.int x2]) (rest := []) hx hb hml hown hts hK hP hD hA hS (kX9_isStep l D cI cC cS  x2  (fX9_isStep x2) rfl) (va_cwS 1 hts gX9_decision_X9_isStep rfl rfl rfl (by decide +kernel) (by subst hR; exact ⟨Nat.le_of_ble_eq_true rfl, Nat.le_of_ble_eq_true rfl⟩)) rfl hl.1 rfl (Nat.le_of_ble_eq_true rfl) ⟨Nat.zero_le _, Nat.zero_le _⟩ dX9_decision_12 (fun H locs hP hD hS => ?_)
    refine lv_if_ne (tgt := 20) hx hb dX9_decision_15 (by decide) (fun c2 => ?_) (fun c2 => ?_)
    · have hf := if_f c2 hf
      refine lv_aload_n hx hb dX9_decision_20 rfl (lv_at hl 0 rfl) ?_
      refine va_get (D := D) (ci := 6) (v := .ref Fa) (C := RX9) (T := TX9) (N := 7) hx hb hts hi_X9 hown hK hP 0 rfl rfl 4 (by decide) q38 (fun _ h9 => h9) rfl dX9_decision_21 ?_
      refine lv_iconst (v := (0 : Int32)) hx hb dX9_decision_24 (by decide) ?_
      obtain ⟨o3, ho3, hf⟩ := bd_some hf
      refine cv_v (ci := 1) (q := (RX3, TX3, 4)) (As := [.int (0 : Int32)]) (rest := []) hx hb hml hown hts hK hP hD hA hS (kX3_begin l D cI cC cS Fa Fa_known Fa_knownBefore Sa Sa_roundEdges Sa_values (0 : Int32) F_known F_knownBefore F_step S_roundEdges S_values S_nodes S_rounds o3 ho3) (cwV 1 hts gX9_decision_X3_begin rfl rfl rfl (by decide +kernel) (by subst hR; exact ⟨Nat.le_of_ble_eq_true rfl, Nat.le_of_ble_eq_true rfl⟩)) [4, 5, 6, 1, 2, 3] [0] [0, 4, 5, 6, 1, 2, 3] [(Ta, .inr (6, [.ref Sa, .ref Tr_draft, .ref Tr_history, .ref Tr_text, .ref Fa, .ref Tr_gossiping, .ref Tr_counting]))] (sh_X9SF Ta Sa Sa_roundEdges Sa_values Fa Fa_known Fa_knownBefore Tr_draft Tr_history Tr_text Tr_gossiping Tr_counting cI cC cS S_roundEdges S_values S_nodes S_rounds o3.1 F_knownBefore o3.2) rfl rfl rfl rfl (by decide) rfl rfl rfl rfl rfl rfl hl.1 rfl (Nat.le_of_ble_eq_true rfl) ⟨Nat.zero_le _, Nat.zero_le _⟩ dX9_decision_25 (fun H locs hP hD hS => ?_)
      refine lv_aload_n hx hb dX9_decision_28 rfl (lv_at hl 0 rfl) ?_
      refine va_get (D := D) (ci := 6) (v := .ref Fa) (C := RX9) (T := TX9) (N := 7) hx hb hts hi_X9 hown hK hP 0 rfl rfl 4 (by decide) q38 (fun _ h9 => h9) rfl dX9_decision_29 ?_
      refine lv_iload_n hx hb dX9_decision_32 rfl (lv_at hl 2 rfl) ?_
      obtain ⟨o4, ho4, hf⟩ := bd_some hf
      refine cv_v (ci := 1) (q := (RX3, TX3, 4)) (As := [.int x2]) (rest := []) hx hb hml hown hts hK hP hD hA hS (kX3_advanceBy l D cI cC cS Fa Fa_known Fa_knownBefore Sa Sa_roundEdges Sa_values x2 o3.1 F_knownBefore o3.2 S_roundEdges S_values S_nodes S_rounds o4 ho4) (cwV 1 hts gX9_decision_X3_advanceBy rfl rfl rfl (by decide +kernel) (by subst hR; exact ⟨Nat.le_of_ble_eq_true rfl, Nat.le_of_ble_eq_true rfl⟩)) [4, 5, 6, 1, 2, 3] [0] [0, 4, 5, 6, 1, 2, 3] [(Ta, .inr (6, [.ref Sa, .ref Tr_draft, .ref Tr_history, .ref Tr_text, .ref Fa, .ref Tr_gossiping, .ref Tr_counting]))] (sh_X9SF Ta Sa Sa_roundEdges Sa_values Fa Fa_known Fa_knownBefore Tr_draft Tr_history Tr_text Tr_gossiping Tr_counting cI cC cS S_roundEdges S_values S_nodes S_rounds o4.1 o4.2.1 o4.2.2) rfl rfl rfl rfl (by decide) rfl rfl rfl rfl rfl rfl hl.1 rfl (Nat.le_of_ble_eq_true rfl) ⟨Nat.zero_le _, Nat.zero_le _⟩ dX9_decision_33 (fun H locs hP hD hS => ?_)
      refine lv_aload_n hx hb dX9_decision_36 rfl (lv_at hl 0 rfl) ?_
      refine va_get (D := D) (ci := 6) (v := .ref Sa) (C := RX9) (T := TX9) (N := 7) hx hb hts hi_X9 hown hK hP 0 rfl rfl 0 (by decide) q10 (fun _ h9 => h9) rfl dX9_decision_37 ?_
      refine lv_aload_n hx hb dX9_decision_40 rfl (lv_at hl 0 rfl) ?_
      refine va_get (D := D) (ci := 6) (v := .ref Fa) (C := RX9) (T := TX9) (N := 7) hx hb hts hi_X9 hown hK hP 0 rfl rfl 4 (by decide) q38 (fun _ h9 => h9) rfl dX9_decision_41 ?_
      refine lv_iload_n hx hb dX9_decision_44 rfl (lv_at hl 1 rfl) ?_
      obtain ⟨o5, ho5, hf⟩ := bd_some hf
      refine cv_i (ci := 1) (q := (RX3, TX3, 4)) (As := [.int x1]) (rest := [.ref Sa]) hx hb hml hown hts hK hP hD hA hS (kX3_tokensOf l D cI cC cS Fa Fa_known Fa_knownBefore Sa Sa_roundEdges Sa_values x1 o4.1 o4.2.1 o4.2.2 S_roundEdges S_values S_nodes S_rounds o5 ho5) (cwV 1 hts gX9_decision_X3_tokensOf rfl rfl rfl (by decide +kernel) (by subst hR; exact ⟨Nat.le_of_ble_eq_true rfl, Nat.le_of_ble_eq_true rfl⟩)) [4, 5, 6, 1, 2, 3] [0] [0, 4, 5, 6, 1, 2, 3] [(Ta, .inr (6, [.ref Sa, .ref Tr_draft, .ref Tr_history, .ref Tr_text, .ref Fa, .ref Tr_gossiping, .ref Tr_counting]))] (sh_X9SF Ta Sa Sa_roundEdges Sa_values Fa Fa_known Fa_knownBefore Tr_draft Tr_history Tr_text Tr_gossiping Tr_counting cI cC cS S_roundEdges S_values S_nodes S_rounds o4.1 o4.2.1 o4.2.2) rfl rfl rfl rfl (by decide) rfl rfl rfl rfl rfl rfl hl.1 rfl (Nat.le_of_ble_eq_true rfl) ⟨Nat.zero_le _, Nat.zero_le _⟩ dX9_decision_45 (fun H locs hP hD hS => ?_)
      obtain ⟨o6, ho6, hf⟩ := bd_some hf
      refine cv_i (ci := 4) (q := (RX7, TX7, 4)) (As := [.int o5]) (rest := []) hx hb hml hown hts hK hP hD hA hS (kX7_smallestValue l D cI cC cS Sa Sa_roundEdges Sa_values o5 S_roundEdges S_values S_nodes S_rounds o6 ho6) (cwV 1 hts gX9_decision_X7_smallestValue rfl rfl rfl (by decide +kernel) (by subst hR; exact ⟨Nat.le_of_ble_eq_true rfl, Nat.le_of_ble_eq_true rfl⟩)) [1, 2, 3] [0, 4, 5, 6] [0, 4, 5, 6, 1, 2, 3] [(Ta, .inr (6, [.ref Sa, .ref Tr_draft, .ref Tr_history, .ref Tr_text, .ref Fa, .ref Tr_gossiping, .ref Tr_counting])), (Fa, .inr (1, [.ref Sa, .ref Fa_known, .ref Fa_knownBefore, .int o4.2.2])), (Fa_known, .inl (cI, 8, .inl o4.1)), (Fa_knownBefore, .inl (cI, 8, .inl o4.2.1))] (sh_X9SF Ta Sa Sa_roundEdges Sa_values Fa Fa_known Fa_knownBefore Tr_draft Tr_history Tr_text Tr_gossiping Tr_counting cI cC cS S_roundEdges S_values S_nodes S_rounds o4.1 o4.2.1 o4.2.2) rfl rfl rfl rfl (by decide) rfl rfl rfl rfl rfl rfl hl.1 rfl (Nat.le_of_ble_eq_true rfl) ⟨Nat.zero_le _, Nat.zero_le _⟩ dX9_decision_48 (fun H locs hP hD hS => ?_)
      have hf := Option.some.inj hf
      subst hf
      exact rt_i hx hb hr hlocks hQ hK hP hD hS rfl dX9_decision_51
    · have hf := if_t c2 hf
      refine lv_iconst (v := (-1 : Int32)) hx hb dX9_decision_18 (by decide) ?_
      have hf := Option.some.inj hf
      subst hf
      exact rt_i hx hb hr hlocks hQ hK hP hD hS rfl dX9_decision_19
