set_option maxRecDepth 100000 in
set_option maxHeartbeats 4000000 in
theorem kX9_allDecideTheSame (l : Launch) (D : va_G) (cI cC cS : ClassId) (Ta Sa Sa_roundEdges Sa_values Fa Fa_known Fa_knownBefore Tr_draft Tr_history Tr_text Tr_gossiping Tr_counting : Nat) (S_roundEdges : Nat → Int32) (S_values : Nat → Int32) (S_nodes : Int32) (S_rounds : Int32) (F_known : Nat → Int32) (F_knownBefore : Nat → Int32) (F_step : Int32) (o : Bool) (hf : fX9_allDecideTheSame S_values S_nodes F_known = some o) : CI l D yX9_allDecideTheSame wsX9_allDecideTheSame ({ frames := 2, cells := 0, slots := 0, locals := 44 } : Room) (tysK cI cC cS) [.ref Ta] (sh_X9SF Ta Sa Sa_roundEdges Sa_values Fa Fa_known Fa_knownBefore Tr_draft Tr_history Tr_text Tr_gossiping Tr_counting cI cC cS S_roundEdges S_values S_nodes S_rounds F_known F_knownBefore F_step) (b2i o) (sh_X9SF Ta Sa Sa_roundEdges Sa_values Fa Fa_known Fa_knownBefore Tr_draft Tr_history Tr_text Tr_gossiping Tr_counting cI cC cS S_roundEdges S_values S_nodes S_rounds F_known F_knownBefore F_step) := by
  refine met_i (cc := cX9_allDecideTheSame) (maxL := 3) (ret := (some .boolean)) (by decide) rfl (Nat.le_of_ble_eq_true rfl) ?_
  intro p e s m args below meth c R Q A F hR hQ hP hK hD hA hS ls hl
  obtain ⟨hx, hb, hr, hts, hml, hlocks, hown⟩ := F
  have hown : s.vm.findClass RX9 = some m.cls := hown
  have hi_X9 : ∀ w ∈ u_ws RX9 TX9 7, w ∈ wsX9_allDecideTheSame := fun w h => List.mem_cons_of_mem _ (List.mem_append_left _ (List.mem_append_left _ (List.mem_append_right _ h)))
  have q10 := hts (.fieldLink RX9 10 "ChangingRounds" "schedule" "LChangingRounds$Schedule;") (by decide +kernel)
  have q38 := hts (.fieldLink RX9 38 "ChangingRounds" "flooding" "LChangingRounds$Flooding;") (by decide +kernel)
  have hl : lv_has ls 3 [(0, .ref Ta)] := hl
  unfold fX9_allDecideTheSame at hf
  have L18 : ∀ (x1 : Int32) (n18 : Nat) (x2 : Int32) (H : Heap) (locs : List Loc) (ls : Array Slot), fX9_allDecideTheSame_l18 x1 S_values S_nodes F_known n18 x2 = some o → va_P D vwCl (sh_X9SF Ta Sa Sa_roundEdges Sa_values Fa Fa_known Fa_knownBefore Tr_draft Tr_history Tr_text Tr_gossiping Tr_counting cI cC cS S_roundEdges S_values S_nodes S_rounds F_known F_knownBefore F_step) H → va_D A (sh_X9SF Ta Sa Sa_roundEdges Sa_values Fa Fa_known Fa_knownBefore Tr_draft Tr_history Tr_text Tr_gossiping Tr_counting cI cC cS S_roundEdges S_values S_nodes S_rounds F_known F_knownBefore F_step) → va_S A s.heap H locs → lv_has ls 3 [(0, .ref Ta), (1, .int x1), (2, .int x2)] → W p l e R s m args below meth c H locs 0 0 Q (F0 m 18 ls []) := by
    intro x1 n18
    induction n18 with
    | zero => intro x2 H locs ls hf; cases (show (none : Option _) = some _ from hf)
    | succ n18 ih18 =>
      intro x2 H locs ls hf hP hD hS hl
      rw [fX9_allDecideTheSame_l18] at hf
      refine lv_iload_n hx hb dX9_allDecideTheSame_18 rfl (lv_at hl 2 rfl) ?_
      refine lv_aload_n hx hb dX9_allDecideTheSame_19 rfl (lv_at hl 0 rfl) ?_
      refine va_get (D := D) (ci := 6) (v := .ref Sa) (C := RX9) (T := TX9) (N := 7) hx hb hts hi_X9 hown hK hP 0 rfl rfl 0 (by decide) q10 (fun _ h9 => h9) rfl dX9_allDecideTheSame_20 ?_
      refine cv_i (ci := 4) (q := (RX7, TX7, 4)) (As := []) (rest := [.int x2]) hx hb hml hown hts hK hP hD hA hS (kX7_nodes l D cI cC cS Sa Sa_roundEdges Sa_values  S_roundEdges S_values S_nodes S_rounds (fX7_nodes S_nodes) rfl) (cwV 0 hts gX9_allDecideTheSame_X7_nodes rfl rfl rfl (by decide +kernel) (by subst hR; exact ⟨Nat.le_of_ble_eq_true rfl, Nat.le_of_ble_eq_true rfl⟩)) [1, 2, 3] [0, 4, 5, 6] [0, 4, 5, 6, 1, 2, 3] [(Ta, .inr (6, [.ref Sa, .ref Tr_draft, .ref Tr_history, .ref Tr_text, .ref Fa, .ref Tr_gossiping, .ref Tr_counting])), (Fa, .inr (1, [.ref Sa, .ref Fa_known, .ref Fa_knownBefore, .int F_step])), (Fa_known, .inl (cI, 8, .inl F_known)), (Fa_knownBefore, .inl (cI, 8, .inl F_knownBefore))] (sh_X9SF Ta Sa Sa_roundEdges Sa_values Fa Fa_known Fa_knownBefore Tr_draft Tr_history Tr_text Tr_gossiping Tr_counting cI cC cS S_roundEdges S_values S_nodes S_rounds F_known F_knownBefore F_step) rfl rfl rfl rfl (by decide) rfl rfl rfl rfl rfl rfl hl.1 rfl (Nat.le_of_ble_eq_true rfl) ⟨Nat.zero_le _, Nat.zero_le _⟩ dX9_allDecideTheSame_23 (fun H locs hP hD hS => ?_)
      refine lv_icmp_ge (tgt := 56) hx hb dX9_allDecideTheSame_26 (by decide) (fun c1 => ?_) (fun c1 => ?_)
      · have hf := if_t c1 hf
        refine lv_iconst (v := (1 : Int32)) hx hb dX9_allDecideTheSame_56 (by decide) ?_
        have hf := Option.some.inj hf
        subst hf
        exact rt_z (ty := .boolean) hx hb hr rfl hlocks hQ hK hP hD hS rfl dX9_allDecideTheSame_57
      · have hf := if_f c1 hf
        refine lv_aload_n hx hb dX9_allDecideTheSame_29 rfl (lv_at hl 0 rfl) ?_
        refine va_get (D := D) (ci := 6) (v := .ref Sa) (C := RX9) (T := TX9) (N := 7) hx hb hts hi_X9 hown hK hP 0 rfl rfl 0 (by decide) q10 (fun _ h9 => h9) rfl dX9_allDecideTheSame_30 ?_
        refine lv_aload_n hx hb dX9_allDecideTheSame_33 rfl (lv_at hl 0 rfl) ?_
        refine va_get (D := D) (ci := 6) (v := .ref Fa) (C := RX9) (T := TX9) (N := 7) hx hb hts hi_X9 hown hK hP 0 rfl rfl 4 (by decide) q38 (fun _ h9 => h9) rfl dX9_allDecideTheSame_34 ?_
        refine lv_iload_n hx hb dX9_allDecideTheSame_37 rfl (lv_at hl 2 rfl) ?_
        obtain ⟨o2, ho2, hf⟩ := bd_some hf
        refine cv_i (ci := 1) (q := (RX3, TX3, 4)) (As := [.int x2]) (rest := [.ref Sa]) hx hb hml hown hts hK hP hD hA hS (kX3_tokensOf l D cI cC cS Fa Fa_known Fa_knownBefore Sa Sa_roundEdges Sa_values x2 F_known F_knownBefore F_step S_roundEdges S_values S_nodes S_rounds o2 ho2) (cwV 1 hts gX9_allDecideTheSame_X3_tokensOf rfl rfl rfl (by decide +kernel) (by subst hR; exact ⟨Nat.le_of_ble_eq_true rfl, Nat.le_of_ble_eq_true rfl⟩)) [4, 5, 6, 1, 2, 3] [0] [0, 4, 5, 6, 1, 2, 3] [(Ta, .inr (6, [.ref Sa, .ref Tr_draft, .ref Tr_history, .ref Tr_text, .ref Fa, .ref Tr_gossiping, .ref Tr_counting]))] (sh_X9SF Ta Sa Sa_roundEdges Sa_values Fa Fa_known Fa_knownBefore Tr_draft Tr_history Tr_text Tr_gossiping Tr_counting cI cC cS S_roundEdges S_values S_nodes S_rounds F_known F_knownBefore F_step) rfl rfl rfl rfl (by decide) rfl rfl rfl rfl rfl rfl hl.1 rfl (Nat.le_of_ble_eq_true rfl) ⟨Nat.zero_le _, Nat.zero_le _⟩ dX9_allDecideTheSame_38 (fun H locs hP hD hS => ?_)
        obtain ⟨o3, ho3, hf⟩ := bd_some hf
        refine cv_i (ci := 4) (q := (RX7, TX7, 4)) (As := [.int o2]) (rest := []) hx hb hml hown hts hK hP hD hA hS (kX7_smallestValue l D cI cC cS Sa Sa_roundEdges Sa_values o2 S_roundEdges S_values S_nodes S_rounds o3 ho3) (cwV 1 hts gX9_allDecideTheSame_X7_smallestValue rfl rfl rfl (by decide +kernel) (by subst hR; exact ⟨Nat.le_of_ble_eq_true rfl, Nat.le_of_ble_eq_true rfl⟩)) [1, 2, 3] [0, 4, 5, 6] [0, 4, 5, 6, 1, 2, 3] [(Ta, .inr (6, [.ref Sa, .ref Tr_draft, .ref Tr_history, .ref Tr_text, .ref Fa, .ref Tr_gossiping, .ref Tr_counting])), (Fa, .inr (1, [.ref Sa, .ref Fa_known, .ref Fa_knownBefore, .int F_step])), (Fa_known, .inl (cI, 8, .inl F_known)), (Fa_knownBefore, .inl (cI, 8, .inl F_knownBefore))] (sh_X9SF Ta Sa Sa_roundEdges Sa_values Fa Fa_known Fa_knownBefore Tr_draft Tr_history Tr_text Tr_gossiping Tr_counting cI cC cS S_roundEdges S_values S_nodes S_rounds F_known F_knownBefore F_step) rfl rfl rfl rfl (by decide) rfl rfl rfl rfl rfl rfl hl.1 rfl (Nat.le_of_ble_eq_true rfl) ⟨Nat.zero_le _, Nat.zero_le _⟩ dX9_allDecideTheSame_41 (fun H locs hP hD hS => ?_)
        refine lv_iload_n hx hb dX9_allDecideTheSame_44 rfl (lv_at hl 1 rfl) ?_
        refine lv_icmp_eq (tgt := 50) hx hb dX9_allDecideTheSame_45 (by decide) (fun c4 => ?_) (fun c4 => ?_)
        · have hf := if_t c4 hf
          refine lv_iinc (v := (x2 + 1)) (lv' := [(2, .int (x2 + 1)), (0, .ref Ta), (1, .int x1)]) hx hb dX9_allDecideTheSame_50 hl (k := 2) rfl rfl (by decide) rfl (fun ls hl => ?_)
          refine lv_goto (tgt := 18) hx hb dX9_allDecideTheSame_53 (by decide) ?_
          exact ih18 (x2 + 1) _ _ _ hf hP hD hS (lv_sub hl [1, 2, 0] rfl)
        · have hf := if_f c4 hf
          refine lv_iconst (v := (0 : Int32)) hx hb dX9_allDecideTheSame_48 (by decide) ?_
          have hf := Option.some.inj hf
          subst hf
          exact rt_z (ty := .boolean) hx hb hr rfl hlocks hQ hK hP hD hS rfl dX9_allDecideTheSame_49
  refine lv_aload_n hx hb dX9_allDecideTheSame_0 rfl (lv_at hl 0 rfl) ?_
  refine va_get (D := D) (ci := 6) (v := .ref Sa) (C := RX9) (T := TX9) (N := 7) hx hb hts hi_X9 hown hK hP 0 rfl rfl 0 (by decide) q10 (fun _ h9 => h9) rfl dX9_allDecideTheSame_1 ?_
  refine lv_aload_n hx hb dX9_allDecideTheSame_4 rfl (lv_at hl 0 rfl) ?_
  refine va_get (D := D) (ci := 6) (v := .ref Fa) (C := RX9) (T := TX9) (N := 7) hx hb hts hi_X9 hown hK hP 0 rfl rfl 4 (by decide) q38 (fun _ h9 => h9) rfl dX9_allDecideTheSame_5 ?_
  refine lv_iconst (v := (0 : Int32)) hx hb dX9_allDecideTheSame_8 (by decide) ?_
  obtain ⟨o5, ho5, hf⟩ := bd_some hf
  refine cv_i (ci := 1) (q := (RX3, TX3, 4)) (As := [.int (0 : Int32)]) (rest := [.ref Sa]) hx hb hml hown hts hK hP hD hA hS (kX3_tokensOf l D cI cC cS Fa Fa_known Fa_knownBefore Sa Sa_roundEdges Sa_values (0 : Int32) F_known F_knownBefore F_step S_roundEdges S_values S_nodes S_rounds o5 ho5) (cwV 1 hts gX9_allDecideTheSame_X3_tokensOf rfl rfl rfl (by decide +kernel) (by subst hR; exact ⟨Nat.le_of_ble_eq_true rfl, Nat.le_of_ble_eq_true rfl⟩)) [4, 5, 6, 1, 2, 3] [0] [0, 4, 5, 6, 1, 2, 3] [(Ta, .inr (6, [.ref Sa, .ref Tr_draft, .ref Tr_history, .ref Tr_text, .ref Fa, .ref Tr_gossiping, .ref Tr_counting]))] (sh_X9SF Ta Sa Sa_roundEdges Sa_values Fa Fa_known Fa_knownBefore Tr_draft Tr_history Tr_text Tr_gossiping Tr_counting cI cC cS S_roundEdges S_values S_nodes S_rounds F_known F_knownBefore F_step) rfl rfl rfl rfl (by decide) rfl rfl rfl rfl rfl rfl hl.1 rfl (Nat.le_of_ble_eq_true rfl) ⟨Nat.zero_le _, Nat.zero_le _⟩ dX9_allDecideTheSame_9 (fun H locs hP hD hS => ?_)
  obtain ⟨o6, ho6, hf⟩ := bd_some hf
  refine cv_i (ci := 4) (q := (RX7, TX7, 4)) (As := [.int o5]) (rest := []) hx hb hml hown hts hK hP hD hA hS (kX7_smallestValue l D cI cC cS Sa Sa_roundEdges Sa_values o5 S_roundEdges S_values S_nodes S_rounds o6 ho6) (cwV 1 hts gX9_allDecideTheSame_X7_smallestValue rfl rfl rfl (by decide +kernel) (by subst hR; exact ⟨Nat.le_of_ble_eq_true rfl, Nat.le_of_ble_eq_true rfl⟩)) [1, 2, 3] [0, 4, 5, 6] [0, 4, 5, 6, 1, 2, 3] [(Ta, .inr (6, [.ref Sa, .ref Tr_draft, .ref Tr_history, .ref Tr_text, .ref Fa, .ref Tr_gossiping, .ref Tr_counting])), (Fa, .inr (1, [.ref Sa, .ref Fa_known, .ref Fa_knownBefore, .int F_step])), (Fa_known, .inl (cI, 8, .inl F_known)), (Fa_knownBefore, .inl (cI, 8, .inl F_knownBefore))] (sh_X9SF Ta Sa Sa_roundEdges Sa_values Fa Fa_known Fa_knownBefore Tr_draft Tr_history Tr_text Tr_gossiping Tr_counting cI cC cS S_roundEdges S_values S_nodes S_rounds F_known F_knownBefore F_step) rfl rfl rfl rfl (by decide) rfl rfl rfl rfl rfl rfl hl.1 rfl (Nat.le_of_ble_eq_true rfl) ⟨Nat.zero_le _, Nat.zero_le _⟩ dX9_allDecideTheSame_12 (fun H locs hP hD hS => ?_)
  refine lv_istore_n (lv' := [(1, .int o6), (0, .ref Ta)]) hx hb dX9_allDecideTheSame_15 rfl hl (by decide) rfl (fun ls hl => ?_)
  refine lv_iconst (v := (1 : Int32)) hx hb dX9_allDecideTheSame_16 (by decide) ?_
  refine lv_istore_n (lv' := [(2, .int (1 : Int32)), (1, .int o6), (0, .ref Ta)]) hx hb dX9_allDecideTheSame_17 rfl hl (by decide) rfl (fun ls hl => ?_)
  exact L18 o6 fuel (1 : Int32) _ _ _ hf hP hD hS (lv_sub hl [2, 1, 0] rfl)
set_option maxRecDepth 100000 in
set_option maxHeartbeats 4000000 in
theorem kX9_agreement (l : Launch) (D : va_G) (cI cC cS : ClassId) (Ta Sa Sa_roundEdges Sa_values Fa Fa_known Fa_knownBefore Tr_draft Tr_history Tr_text Tr_gossiping Tr_counting : Nat) (S_roundEdges : Nat → Int32) (S_values : Nat → Int32) (S_nodes : Int32) (S_rounds : Int32) (F_known : Nat → Int32) (F_knownBefore : Nat → Int32) (F_step : Int32) (o : Int32 × (Nat → Int32) × (Nat → Int32) × Int32) (hf : fX9_agreement S_roundEdges S_values S_nodes S_rounds F_known F_knownBefore F_step = some o) : CI l D yX9_agreement wsX9_agreement ({ frames := 3, cells := 0, slots := 0, locals := 66 } : Room) (tysK cI cC cS) [.ref Ta] (sh_X9SF Ta Sa Sa_roundEdges Sa_values Fa Fa_known Fa_knownBefore Tr_draft Tr_history Tr_text Tr_gossiping Tr_counting cI cC cS S_roundEdges S_values S_nodes S_rounds F_known F_knownBefore F_step) o.1 (sh_X9SF Ta Sa Sa_roundEdges Sa_values Fa Fa_known Fa_knownBefore Tr_draft Tr_history Tr_text Tr_gossiping Tr_counting cI cC cS S_roundEdges S_values S_nodes S_rounds o.2.1 o.2.2.1 o.2.2.2) := by
  refine met_i (cc := cX9_agreement) (maxL := 2) (ret := (some .int)) (by decide) rfl (Nat.le_of_ble_eq_true rfl) ?_
  intro p e s m args below meth c R Q A F hR hQ hP hK hD hA hS ls hl
  obtain ⟨hx, hb, hr, hts, hml, hlocks, hown⟩ := F
  have hown : s.vm.findClass RX9 = some m.cls := hown
  have hi_X9 : ∀ w ∈ u_ws RX9 TX9 7, w ∈ wsX9_agreement := fun w h => List.mem_cons_of_mem _ (List.mem_append_left _ (List.mem_append_left _ (List.mem_append_right _ h)))
  have q38 := hts (.fieldLink RX9 38 "ChangingRounds" "flooding" "LChangingRounds$Flooding;") (by decide +kernel)
  have q10 := hts (.fieldLink RX9 10 "ChangingRounds" "schedule" "LChangingRounds$Schedule;") (by decide +kernel)
  have hl : lv_has ls 2 [(0, .ref Ta)] := hl
  unfold fX9_agreement at hf
  have L10 : ∀ (n10 : Nat) (x1 : Int32) (F_known : Nat → Int32) (F_knownBefore : Nat → Int32) (F_step : Int32) (H : Heap) (locs : List Loc) (ls : Array Slot), fX9_agreement_l10 S_roundEdges S_values S_nodes S_rounds n10 x1 F_known F_knownBefore F_step = some o → va_P D vwCl (sh_X9SF Ta Sa Sa_roundEdges Sa_values Fa Fa_known Fa_knownBefore Tr_draft Tr_history Tr_text Tr_gossiping Tr_counting cI cC cS S_roundEdges S_values S_nodes S_rounds F_known F_knownBefore F_step) H → va_D A (sh_X9SF Ta Sa Sa_roundEdges Sa_values Fa Fa_known Fa_knownBefore Tr_draft Tr_history Tr_text Tr_gossiping Tr_counting cI cC cS S_roundEdges S_values S_nodes S_rounds F_known F_knownBefore F_step) → va_S A s.heap H locs → lv_has ls 2 [(0, .ref Ta), (1, .int x1)] → W p l e R s m args below meth c H locs 0 0 Q (F0 m 10 ls []) := by
    intro n10
    induction n10 with
    | zero => intro x1 F_known F_knownBefore F_step H locs ls hf; cases (show (none : Option _) = some _ from hf)
    | succ n10 ih10 =>
      intro x1 F_known F_knownBefore F_step H locs ls hf hP hD hS hl
      rw [fX9_agreement_l10] at hf
      refine lv_iload_n hx hb dX9_agreement_10 rfl (lv_at hl 1 rfl) ?_
      refine lv_aload_n hx hb dX9_agreement_11 rfl (lv_at hl 0 rfl) ?_
      refine va_get (D := D) (ci := 6) (v := .ref Sa) (C := RX9) (T := TX9) (N := 7) hx hb hts hi_X9 hown hK hP 0 rfl rfl 0 (by decide) q10 (fun _ h9 => h9) rfl dX9_agreement_12 ?_
      refine cv_i (ci := 4) (q := (RX7, TX7, 4)) (As := []) (rest := [.int x1]) hx hb hml hown hts hK hP hD hA hS (kX7_longestFlooding l D cI cC cS Sa Sa_roundEdges Sa_values  S_roundEdges S_values S_nodes S_rounds (fX7_longestFlooding S_nodes S_rounds) rfl) (cwV 0 hts gX9_agreement_X7_longestFlooding rfl rfl rfl (by decide +kernel) (by subst hR; exact ⟨Nat.le_of_ble_eq_true rfl, Nat.le_of_ble_eq_true rfl⟩)) [1, 2, 3] [0, 4, 5, 6] [0, 4, 5, 6, 1, 2, 3] [(Ta, .inr (6, [.ref Sa, .ref Tr_draft, .ref Tr_history, .ref Tr_text, .ref Fa, .ref Tr_gossiping, .ref Tr_counting])), (Fa, .inr (1, [.ref Sa, .ref Fa_known, .ref Fa_knownBefore, .int F_step])), (Fa_known, .inl (cI, 8, .inl F_known)), (Fa_knownBefore, .inl (cI, 8, .inl F_knownBefore))] (sh_X9SF Ta Sa Sa_roundEdges Sa_values Fa Fa_known Fa_knownBefore Tr_draft Tr_history Tr_text Tr_gossiping Tr_counting cI cC cS S_roundEdges S_values S_nodes S_rounds F_known F_knownBefore F_step) rfl rfl rfl rfl (by decide) rfl rfl rfl rfl rfl rfl hl.1 rfl (Nat.le_of_ble_eq_true rfl) ⟨Nat.zero_le _, Nat.zero_le _⟩ dX9_agreement_15 (fun H locs hP hD hS => ?_)
      refine lv_icmp_gt (tgt := 43) hx hb dX9_agreement_18 (by decide) (fun c1 => ?_) (fun c1 => ?_)
      · have hf := if_t c1 hf
        refine lv_bipush (v := (-9 : Int32)) hx hb dX9_agreement_43 (by decide) ?_
        have hf := Option.some.inj hf
        subst hf
        exact rt_i hx hb hr hlocks hQ hK hP hD hS rfl dX9_agreement_45
      · have hf := if_f c1 hf
        refine lv_aload_n hx hb dX9_agreement_21 rfl (lv_at hl 0 rfl) ?_
        obtain ⟨o2, ho2, hf⟩ := bd_some hf
        refine cv_i (ci := 6) (q := (RX9, TX9, 7)) (As := []) (rest := []) hx hb hml hown hts hK hP hD hA hS (kX9_allDecideTheSame l D cI cC cS Ta Sa Sa_roundEdges Sa_values Fa Fa_known Fa_knownBefore Tr_draft Tr_history Tr_text Tr_gossiping Tr_counting  S_roundEdges S_values S_nodes S_rounds F_known F_knownBefore F_step o2 ho2) (cwV 0 hts gX9_agreement_X9_allDecideTheSame rfl rfl rfl (by decide +kernel) (by subst hR; exact ⟨Nat.le_of_ble_eq_true rfl, Nat.le_of_ble_eq_true rfl⟩)) [0, 1, 2, 3, 4, 5, 6] [] [0, 1, 2, 3, 4, 5, 6] [] (sh_X9SF Ta Sa Sa_roundEdges Sa_values Fa Fa_known Fa_knownBefore Tr_draft Tr_history Tr_text Tr_gossiping Tr_counting cI cC cS S_roundEdges S_values S_nodes S_rounds F_known F_knownBefore F_step) rfl rfl rfl rfl (by decide) rfl rfl rfl rfl rfl rfl hl.1 rfl (Nat.le_of_ble_eq_true rfl) ⟨Nat.zero_le _, Nat.zero_le _⟩ dX9_agreement_22 (fun H locs hP hD hS => ?_)
        refine lv_if_eq (tgt := 30) hx hb dX9_agreement_25 (by decide) (fun c3 => ?_) (fun c3 => ?_)
        · have hf := if_t c3 hf
          refine lv_aload_n hx hb dX9_agreement_30 rfl (lv_at hl 0 rfl) ?_
          refine va_get (D := D) (ci := 6) (v := .ref Fa) (C := RX9) (T := TX9) (N := 7) hx hb hts hi_X9 hown hK hP 0 rfl rfl 4 (by decide) q38 (fun _ h9 => h9) rfl dX9_agreement_31 ?_
          obtain ⟨o4, ho4, hf⟩ := bd_some hf
          refine cv_v (ci := 1) (q := (RX3, TX3, 4)) (As := []) (rest := []) hx hb hml hown hts hK hP hD hA hS (kX3_advance l D cI cC cS Fa Fa_known Fa_knownBefore Sa Sa_roundEdges Sa_values  F_known F_knownBefore F_step S_roundEdges S_values S_nodes S_rounds o4 ho4) (cwV 0 hts gX9_agreement_X3_advance rfl rfl rfl (by decide +kernel) (by subst hR; exact ⟨Nat.le_of_ble_eq_true rfl, Nat.le_of_ble_eq_true rfl⟩)) [4, 5, 6, 1, 2, 3] [0] [0, 4, 5, 6, 1, 2, 3] [(Ta, .inr (6, [.ref Sa, .ref Tr_draft, .ref Tr_history, .ref Tr_text, .ref Fa, .ref Tr_gossiping, .ref Tr_counting]))] (sh_X9SF Ta Sa Sa_roundEdges Sa_values Fa Fa_known Fa_knownBefore Tr_draft Tr_history Tr_text Tr_gossiping Tr_counting cI cC cS S_roundEdges S_values S_nodes S_rounds o4.1 o4.2.1 o4.2.2) rfl rfl rfl rfl (by decide) rfl rfl rfl rfl rfl rfl hl.1 rfl (Nat.le_of_ble_eq_true rfl) ⟨Nat.zero_le _, Nat.zero_le _⟩ dX9_agreement_34 (fun H locs hP hD hS => ?_)
          refine lv_iinc (v := (x1 + 1)) (lv' := [(1, .int (x1 + 1)), (0, .ref Ta)]) hx hb dX9_agreement_37 hl (k := 1) rfl rfl (by decide) rfl (fun ls hl => ?_)
          refine lv_goto (tgt := 10) hx hb dX9_agreement_40 (by decide) ?_
          exact ih10 (x1 + 1) o4.1 o4.2.1 o4.2.2 _ _ _ hf hP hD hS (lv_sub hl [1, 0] rfl)
        · have hf := if_f c3 hf
          refine lv_iload_n hx hb dX9_agreement_28 rfl (lv_at hl 1 rfl) ?_
          have hf := Option.some.inj hf
          subst hf
          exact rt_i hx hb hr hlocks hQ hK hP hD hS rfl dX9_agreement_29
  refine lv_aload_n hx hb dX9_agreement_0 rfl (lv_at hl 0 rfl) ?_
  refine va_get (D := D) (ci := 6) (v := .ref Fa) (C := RX9) (T := TX9) (N := 7) hx hb hts hi_X9 hown hK hP 0 rfl rfl 4 (by decide) q38 (fun _ h9 => h9) rfl dX9_agreement_1 ?_
  refine lv_iconst (v := (0 : Int32)) hx hb dX9_agreement_4 (by decide) ?_
  obtain ⟨o5, ho5, hf⟩ := bd_some hf
  refine cv_v (ci := 1) (q := (RX3, TX3, 4)) (As := [.int (0 : Int32)]) (rest := []) hx hb hml hown hts hK hP hD hA hS (kX3_begin l D cI cC cS Fa Fa_known Fa_knownBefore Sa Sa_roundEdges Sa_values (0 : Int32) F_known F_knownBefore F_step S_roundEdges S_values S_nodes S_rounds o5 ho5) (cwV 1 hts gX9_agreement_X3_begin rfl rfl rfl (by decide +kernel) (by subst hR; exact ⟨Nat.le_of_ble_eq_true rfl, Nat.le_of_ble_eq_true rfl⟩)) [4, 5, 6, 1, 2, 3] [0] [0, 4, 5, 6, 1, 2, 3] [(Ta, .inr (6, [.ref Sa, .ref Tr_draft, .ref Tr_history, .ref Tr_text, .ref Fa, .ref Tr_gossiping, .ref Tr_counting]))] (sh_X9SF Ta Sa Sa_roundEdges Sa_values Fa Fa_known Fa_knownBefore Tr_draft Tr_history Tr_text Tr_gossiping Tr_counting cI cC cS S_roundEdges S_values S_nodes S_rounds o5.1 F_knownBefore o5.2) rfl rfl rfl rfl (by decide) rfl rfl rfl rfl rfl rfl hl.1 rfl (Nat.le_of_ble_eq_true rfl) ⟨Nat.zero_le _, Nat.zero_le _⟩ dX9_agreement_5 (fun H locs hP hD hS => ?_)
  refine lv_iconst (v := (0 : Int32)) hx hb dX9_agreement_8 (by decide) ?_
  refine lv_istore_n (lv' := [(1, .int (0 : Int32)), (0, .ref Ta)]) hx hb dX9_agreement_9 rfl hl (by decide) rfl (fun ls hl => ?_)
  exact L10  fuel (0 : Int32) o5.1 F_knownBefore o5.2 _ _ _ hf hP hD hS (lv_sub hl [1, 0] rfl)
set_option maxRecDepth 100000 in
set_option maxHeartbeats 4000000 in
theorem kX9_counted (l : Launch) (D : va_G) (cI cC cS : ClassId) (Ta Sa Sa_roundEdges Sa_values Fa Fa_known Fa_knownBefore Ca Ca_answers Tr_draft Tr_history Tr_text Tr_gossiping : Nat) (x1 : Int32) (S_roundEdges : Nat → Int32) (S_values : Nat → Int32) (S_nodes : Int32) (S_rounds : Int32) (F_known : Nat → Int32) (F_knownBefore : Nat → Int32) (F_step : Int32) (C_answers : Nat → Int32) (C_steps : Int32) (o : Int32 × (Nat → Int32) × (Nat → Int32) × Int32 × (Nat → Int32) × Int32) (hf : fX9_counted x1 S_roundEdges S_nodes S_rounds F_known F_knownBefore F_step C_answers C_steps = some o) : CI l D yX9_counted wsX9_counted ({ frames := 6, cells := 0, slots := 0, locals := 133 } : Room) (tysK cI cC cS) [.ref Ta, .int x1] (sh_X9SFC Ta Sa Sa_roundEdges Sa_values Fa Fa_known Fa_knownBefore Ca Ca_answers Tr_draft Tr_history Tr_text Tr_gossiping cI cC cS S_roundEdges S_values S_nodes S_rounds F_known F_knownBefore F_step C_answers C_steps) o.1 (sh_X9SFC Ta Sa Sa_roundEdges Sa_values Fa Fa_known Fa_knownBefore Ca Ca_answers Tr_draft Tr_history Tr_text Tr_gossiping cI cC cS S_roundEdges S_values S_nodes S_rounds o.2.1 o.2.2.1 o.2.2.2.1 o.2.2.2.2.1 o.2.2.2.2.2) := by
  refine met_i (cc := cX9_counted) (maxL := 2) (ret := (some .int)) (by decide) rfl (Nat.le_of_ble_eq_true rfl) ?_
  intro p e s m args below meth c R Q A F hR hQ hP hK hD hA hS ls hl
  obtain ⟨hx, hb, hr, hts, hml, hlocks, hown⟩ := F
  have hown : s.vm.findClass RX9 = some m.cls := hown
  have hi_X9 : ∀ w ∈ u_ws RX9 TX9 7, w ∈ wsX9_counted := fun w h => List.mem_cons_of_mem _ (List.mem_append_left _ (List.mem_append_left _ (List.mem_append_left _ (List.mem_append_right _ h))))
  have q10 := hts (.fieldLink RX9 10 "ChangingRounds" "schedule" "LChangingRounds$Schedule;") (by decide +kernel)
  have q54 := hts (.fieldLink RX9 54 "ChangingRounds" "counting" "LChangingRounds$Counting;") (by decide +kernel)
  have hl : lv_has ls 2 [(0, .ref Ta), (1, .int x1)] := hl
  unfold fX9_counted at hf
  refine lv_aload_n hx hb dX9_counted_0 rfl (lv_at hl 0 rfl) ?_
  refine va_get (D := D) (ci := 6) (v := .ref Sa) (C := RX9) (T := TX9) (N := 7) hx hb hts hi_X9 hown hK hP 0 rfl rfl 0 (by decide) q10 (fun _ h9 => h9) rfl dX9_counted_1 ?_
  refine lv_iload_n hx hb dX9_counted_4 rfl (lv_at hl 1 rfl) ?_
  refine cv_i (ci := 4) (q := (RX7, TX7, 4)) (As := [.int x1]) (rest := []) hx hb hml hown hts hK hP hD hA hS (kX7_hasNode l D cI cC cS Sa Sa_roundEdges Sa_values x1 S_roundEdges S_values S_nodes S_rounds (fX7_hasNode x1 S_nodes) rfl) (cwV 1 hts gX9_counted_X7_hasNode rfl rfl rfl (by decide +kernel) (by subst hR; exact ⟨Nat.le_of_ble_eq_true rfl, Nat.le_of_ble_eq_true rfl⟩)) [1, 2, 3] [0, 4, 5, 6, 7, 8] [0, 6, 7, 8, 1, 2, 3, 4, 5] [(Ta, .inr (6, [.ref Sa, .ref Tr_draft, .ref Tr_history, .ref Tr_text, .ref Fa, .ref Tr_gossiping, .ref Ca])), (Fa, .inr (1, [.ref Sa, .ref Fa_known, .ref Fa_knownBefore, .int F_step])), (Fa_known, .inl (cI, 8, .inl F_known)), (Fa_knownBefore, .inl (cI, 8, .inl F_knownBefore)), (Ca, .inr (0, [.ref Sa, .ref Fa, .ref Ca_answers, .int C_steps])), (Ca_answers, .inl (cI, 8, .inl C_answers))] (sh_X9SFC Ta Sa Sa_roundEdges Sa_values Fa Fa_known Fa_knownBefore Ca Ca_answers Tr_draft Tr_history Tr_text Tr_gossiping cI cC cS S_roundEdges S_values S_nodes S_rounds F_known F_knownBefore F_step C_answers C_steps) rfl rfl rfl rfl (by decide) rfl rfl rfl rfl rfl rfl hl.1 rfl (Nat.le_of_ble_eq_true rfl) ⟨Nat.zero_le _, Nat.zero_le _⟩ dX9_counted_5 (fun H locs hP hD hS => ?_)
  refine lv_if_ne (tgt := 13) hx hb dX9_counted_8 (by decide) (fun c1 => ?_) (fun c1 => ?_)
  · have hf := if_f c1 hf
    refine lv_aload_n hx hb dX9_counted_13 rfl (lv_at hl 0 rfl) ?_
    refine va_get (D := D) (ci := 6) (v := .ref Ca) (C := RX9) (T := TX9) (N := 7) hx hb hts hi_X9 hown hK hP 0 rfl rfl 6 (by decide) q54 (fun _ h9 => h9) rfl dX9_counted_14 ?_
    obtain ⟨o2, ho2, hf⟩ := bd_some hf
    refine cv_v (ci := 0) (q := (RX1, TX1, 4)) (As := []) (rest := []) hx hb hml hown hts hK hP hD hA hS (kX1_run l D cI cC cS Ca Ca_answers Fa Fa_known Fa_knownBefore Sa Sa_roundEdges Sa_values  C_answers C_steps F_known F_knownBefore F_step S_roundEdges S_values S_nodes S_rounds o2 ho2) (cwV 0 hts gX9_counted_X1_run rfl rfl rfl (by decide +kernel) (by subst hR; exact ⟨Nat.le_of_ble_eq_true rfl, Nat.le_of_ble_eq_true rfl⟩)) [7, 8, 4, 5, 6, 1, 2, 3] [0] [0, 6, 7, 8, 3, 4, 5, 1, 2] [(Ta, .inr (6, [.ref Sa, .ref Tr_draft, .ref Tr_history, .ref Tr_text, .ref Fa, .ref Tr_gossiping, .ref Ca]))] (sh_X9SFC Ta Sa Sa_roundEdges Sa_values Fa Fa_known Fa_knownBefore Ca Ca_answers Tr_draft Tr_history Tr_text Tr_gossiping cI cC cS S_roundEdges S_values S_nodes S_rounds o2.2.2.1 o2.2.2.2.1 o2.2.2.2.2 o2.1 o2.2.1) rfl rfl rfl rfl (by decide) rfl rfl rfl rfl rfl rfl hl.1 rfl (Nat.le_of_ble_eq_true rfl) ⟨Nat.zero_le _, Nat.zero_le _⟩ dX9_counted_17 (fun H locs hP hD hS => ?_)
    refine lv_aload_n hx hb dX9_counted_20 rfl (lv_at hl 0 rfl) ?_
    refine va_get (D := D) (ci := 6) (v := .ref Ca) (C := RX9) (T := TX9) (N := 7) hx hb hts hi_X9 hown hK hP 0 rfl rfl 6 (by decide) q54 (fun _ h9 => h9) rfl dX9_counted_21 ?_
    refine lv_iload_n hx hb dX9_counted_24 rfl (lv_at hl 1 rfl) ?_
    obtain ⟨o3, ho3, hf⟩ := bd_some hf
    refine cv_i (ci := 0) (q := (RX1, TX1, 4)) (As := [.int x1]) (rest := []) hx hb hml hown hts hK hP hD hA hS (kX1_answerOf l D cI cC cS Ca Ca_answers Fa Fa_known Fa_knownBefore Sa Sa_roundEdges Sa_values x1 o2.1 o2.2.1 o2.2.2.1 o2.2.2.2.1 o2.2.2.2.2 S_roundEdges S_values S_nodes S_rounds o3 ho3) (cwV 1 hts gX9_counted_X1_answerOf rfl rfl rfl (by decide +kernel) (by subst hR; exact ⟨Nat.le_of_ble_eq_true rfl, Nat.le_of_ble_eq_true rfl⟩)) [7, 8, 4, 5, 6, 1, 2, 3] [0] [0, 6, 7, 8, 3, 4, 5, 1, 2] [(Ta, .inr (6, [.ref Sa, .ref Tr_draft, .ref Tr_history, .ref Tr_text, .ref Fa, .ref Tr_gossiping, .ref Ca]))] (sh_X9SFC Ta Sa Sa_roundEdges Sa_values Fa Fa_known Fa_knownBefore Ca Ca_answers Tr_draft Tr_history Tr_text Tr_gossiping cI cC cS S_roundEdges S_values S_nodes S_rounds o2.2.2.1 o2.2.2.2.1 o2.2.2.2.2 o2.1 o2.2.1) rfl rfl rfl rfl (by decide) rfl rfl rfl rfl rfl rfl hl.1 rfl (Nat.le_of_ble_eq_true rfl) ⟨Nat.zero_le _, Nat.zero_le _⟩ dX9_counted_25 (fun H locs hP hD hS => ?_)
    have hf := Option.some.inj hf
    subst hf
    exact rt_i hx hb hr hlocks hQ hK hP hD hS rfl dX9_counted_28
  · have hf := if_t c1 hf
    refine lv_iconst (v := (-1 : Int32)) hx hb dX9_counted_11 (by decide) ?_
    have hf := Option.some.inj hf
    subst hf
    exact rt_i hx hb hr hlocks hQ hK hP hD hS rfl dX9_counted_12
set_option maxRecDepth 100000 in
set_option maxHeartbeats 4000000 in
theorem kX9_countingSteps (l : Launch) (D : va_G) (cI cC cS : ClassId) (Ta Sa Sa_roundEdges Sa_values Fa Fa_known Fa_knownBefore Ca Ca_answers Tr_draft Tr_history Tr_text Tr_gossiping : Nat) (S_roundEdges : Nat → Int32) (S_values : Nat → Int32) (S_nodes : Int32) (S_rounds : Int32) (F_known : Nat → Int32) (F_knownBefore : Nat → Int32) (F_step : Int32) (C_answers : Nat → Int32) (C_steps : Int32) (o : Int32 × (Nat → Int32) × (Nat → Int32) × Int32 × (Nat → Int32) × Int32) (hf : fX9_countingSteps S_roundEdges S_nodes S_rounds F_known F_knownBefore F_step C_answers C_steps = some o) : CI l D yX9_countingSteps wsX9_countingSteps ({ frames := 6, cells := 0, slots := 0, locals := 133 } : Room) (tysK cI cC cS) [.ref Ta] (sh_X9SFC Ta Sa Sa_roundEdges Sa_values Fa Fa_known Fa_knownBefore Ca Ca_answers Tr_draft Tr_history Tr_text Tr_gossiping cI cC cS S_roundEdges S_values S_nodes S_rounds F_known F_knownBefore F_step C_answers C_steps) o.1 (sh_X9SFC Ta Sa Sa_roundEdges Sa_values Fa Fa_known Fa_knownBefore Ca Ca_answers Tr_draft Tr_history Tr_text Tr_gossiping cI cC cS S_roundEdges S_values S_nodes S_rounds o.2.1 o.2.2.1 o.2.2.2.1 o.2.2.2.2.1 o.2.2.2.2.2) := by
  refine met_i (cc := cX9_countingSteps) (maxL := 1) (ret := (some .int)) (by decide) rfl (Nat.le_of_ble_eq_true rfl) ?_
  intro p e s m args below meth c R Q A F hR hQ hP hK hD hA hS ls hl
  obtain ⟨hx, hb, hr, hts, hml, hlocks, hown⟩ := F
  have hown : s.vm.findClass RX9 = some m.cls := hown
  have hi_X9 : ∀ w ∈ u_ws RX9 TX9 7, w ∈ wsX9_countingSteps := fun w h => List.mem_cons_of_mem _ (List.mem_append_left _ (List.mem_append_left _ (List.mem_append_left _ (List.mem_append_right _ h))))
  have q54 := hts (.fieldLink RX9 54 "ChangingRounds" "counting" "LChangingRounds$Counting;") (by decide +kernel)
  have hl : lv_has ls 1 [(0, .ref Ta)] := hl
  unfold fX9_countingSteps at hf
  refine lv_aload_n hx hb dX9_countingSteps_0 rfl (lv_at hl 0 rfl) ?_
  refine va_get (D := D) (ci := 6) (v := .ref Ca) (C := RX9) (T := TX9) (N := 7) hx hb hts hi_X9 hown hK hP 0 rfl rfl 6 (by decide) q54 (fun _ h9 => h9) rfl dX9_countingSteps_1 ?_
  obtain ⟨o1, ho1, hf⟩ := bd_some hf
  refine cv_v (ci := 0) (q := (RX1, TX1, 4)) (As := []) (rest := []) hx hb hml hown hts hK hP hD hA hS (kX1_run l D cI cC cS Ca Ca_answers Fa Fa_known Fa_knownBefore Sa Sa_roundEdges Sa_values  C_answers C_steps F_known F_knownBefore F_step S_roundEdges S_values S_nodes S_rounds o1 ho1) (cwV 0 hts gX9_countingSteps_X1_run rfl rfl rfl (by decide +kernel) (by subst hR; exact ⟨Nat.le_of_ble_eq_true rfl, Nat.le_of_ble_eq_true rfl⟩)) [7, 8, 4, 5, 6, 1, 2, 3] [0] [0, 6, 7, 8, 3, 4, 5, 1, 2] [(Ta, .inr (6, [.ref Sa, .ref Tr_draft, .ref Tr_history, .ref Tr_text, .ref Fa, .ref Tr_gossiping, .ref Ca]))] (sh_X9SFC Ta Sa Sa_roundEdges Sa_values Fa Fa_known Fa_knownBefore Ca Ca_answers Tr_draft Tr_history Tr_text Tr_gossiping cI cC cS S_roundEdges S_values S_nodes S_rounds o1.2.2.1 o1.2.2.2.1 o1.2.2.2.2 o1.1 o1.2.1) rfl rfl rfl rfl (by decide) rfl rfl rfl rfl rfl rfl hl.1 rfl (Nat.le_of_ble_eq_true rfl) ⟨Nat.zero_le _, Nat.zero_le _⟩ dX9_countingSteps_4 (fun H locs hP hD hS => ?_)
  refine lv_aload_n hx hb dX9_countingSteps_7 rfl (lv_at hl 0 rfl) ?_
  refine va_get (D := D) (ci := 6) (v := .ref Ca) (C := RX9) (T := TX9) (N := 7) hx hb hts hi_X9 hown hK hP 0 rfl rfl 6 (by decide) q54 (fun _ h9 => h9) rfl dX9_countingSteps_8 ?_
  refine cv_i (ci := 0) (q := (RX1, TX1, 4)) (As := []) (rest := []) hx hb hml hown hts hK hP hD hA hS (kX1_steps l D cI cC cS Ca Ca_answers Fa Fa_known Fa_knownBefore Sa Sa_roundEdges Sa_values  o1.1 o1.2.1 o1.2.2.1 o1.2.2.2.1 o1.2.2.2.2 S_roundEdges S_values S_nodes S_rounds (fX1_steps o1.2.1) rfl) (cwV 0 hts gX9_countingSteps_X1_steps rfl rfl rfl (by decide +kernel) (by subst hR; exact ⟨Nat.le_of_ble_eq_true rfl, Nat.le_of_ble_eq_true rfl⟩)) [7, 8, 4, 5, 6, 1, 2, 3] [0] [0, 6, 7, 8, 3, 4, 5, 1, 2] [(Ta, .inr (6, [.ref Sa, .ref Tr_draft, .ref Tr_history, .ref Tr_text, .ref Fa, .ref Tr_gossiping, .ref Ca]))] (sh_X9SFC Ta Sa Sa_roundEdges Sa_values Fa Fa_known Fa_knownBefore Ca Ca_answers Tr_draft Tr_history Tr_text Tr_gossiping cI cC cS S_roundEdges S_values S_nodes S_rounds o1.2.2.1 o1.2.2.2.1 o1.2.2.2.2 o1.1 o1.2.1) rfl rfl rfl rfl (by decide) rfl rfl rfl rfl rfl rfl hl.1 rfl (Nat.le_of_ble_eq_true rfl) ⟨Nat.zero_le _, Nat.zero_le _⟩ dX9_countingSteps_11 (fun H locs hP hD hS => ?_)
  have hf := Option.some.inj hf
  subst hf
  exact rt_i hx hb hr hlocks hQ hK hP hD hS rfl dX9_countingSteps_14
set_option maxRecDepth 100000 in
set_option maxHeartbeats 4000000 in
theorem kX9_wrongCounts (l : Launch) (D : va_G) (cI cC cS : ClassId) (Ta Sa Sa_roundEdges Sa_values Fa Fa_known Fa_knownBefore Ca Ca_answers Tr_draft Tr_history Tr_text Tr_gossiping : Nat) (S_roundEdges : Nat → Int32) (S_values : Nat → Int32) (S_nodes : Int32) (S_rounds : Int32) (F_known : Nat → Int32) (F_knownBefore : Nat → Int32) (F_step : Int32) (C_answers : Nat → Int32) (C_steps : Int32) (o : Int32 × (Nat → Int32) × (Nat → Int32) × Int32 × (Nat → Int32) × Int32) (hf : fX9_wrongCounts S_roundEdges S_nodes S_rounds F_known F_knownBefore F_step C_answers C_steps = some o) : CI l D yX9_wrongCounts wsX9_wrongCounts ({ frames := 6, cells := 0, slots := 0, locals := 133 } : Room) (tysK cI cC cS) [.ref Ta] (sh_X9SFC Ta Sa Sa_roundEdges Sa_values Fa Fa_known Fa_knownBefore Ca Ca_answers Tr_draft Tr_history Tr_text Tr_gossiping cI cC cS S_roundEdges S_values S_nodes S_rounds F_known F_knownBefore F_step C_answers C_steps) o.1 (sh_X9SFC Ta Sa Sa_roundEdges Sa_values Fa Fa_known Fa_knownBefore Ca Ca_answers Tr_draft Tr_history Tr_text Tr_gossiping cI cC cS S_roundEdges S_values S_nodes S_rounds o.2.1 o.2.2.1 o.2.2.2.1 o.2.2.2.2.1 o.2.2.2.2.2) := by
  refine met_i (cc := cX9_wrongCounts) (maxL := 1) (ret := (some .int)) (by decide) rfl (Nat.le_of_ble_eq_true rfl) ?_
  intro p e s m args below meth c R Q A F hR hQ hP hK hD hA hS ls hl
  obtain ⟨hx, hb, hr, hts, hml, hlocks, hown⟩ := F
  have hown : s.vm.findClass RX9 = some m.cls := hown
  have hi_X9 : ∀ w ∈ u_ws RX9 TX9 7, w ∈ wsX9_wrongCounts := fun w h => List.mem_cons_of_mem _ (List.mem_append_left _ (List.mem_append_left _ (List.mem_append_left _ (List.mem_append_right _ h))))
  have q54 := hts (.fieldLink RX9 54 "ChangingRounds" "counting" "LChangingRounds$Counting;") (by decide +kernel)
  have hl : lv_has ls 1 [(0, .ref Ta)] := hl
  unfold fX9_wrongCounts at hf
  refine lv_aload_n hx hb dX9_wrongCounts_0 rfl (lv_at hl 0 rfl) ?_
  refine va_get (D := D) (ci := 6) (v := .ref Ca) (C := RX9) (T := TX9) (N := 7) hx hb hts hi_X9 hown hK hP 0 rfl rfl 6 (by decide) q54 (fun _ h9 => h9) rfl dX9_wrongCounts_1 ?_
  obtain ⟨o1, ho1, hf⟩ := bd_some hf
  refine cv_v (ci := 0) (q := (RX1, TX1, 4)) (As := []) (rest := []) hx hb hml hown hts hK hP hD hA hS (kX1_run l D cI cC cS Ca Ca_answers Fa Fa_known Fa_knownBefore Sa Sa_roundEdges Sa_values  C_answers C_steps F_known F_knownBefore F_step S_roundEdges S_values S_nodes S_rounds o1 ho1) (cwV 0 hts gX9_wrongCounts_X1_run rfl rfl rfl (by decide +kernel) (by subst hR; exact ⟨Nat.le_of_ble_eq_true rfl, Nat.le_of_ble_eq_true rfl⟩)) [7, 8, 4, 5, 6, 1, 2, 3] [0] [0, 6, 7, 8, 3, 4, 5, 1, 2] [(Ta, .inr (6, [.ref Sa, .ref Tr_draft, .ref Tr_history, .ref Tr_text, .ref Fa, .ref Tr_gossiping, .ref Ca]))] (sh_X9SFC Ta Sa Sa_roundEdges Sa_values Fa Fa_known Fa_knownBefore Ca Ca_answers Tr_draft Tr_history Tr_text Tr_gossiping cI cC cS S_roundEdges S_values S_nodes S_rounds o1.2.2.1 o1.2.2.2.1 o1.2.2.2.2 o1.1 o1.2.1) rfl rfl rfl rfl (by decide) rfl rfl rfl rfl rfl rfl hl.1 rfl (Nat.le_of_ble_eq_true rfl) ⟨Nat.zero_le _, Nat.zero_le _⟩ dX9_wrongCounts_4 (fun H locs hP hD hS => ?_)
  refine lv_aload_n hx hb dX9_wrongCounts_7 rfl (lv_at hl 0 rfl) ?_
  refine va_get (D := D) (ci := 6) (v := .ref Ca) (C := RX9) (T := TX9) (N := 7) hx hb hts hi_X9 hown hK hP 0 rfl rfl 6 (by decide) q54 (fun _ h9 => h9) rfl dX9_wrongCounts_8 ?_
  obtain ⟨o2, ho2, hf⟩ := bd_some hf
  refine cv_i (ci := 0) (q := (RX1, TX1, 4)) (As := []) (rest := []) hx hb hml hown hts hK hP hD hA hS (kX1_wrongAnswers l D cI cC cS Ca Ca_answers Fa Fa_known Fa_knownBefore Sa Sa_roundEdges Sa_values  o1.1 o1.2.1 o1.2.2.1 o1.2.2.2.1 o1.2.2.2.2 S_roundEdges S_values S_nodes S_rounds o2 ho2) (cwV 0 hts gX9_wrongCounts_X1_wrongAnswers rfl rfl rfl (by decide +kernel) (by subst hR; exact ⟨Nat.le_of_ble_eq_true rfl, Nat.le_of_ble_eq_true rfl⟩)) [7, 8, 4, 5, 6, 1, 2, 3] [0] [0, 6, 7, 8, 3, 4, 5, 1, 2] [(Ta, .inr (6, [.ref Sa, .ref Tr_draft, .ref Tr_history, .ref Tr_text, .ref Fa, .ref Tr_gossiping, .ref Ca]))] (sh_X9SFC Ta Sa Sa_roundEdges Sa_values Fa Fa_known Fa_knownBefore Ca Ca_answers Tr_draft Tr_history Tr_text Tr_gossiping cI cC cS S_roundEdges S_values S_nodes S_rounds o1.2.2.1 o1.2.2.2.1 o1.2.2.2.2 o1.1 o1.2.1) rfl rfl rfl rfl (by decide) rfl rfl rfl rfl rfl rfl hl.1 rfl (Nat.le_of_ble_eq_true rfl) ⟨Nat.zero_le _, Nat.zero_le _⟩ dX9_wrongCounts_11 (fun H locs hP hD hS => ?_)
  have hf := Option.some.inj hf
  subst hf
  exact rt_i hx hb hr hlocks hQ hK hP hD hS rfl dX9_wrongCounts_14
