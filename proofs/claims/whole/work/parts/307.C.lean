set_option maxRecDepth 100000 in
set_option maxHeartbeats 4000000 in
theorem kX4_tokensOf (l : Launch) (D : va_G) (cI cC cS : ClassId) (Ga Ga_known Ga_sent Ga_newest Ga_chosen Sa Sa_roundEdges Sa_values : Nat) (x1 : Int32) (G_known : Nat → Int32) (G_sent : Nat → Int32) (G_newest : Nat → Int32) (G_chosen : Nat → Int32) (G_rule : Int32) (G_step : Int32) (S_roundEdges : Nat → Int32) (S_values : Nat → Int32) (S_nodes : Int32) (S_rounds : Int32) (o : Int32) (hf : fX4_tokensOf x1 G_known S_nodes = some o) : CI l D yX4_tokensOf wsX4_tokensOf ({ frames := 1, cells := 0, slots := 0, locals := 21 } : Room) (tysK cI cC cS) [.ref Ga, .int x1] (sh_X4 Ga Ga_known Ga_sent Ga_newest Ga_chosen Sa Sa_roundEdges Sa_values cI cC cS G_known G_sent G_newest G_chosen G_rule G_step S_roundEdges S_values S_nodes S_rounds) o (sh_X4 Ga Ga_known Ga_sent Ga_newest Ga_chosen Sa Sa_roundEdges Sa_values cI cC cS G_known G_sent G_newest G_chosen G_rule G_step S_roundEdges S_values S_nodes S_rounds) := by
  refine met_i (cc := cX4_tokensOf) (maxL := 2) (ret := (some .int)) (by decide) rfl (Nat.le_of_ble_eq_true rfl) ?_
  intro p e s m args below meth c R Q A F hR hQ hP hK hD hA hS ls hl
  obtain ⟨hx, hb, hr, hts, hml, hlocks, hown⟩ := F
  have hown : s.vm.findClass RX4 = some m.cls := hown
  have hi_X4 : ∀ w ∈ u_ws RX4 TX4 7, w ∈ wsX4_tokensOf := fun w h => List.mem_cons_of_mem _ (List.mem_append_left _ (List.mem_append_right _ h))
  have q24 := hts (.fieldLink RX4 24 "ChangingRounds$Gossip" "schedule" "LChangingRounds$Schedule;") (by decide +kernel)
  have q9 := hts (.fieldLink RX4 9 "ChangingRounds$Gossip" "known" "[I") (by decide +kernel)
  have hl : lv_has ls 2 [(0, .ref Ga), (1, .int x1)] := hl
  unfold fX4_tokensOf at hf
  refine lv_aload_n hx hb dX4_tokensOf_0 rfl (lv_at hl 0 rfl) ?_
  refine va_get (D := D) (ci := 2) (v := .ref Sa) (C := RX4) (T := TX4) (N := 7) hx hb hts hi_X4 hown hK hP 0 rfl rfl 0 (by decide) q24 (fun _ h9 => h9) rfl dX4_tokensOf_1 ?_
  refine lv_iload_n hx hb dX4_tokensOf_4 rfl (lv_at hl 1 rfl) ?_
  refine cv_i (ci := 4) (q := (RX7, TX7, 4)) (As := [.int x1]) (rest := []) hx hb hml hown hts hK hP hD hA hS (kX7_hasNode l D cI cC cS Sa Sa_roundEdges Sa_values x1 S_roundEdges S_values S_nodes S_rounds (fX7_hasNode x1 S_nodes) rfl) (cwV 1 hts gX4_tokensOf_X7_hasNode rfl rfl rfl (by decide +kernel) (by subst hR; exact ⟨Nat.le_of_ble_eq_true rfl, Nat.le_of_ble_eq_true rfl⟩)) [5, 6, 7] [0, 1, 2, 3, 4] [0, 1, 2, 3, 4, 5, 6, 7] [(Ga, .inr (2, [.ref Sa, .ref Ga_known, .ref Ga_sent, .ref Ga_newest, .ref Ga_chosen, .int G_rule, .int G_step])), (Ga_known, .inl (cI, 8, .inl G_known)), (Ga_sent, .inl (cI, 8, .inl G_sent)), (Ga_newest, .inl (cI, 8, .inl G_newest)), (Ga_chosen, .inl (cI, 8, .inl G_chosen))] (sh_X4 Ga Ga_known Ga_sent Ga_newest Ga_chosen Sa Sa_roundEdges Sa_values cI cC cS G_known G_sent G_newest G_chosen G_rule G_step S_roundEdges S_values S_nodes S_rounds) rfl rfl rfl rfl (by decide) rfl rfl rfl rfl rfl rfl hl.1 rfl (Nat.le_of_ble_eq_true rfl) ⟨Nat.zero_le _, Nat.zero_le _⟩ dX4_tokensOf_5 (fun H locs hP hD hS => ?_)
  refine lv_if_eq (tgt := 20) hx hb dX4_tokensOf_8 (by decide) (fun c1 => ?_) (fun c1 => ?_)
  · have hf := if_t c1 hf
    refine lv_iconst (v := (0 : Int32)) hx hb dX4_tokensOf_20 (by decide) ?_
    have hf := Option.some.inj hf
    subst hf
    exact rt_i hx hb hr hlocks hQ hK hP hD hS rfl dX4_tokensOf_21
  · have hf := if_f c1 hf
    refine lv_aload_n hx hb dX4_tokensOf_11 rfl (lv_at hl 0 rfl) ?_
    refine va_get (D := D) (ci := 2) (v := .ref Ga_known) (C := RX4) (T := TX4) (N := 7) hx hb hts hi_X4 hown hK hP 0 rfl rfl 1 (by decide) q9 (fun _ h9 => h9) rfl dX4_tokensOf_12 ?_
    refine lv_iload_n hx hb dX4_tokensOf_15 rfl (lv_at hl 1 rfl) ?_
    obtain ⟨hz, hf⟩ := ck_some hf
    refine sx_iald (j := x1.toNatClampNeg) hx hb hK hP 1 0 rfl rfl (inb_vp hz) rfl dX4_tokensOf_16 ?_
    refine lv_goto (tgt := 21) hx hb dX4_tokensOf_17 (by decide) ?_
    have hf := Option.some.inj hf
    subst hf
    exact rt_i hx hb hr hlocks hQ hK hP hD hS rfl dX4_tokensOf_21
set_option maxRecDepth 100000 in
set_option maxHeartbeats 4000000 in
theorem kX4_allKnowAll (l : Launch) (D : va_G) (cI cC cS : ClassId) (Ga Ga_known Ga_sent Ga_newest Ga_chosen Sa Sa_roundEdges Sa_values : Nat) (G_known : Nat → Int32) (G_sent : Nat → Int32) (G_newest : Nat → Int32) (G_chosen : Nat → Int32) (G_rule : Int32) (G_step : Int32) (S_roundEdges : Nat → Int32) (S_values : Nat → Int32) (S_nodes : Int32) (S_rounds : Int32) (o : Bool) (hf : fX4_allKnowAll G_known S_nodes = some o) : CI l D yX4_allKnowAll wsX4_allKnowAll ({ frames := 1, cells := 0, slots := 0, locals := 20 } : Room) (tysK cI cC cS) [.ref Ga] (sh_X4 Ga Ga_known Ga_sent Ga_newest Ga_chosen Sa Sa_roundEdges Sa_values cI cC cS G_known G_sent G_newest G_chosen G_rule G_step S_roundEdges S_values S_nodes S_rounds) (b2i o) (sh_X4 Ga Ga_known Ga_sent Ga_newest Ga_chosen Sa Sa_roundEdges Sa_values cI cC cS G_known G_sent G_newest G_chosen G_rule G_step S_roundEdges S_values S_nodes S_rounds) := by
  refine met_i (cc := cX4_allKnowAll) (maxL := 2) (ret := (some .boolean)) (by decide) rfl (Nat.le_of_ble_eq_true rfl) ?_
  intro p e s m args below meth c R Q A F hR hQ hP hK hD hA hS ls hl
  obtain ⟨hx, hb, hr, hts, hml, hlocks, hown⟩ := F
  have hown : s.vm.findClass RX4 = some m.cls := hown
  have hi_X4 : ∀ w ∈ u_ws RX4 TX4 7, w ∈ wsX4_allKnowAll := fun w h => List.mem_cons_of_mem _ (List.mem_append_left _ (List.mem_append_right _ h))
  have q24 := hts (.fieldLink RX4 24 "ChangingRounds$Gossip" "schedule" "LChangingRounds$Schedule;") (by decide +kernel)
  have q9 := hts (.fieldLink RX4 9 "ChangingRounds$Gossip" "known" "[I") (by decide +kernel)
  have hl : lv_has ls 2 [(0, .ref Ga)] := hl
  unfold fX4_allKnowAll at hf
  have L2 : ∀ (n2 : Nat) (x1 : Int32) (H : Heap) (locs : List Loc) (ls : Array Slot), fX4_allKnowAll_l2 G_known S_nodes n2 x1 = some o → va_P D vwCl (sh_X4 Ga Ga_known Ga_sent Ga_newest Ga_chosen Sa Sa_roundEdges Sa_values cI cC cS G_known G_sent G_newest G_chosen G_rule G_step S_roundEdges S_values S_nodes S_rounds) H → va_D A (sh_X4 Ga Ga_known Ga_sent Ga_newest Ga_chosen Sa Sa_roundEdges Sa_values cI cC cS G_known G_sent G_newest G_chosen G_rule G_step S_roundEdges S_values S_nodes S_rounds) → va_S A s.heap H locs → lv_has ls 2 [(0, .ref Ga), (1, .int x1)] → W p l e R s m args below meth c H locs 0 0 Q (F0 m 2 ls []) := by
    intro n2
    induction n2 with
    | zero => intro x1 H locs ls hf; cases (show (none : Option _) = some _ from hf)
    | succ n2 ih2 =>
      intro x1 H locs ls hf hP hD hS hl
      rw [fX4_allKnowAll_l2] at hf
      refine lv_iload_n hx hb dX4_allKnowAll_2 rfl (lv_at hl 1 rfl) ?_
      refine lv_aload_n hx hb dX4_allKnowAll_3 rfl (lv_at hl 0 rfl) ?_
      refine va_get (D := D) (ci := 2) (v := .ref Sa) (C := RX4) (T := TX4) (N := 7) hx hb hts hi_X4 hown hK hP 0 rfl rfl 0 (by decide) q24 (fun _ h9 => h9) rfl dX4_allKnowAll_4 ?_
      refine cv_i (ci := 4) (q := (RX7, TX7, 4)) (As := []) (rest := [.int x1]) hx hb hml hown hts hK hP hD hA hS (kX7_nodes l D cI cC cS Sa Sa_roundEdges Sa_values  S_roundEdges S_values S_nodes S_rounds (fX7_nodes S_nodes) rfl) (cwV 0 hts gX4_allKnowAll_X7_nodes rfl rfl rfl (by decide +kernel) (by subst hR; exact ⟨Nat.le_of_ble_eq_true rfl, Nat.le_of_ble_eq_true rfl⟩)) [5, 6, 7] [0, 1, 2, 3, 4] [0, 1, 2, 3, 4, 5, 6, 7] [(Ga, .inr (2, [.ref Sa, .ref Ga_known, .ref Ga_sent, .ref Ga_newest, .ref Ga_chosen, .int G_rule, .int G_step])), (Ga_known, .inl (cI, 8, .inl G_known)), (Ga_sent, .inl (cI, 8, .inl G_sent)), (Ga_newest, .inl (cI, 8, .inl G_newest)), (Ga_chosen, .inl (cI, 8, .inl G_chosen))] (sh_X4 Ga Ga_known Ga_sent Ga_newest Ga_chosen Sa Sa_roundEdges Sa_values cI cC cS G_known G_sent G_newest G_chosen G_rule G_step S_roundEdges S_values S_nodes S_rounds) rfl rfl rfl rfl (by decide) rfl rfl rfl rfl rfl rfl hl.1 rfl (Nat.le_of_ble_eq_true rfl) ⟨Nat.zero_le _, Nat.zero_le _⟩ dX4_allKnowAll_7 (fun H locs hP hD hS => ?_)
      refine lv_icmp_ge (tgt := 40) hx hb dX4_allKnowAll_10 (by decide) (fun c1 => ?_) (fun c1 => ?_)
      · have hf := if_t c1 hf
        refine lv_iconst (v := (1 : Int32)) hx hb dX4_allKnowAll_40 (by decide) ?_
        have hf := Option.some.inj hf
        subst hf
        exact rt_z (ty := .boolean) hx hb hr rfl hlocks hQ hK hP hD hS rfl dX4_allKnowAll_41
      · have hf := if_f c1 hf
        refine lv_aload_n hx hb dX4_allKnowAll_13 rfl (lv_at hl 0 rfl) ?_
        refine va_get (D := D) (ci := 2) (v := .ref Ga_known) (C := RX4) (T := TX4) (N := 7) hx hb hts hi_X4 hown hK hP 0 rfl rfl 1 (by decide) q9 (fun _ h9 => h9) rfl dX4_allKnowAll_14 ?_
        refine lv_iload_n hx hb dX4_allKnowAll_17 rfl (lv_at hl 1 rfl) ?_
        obtain ⟨hz, hf⟩ := ck_some hf
        refine sx_iald (j := x1.toNatClampNeg) hx hb hK hP 1 0 rfl rfl (inb_vp hz) rfl dX4_allKnowAll_18 ?_
        refine lv_aload_n hx hb dX4_allKnowAll_19 rfl (lv_at hl 0 rfl) ?_
        refine va_get (D := D) (ci := 2) (v := .ref Sa) (C := RX4) (T := TX4) (N := 7) hx hb hts hi_X4 hown hK hP 0 rfl rfl 0 (by decide) q24 (fun _ h9 => h9) rfl dX4_allKnowAll_20 ?_
        refine cv_i (ci := 4) (q := (RX7, TX7, 4)) (As := []) (rest := [.int (G_known x1.toNatClampNeg)]) hx hb hml hown hts hK hP hD hA hS (kX7_nodes l D cI cC cS Sa Sa_roundEdges Sa_values  S_roundEdges S_values S_nodes S_rounds (fX7_nodes S_nodes) rfl) (cwV 0 hts gX4_allKnowAll_X7_nodes rfl rfl rfl (by decide +kernel) (by subst hR; exact ⟨Nat.le_of_ble_eq_true rfl, Nat.le_of_ble_eq_true rfl⟩)) [5, 6, 7] [0, 1, 2, 3, 4] [0, 1, 2, 3, 4, 5, 6, 7] [(Ga, .inr (2, [.ref Sa, .ref Ga_known, .ref Ga_sent, .ref Ga_newest, .ref Ga_chosen, .int G_rule, .int G_step])), (Ga_known, .inl (cI, 8, .inl G_known)), (Ga_sent, .inl (cI, 8, .inl G_sent)), (Ga_newest, .inl (cI, 8, .inl G_newest)), (Ga_chosen, .inl (cI, 8, .inl G_chosen))] (sh_X4 Ga Ga_known Ga_sent Ga_newest Ga_chosen Sa Sa_roundEdges Sa_values cI cC cS G_known G_sent G_newest G_chosen G_rule G_step S_roundEdges S_values S_nodes S_rounds) rfl rfl rfl rfl (by decide) rfl rfl rfl rfl rfl rfl hl.1 rfl (Nat.le_of_ble_eq_true rfl) ⟨Nat.zero_le _, Nat.zero_le _⟩ dX4_allKnowAll_23 (fun H locs hP hD hS => ?_)
        refine cs_i (As := [.int (fX7_nodes S_nodes)]) (rest := [.int (G_known x1.toNatClampNeg)]) hx hb hml hown hts hK hP hD hA hS (kX6_firstOnes l D cI cC cS  (fX7_nodes S_nodes)  (fX6_firstOnes (fX7_nodes S_nodes)) rfl) (va_cwS 1 hts gX4_allKnowAll_X6_firstOnes rfl rfl rfl (by decide +kernel) (by subst hR; exact ⟨Nat.le_of_ble_eq_true rfl, Nat.le_of_ble_eq_true rfl⟩)) rfl hl.1 rfl (Nat.le_of_ble_eq_true rfl) ⟨Nat.zero_le _, Nat.zero_le _⟩ dX4_allKnowAll_26 (fun H locs hP hD hS => ?_)
        refine lv_icmp_eq (tgt := 34) hx hb dX4_allKnowAll_29 (by decide) (fun c2 => ?_) (fun c2 => ?_)
        · have hf := if_t c2 hf
          refine lv_iinc (v := (x1 + 1)) (lv' := [(1, .int (x1 + 1)), (0, .ref Ga)]) hx hb dX4_allKnowAll_34 hl (k := 1) rfl rfl (by decide) rfl (fun ls hl => ?_)
          refine lv_goto (tgt := 2) hx hb dX4_allKnowAll_37 (by decide) ?_
          exact ih2 (x1 + 1) _ _ _ hf hP hD hS (lv_sub hl [1, 0] rfl)
        · have hf := if_f c2 hf
          refine lv_iconst (v := (0 : Int32)) hx hb dX4_allKnowAll_32 (by decide) ?_
          have hf := Option.some.inj hf
          subst hf
          exact rt_z (ty := .boolean) hx hb hr rfl hlocks hQ hK hP hD hS rfl dX4_allKnowAll_33
  refine lv_iconst (v := (0 : Int32)) hx hb dX4_allKnowAll_0 (by decide) ?_
  refine lv_istore_n (lv' := [(1, .int (0 : Int32)), (0, .ref Ga)]) hx hb dX4_allKnowAll_1 rfl hl (by decide) rfl (fun ls hl => ?_)
  exact L2  fuel (0 : Int32) _ _ _ hf hP hD hS (lv_sub hl [1, 0] rfl)
set_option maxRecDepth 100000 in
set_option maxHeartbeats 4000000 in
theorem kX1_allHaveAnswers (l : Launch) (D : va_G) (cI cC cS : ClassId) (Ca Ca_answers Fa Fa_known Fa_knownBefore Sa Sa_roundEdges Sa_values : Nat) (C_answers : Nat → Int32) (C_steps : Int32) (F_known : Nat → Int32) (F_knownBefore : Nat → Int32) (F_step : Int32) (S_roundEdges : Nat → Int32) (S_values : Nat → Int32) (S_nodes : Int32) (S_rounds : Int32) (o : Bool) (hf : fX1_allHaveAnswers C_answers S_nodes = some o) : CI l D yX1_allHaveAnswers wsX1_allHaveAnswers ({ frames := 1, cells := 0, slots := 0, locals := 20 } : Room) (tysK cI cC cS) [.ref Ca] (sh_X1 Ca Ca_answers Fa Fa_known Fa_knownBefore Sa Sa_roundEdges Sa_values cI cC cS C_answers C_steps F_known F_knownBefore F_step S_roundEdges S_values S_nodes S_rounds) (b2i o) (sh_X1 Ca Ca_answers Fa Fa_known Fa_knownBefore Sa Sa_roundEdges Sa_values cI cC cS C_answers C_steps F_known F_knownBefore F_step S_roundEdges S_values S_nodes S_rounds) := by
  refine met_i (cc := cX1_allHaveAnswers) (maxL := 2) (ret := (some .boolean)) (by decide) rfl (Nat.le_of_ble_eq_true rfl) ?_
  intro p e s m args below meth c R Q A F hR hQ hP hK hD hA hS ls hl
  obtain ⟨hx, hb, hr, hts, hml, hlocks, hown⟩ := F
  have hown : s.vm.findClass RX1 = some m.cls := hown
  have hi_X1 : ∀ w ∈ u_ws RX1 TX1 4, w ∈ wsX1_allHaveAnswers := fun w h => List.mem_cons_of_mem _ (List.mem_append_left _ (List.mem_append_right _ h))
  have q15 := hts (.fieldLink RX1 15 "ChangingRounds$Counting" "schedule" "LChangingRounds$Schedule;") (by decide +kernel)
  have q9 := hts (.fieldLink RX1 9 "ChangingRounds$Counting" "answers" "[I") (by decide +kernel)
  have hl : lv_has ls 2 [(0, .ref Ca)] := hl
  unfold fX1_allHaveAnswers at hf
  have L2 : ∀ (n2 : Nat) (x1 : Int32) (H : Heap) (locs : List Loc) (ls : Array Slot), fX1_allHaveAnswers_l2 C_answers S_nodes n2 x1 = some o → va_P D vwCl (sh_X1 Ca Ca_answers Fa Fa_known Fa_knownBefore Sa Sa_roundEdges Sa_values cI cC cS C_answers C_steps F_known F_knownBefore F_step S_roundEdges S_values S_nodes S_rounds) H → va_D A (sh_X1 Ca Ca_answers Fa Fa_known Fa_knownBefore Sa Sa_roundEdges Sa_values cI cC cS C_answers C_steps F_known F_knownBefore F_step S_roundEdges S_values S_nodes S_rounds) → va_S A s.heap H locs → lv_has ls 2 [(0, .ref Ca), (1, .int x1)] → W p l e R s m args below meth c H locs 0 0 Q (F0 m 2 ls []) := by
    intro n2
    induction n2 with
    | zero => intro x1 H locs ls hf; cases (show (none : Option _) = some _ from hf)
    | succ n2 ih2 =>
      intro x1 H locs ls hf hP hD hS hl
      rw [fX1_allHaveAnswers_l2] at hf
      refine lv_iload_n hx hb dX1_allHaveAnswers_2 rfl (lv_at hl 1 rfl) ?_
      refine lv_aload_n hx hb dX1_allHaveAnswers_3 rfl (lv_at hl 0 rfl) ?_
      refine va_get (D := D) (ci := 0) (v := .ref Sa) (C := RX1) (T := TX1) (N := 4) hx hb hts hi_X1 hown hK hP 0 rfl rfl 0 (by decide) q15 (fun _ h9 => h9) rfl dX1_allHaveAnswers_4 ?_
      refine cv_i (ci := 4) (q := (RX7, TX7, 4)) (As := []) (rest := [.int x1]) hx hb hml hown hts hK hP hD hA hS (kX7_nodes l D cI cC cS Sa Sa_roundEdges Sa_values  S_roundEdges S_values S_nodes S_rounds (fX7_nodes S_nodes) rfl) (cwV 0 hts gX1_allHaveAnswers_X7_nodes rfl rfl rfl (by decide +kernel) (by subst hR; exact ⟨Nat.le_of_ble_eq_true rfl, Nat.le_of_ble_eq_true rfl⟩)) [5, 6, 7] [0, 1, 2, 3, 4] [0, 1, 2, 3, 4, 5, 6, 7] [(Ca, .inr (0, [.ref Sa, .ref Fa, .ref Ca_answers, .int C_steps])), (Ca_answers, .inl (cI, 8, .inl C_answers)), (Fa, .inr (1, [.ref Sa, .ref Fa_known, .ref Fa_knownBefore, .int F_step])), (Fa_known, .inl (cI, 8, .inl F_known)), (Fa_knownBefore, .inl (cI, 8, .inl F_knownBefore))] (sh_X1 Ca Ca_answers Fa Fa_known Fa_knownBefore Sa Sa_roundEdges Sa_values cI cC cS C_answers C_steps F_known F_knownBefore F_step S_roundEdges S_values S_nodes S_rounds) rfl rfl rfl rfl (by decide) rfl rfl rfl rfl rfl rfl hl.1 rfl (Nat.le_of_ble_eq_true rfl) ⟨Nat.zero_le _, Nat.zero_le _⟩ dX1_allHaveAnswers_7 (fun H locs hP hD hS => ?_)
      refine lv_icmp_ge (tgt := 30) hx hb dX1_allHaveAnswers_10 (by decide) (fun c1 => ?_) (fun c1 => ?_)
      · have hf := if_t c1 hf
        refine lv_iconst (v := (1 : Int32)) hx hb dX1_allHaveAnswers_30 (by decide) ?_
        have hf := Option.some.inj hf
        subst hf
        exact rt_z (ty := .boolean) hx hb hr rfl hlocks hQ hK hP hD hS rfl dX1_allHaveAnswers_31
      · have hf := if_f c1 hf
        refine lv_aload_n hx hb dX1_allHaveAnswers_13 rfl (lv_at hl 0 rfl) ?_
        refine va_get (D := D) (ci := 0) (v := .ref Ca_answers) (C := RX1) (T := TX1) (N := 4) hx hb hts hi_X1 hown hK hP 0 rfl rfl 2 (by decide) q9 (fun _ h9 => h9) rfl dX1_allHaveAnswers_14 ?_
        refine lv_iload_n hx hb dX1_allHaveAnswers_17 rfl (lv_at hl 1 rfl) ?_
        obtain ⟨hz, hf⟩ := ck_some hf
        refine sx_iald (j := x1.toNatClampNeg) hx hb hK hP 1 0 rfl rfl (inb_vp hz) rfl dX1_allHaveAnswers_18 ?_
        refine lv_if_ne (tgt := 24) hx hb dX1_allHaveAnswers_19 (by decide) (fun c2 => ?_) (fun c2 => ?_)
        · have hf := if_f c2 hf
          refine lv_iinc (v := (x1 + 1)) (lv' := [(1, .int (x1 + 1)), (0, .ref Ca)]) hx hb dX1_allHaveAnswers_24 hl (k := 1) rfl rfl (by decide) rfl (fun ls hl => ?_)
          refine lv_goto (tgt := 2) hx hb dX1_allHaveAnswers_27 (by decide) ?_
          exact ih2 (x1 + 1) _ _ _ hf hP hD hS (lv_sub hl [1, 0] rfl)
        · have hf := if_t c2 hf
          refine lv_iconst (v := (0 : Int32)) hx hb dX1_allHaveAnswers_22 (by decide) ?_
          have hf := Option.some.inj hf
          subst hf
          exact rt_z (ty := .boolean) hx hb hr rfl hlocks hQ hK hP hD hS rfl dX1_allHaveAnswers_23
  refine lv_iconst (v := (0 : Int32)) hx hb dX1_allHaveAnswers_0 (by decide) ?_
  refine lv_istore_n (lv' := [(1, .int (0 : Int32)), (0, .ref Ca)]) hx hb dX1_allHaveAnswers_1 rfl hl (by decide) rfl (fun ls hl => ?_)
  exact L2  fuel (0 : Int32) _ _ _ hf hP hD hS (lv_sub hl [1, 0] rfl)
set_option maxRecDepth 100000 in
set_option maxHeartbeats 4000000 in
theorem kX1_nodesWithMoreThan (l : Launch) (D : va_G) (cI cC cS : ClassId) (Ca Ca_answers Fa Fa_known Fa_knownBefore Sa Sa_roundEdges Sa_values : Nat) (x1 : Int32) (C_answers : Nat → Int32) (C_steps : Int32) (F_known : Nat → Int32) (F_knownBefore : Nat → Int32) (F_step : Int32) (S_roundEdges : Nat → Int32) (S_values : Nat → Int32) (S_nodes : Int32) (S_rounds : Int32) (o : Int32) (hf : fX1_nodesWithMoreThan x1 F_known S_nodes = some o) : CI l D yX1_nodesWithMoreThan wsX1_nodesWithMoreThan ({ frames := 2, cells := 0, slots := 0, locals := 42 } : Room) (tysK cI cC cS) [.ref Ca, .int x1] (sh_X1 Ca Ca_answers Fa Fa_known Fa_knownBefore Sa Sa_roundEdges Sa_values cI cC cS C_answers C_steps F_known F_knownBefore F_step S_roundEdges S_values S_nodes S_rounds) o (sh_X1 Ca Ca_answers Fa Fa_known Fa_knownBefore Sa Sa_roundEdges Sa_values cI cC cS C_answers C_steps F_known F_knownBefore F_step S_roundEdges S_values S_nodes S_rounds) := by
  refine met_i (cc := cX1_nodesWithMoreThan) (maxL := 4) (ret := (some .int)) (by decide) rfl (Nat.le_of_ble_eq_true rfl) ?_
  intro p e s m args below meth c R Q A F hR hQ hP hK hD hA hS ls hl
  obtain ⟨hx, hb, hr, hts, hml, hlocks, hown⟩ := F
  have hown : s.vm.findClass RX1 = some m.cls := hown
  have hi_X1 : ∀ w ∈ u_ws RX1 TX1 4, w ∈ wsX1_nodesWithMoreThan := fun w h => List.mem_cons_of_mem _ (List.mem_append_left _ (List.mem_append_left _ (List.mem_append_right _ h)))
  have q15 := hts (.fieldLink RX1 15 "ChangingRounds$Counting" "schedule" "LChangingRounds$Schedule;") (by decide +kernel)
  have q19 := hts (.fieldLink RX1 19 "ChangingRounds$Counting" "flooding" "LChangingRounds$Flooding;") (by decide +kernel)
  have hl : lv_has ls 4 [(0, .ref Ca), (1, .int x1)] := hl
  unfold fX1_nodesWithMoreThan at hf
  have L4 : ∀ (n4 : Nat) (x2 : Int32) (x3 : Int32) (H : Heap) (locs : List Loc) (ls : Array Slot), fX1_nodesWithMoreThan_l4 x1 F_known S_nodes n4 x2 x3 = some o → va_P D vwCl (sh_X1 Ca Ca_answers Fa Fa_known Fa_knownBefore Sa Sa_roundEdges Sa_values cI cC cS C_answers C_steps F_known F_knownBefore F_step S_roundEdges S_values S_nodes S_rounds) H → va_D A (sh_X1 Ca Ca_answers Fa Fa_known Fa_knownBefore Sa Sa_roundEdges Sa_values cI cC cS C_answers C_steps F_known F_knownBefore F_step S_roundEdges S_values S_nodes S_rounds) → va_S A s.heap H locs → lv_has ls 4 [(0, .ref Ca), (1, .int x1), (2, .int x2), (3, .int x3)] → W p l e R s m args below meth c H locs 0 0 Q (F0 m 4 ls []) := by
    intro n4
    induction n4 with
    | zero => intro x2 x3 H locs ls hf; cases (show (none : Option _) = some _ from hf)
    | succ n4 ih4 =>
      intro x2 x3 H locs ls hf hP hD hS hl
      rw [fX1_nodesWithMoreThan_l4] at hf
      refine lv_iload_n hx hb dX1_nodesWithMoreThan_4 rfl (lv_at hl 3 rfl) ?_
      refine lv_aload_n hx hb dX1_nodesWithMoreThan_5 rfl (lv_at hl 0 rfl) ?_
      refine va_get (D := D) (ci := 0) (v := .ref Sa) (C := RX1) (T := TX1) (N := 4) hx hb hts hi_X1 hown hK hP 0 rfl rfl 0 (by decide) q15 (fun _ h9 => h9) rfl dX1_nodesWithMoreThan_6 ?_
      refine cv_i (ci := 4) (q := (RX7, TX7, 4)) (As := []) (rest := [.int x3]) hx hb hml hown hts hK hP hD hA hS (kX7_nodes l D cI cC cS Sa Sa_roundEdges Sa_values  S_roundEdges S_values S_nodes S_rounds (fX7_nodes S_nodes) rfl) (cwV 0 hts gX1_nodesWithMoreThan_X7_nodes rfl rfl rfl (by decide +kernel) (by subst hR; exact ⟨Nat.le_of_ble_eq_true rfl, Nat.le_of_ble_eq_true rfl⟩)) [5, 6, 7] [0, 1, 2, 3, 4] [0, 1, 2, 3, 4, 5, 6, 7] [(Ca, .inr (0, [.ref Sa, .ref Fa, .ref Ca_answers, .int C_steps])), (Ca_answers, .inl (cI, 8, .inl C_answers)), (Fa, .inr (1, [.ref Sa, .ref Fa_known, .ref Fa_knownBefore, .int F_step])), (Fa_known, .inl (cI, 8, .inl F_known)), (Fa_knownBefore, .inl (cI, 8, .inl F_knownBefore))] (sh_X1 Ca Ca_answers Fa Fa_known Fa_knownBefore Sa Sa_roundEdges Sa_values cI cC cS C_answers C_steps F_known F_knownBefore F_step S_roundEdges S_values S_nodes S_rounds) rfl rfl rfl rfl (by decide) rfl rfl rfl rfl rfl rfl hl.1 rfl (Nat.le_of_ble_eq_true rfl) ⟨Nat.zero_le _, Nat.zero_le _⟩ dX1_nodesWithMoreThan_9 (fun H locs hP hD hS => ?_)
      refine lv_icmp_ge (tgt := 43) hx hb dX1_nodesWithMoreThan_12 (by decide) (fun c1 => ?_) (fun c1 => ?_)
      · have hf := if_t c1 hf
        refine lv_iload_n hx hb dX1_nodesWithMoreThan_43 rfl (lv_at hl 2 rfl) ?_
        have hf := Option.some.inj hf
        subst hf
        exact rt_i hx hb hr hlocks hQ hK hP hD hS rfl dX1_nodesWithMoreThan_44
      · have hf := if_f c1 hf
        refine lv_aload_n hx hb dX1_nodesWithMoreThan_15 rfl (lv_at hl 0 rfl) ?_
        refine va_get (D := D) (ci := 0) (v := .ref Fa) (C := RX1) (T := TX1) (N := 4) hx hb hts hi_X1 hown hK hP 0 rfl rfl 1 (by decide) q19 (fun _ h9 => h9) rfl dX1_nodesWithMoreThan_16 ?_
        refine lv_iload_n hx hb dX1_nodesWithMoreThan_19 rfl (lv_at hl 3 rfl) ?_
        obtain ⟨o2, ho2, hf⟩ := bd_some hf
        refine cv_i (ci := 1) (q := (RX3, TX3, 4)) (As := [.int x3]) (rest := []) hx hb hml hown hts hK hP hD hA hS (kX3_tokensOf l D cI cC cS Fa Fa_known Fa_knownBefore Sa Sa_roundEdges Sa_values x3 F_known F_knownBefore F_step S_roundEdges S_values S_nodes S_rounds o2 ho2) (cwV 1 hts gX1_nodesWithMoreThan_X3_tokensOf rfl rfl rfl (by decide +kernel) (by subst hR; exact ⟨Nat.le_of_ble_eq_true rfl, Nat.le_of_ble_eq_true rfl⟩)) [2, 3, 4, 5, 6, 7] [0, 1] [0, 1, 2, 3, 4, 5, 6, 7] [(Ca, .inr (0, [.ref Sa, .ref Fa, .ref Ca_answers, .int C_steps])), (Ca_answers, .inl (cI, 8, .inl C_answers))] (sh_X1 Ca Ca_answers Fa Fa_known Fa_knownBefore Sa Sa_roundEdges Sa_values cI cC cS C_answers C_steps F_known F_knownBefore F_step S_roundEdges S_values S_nodes S_rounds) rfl rfl rfl rfl (by decide) rfl rfl rfl rfl rfl rfl hl.1 rfl (Nat.le_of_ble_eq_true rfl) ⟨Nat.zero_le _, Nat.zero_le _⟩ dX1_nodesWithMoreThan_20 (fun H locs hP hD hS => ?_)
        refine cs_i (As := [.int o2]) (rest := []) hx hb hml hown hts hK hP hD hA hS (kJ6_bitCount_0f7a4 l D cI cC cS  o2  (fJ6_bitCount_0f7a4 o2) rfl) (va_cwS 1 hts gX1_nodesWithMoreThan_J6_bitCount_0f7a4 rfl rfl rfl (by decide +kernel) (by subst hR; exact ⟨Nat.le_of_ble_eq_true rfl, Nat.le_of_ble_eq_true rfl⟩)) rfl hl.1 rfl (Nat.le_of_ble_eq_true rfl) ⟨Nat.zero_le _, Nat.zero_le _⟩ dX1_nodesWithMoreThan_23 (fun H locs hP hD hS => ?_)
        refine lv_iload_n hx hb dX1_nodesWithMoreThan_26 rfl (lv_at hl 1 rfl) ?_
        refine lv_icmp_le (tgt := 37) hx hb dX1_nodesWithMoreThan_27 (by decide) (fun c3 => ?_) (fun c3 => ?_)
        · have hf := if_t c3 hf
          refine lv_iinc (v := (x3 + 1)) (lv' := [(3, .int (x3 + 1)), (0, .ref Ca), (1, .int x1), (2, .int x2)]) hx hb dX1_nodesWithMoreThan_37 hl (k := 3) rfl rfl (by decide) rfl (fun ls hl => ?_)
          refine lv_goto (tgt := 4) hx hb dX1_nodesWithMoreThan_40 (by decide) ?_
          exact ih4 x2 (x3 + 1) _ _ _ hf hP hD hS (lv_sub hl [1, 2, 3, 0] rfl)
        · have hf := if_f c3 hf
          refine lv_iload_n hx hb dX1_nodesWithMoreThan_30 rfl (lv_at hl 2 rfl) ?_
          refine lv_iload_n hx hb dX1_nodesWithMoreThan_31 rfl (lv_at hl 3 rfl) ?_
          refine cs_i (As := [.int x3]) (rest := [.int x2]) hx hb hml hown hts hK hP hD hA hS (kX6_of l D cI cC cS  x3  (fX6_of x3) rfl) (va_cwS 1 hts gX1_nodesWithMoreThan_X6_of rfl rfl rfl (by decide +kernel) (by subst hR; exact ⟨Nat.le_of_ble_eq_true rfl, Nat.le_of_ble_eq_true rfl⟩)) rfl hl.1 rfl (Nat.le_of_ble_eq_true rfl) ⟨Nat.zero_le _, Nat.zero_le _⟩ dX1_nodesWithMoreThan_32 (fun H locs hP hD hS => ?_)
          refine lv_ior hx hb dX1_nodesWithMoreThan_35 ?_
          refine lv_istore_n (lv' := [(2, .int (x2 ||| (fX6_of x3))), (0, .ref Ca), (1, .int x1), (3, .int x3)]) hx hb dX1_nodesWithMoreThan_36 rfl hl (by decide) rfl (fun ls hl => ?_)
          refine lv_iinc (v := (x3 + 1)) (lv' := [(3, .int (x3 + 1)), (2, .int (x2 ||| (fX6_of x3))), (0, .ref Ca), (1, .int x1)]) hx hb dX1_nodesWithMoreThan_37 hl (k := 3) rfl rfl (by decide) rfl (fun ls hl => ?_)
          refine lv_goto (tgt := 4) hx hb dX1_nodesWithMoreThan_40 (by decide) ?_
          exact ih4 (x2 ||| (fX6_of x3)) (x3 + 1) _ _ _ hf hP hD hS (lv_sub hl [2, 3, 1, 0] rfl)
  refine lv_iconst (v := (0 : Int32)) hx hb dX1_nodesWithMoreThan_0 (by decide) ?_
  refine lv_istore_n (lv' := [(2, .int (0 : Int32)), (0, .ref Ca), (1, .int x1)]) hx hb dX1_nodesWithMoreThan_1 rfl hl (by decide) rfl (fun ls hl => ?_)
  refine lv_iconst (v := (0 : Int32)) hx hb dX1_nodesWithMoreThan_2 (by decide) ?_
  refine lv_istore_n (lv' := [(3, .int (0 : Int32)), (2, .int (0 : Int32)), (0, .ref Ca), (1, .int x1)]) hx hb dX1_nodesWithMoreThan_3 rfl hl (by decide) rfl (fun ls hl => ?_)
  exact L4  fuel (0 : Int32) (0 : Int32) _ _ _ hf hP hD hS (lv_sub hl [2, 3, 1, 0] rfl)
set_option maxRecDepth 100000 in
set_option maxHeartbeats 4000000 in
theorem kX1_answerWithoutAlarm (l : Launch) (D : va_G) (cI cC cS : ClassId) (Ca Ca_answers Fa Fa_known Fa_knownBefore Sa Sa_roundEdges Sa_values : Nat) (x1 : Int32) (C_answers : Nat → Int32) (C_steps : Int32) (F_known : Nat → Int32) (F_knownBefore : Nat → Int32) (F_step : Int32) (S_roundEdges : Nat → Int32) (S_values : Nat → Int32) (S_nodes : Int32) (S_rounds : Int32) (o : (Nat → Int32)) (hf : fX1_answerWithoutAlarm x1 C_answers F_known S_nodes = some o) : CV l D yX1_answerWithoutAlarm wsX1_answerWithoutAlarm ({ frames := 2, cells := 0, slots := 0, locals := 42 } : Room) (tysK cI cC cS) [.ref Ca, .int x1] (sh_X1 Ca Ca_answers Fa Fa_known Fa_knownBefore Sa Sa_roundEdges Sa_values cI cC cS C_answers C_steps F_known F_knownBefore F_step S_roundEdges S_values S_nodes S_rounds) (sh_X1 Ca Ca_answers Fa Fa_known Fa_knownBefore Sa Sa_roundEdges Sa_values cI cC cS o C_steps F_known F_knownBefore F_step S_roundEdges S_values S_nodes S_rounds) := by
  refine met_v (cc := cX1_answerWithoutAlarm) (maxL := 3) (ret := none) (by decide) rfl (Nat.le_of_ble_eq_true rfl) ?_
  intro p e s m args below meth c R Q A F hR hQ hP hK hD hA hS ls hl
  obtain ⟨hx, hb, hr, hts, hml, hlocks, hown⟩ := F
  have hown : s.vm.findClass RX1 = some m.cls := hown
  have hi_X1 : ∀ w ∈ u_ws RX1 TX1 4, w ∈ wsX1_answerWithoutAlarm := fun w h => List.mem_cons_of_mem _ (List.mem_append_left _ (List.mem_append_left _ (List.mem_append_right _ h)))
  have q15 := hts (.fieldLink RX1 15 "ChangingRounds$Counting" "schedule" "LChangingRounds$Schedule;") (by decide +kernel)
  have q9 := hts (.fieldLink RX1 9 "ChangingRounds$Counting" "answers" "[I") (by decide +kernel)
  have q19 := hts (.fieldLink RX1 19 "ChangingRounds$Counting" "flooding" "LChangingRounds$Flooding;") (by decide +kernel)
  have hl : lv_has ls 3 [(0, .ref Ca), (1, .int x1)] := hl
  unfold fX1_answerWithoutAlarm at hf
  have L2 : ∀ (n2 : Nat) (x2 : Int32) (C_answers : Nat → Int32) (H : Heap) (locs : List Loc) (ls : Array Slot), fX1_answerWithoutAlarm_l2 x1 F_known S_nodes n2 x2 C_answers = some o → va_P D vwCl (sh_X1 Ca Ca_answers Fa Fa_known Fa_knownBefore Sa Sa_roundEdges Sa_values cI cC cS C_answers C_steps F_known F_knownBefore F_step S_roundEdges S_values S_nodes S_rounds) H → va_D A (sh_X1 Ca Ca_answers Fa Fa_known Fa_knownBefore Sa Sa_roundEdges Sa_values cI cC cS C_answers C_steps F_known F_knownBefore F_step S_roundEdges S_values S_nodes S_rounds) → va_S A s.heap H locs → lv_has ls 3 [(0, .ref Ca), (1, .int x1), (2, .int x2)] → W p l e R s m args below meth c H locs 0 0 Q (F0 m 2 ls []) := by
    intro n2
    induction n2 with
    | zero => intro x2 C_answers H locs ls hf; cases (show (none : Option _) = some _ from hf)
    | succ n2 ih2 =>
      intro x2 C_answers H locs ls hf hP hD hS hl
      rw [fX1_answerWithoutAlarm_l2] at hf
      refine lv_iload_n hx hb dX1_answerWithoutAlarm_2 rfl (lv_at hl 2 rfl) ?_
      refine lv_aload_n hx hb dX1_answerWithoutAlarm_3 rfl (lv_at hl 0 rfl) ?_
      refine va_get (D := D) (ci := 0) (v := .ref Sa) (C := RX1) (T := TX1) (N := 4) hx hb hts hi_X1 hown hK hP 0 rfl rfl 0 (by decide) q15 (fun _ h9 => h9) rfl dX1_answerWithoutAlarm_4 ?_
      refine cv_i (ci := 4) (q := (RX7, TX7, 4)) (As := []) (rest := [.int x2]) hx hb hml hown hts hK hP hD hA hS (kX7_nodes l D cI cC cS Sa Sa_roundEdges Sa_values  S_roundEdges S_values S_nodes S_rounds (fX7_nodes S_nodes) rfl) (cwV 0 hts gX1_answerWithoutAlarm_X7_nodes rfl rfl rfl (by decide +kernel) (by subst hR; exact ⟨Nat.le_of_ble_eq_true rfl, Nat.le_of_ble_eq_true rfl⟩)) [5, 6, 7] [0, 1, 2, 3, 4] [0, 1, 2, 3, 4, 5, 6, 7] [(Ca, .inr (0, [.ref Sa, .ref Fa, .ref Ca_answers, .int C_steps])), (Ca_answers, .inl (cI, 8, .inl C_answers)), (Fa, .inr (1, [.ref Sa, .ref Fa_known, .ref Fa_knownBefore, .int F_step])), (Fa_known, .inl (cI, 8, .inl F_known)), (Fa_knownBefore, .inl (cI, 8, .inl F_knownBefore))] (sh_X1 Ca Ca_answers Fa Fa_known Fa_knownBefore Sa Sa_roundEdges Sa_values cI cC cS C_answers C_steps F_known F_knownBefore F_step S_roundEdges S_values S_nodes S_rounds) rfl rfl rfl rfl (by decide) rfl rfl rfl rfl rfl rfl hl.1 rfl (Nat.le_of_ble_eq_true rfl) ⟨Nat.zero_le _, Nat.zero_le _⟩ dX1_answerWithoutAlarm_7 (fun H locs hP hD hS => ?_)
      refine lv_icmp_ge (tgt := 53) hx hb dX1_answerWithoutAlarm_10 (by decide) (fun c1 => ?_) (fun c1 => ?_)
      · have hf := if_t c1 hf
        have hf := Option.some.inj hf
        subst hf
        exact rt_v hx hb hr hlocks hQ hK hP hD hS dX1_answerWithoutAlarm_53
      · have hf := if_f c1 hf
        refine lv_iload_n hx hb dX1_answerWithoutAlarm_13 rfl (lv_at hl 1 rfl) ?_
        refine lv_iload_n hx hb dX1_answerWithoutAlarm_14 rfl (lv_at hl 2 rfl) ?_
        refine cs_i (As := [.int x1, .int x2]) (rest := []) hx hb hml hown hts hK hP hD hA hS (kX6_has l D cI cC cS  x1 x2  (fX6_has x1 x2) rfl) (va_cwS 2 hts gX1_answerWithoutAlarm_X6_has rfl rfl rfl (by decide +kernel) (by subst hR; exact ⟨Nat.le_of_ble_eq_true rfl, Nat.le_of_ble_eq_true rfl⟩)) rfl hl.1 rfl (Nat.le_of_ble_eq_true rfl) ⟨Nat.zero_le _, Nat.zero_le _⟩ dX1_answerWithoutAlarm_15 (fun H locs hP hD hS => ?_)
        refine lv_if_ne (tgt := 47) hx hb dX1_answerWithoutAlarm_18 (by decide) (fun c2 => ?_) (fun c2 => ?_)
        · have hf := if_f c2 hf
          refine lv_iinc (v := (x2 + 1)) (lv' := [(2, .int (x2 + 1)), (0, .ref Ca), (1, .int x1)]) hx hb dX1_answerWithoutAlarm_47 hl (k := 2) rfl rfl (by decide) rfl (fun ls hl => ?_)
          refine lv_goto (tgt := 2) hx hb dX1_answerWithoutAlarm_50 (by decide) ?_
          exact ih2 (x2 + 1) C_answers _ _ _ hf hP hD hS (lv_sub hl [1, 2, 0] rfl)
        · have hf := if_t c2 hf
          refine lv_aload_n hx hb dX1_answerWithoutAlarm_21 rfl (lv_at hl 0 rfl) ?_
          refine va_get (D := D) (ci := 0) (v := .ref Ca_answers) (C := RX1) (T := TX1) (N := 4) hx hb hts hi_X1 hown hK hP 0 rfl rfl 2 (by decide) q9 (fun _ h9 => h9) rfl dX1_answerWithoutAlarm_22 ?_
          refine lv_iload_n hx hb dX1_answerWithoutAlarm_25 rfl (lv_at hl 2 rfl) ?_
          obtain ⟨hz, hf⟩ := ck_some hf
          refine sx_iald (j := x2.toNatClampNeg) hx hb hK hP 1 0 rfl rfl (inb_vp hz) rfl dX1_answerWithoutAlarm_26 ?_
          refine lv_if_ne (tgt := 47) hx hb dX1_answerWithoutAlarm_27 (by decide) (fun c3 => ?_) (fun c3 => ?_)
          · have hf := if_f c3 hf
            refine lv_iinc (v := (x2 + 1)) (lv' := [(2, .int (x2 + 1)), (0, .ref Ca), (1, .int x1)]) hx hb dX1_answerWithoutAlarm_47 hl (k := 2) rfl rfl (by decide) rfl (fun ls hl => ?_)
            refine lv_goto (tgt := 2) hx hb dX1_answerWithoutAlarm_50 (by decide) ?_
            exact ih2 (x2 + 1) C_answers _ _ _ hf hP hD hS (lv_sub hl [1, 2, 0] rfl)
          · have hf := if_t c3 hf
            refine lv_aload_n hx hb dX1_answerWithoutAlarm_30 rfl (lv_at hl 0 rfl) ?_
            refine va_get (D := D) (ci := 0) (v := .ref Ca_answers) (C := RX1) (T := TX1) (N := 4) hx hb hts hi_X1 hown hK hP 0 rfl rfl 2 (by decide) q9 (fun _ h9 => h9) rfl dX1_answerWithoutAlarm_31 ?_
            refine lv_iload_n hx hb dX1_answerWithoutAlarm_34 rfl (lv_at hl 2 rfl) ?_
            refine lv_aload_n hx hb dX1_answerWithoutAlarm_35 rfl (lv_at hl 0 rfl) ?_
            refine va_get (D := D) (ci := 0) (v := .ref Fa) (C := RX1) (T := TX1) (N := 4) hx hb hts hi_X1 hown hK hP 0 rfl rfl 1 (by decide) q19 (fun _ h9 => h9) rfl dX1_answerWithoutAlarm_36 ?_
            refine lv_iload_n hx hb dX1_answerWithoutAlarm_39 rfl (lv_at hl 2 rfl) ?_
            obtain ⟨o4, ho4, hf⟩ := bd_some hf
            refine cv_i (ci := 1) (q := (RX3, TX3, 4)) (As := [.int x2]) (rest := [.int x2, .ref Ca_answers]) hx hb hml hown hts hK hP hD hA hS (kX3_tokensOf l D cI cC cS Fa Fa_known Fa_knownBefore Sa Sa_roundEdges Sa_values x2 F_known F_knownBefore F_step S_roundEdges S_values S_nodes S_rounds o4 ho4) (cwV 1 hts gX1_answerWithoutAlarm_X3_tokensOf rfl rfl rfl (by decide +kernel) (by subst hR; exact ⟨Nat.le_of_ble_eq_true rfl, Nat.le_of_ble_eq_true rfl⟩)) [2, 3, 4, 5, 6, 7] [0, 1] [0, 1, 2, 3, 4, 5, 6, 7] [(Ca, .inr (0, [.ref Sa, .ref Fa, .ref Ca_answers, .int C_steps])), (Ca_answers, .inl (cI, 8, .inl C_answers))] (sh_X1 Ca Ca_answers Fa Fa_known Fa_knownBefore Sa Sa_roundEdges Sa_values cI cC cS C_answers C_steps F_known F_knownBefore F_step S_roundEdges S_values S_nodes S_rounds) rfl rfl rfl rfl (by decide) rfl rfl rfl rfl rfl rfl hl.1 rfl (Nat.le_of_ble_eq_true rfl) ⟨Nat.zero_le _, Nat.zero_le _⟩ dX1_answerWithoutAlarm_40 (fun H locs hP hD hS => ?_)
            refine cs_i (As := [.int o4]) (rest := [.int x2, .ref Ca_answers]) hx hb hml hown hts hK hP hD hA hS (kJ6_bitCount_0f7a4 l D cI cC cS  o4  (fJ6_bitCount_0f7a4 o4) rfl) (va_cwS 1 hts gX1_answerWithoutAlarm_J6_bitCount_0f7a4 rfl rfl rfl (by decide +kernel) (by subst hR; exact ⟨Nat.le_of_ble_eq_true rfl, Nat.le_of_ble_eq_true rfl⟩)) rfl hl.1 rfl (Nat.le_of_ble_eq_true rfl) ⟨Nat.zero_le _, Nat.zero_le _⟩ dX1_answerWithoutAlarm_43 (fun H locs hP hD hS => ?_)
            obtain ⟨hz, hf⟩ := ck_some hf
            refine sx_iast (j := x2.toNatClampNeg) hx hb hK hP hD hS 1 0 rfl rfl (inb_vp hz) rfl dX1_answerWithoutAlarm_46 (sh_X1 Ca Ca_answers Fa Fa_known Fa_knownBefore Sa Sa_roundEdges Sa_values cI cC cS (upd C_answers x2.toNatClampNeg (fJ6_bitCount_0f7a4 o4)) C_steps F_known F_knownBefore F_step S_roundEdges S_values S_nodes S_rounds) rfl (fun H locs hP hD hS => ?_)
            refine lv_iinc (v := (x2 + 1)) (lv' := [(2, .int (x2 + 1)), (0, .ref Ca), (1, .int x1)]) hx hb dX1_answerWithoutAlarm_47 hl (k := 2) rfl rfl (by decide) rfl (fun ls hl => ?_)
            refine lv_goto (tgt := 2) hx hb dX1_answerWithoutAlarm_50 (by decide) ?_
            exact ih2 (x2 + 1) (upd C_answers x2.toNatClampNeg (fJ6_bitCount_0f7a4 o4)) _ _ _ hf hP hD hS (lv_sub hl [1, 2, 0] rfl)
  refine lv_iconst (v := (0 : Int32)) hx hb dX1_answerWithoutAlarm_0 (by decide) ?_
  refine lv_istore_n (lv' := [(2, .int (0 : Int32)), (0, .ref Ca), (1, .int x1)]) hx hb dX1_answerWithoutAlarm_1 rfl hl (by decide) rfl (fun ls hl => ?_)
  exact L2  fuel (0 : Int32) C_answers _ _ _ hf hP hD hS (lv_sub hl [1, 2, 0] rfl)
set_option maxRecDepth 100000 in
set_option maxHeartbeats 4000000 in
theorem kX1_runPhase (l : Launch) (D : va_G) (cI cC cS : ClassId) (Ca Ca_answers Fa Fa_known Fa_knownBefore Sa Sa_roundEdges Sa_values : Nat) (x1 : Int32) (C_answers : Nat → Int32) (C_steps : Int32) (F_known : Nat → Int32) (F_knownBefore : Nat → Int32) (F_step : Int32) (S_roundEdges : Nat → Int32) (S_values : Nat → Int32) (S_nodes : Int32) (S_rounds : Int32) (o : (Nat → Int32) × Int32 × (Nat → Int32) × (Nat → Int32) × Int32) (hf : fX1_runPhase x1 C_answers C_steps F_known F_knownBefore F_step S_roundEdges S_nodes S_rounds = some o) : CV l D yX1_runPhase wsX1_runPhase ({ frames := 4, cells := 0, slots := 0, locals := 88 } : Room) (tysK cI cC cS) [.ref Ca, .int x1] (sh_X1 Ca Ca_answers Fa Fa_known Fa_knownBefore Sa Sa_roundEdges Sa_values cI cC cS C_answers C_steps F_known F_knownBefore F_step S_roundEdges S_values S_nodes S_rounds) (sh_X1 Ca Ca_answers Fa Fa_known Fa_knownBefore Sa Sa_roundEdges Sa_values cI cC cS o.1 o.2.1 o.2.2.1 o.2.2.2.1 o.2.2.2.2 S_roundEdges S_values S_nodes S_rounds) := by
  refine met_v (cc := cX1_runPhase) (maxL := 5) (ret := none) (by decide) rfl (Nat.le_of_ble_eq_true rfl) ?_
  intro p e s m args below meth c R Q A F hR hQ hP hK hD hA hS ls hl
  obtain ⟨hx, hb, hr, hts, hml, hlocks, hown⟩ := F
  have hown : s.vm.findClass RX1 = some m.cls := hown
  have hi_X1 : ∀ w ∈ u_ws RX1 TX1 4, w ∈ wsX1_runPhase := fun w h => List.mem_cons_of_mem _ (List.mem_append_left _ (List.mem_append_left _ (List.mem_append_right _ h)))
  have q19 := hts (.fieldLink RX1 19 "ChangingRounds$Counting" "flooding" "LChangingRounds$Flooding;") (by decide +kernel)
  have q23 := hts (.fieldLink RX1 23 "ChangingRounds$Counting" "steps" "I") (by decide +kernel)
  have q15 := hts (.fieldLink RX1 15 "ChangingRounds$Counting" "schedule" "LChangingRounds$Schedule;") (by decide +kernel)
  have hl : lv_has ls 5 [(0, .ref Ca), (1, .int x1)] := hl
  unfold fX1_runPhase at hf
  have L27 : ∀ (C_answers : Nat → Int32) (C_steps : Int32) (F_known : Nat → Int32) (F_knownBefore : Nat → Int32) (F_step : Int32) (n27 : Nat) (x2 : Int32) (x3 : Int32) (H : Heap) (locs : List Loc) (ls : Array Slot), fX1_runPhase_l27 x1 C_answers C_steps F_known F_knownBefore F_step S_roundEdges S_nodes S_rounds n27 x2 x3 = some o → va_P D vwCl (sh_X1 Ca Ca_answers Fa Fa_known Fa_knownBefore Sa Sa_roundEdges Sa_values cI cC cS C_answers C_steps F_known F_knownBefore F_step S_roundEdges S_values S_nodes S_rounds) H → va_D A (sh_X1 Ca Ca_answers Fa Fa_known Fa_knownBefore Sa Sa_roundEdges Sa_values cI cC cS C_answers C_steps F_known F_knownBefore F_step S_roundEdges S_values S_nodes S_rounds) → va_S A s.heap H locs → lv_has ls 5 [(0, .ref Ca), (1, .int x1), (2, .int x2), (3, .int x3)] → W p l e R s m args below meth c H locs 0 0 Q (F0 m 27 ls []) := by
    intro C_answers C_steps F_known F_knownBefore F_step n27
    induction n27 with
    | zero => intro x2 x3 H locs ls hf; cases (show (none : Option _) = some _ from hf)
    | succ n27 ih27 =>
      intro x2 x3 H locs ls hf hP hD hS hl
      rw [fX1_runPhase_l27] at hf
      refine lv_iload_n hx hb dX1_runPhase_27 rfl (lv_at hl 3 rfl) ?_
      refine lv_iconst (v := (2 : Int32)) hx hb dX1_runPhase_28 (by decide) ?_
      refine lv_iload_n hx hb dX1_runPhase_29 rfl (lv_at hl 1 rfl) ?_
      refine lv_imul hx hb dX1_runPhase_30 ?_
      refine lv_icmp_ge (tgt := 69) hx hb dX1_runPhase_31 (by decide) (fun c1 => ?_) (fun c1 => ?_)
      · have hf := if_t c1 hf
        refine lv_aload_n hx hb dX1_runPhase_69 rfl (lv_at hl 0 rfl) ?_
        refine lv_dup hx hb dX1_runPhase_70 rfl ?_
        refine va_get (D := D) (ci := 0) (v := .int C_steps) (C := RX1) (T := TX1) (N := 4) hx hb hts hi_X1 hown hK hP 0 rfl rfl 3 (by decide) q23 (fun _ h9 => h9) rfl dX1_runPhase_71 ?_
        refine lv_iconst (v := (2 : Int32)) hx hb dX1_runPhase_74 (by decide) ?_
        refine lv_iload_n hx hb dX1_runPhase_75 rfl (lv_at hl 1 rfl) ?_
        refine lv_imul hx hb dX1_runPhase_76 ?_
        refine lv_iadd hx hb dX1_runPhase_77 ?_
        refine sx_put (D := D) (ci := 0) (v := .int (C_steps + ((2 : Int32) * x1))) (ty := .int) (C := RX1) (T := TX1) (N := 4) hx hb hts hi_X1 tyX1 tyX1_ok nmX1 hown hK hP hD hS 0 rfl rfl 3 (by decide) q23 (fun _ h9 => h9) rfl (by decide +kernel) rfl rfl (Nat.le_of_ble_eq_true rfl) dX1_runPhase_78 (sh_X1 Ca Ca_answers Fa Fa_known Fa_knownBefore Sa Sa_roundEdges Sa_values cI cC cS C_answers (C_steps + ((2 : Int32) * x1)) F_known F_knownBefore F_step S_roundEdges S_values S_nodes S_rounds) rfl (fun H locs hP hD hS => ?_)
        refine lv_aload_n hx hb dX1_runPhase_81 rfl (lv_at hl 0 rfl) ?_
        refine lv_iload_n hx hb dX1_runPhase_82 rfl (lv_at hl 2 rfl) ?_
        obtain ⟨o2, ho2, hf⟩ := bd_some hf
        refine cv_v (ci := 0) (q := (RX1, TX1, 4)) (As := [.int x2]) (rest := []) hx hb hml hown hts hK hP hD hA hS (kX1_answerWithoutAlarm l D cI cC cS Ca Ca_answers Fa Fa_known Fa_knownBefore Sa Sa_roundEdges Sa_values x2 C_answers (C_steps + ((2 : Int32) * x1)) F_known F_knownBefore F_step S_roundEdges S_values S_nodes S_rounds o2 ho2) (cwV 1 hts gX1_runPhase_X1_answerWithoutAlarm rfl rfl rfl (by decide +kernel) (by subst hR; exact ⟨Nat.le_of_ble_eq_true rfl, Nat.le_of_ble_eq_true rfl⟩)) [0, 1, 2, 3, 4, 5, 6, 7] [] [0, 1, 2, 3, 4, 5, 6, 7] [] (sh_X1 Ca Ca_answers Fa Fa_known Fa_knownBefore Sa Sa_roundEdges Sa_values cI cC cS o2 (C_steps + ((2 : Int32) * x1)) F_known F_knownBefore F_step S_roundEdges S_values S_nodes S_rounds) rfl rfl rfl rfl (by decide) rfl rfl rfl rfl rfl rfl hl.1 rfl (Nat.le_of_ble_eq_true rfl) ⟨Nat.zero_le _, Nat.zero_le _⟩ dX1_runPhase_83 (fun H locs hP hD hS => ?_)
        have hf := Option.some.inj hf
        subst hf
        exact rt_v hx hb hr hlocks hQ hK hP hD hS dX1_runPhase_86
      · have hf := if_f c1 hf
        refine lv_aload_n hx hb dX1_runPhase_34 rfl (lv_at hl 0 rfl) ?_
        refine va_get (D := D) (ci := 0) (v := .ref Sa) (C := RX1) (T := TX1) (N := 4) hx hb hts hi_X1 hown hK hP 0 rfl rfl 0 (by decide) q15 (fun _ h9 => h9) rfl dX1_runPhase_35 ?_
        refine lv_aload_n hx hb dX1_runPhase_38 rfl (lv_at hl 0 rfl) ?_
        refine va_get (D := D) (ci := 0) (v := .int C_steps) (C := RX1) (T := TX1) (N := 4) hx hb hts hi_X1 hown hK hP 0 rfl rfl 3 (by decide) q23 (fun _ h9 => h9) rfl dX1_runPhase_39 ?_
        refine lv_iload_n hx hb dX1_runPhase_42 rfl (lv_at hl 3 rfl) ?_
        refine lv_iadd hx hb dX1_runPhase_43 ?_
        obtain ⟨o3, ho3, hf⟩ := bd_some hf
        refine cv_i (ci := 4) (q := (RX7, TX7, 4)) (As := [.int (C_steps + x3)]) (rest := []) hx hb hml hown hts hK hP hD hA hS (kX7_edgesAtStep l D cI cC cS Sa Sa_roundEdges Sa_values (C_steps + x3) S_roundEdges S_values S_nodes S_rounds o3 ho3) (cwV 1 hts gX1_runPhase_X7_edgesAtStep rfl rfl rfl (by decide +kernel) (by subst hR; exact ⟨Nat.le_of_ble_eq_true rfl, Nat.le_of_ble_eq_true rfl⟩)) [5, 6, 7] [0, 1, 2, 3, 4] [0, 1, 2, 3, 4, 5, 6, 7] [(Ca, .inr (0, [.ref Sa, .ref Fa, .ref Ca_answers, .int C_steps])), (Ca_answers, .inl (cI, 8, .inl C_answers)), (Fa, .inr (1, [.ref Sa, .ref Fa_known, .ref Fa_knownBefore, .int F_step])), (Fa_known, .inl (cI, 8, .inl F_known)), (Fa_knownBefore, .inl (cI, 8, .inl F_knownBefore))] (sh_X1 Ca Ca_answers Fa Fa_known Fa_knownBefore Sa Sa_roundEdges Sa_values cI cC cS C_answers C_steps F_known F_knownBefore F_step S_roundEdges S_values S_nodes S_rounds) rfl rfl rfl rfl (by decide) rfl rfl rfl rfl rfl rfl hl.1 rfl (Nat.le_of_ble_eq_true rfl) ⟨Nat.zero_le _, Nat.zero_le _⟩ dX1_runPhase_44 (fun H locs hP hD hS => ?_)
        refine lv_istore (lv' := [(4, .int o3), (0, .ref Ca), (1, .int x1), (2, .int x2), (3, .int x3)]) hx hb dX1_runPhase_47 hl (by decide) rfl (fun ls hl => ?_)
        refine lv_iload hx hb dX1_runPhase_49 (lv_at hl 0 rfl) ?_
        refine lv_iload_n hx hb dX1_runPhase_51 rfl (lv_at hl 3 rfl) ?_
        refine lv_aload_n hx hb dX1_runPhase_52 rfl (lv_at hl 1 rfl) ?_
        refine va_get (D := D) (ci := 0) (v := .ref Sa) (C := RX1) (T := TX1) (N := 4) hx hb hts hi_X1 hown hK hP 0 rfl rfl 0 (by decide) q15 (fun _ h9 => h9) rfl dX1_runPhase_53 ?_
        refine cv_i (ci := 4) (q := (RX7, TX7, 4)) (As := []) (rest := [.int x2, .int o3]) hx hb hml hown hts hK hP hD hA hS (kX7_nodes l D cI cC cS Sa Sa_roundEdges Sa_values  S_roundEdges S_values S_nodes S_rounds (fX7_nodes S_nodes) rfl) (cwV 0 hts gX1_runPhase_X7_nodes rfl rfl rfl (by decide +kernel) (by subst hR; exact ⟨Nat.le_of_ble_eq_true rfl, Nat.le_of_ble_eq_true rfl⟩)) [5, 6, 7] [0, 1, 2, 3, 4] [0, 1, 2, 3, 4, 5, 6, 7] [(Ca, .inr (0, [.ref Sa, .ref Fa, .ref Ca_answers, .int C_steps])), (Ca_answers, .inl (cI, 8, .inl C_answers)), (Fa, .inr (1, [.ref Sa, .ref Fa_known, .ref Fa_knownBefore, .int F_step])), (Fa_known, .inl (cI, 8, .inl F_known)), (Fa_knownBefore, .inl (cI, 8, .inl F_knownBefore))] (sh_X1 Ca Ca_answers Fa Fa_known Fa_knownBefore Sa Sa_roundEdges Sa_values cI cC cS C_answers C_steps F_known F_knownBefore F_step S_roundEdges S_values S_nodes S_rounds) rfl rfl rfl rfl (by decide) rfl rfl rfl rfl rfl rfl hl.1 rfl (Nat.le_of_ble_eq_true rfl) ⟨Nat.zero_le _, Nat.zero_le _⟩ dX1_runPhase_56 (fun H locs hP hD hS => ?_)
        obtain ⟨o4, ho4, hf⟩ := bd_some hf
        refine cs_i (As := [.int o3, .int x2, .int (fX7_nodes S_nodes)]) (rest := []) hx hb hml hown hts hK hP hD hA hS (kX2_spread l D cI cC cS  o3 x2 (fX7_nodes S_nodes)  o4 ho4) (va_cwS 3 hts gX1_runPhase_X2_spread rfl rfl rfl (by decide +kernel) (by subst hR; exact ⟨Nat.le_of_ble_eq_true rfl, Nat.le_of_ble_eq_true rfl⟩)) rfl hl.1 rfl (Nat.le_of_ble_eq_true rfl) ⟨Nat.zero_le _, Nat.zero_le _⟩ dX1_runPhase_59 (fun H locs hP hD hS => ?_)
        refine lv_istore_n (lv' := [(2, .int o4), (4, .int o3), (0, .ref Ca), (1, .int x1), (3, .int x3)]) hx hb dX1_runPhase_62 rfl hl (by decide) rfl (fun ls hl => ?_)
        refine lv_iinc (v := (x3 + 1)) (lv' := [(3, .int (x3 + 1)), (2, .int o4), (4, .int o3), (0, .ref Ca), (1, .int x1)]) hx hb dX1_runPhase_63 hl (k := 4) rfl rfl (by decide) rfl (fun ls hl => ?_)
        refine lv_goto (tgt := 27) hx hb dX1_runPhase_66 (by decide) ?_
        exact ih27 o4 (x3 + 1) _ _ _ hf hP hD hS (lv_sub hl [3, 4, 1, 0] rfl)
  refine lv_aload_n hx hb dX1_runPhase_0 rfl (lv_at hl 0 rfl) ?_
  refine va_get (D := D) (ci := 0) (v := .ref Fa) (C := RX1) (T := TX1) (N := 4) hx hb hts hi_X1 hown hK hP 0 rfl rfl 1 (by decide) q19 (fun _ h9 => h9) rfl dX1_runPhase_1 ?_
  refine lv_aload_n hx hb dX1_runPhase_4 rfl (lv_at hl 0 rfl) ?_
  refine va_get (D := D) (ci := 0) (v := .int C_steps) (C := RX1) (T := TX1) (N := 4) hx hb hts hi_X1 hown hK hP 0 rfl rfl 3 (by decide) q23 (fun _ h9 => h9) rfl dX1_runPhase_5 ?_
  obtain ⟨o5, ho5, hf⟩ := bd_some hf
  refine cv_v (ci := 1) (q := (RX3, TX3, 4)) (As := [.int C_steps]) (rest := []) hx hb hml hown hts hK hP hD hA hS (kX3_begin l D cI cC cS Fa Fa_known Fa_knownBefore Sa Sa_roundEdges Sa_values C_steps F_known F_knownBefore F_step S_roundEdges S_values S_nodes S_rounds o5 ho5) (cwV 1 hts gX1_runPhase_X3_begin rfl rfl rfl (by decide +kernel) (by subst hR; exact ⟨Nat.le_of_ble_eq_true rfl, Nat.le_of_ble_eq_true rfl⟩)) [2, 3, 4, 5, 6, 7] [0, 1] [0, 1, 2, 3, 4, 5, 6, 7] [(Ca, .inr (0, [.ref Sa, .ref Fa, .ref Ca_answers, .int C_steps])), (Ca_answers, .inl (cI, 8, .inl C_answers))] (sh_X1 Ca Ca_answers Fa Fa_known Fa_knownBefore Sa Sa_roundEdges Sa_values cI cC cS C_answers C_steps o5.1 F_knownBefore o5.2 S_roundEdges S_values S_nodes S_rounds) rfl rfl rfl rfl (by decide) rfl rfl rfl rfl rfl rfl hl.1 rfl (Nat.le_of_ble_eq_true rfl) ⟨Nat.zero_le _, Nat.zero_le _⟩ dX1_runPhase_8 (fun H locs hP hD hS => ?_)
  refine lv_aload_n hx hb dX1_runPhase_11 rfl (lv_at hl 0 rfl) ?_
  refine va_get (D := D) (ci := 0) (v := .ref Fa) (C := RX1) (T := TX1) (N := 4) hx hb hts hi_X1 hown hK hP 0 rfl rfl 1 (by decide) q19 (fun _ h9 => h9) rfl dX1_runPhase_12 ?_
  refine lv_iload_n hx hb dX1_runPhase_15 rfl (lv_at hl 1 rfl) ?_
  obtain ⟨o6, ho6, hf⟩ := bd_some hf
  refine cv_v (ci := 1) (q := (RX3, TX3, 4)) (As := [.int x1]) (rest := []) hx hb hml hown hts hK hP hD hA hS (kX3_advanceBy l D cI cC cS Fa Fa_known Fa_knownBefore Sa Sa_roundEdges Sa_values x1 o5.1 F_knownBefore o5.2 S_roundEdges S_values S_nodes S_rounds o6 ho6) (cwV 1 hts gX1_runPhase_X3_advanceBy rfl rfl rfl (by decide +kernel) (by subst hR; exact ⟨Nat.le_of_ble_eq_true rfl, Nat.le_of_ble_eq_true rfl⟩)) [2, 3, 4, 5, 6, 7] [0, 1] [0, 1, 2, 3, 4, 5, 6, 7] [(Ca, .inr (0, [.ref Sa, .ref Fa, .ref Ca_answers, .int C_steps])), (Ca_answers, .inl (cI, 8, .inl C_answers))] (sh_X1 Ca Ca_answers Fa Fa_known Fa_knownBefore Sa Sa_roundEdges Sa_values cI cC cS C_answers C_steps o6.1 o6.2.1 o6.2.2 S_roundEdges S_values S_nodes S_rounds) rfl rfl rfl rfl (by decide) rfl rfl rfl rfl rfl rfl hl.1 rfl (Nat.le_of_ble_eq_true rfl) ⟨Nat.zero_le _, Nat.zero_le _⟩ dX1_runPhase_16 (fun H locs hP hD hS => ?_)
  refine lv_aload_n hx hb dX1_runPhase_19 rfl (lv_at hl 0 rfl) ?_
  refine lv_iload_n hx hb dX1_runPhase_20 rfl (lv_at hl 1 rfl) ?_
  obtain ⟨o7, ho7, hf⟩ := bd_some hf
  refine cv_i (ci := 0) (q := (RX1, TX1, 4)) (As := [.int x1]) (rest := []) hx hb hml hown hts hK hP hD hA hS (kX1_nodesWithMoreThan l D cI cC cS Ca Ca_answers Fa Fa_known Fa_knownBefore Sa Sa_roundEdges Sa_values x1 C_answers C_steps o6.1 o6.2.1 o6.2.2 S_roundEdges S_values S_nodes S_rounds o7 ho7) (cwV 1 hts gX1_runPhase_X1_nodesWithMoreThan rfl rfl rfl (by decide +kernel) (by subst hR; exact ⟨Nat.le_of_ble_eq_true rfl, Nat.le_of_ble_eq_true rfl⟩)) [0, 1, 2, 3, 4, 5, 6, 7] [] [0, 1, 2, 3, 4, 5, 6, 7] [] (sh_X1 Ca Ca_answers Fa Fa_known Fa_knownBefore Sa Sa_roundEdges Sa_values cI cC cS C_answers C_steps o6.1 o6.2.1 o6.2.2 S_roundEdges S_values S_nodes S_rounds) rfl rfl rfl rfl (by decide) rfl rfl rfl rfl rfl rfl hl.1 rfl (Nat.le_of_ble_eq_true rfl) ⟨Nat.zero_le _, Nat.zero_le _⟩ dX1_runPhase_21 (fun H locs hP hD hS => ?_)
  refine lv_istore_n (lv' := [(2, .int o7), (0, .ref Ca), (1, .int x1)]) hx hb dX1_runPhase_24 rfl hl (by decide) rfl (fun ls hl => ?_)
  refine lv_iload_n hx hb dX1_runPhase_25 rfl (lv_at hl 2 rfl) ?_
  refine lv_istore_n (lv' := [(3, .int x1), (2, .int o7), (0, .ref Ca), (1, .int x1)]) hx hb dX1_runPhase_26 rfl hl (by decide) rfl (fun ls hl => ?_)
  exact L27 C_answers C_steps o6.1 o6.2.1 o6.2.2 fuel o7 x1 _ _ _ hf hP hD hS (lv_sub hl [2, 3, 1, 0] rfl)
set_option maxRecDepth 100000 in
set_option maxHeartbeats 4000000 in
theorem kX1_run (l : Launch) (D : va_G) (cI cC cS : ClassId) (Ca Ca_answers Fa Fa_known Fa_knownBefore Sa Sa_roundEdges Sa_values : Nat) (C_answers : Nat → Int32) (C_steps : Int32) (F_known : Nat → Int32) (F_knownBefore : Nat → Int32) (F_step : Int32) (S_roundEdges : Nat → Int32) (S_values : Nat → Int32) (S_nodes : Int32) (S_rounds : Int32) (o : (Nat → Int32) × Int32 × (Nat → Int32) × (Nat → Int32) × Int32) (hf : fX1_run C_answers C_steps F_known F_knownBefore F_step S_roundEdges S_nodes S_rounds = some o) : CV l D yX1_run wsX1_run ({ frames := 5, cells := 0, slots := 0, locals := 112 } : Room) (tysK cI cC cS) [.ref Ca] (sh_X1 Ca Ca_answers Fa Fa_known Fa_knownBefore Sa Sa_roundEdges Sa_values cI cC cS C_answers C_steps F_known F_knownBefore F_step S_roundEdges S_values S_nodes S_rounds) (sh_X1 Ca Ca_answers Fa Fa_known Fa_knownBefore Sa Sa_roundEdges Sa_values cI cC cS o.1 o.2.1 o.2.2.1 o.2.2.2.1 o.2.2.2.2 S_roundEdges S_values S_nodes S_rounds) := by
  refine met_v (cc := cX1_run) (maxL := 2) (ret := none) (by decide) rfl (Nat.le_of_ble_eq_true rfl) ?_
  intro p e s m args below meth c R Q A F hR hQ hP hK hD hA hS ls hl
  obtain ⟨hx, hb, hr, hts, hml, hlocks, hown⟩ := F
  have hown : s.vm.findClass RX1 = some m.cls := hown
  have hi_X1 : ∀ w ∈ u_ws RX1 TX1 4, w ∈ wsX1_run := fun w h => List.mem_cons_of_mem _ (List.mem_append_left _ (List.mem_append_left _ (List.mem_append_right _ h)))
  have q23 := hts (.fieldLink RX1 23 "ChangingRounds$Counting" "steps" "I") (by decide +kernel)
  have q9 := hts (.fieldLink RX1 9 "ChangingRounds$Counting" "answers" "[I") (by decide +kernel)
  have hl : lv_has ls 2 [(0, .ref Ca)] := hl
  unfold fX1_run at hf
  have L28 : ∀ (n28 : Nat) (x1 : Int32) (C_answers : Nat → Int32) (C_steps : Int32) (F_known : Nat → Int32) (F_knownBefore : Nat → Int32) (F_step : Int32) (H : Heap) (locs : List Loc) (ls : Array Slot), fX1_run_l28 S_roundEdges S_nodes S_rounds n28 x1 C_answers C_steps F_known F_knownBefore F_step = some o → va_P D vwCl (sh_X1 Ca Ca_answers Fa Fa_known Fa_knownBefore Sa Sa_roundEdges Sa_values cI cC cS C_answers C_steps F_known F_knownBefore F_step S_roundEdges S_values S_nodes S_rounds) H → va_D A (sh_X1 Ca Ca_answers Fa Fa_known Fa_knownBefore Sa Sa_roundEdges Sa_values cI cC cS C_answers C_steps F_known F_knownBefore F_step S_roundEdges S_values S_nodes S_rounds) → va_S A s.heap H locs → lv_has ls 2 [(0, .ref Ca), (1, .int x1)] → W p l e R s m args below meth c H locs 0 0 Q (F0 m 28 ls []) := by
    intro n28
    induction n28 with
    | zero => intro x1 C_answers C_steps F_known F_knownBefore F_step H locs ls hf; cases (show (none : Option _) = some _ from hf)
    | succ n28 ih28 =>
      intro x1 C_answers C_steps F_known F_knownBefore F_step H locs ls hf hP hD hS hl
      rw [fX1_run_l28] at hf
      refine lv_iload_n hx hb dX1_run_28 rfl (lv_at hl 1 rfl) ?_
      refine lv_bipush (v := (8 : Int32)) hx hb dX1_run_29 (by decide) ?_
      refine lv_icmp_gt (tgt := 53) hx hb dX1_run_31 (by decide) (fun c1 => ?_) (fun c1 => ?_)
      · have hf := if_t c1 hf
        have hf := Option.some.inj hf
        subst hf
        exact rt_v hx hb hr hlocks hQ hK hP hD hS dX1_run_53
      · have hf := if_f c1 hf
        refine lv_aload_n hx hb dX1_run_34 rfl (lv_at hl 0 rfl) ?_
        obtain ⟨o2, ho2, hf⟩ := bd_some hf
        refine cv_i (ci := 0) (q := (RX1, TX1, 4)) (As := []) (rest := []) hx hb hml hown hts hK hP hD hA hS (kX1_allHaveAnswers l D cI cC cS Ca Ca_answers Fa Fa_known Fa_knownBefore Sa Sa_roundEdges Sa_values  C_answers C_steps F_known F_knownBefore F_step S_roundEdges S_values S_nodes S_rounds o2 ho2) (cwV 0 hts gX1_run_X1_allHaveAnswers rfl rfl rfl (by decide +kernel) (by subst hR; exact ⟨Nat.le_of_ble_eq_true rfl, Nat.le_of_ble_eq_true rfl⟩)) [0, 1, 2, 3, 4, 5, 6, 7] [] [0, 1, 2, 3, 4, 5, 6, 7] [] (sh_X1 Ca Ca_answers Fa Fa_known Fa_knownBefore Sa Sa_roundEdges Sa_values cI cC cS C_answers C_steps F_known F_knownBefore F_step S_roundEdges S_values S_nodes S_rounds) rfl rfl rfl rfl (by decide) rfl rfl rfl rfl rfl rfl hl.1 rfl (Nat.le_of_ble_eq_true rfl) ⟨Nat.zero_le _, Nat.zero_le _⟩ dX1_run_35 (fun H locs hP hD hS => ?_)
        refine lv_if_ne (tgt := 53) hx hb dX1_run_38 (by decide) (fun c3 => ?_) (fun c3 => ?_)
        · have hf := if_f c3 hf
          have hf := Option.some.inj hf
          subst hf
          exact rt_v hx hb hr hlocks hQ hK hP hD hS dX1_run_53
        · have hf := if_t c3 hf
          refine lv_aload_n hx hb dX1_run_41 rfl (lv_at hl 0 rfl) ?_
          refine lv_iload_n hx hb dX1_run_42 rfl (lv_at hl 1 rfl) ?_
          obtain ⟨o4, ho4, hf⟩ := bd_some hf
          refine cv_v (ci := 0) (q := (RX1, TX1, 4)) (As := [.int x1]) (rest := []) hx hb hml hown hts hK hP hD hA hS (kX1_runPhase l D cI cC cS Ca Ca_answers Fa Fa_known Fa_knownBefore Sa Sa_roundEdges Sa_values x1 C_answers C_steps F_known F_knownBefore F_step S_roundEdges S_values S_nodes S_rounds o4 ho4) (cwV 1 hts gX1_run_X1_runPhase rfl rfl rfl (by decide +kernel) (by subst hR; exact ⟨Nat.le_of_ble_eq_true rfl, Nat.le_of_ble_eq_true rfl⟩)) [0, 1, 2, 3, 4, 5, 6, 7] [] [0, 1, 2, 3, 4, 5, 6, 7] [] (sh_X1 Ca Ca_answers Fa Fa_known Fa_knownBefore Sa Sa_roundEdges Sa_values cI cC cS o4.1 o4.2.1 o4.2.2.1 o4.2.2.2.1 o4.2.2.2.2 S_roundEdges S_values S_nodes S_rounds) rfl rfl rfl rfl (by decide) rfl rfl rfl rfl rfl rfl hl.1 rfl (Nat.le_of_ble_eq_true rfl) ⟨Nat.zero_le _, Nat.zero_le _⟩ dX1_run_43 (fun H locs hP hD hS => ?_)
          refine lv_iload_n hx hb dX1_run_46 rfl (lv_at hl 1 rfl) ?_
          refine lv_iconst (v := (2 : Int32)) hx hb dX1_run_47 (by decide) ?_
          refine lv_imul hx hb dX1_run_48 ?_
          refine lv_istore_n (lv' := [(1, .int (x1 * (2 : Int32))), (0, .ref Ca)]) hx hb dX1_run_49 rfl hl (by decide) rfl (fun ls hl => ?_)
          refine lv_goto (tgt := 28) hx hb dX1_run_50 (by decide) ?_
          exact ih28 (x1 * (2 : Int32)) o4.1 o4.2.1 o4.2.2.1 o4.2.2.2.1 o4.2.2.2.2 _ _ _ hf hP hD hS (lv_sub hl [1, 0] rfl)
  have L7 : ∀ (C_steps : Int32) (F_known : Nat → Int32) (F_knownBefore : Nat → Int32) (F_step : Int32) (n7 : Nat) (x1 : Int32) (C_answers : Nat → Int32) (H : Heap) (locs : List Loc) (ls : Array Slot), fX1_run_l7 C_steps F_known F_knownBefore F_step S_roundEdges S_nodes S_rounds n7 x1 C_answers = some o → va_P D vwCl (sh_X1 Ca Ca_answers Fa Fa_known Fa_knownBefore Sa Sa_roundEdges Sa_values cI cC cS C_answers C_steps F_known F_knownBefore F_step S_roundEdges S_values S_nodes S_rounds) H → va_D A (sh_X1 Ca Ca_answers Fa Fa_known Fa_knownBefore Sa Sa_roundEdges Sa_values cI cC cS C_answers C_steps F_known F_knownBefore F_step S_roundEdges S_values S_nodes S_rounds) → va_S A s.heap H locs → lv_has ls 2 [(0, .ref Ca), (1, .int x1)] → W p l e R s m args below meth c H locs 0 0 Q (F0 m 7 ls []) := by
    intro C_steps F_known F_knownBefore F_step n7
    induction n7 with
    | zero => intro x1 C_answers H locs ls hf; cases (show (none : Option _) = some _ from hf)
    | succ n7 ih7 =>
      intro x1 C_answers H locs ls hf hP hD hS hl
      rw [fX1_run_l7] at hf
      refine lv_iload_n hx hb dX1_run_7 rfl (lv_at hl 1 rfl) ?_
      refine lv_bipush (v := (8 : Int32)) hx hb dX1_run_8 (by decide) ?_
      refine lv_icmp_ge (tgt := 26) hx hb dX1_run_10 (by decide) (fun c5 => ?_) (fun c5 => ?_)
      · have hf := if_t c5 hf
        refine lv_iconst (v := (1 : Int32)) hx hb dX1_run_26 (by decide) ?_
        refine lv_istore_n (lv' := [(1, .int (1 : Int32)), (0, .ref Ca)]) hx hb dX1_run_27 rfl hl (by decide) rfl (fun ls hl => ?_)
        exact L28  fuel (1 : Int32) C_answers C_steps F_known F_knownBefore F_step _ _ _ hf hP hD hS (lv_sub hl [1, 0] rfl)
      · have hf := if_f c5 hf
        refine lv_aload_n hx hb dX1_run_13 rfl (lv_at hl 0 rfl) ?_
        refine va_get (D := D) (ci := 0) (v := .ref Ca_answers) (C := RX1) (T := TX1) (N := 4) hx hb hts hi_X1 hown hK hP 0 rfl rfl 2 (by decide) q9 (fun _ h9 => h9) rfl dX1_run_14 ?_
        refine lv_iload_n hx hb dX1_run_17 rfl (lv_at hl 1 rfl) ?_
        refine lv_iconst (v := (0 : Int32)) hx hb dX1_run_18 (by decide) ?_
        obtain ⟨hz, hf⟩ := ck_some hf
        refine sx_iast (j := x1.toNatClampNeg) hx hb hK hP hD hS 1 0 rfl rfl (inb_vp hz) rfl dX1_run_19 (sh_X1 Ca Ca_answers Fa Fa_known Fa_knownBefore Sa Sa_roundEdges Sa_values cI cC cS (upd C_answers x1.toNatClampNeg (0 : Int32)) C_steps F_known F_knownBefore F_step S_roundEdges S_values S_nodes S_rounds) rfl (fun H locs hP hD hS => ?_)
        refine lv_iinc (v := (x1 + 1)) (lv' := [(1, .int (x1 + 1)), (0, .ref Ca)]) hx hb dX1_run_20 hl (k := 1) rfl rfl (by decide) rfl (fun ls hl => ?_)
        refine lv_goto (tgt := 7) hx hb dX1_run_23 (by decide) ?_
        exact ih7 (x1 + 1) (upd C_answers x1.toNatClampNeg (0 : Int32)) _ _ _ hf hP hD hS (lv_sub hl [1, 0] rfl)
  refine lv_aload_n hx hb dX1_run_0 rfl (lv_at hl 0 rfl) ?_
  refine lv_iconst (v := (0 : Int32)) hx hb dX1_run_1 (by decide) ?_
  refine sx_put (D := D) (ci := 0) (v := .int (0 : Int32)) (ty := .int) (C := RX1) (T := TX1) (N := 4) hx hb hts hi_X1 tyX1 tyX1_ok nmX1 hown hK hP hD hS 0 rfl rfl 3 (by decide) q23 (fun _ h9 => h9) rfl (by decide +kernel) rfl rfl (Nat.le_of_ble_eq_true rfl) dX1_run_2 (sh_X1 Ca Ca_answers Fa Fa_known Fa_knownBefore Sa Sa_roundEdges Sa_values cI cC cS C_answers (0 : Int32) F_known F_knownBefore F_step S_roundEdges S_values S_nodes S_rounds) rfl (fun H locs hP hD hS => ?_)
  refine lv_iconst (v := (0 : Int32)) hx hb dX1_run_5 (by decide) ?_
  refine lv_istore_n (lv' := [(1, .int (0 : Int32)), (0, .ref Ca)]) hx hb dX1_run_6 rfl hl (by decide) rfl (fun ls hl => ?_)
  exact L7 (0 : Int32) F_known F_knownBefore F_step fuel (0 : Int32) C_answers _ _ _ hf hP hD hS (lv_sub hl [1, 0] rfl)
set_option maxRecDepth 100000 in
set_option maxHeartbeats 4000000 in
theorem kX1_steps (l : Launch) (D : va_G) (cI cC cS : ClassId) (Ca Ca_answers Fa Fa_known Fa_knownBefore Sa Sa_roundEdges Sa_values : Nat) (C_answers : Nat → Int32) (C_steps : Int32) (F_known : Nat → Int32) (F_knownBefore : Nat → Int32) (F_step : Int32) (S_roundEdges : Nat → Int32) (S_values : Nat → Int32) (S_nodes : Int32) (S_rounds : Int32) (o : Int32) (hf : fX1_steps C_steps = o) : CI l D yX1_steps wsX1_steps ({ frames := 0, cells := 0, slots := 0, locals := 0 } : Room) (tysK cI cC cS) [.ref Ca] (sh_X1 Ca Ca_answers Fa Fa_known Fa_knownBefore Sa Sa_roundEdges Sa_values cI cC cS C_answers C_steps F_known F_knownBefore F_step S_roundEdges S_values S_nodes S_rounds) o (sh_X1 Ca Ca_answers Fa Fa_known Fa_knownBefore Sa Sa_roundEdges Sa_values cI cC cS C_answers C_steps F_known F_knownBefore F_step S_roundEdges S_values S_nodes S_rounds) := by
  refine met_i (cc := cX1_steps) (maxL := 1) (ret := (some .int)) (by decide) rfl (Nat.le_of_ble_eq_true rfl) ?_
  intro p e s m args below meth c R Q A F hR hQ hP hK hD hA hS ls hl
  obtain ⟨hx, hb, hr, hts, hml, hlocks, hown⟩ := F
  have hown : s.vm.findClass RX1 = some m.cls := hown
  have hi_X1 : ∀ w ∈ u_ws RX1 TX1 4, w ∈ wsX1_steps := fun w h => List.mem_cons_of_mem _ (List.mem_append_right _ h)
  have q23 := hts (.fieldLink RX1 23 "ChangingRounds$Counting" "steps" "I") (by decide +kernel)
  have hl : lv_has ls 1 [(0, .ref Ca)] := hl
  unfold fX1_steps at hf
  refine lv_aload_n hx hb dX1_steps_0 rfl (lv_at hl 0 rfl) ?_
  refine va_get (D := D) (ci := 0) (v := .int C_steps) (C := RX1) (T := TX1) (N := 4) hx hb hts hi_X1 hown hK hP 0 rfl rfl 3 (by decide) q23 (fun _ h9 => h9) rfl dX1_steps_1 ?_
  subst hf
  exact rt_i hx hb hr hlocks hQ hK hP hD hS rfl dX1_steps_4
