set_option maxRecDepth 100000 in
set_option maxHeartbeats 4000000 in
theorem kX3_knowersOf (l : Launch) (D : va_G) (cI cC cS : ClassId) (Fa Fa_known Fa_knownBefore Sa Sa_roundEdges Sa_values : Nat) (x1 : Int32) (F_known : Nat → Int32) (F_knownBefore : Nat → Int32) (F_step : Int32) (S_roundEdges : Nat → Int32) (S_values : Nat → Int32) (S_nodes : Int32) (S_rounds : Int32) (o : Int32) (hf : fX3_knowersOf x1 F_known S_nodes = some o) : CI l D yX3_knowersOf wsX3_knowersOf ({ frames := 1, cells := 0, slots := 0, locals := 21 } : Room) (tysK cI cC cS) [.ref Fa, .int x1] (sh_X3 Fa Fa_known Fa_knownBefore Sa Sa_roundEdges Sa_values cI cC cS F_known F_knownBefore F_step S_roundEdges S_values S_nodes S_rounds) o (sh_X3 Fa Fa_known Fa_knownBefore Sa Sa_roundEdges Sa_values cI cC cS F_known F_knownBefore F_step S_roundEdges S_values S_nodes S_rounds) := by
  refine met_i (cc := cX3_knowersOf) (maxL := 4) (ret := (some .int)) (by decide) rfl (Nat.le_of_ble_eq_true rfl) ?_
  intro p e s m args below meth c R Q A F hR hQ hP hK hD hA hS ls hl
  obtain ⟨hx, hb, hr, hts, hml, hlocks, hown⟩ := F
  have hown : s.vm.findClass RX3 = some m.cls := hown
  have hi_X3 : ∀ w ∈ u_ws RX3 TX3 4, w ∈ wsX3_knowersOf := fun w h => List.mem_cons_of_mem _ (List.mem_append_left _ (List.mem_append_right _ h))
  have q18 := hts (.fieldLink RX3 18 "ChangingRounds$Flooding" "schedule" "LChangingRounds$Schedule;") (by decide +kernel)
  have q9 := hts (.fieldLink RX3 9 "ChangingRounds$Flooding" "known" "[I") (by decide +kernel)
  have hl : lv_has ls 4 [(0, .ref Fa), (1, .int x1)] := hl
  unfold fX3_knowersOf at hf
  have L4 : ∀ (n4 : Nat) (x2 : Int32) (x3 : Int32) (H : Heap) (locs : List Loc) (ls : Array Slot), fX3_knowersOf_l4 x1 F_known S_nodes n4 x2 x3 = some o → va_P D vwCl (sh_X3 Fa Fa_known Fa_knownBefore Sa Sa_roundEdges Sa_values cI cC cS F_known F_knownBefore F_step S_roundEdges S_values S_nodes S_rounds) H → va_D A (sh_X3 Fa Fa_known Fa_knownBefore Sa Sa_roundEdges Sa_values cI cC cS F_known F_knownBefore F_step S_roundEdges S_values S_nodes S_rounds) → va_S A s.heap H locs → lv_has ls 4 [(0, .ref Fa), (1, .int x1), (2, .int x2), (3, .int x3)] → W p l e R s m args below meth c H locs 0 0 Q (F0 m 4 ls []) := by
    intro n4
    induction n4 with
    | zero => intro x2 x3 H locs ls hf; cases (show (none : Option _) = some _ from hf)
    | succ n4 ih4 =>
      intro x2 x3 H locs ls hf hP hD hS hl
      rw [fX3_knowersOf_l4] at hf
      refine lv_iload_n hx hb dX3_knowersOf_4 rfl (lv_at hl 3 rfl) ?_
      refine lv_aload_n hx hb dX3_knowersOf_5 rfl (lv_at hl 0 rfl) ?_
      refine va_get (D := D) (ci := 1) (v := .ref Sa) (C := RX3) (T := TX3) (N := 4) hx hb hts hi_X3 hown hK hP 0 rfl rfl 0 (by decide) q18 (fun _ h9 => h9) rfl dX3_knowersOf_6 ?_
      refine cv_i (ci := 4) (q := (RX7, TX7, 4)) (As := []) (rest := [.int x3]) hx hb hml hown hts hK hP hD hA hS (kX7_nodes l D cI cC cS Sa Sa_roundEdges Sa_values  S_roundEdges S_values S_nodes S_rounds (fX7_nodes S_nodes) rfl) (cwV 0 hts gX3_knowersOf_X7_nodes rfl rfl rfl (by decide +kernel) (by subst hR; exact ⟨Nat.le_of_ble_eq_true rfl, Nat.le_of_ble_eq_true rfl⟩)) [3, 4, 5] [0, 1, 2] [0, 1, 2, 3, 4, 5] [(Fa, .inr (1, [.ref Sa, .ref Fa_known, .ref Fa_knownBefore, .int F_step])), (Fa_known, .inl (cI, 8, .inl F_known)), (Fa_knownBefore, .inl (cI, 8, .inl F_knownBefore))] (sh_X3 Fa Fa_known Fa_knownBefore Sa Sa_roundEdges Sa_values cI cC cS F_known F_knownBefore F_step S_roundEdges S_values S_nodes S_rounds) rfl rfl rfl rfl (by decide) rfl rfl rfl rfl rfl rfl hl.1 rfl (Nat.le_of_ble_eq_true rfl) ⟨Nat.zero_le _, Nat.zero_le _⟩ dX3_knowersOf_9 (fun H locs hP hD hS => ?_)
      refine lv_icmp_ge (tgt := 41) hx hb dX3_knowersOf_12 (by decide) (fun c1 => ?_) (fun c1 => ?_)
      · have hf := if_t c1 hf
        refine lv_iload_n hx hb dX3_knowersOf_41 rfl (lv_at hl 2 rfl) ?_
        have hf := Option.some.inj hf
        subst hf
        exact rt_i hx hb hr hlocks hQ hK hP hD hS rfl dX3_knowersOf_42
      · have hf := if_f c1 hf
        refine lv_aload_n hx hb dX3_knowersOf_15 rfl (lv_at hl 0 rfl) ?_
        refine va_get (D := D) (ci := 1) (v := .ref Fa_known) (C := RX3) (T := TX3) (N := 4) hx hb hts hi_X3 hown hK hP 0 rfl rfl 1 (by decide) q9 (fun _ h9 => h9) rfl dX3_knowersOf_16 ?_
        refine lv_iload_n hx hb dX3_knowersOf_19 rfl (lv_at hl 3 rfl) ?_
        obtain ⟨hz, hf⟩ := ck_some hf
        refine sx_iald (j := x3.toNatClampNeg) hx hb hK hP 1 0 rfl rfl (inb_vp hz) rfl dX3_knowersOf_20 ?_
        refine lv_iload_n hx hb dX3_knowersOf_21 rfl (lv_at hl 1 rfl) ?_
        refine cs_i (As := [.int (F_known x3.toNatClampNeg), .int x1]) (rest := []) hx hb hml hown hts hK hP hD hA hS (kX6_has l D cI cC cS  (F_known x3.toNatClampNeg) x1  (fX6_has (F_known x3.toNatClampNeg) x1) rfl) (va_cwS 2 hts gX3_knowersOf_X6_has rfl rfl rfl (by decide +kernel) (by subst hR; exact ⟨Nat.le_of_ble_eq_true rfl, Nat.le_of_ble_eq_true rfl⟩)) rfl hl.1 rfl (Nat.le_of_ble_eq_true rfl) ⟨Nat.zero_le _, Nat.zero_le _⟩ dX3_knowersOf_22 (fun H locs hP hD hS => ?_)
        refine lv_if_eq (tgt := 35) hx hb dX3_knowersOf_25 (by decide) (fun c2 => ?_) (fun c2 => ?_)
        · have hf := if_t c2 hf
          refine lv_iinc (v := (x3 + 1)) (lv' := [(3, .int (x3 + 1)), (0, .ref Fa), (1, .int x1), (2, .int x2)]) hx hb dX3_knowersOf_35 hl (k := 3) rfl rfl (by decide) rfl (fun ls hl => ?_)
          refine lv_goto (tgt := 4) hx hb dX3_knowersOf_38 (by decide) ?_
          exact ih4 x2 (x3 + 1) _ _ _ hf hP hD hS (lv_sub hl [1, 2, 3, 0] rfl)
        · have hf := if_f c2 hf
          refine lv_iload_n hx hb dX3_knowersOf_28 rfl (lv_at hl 2 rfl) ?_
          refine lv_iload_n hx hb dX3_knowersOf_29 rfl (lv_at hl 3 rfl) ?_
          refine cs_i (As := [.int x3]) (rest := [.int x2]) hx hb hml hown hts hK hP hD hA hS (kX6_of l D cI cC cS  x3  (fX6_of x3) rfl) (va_cwS 1 hts gX3_knowersOf_X6_of rfl rfl rfl (by decide +kernel) (by subst hR; exact ⟨Nat.le_of_ble_eq_true rfl, Nat.le_of_ble_eq_true rfl⟩)) rfl hl.1 rfl (Nat.le_of_ble_eq_true rfl) ⟨Nat.zero_le _, Nat.zero_le _⟩ dX3_knowersOf_30 (fun H locs hP hD hS => ?_)
          refine lv_ior hx hb dX3_knowersOf_33 ?_
          refine lv_istore_n (lv' := [(2, .int (x2 ||| (fX6_of x3))), (0, .ref Fa), (1, .int x1), (3, .int x3)]) hx hb dX3_knowersOf_34 rfl hl (by decide) rfl (fun ls hl => ?_)
          refine lv_iinc (v := (x3 + 1)) (lv' := [(3, .int (x3 + 1)), (2, .int (x2 ||| (fX6_of x3))), (0, .ref Fa), (1, .int x1)]) hx hb dX3_knowersOf_35 hl (k := 3) rfl rfl (by decide) rfl (fun ls hl => ?_)
          refine lv_goto (tgt := 4) hx hb dX3_knowersOf_38 (by decide) ?_
          exact ih4 (x2 ||| (fX6_of x3)) (x3 + 1) _ _ _ hf hP hD hS (lv_sub hl [2, 3, 1, 0] rfl)
  refine lv_iconst (v := (0 : Int32)) hx hb dX3_knowersOf_0 (by decide) ?_
  refine lv_istore_n (lv' := [(2, .int (0 : Int32)), (0, .ref Fa), (1, .int x1)]) hx hb dX3_knowersOf_1 rfl hl (by decide) rfl (fun ls hl => ?_)
  refine lv_iconst (v := (0 : Int32)) hx hb dX3_knowersOf_2 (by decide) ?_
  refine lv_istore_n (lv' := [(3, .int (0 : Int32)), (2, .int (0 : Int32)), (0, .ref Fa), (1, .int x1)]) hx hb dX3_knowersOf_3 rfl hl (by decide) rfl (fun ls hl => ?_)
  exact L4  fuel (0 : Int32) (0 : Int32) _ _ _ hf hP hD hS (lv_sub hl [2, 3, 1, 0] rfl)
set_option maxRecDepth 100000 in
set_option maxHeartbeats 4000000 in
theorem kX4_begin (l : Launch) (D : va_G) (cI cC cS : ClassId) (Ga Ga_known Ga_sent Ga_newest Ga_chosen Sa Sa_roundEdges Sa_values : Nat) (x1 : Int32) (G_known : Nat → Int32) (G_sent : Nat → Int32) (G_newest : Nat → Int32) (G_chosen : Nat → Int32) (G_rule : Int32) (G_step : Int32) (S_roundEdges : Nat → Int32) (S_values : Nat → Int32) (S_nodes : Int32) (S_rounds : Int32) (o : (Nat → Int32) × (Nat → Int32) × (Nat → Int32) × Int32 × Int32) (hf : fX4_begin x1 G_known G_sent G_newest G_rule G_step = some o) : CV l D yX4_begin wsX4_begin ({ frames := 1, cells := 0, slots := 0, locals := 20 } : Room) (tysK cI cC cS) [.ref Ga, .int x1] (sh_X4 Ga Ga_known Ga_sent Ga_newest Ga_chosen Sa Sa_roundEdges Sa_values cI cC cS G_known G_sent G_newest G_chosen G_rule G_step S_roundEdges S_values S_nodes S_rounds) (sh_X4 Ga Ga_known Ga_sent Ga_newest Ga_chosen Sa Sa_roundEdges Sa_values cI cC cS o.1 o.2.1 o.2.2.1 G_chosen o.2.2.2.1 o.2.2.2.2 S_roundEdges S_values S_nodes S_rounds) := by
  refine met_v (cc := cX4_begin) (maxL := 3) (ret := none) (by decide) rfl (Nat.le_of_ble_eq_true rfl) ?_
  intro p e s m args below meth c R Q A F hR hQ hP hK hD hA hS ls hl
  obtain ⟨hx, hb, hr, hts, hml, hlocks, hown⟩ := F
  have hown : s.vm.findClass RX4 = some m.cls := hown
  have hi_X4 : ∀ w ∈ u_ws RX4 TX4 7, w ∈ wsX4_begin := fun w h => List.mem_cons_of_mem _ (List.mem_append_right _ h)
  have q28 := hts (.fieldLink RX4 28 "ChangingRounds$Gossip" "rule" "I") (by decide +kernel)
  have q32 := hts (.fieldLink RX4 32 "ChangingRounds$Gossip" "step" "I") (by decide +kernel)
  have q9 := hts (.fieldLink RX4 9 "ChangingRounds$Gossip" "known" "[I") (by decide +kernel)
  have q15 := hts (.fieldLink RX4 15 "ChangingRounds$Gossip" "sent" "[I") (by decide +kernel)
  have q18 := hts (.fieldLink RX4 18 "ChangingRounds$Gossip" "newest" "[I") (by decide +kernel)
  have hl : lv_has ls 3 [(0, .ref Ga), (1, .int x1)] := hl
  unfold fX4_begin at hf
  have L12 : ∀ (G_rule : Int32) (G_step : Int32) (n12 : Nat) (x2 : Int32) (G_known : Nat → Int32) (G_sent : Nat → Int32) (G_newest : Nat → Int32) (H : Heap) (locs : List Loc) (ls : Array Slot), fX4_begin_l12 G_rule G_step n12 x2 G_known G_sent G_newest = some o → va_P D vwCl (sh_X4 Ga Ga_known Ga_sent Ga_newest Ga_chosen Sa Sa_roundEdges Sa_values cI cC cS G_known G_sent G_newest G_chosen G_rule G_step S_roundEdges S_values S_nodes S_rounds) H → va_D A (sh_X4 Ga Ga_known Ga_sent Ga_newest Ga_chosen Sa Sa_roundEdges Sa_values cI cC cS G_known G_sent G_newest G_chosen G_rule G_step S_roundEdges S_values S_nodes S_rounds) → va_S A s.heap H locs → lv_has ls 3 [(0, .ref Ga), (2, .int x2)] → W p l e R s m args below meth c H locs 0 0 Q (F0 m 12 ls []) := by
    intro G_rule G_step n12
    induction n12 with
    | zero => intro x2 G_known G_sent G_newest H locs ls hf; cases (show (none : Option _) = some _ from hf)
    | succ n12 ih12 =>
      intro x2 G_known G_sent G_newest H locs ls hf hP hD hS hl
      rw [fX4_begin_l12] at hf
      refine lv_iload_n hx hb dX4_begin_12 rfl (lv_at hl 1 rfl) ?_
      refine lv_bipush (v := (8 : Int32)) hx hb dX4_begin_13 (by decide) ?_
      refine lv_icmp_ge (tgt := 48) hx hb dX4_begin_15 (by decide) (fun c1 => ?_) (fun c1 => ?_)
      · have hf := if_t c1 hf
        have hf := Option.some.inj hf
        subst hf
        exact rt_v hx hb hr hlocks hQ hK hP hD hS dX4_begin_48
      · have hf := if_f c1 hf
        refine lv_aload_n hx hb dX4_begin_18 rfl (lv_at hl 0 rfl) ?_
        refine va_get (D := D) (ci := 2) (v := .ref Ga_known) (C := RX4) (T := TX4) (N := 7) hx hb hts hi_X4 hown hK hP 0 rfl rfl 1 (by decide) q9 (fun _ h9 => h9) rfl dX4_begin_19 ?_
        refine lv_iload_n hx hb dX4_begin_22 rfl (lv_at hl 1 rfl) ?_
        refine lv_iload_n hx hb dX4_begin_23 rfl (lv_at hl 1 rfl) ?_
        refine cs_i (As := [.int x2]) (rest := [.int x2, .ref Ga_known]) hx hb hml hown hts hK hP hD hA hS (kX6_of l D cI cC cS  x2  (fX6_of x2) rfl) (va_cwS 1 hts gX4_begin_X6_of rfl rfl rfl (by decide +kernel) (by subst hR; exact ⟨Nat.le_of_ble_eq_true rfl, Nat.le_of_ble_eq_true rfl⟩)) rfl hl.1 rfl (Nat.le_of_ble_eq_true rfl) ⟨Nat.zero_le _, Nat.zero_le _⟩ dX4_begin_24 (fun H locs hP hD hS => ?_)
        obtain ⟨hz, hf⟩ := ck_some hf
        refine sx_iast (j := x2.toNatClampNeg) hx hb hK hP hD hS 1 0 rfl rfl (inb_vp hz) rfl dX4_begin_27 (sh_X4 Ga Ga_known Ga_sent Ga_newest Ga_chosen Sa Sa_roundEdges Sa_values cI cC cS (upd G_known x2.toNatClampNeg (fX6_of x2)) G_sent G_newest G_chosen G_rule G_step S_roundEdges S_values S_nodes S_rounds) rfl (fun H locs hP hD hS => ?_)
        refine lv_aload_n hx hb dX4_begin_28 rfl (lv_at hl 0 rfl) ?_
        refine va_get (D := D) (ci := 2) (v := .ref Ga_sent) (C := RX4) (T := TX4) (N := 7) hx hb hts hi_X4 hown hK hP 0 rfl rfl 2 (by decide) q15 (fun _ h9 => h9) rfl dX4_begin_29 ?_
        refine lv_iload_n hx hb dX4_begin_32 rfl (lv_at hl 1 rfl) ?_
        refine lv_iconst (v := (0 : Int32)) hx hb dX4_begin_33 (by decide) ?_
        obtain ⟨hz, hf⟩ := ck_some hf
        refine sx_iast (j := x2.toNatClampNeg) hx hb hK hP hD hS 2 0 rfl rfl (inb_vp hz) rfl dX4_begin_34 (sh_X4 Ga Ga_known Ga_sent Ga_newest Ga_chosen Sa Sa_roundEdges Sa_values cI cC cS (upd G_known x2.toNatClampNeg (fX6_of x2)) (upd G_sent x2.toNatClampNeg (0 : Int32)) G_newest G_chosen G_rule G_step S_roundEdges S_values S_nodes S_rounds) rfl (fun H locs hP hD hS => ?_)
        refine lv_aload_n hx hb dX4_begin_35 rfl (lv_at hl 0 rfl) ?_
        refine va_get (D := D) (ci := 2) (v := .ref Ga_newest) (C := RX4) (T := TX4) (N := 7) hx hb hts hi_X4 hown hK hP 0 rfl rfl 3 (by decide) q18 (fun _ h9 => h9) rfl dX4_begin_36 ?_
        refine lv_iload_n hx hb dX4_begin_39 rfl (lv_at hl 1 rfl) ?_
        refine lv_iload_n hx hb dX4_begin_40 rfl (lv_at hl 1 rfl) ?_
        obtain ⟨hz, hf⟩ := ck_some hf
        refine sx_iast (j := x2.toNatClampNeg) hx hb hK hP hD hS 3 0 rfl rfl (inb_vp hz) rfl dX4_begin_41 (sh_X4 Ga Ga_known Ga_sent Ga_newest Ga_chosen Sa Sa_roundEdges Sa_values cI cC cS (upd G_known x2.toNatClampNeg (fX6_of x2)) (upd G_sent x2.toNatClampNeg (0 : Int32)) (upd G_newest x2.toNatClampNeg x2) G_chosen G_rule G_step S_roundEdges S_values S_nodes S_rounds) rfl (fun H locs hP hD hS => ?_)
        refine lv_iinc (v := (x2 + 1)) (lv' := [(2, .int (x2 + 1)), (0, .ref Ga)]) hx hb dX4_begin_42 hl (k := 1) rfl rfl (by decide) rfl (fun ls hl => ?_)
        refine lv_goto (tgt := 12) hx hb dX4_begin_45 (by decide) ?_
        exact ih12 (x2 + 1) (upd G_known x2.toNatClampNeg (fX6_of x2)) (upd G_sent x2.toNatClampNeg (0 : Int32)) (upd G_newest x2.toNatClampNeg x2) _ _ _ hf hP hD hS (lv_sub hl [1, 0] rfl)
  refine lv_aload_n hx hb dX4_begin_0 rfl (lv_at hl 0 rfl) ?_
  refine lv_iload_n hx hb dX4_begin_1 rfl (lv_at hl 1 rfl) ?_
  refine sx_put (D := D) (ci := 2) (v := .int x1) (ty := .int) (C := RX4) (T := TX4) (N := 7) hx hb hts hi_X4 tyX4 tyX4_ok nmX4 hown hK hP hD hS 0 rfl rfl 5 (by decide) q28 (fun _ h9 => h9) rfl (by decide +kernel) rfl rfl (Nat.le_of_ble_eq_true rfl) dX4_begin_2 (sh_X4 Ga Ga_known Ga_sent Ga_newest Ga_chosen Sa Sa_roundEdges Sa_values cI cC cS G_known G_sent G_newest G_chosen x1 G_step S_roundEdges S_values S_nodes S_rounds) rfl (fun H locs hP hD hS => ?_)
  refine lv_aload_n hx hb dX4_begin_5 rfl (lv_at hl 0 rfl) ?_
  refine lv_iconst (v := (0 : Int32)) hx hb dX4_begin_6 (by decide) ?_
  refine sx_put (D := D) (ci := 2) (v := .int (0 : Int32)) (ty := .int) (C := RX4) (T := TX4) (N := 7) hx hb hts hi_X4 tyX4 tyX4_ok nmX4 hown hK hP hD hS 0 rfl rfl 6 (by decide) q32 (fun _ h9 => h9) rfl (by decide +kernel) rfl rfl (Nat.le_of_ble_eq_true rfl) dX4_begin_7 (sh_X4 Ga Ga_known Ga_sent Ga_newest Ga_chosen Sa Sa_roundEdges Sa_values cI cC cS G_known G_sent G_newest G_chosen x1 (0 : Int32) S_roundEdges S_values S_nodes S_rounds) rfl (fun H locs hP hD hS => ?_)
  refine lv_iconst (v := (0 : Int32)) hx hb dX4_begin_10 (by decide) ?_
  refine lv_istore_n (lv' := [(2, .int (0 : Int32)), (0, .ref Ga), (1, .int x1)]) hx hb dX4_begin_11 rfl hl (by decide) rfl (fun ls hl => ?_)
  exact L12 x1 (0 : Int32) fuel (0 : Int32) G_known G_sent G_newest _ _ _ hf hP hD hS (lv_sub hl [1, 0] rfl)
set_option maxRecDepth 100000 in
set_option maxHeartbeats 4000000 in
theorem kX4_choice (l : Launch) (D : va_G) (cI cC cS : ClassId) (Ga Ga_known Ga_sent Ga_newest Ga_chosen Sa Sa_roundEdges Sa_values : Nat) (x1 : Int32) (G_known : Nat → Int32) (G_sent : Nat → Int32) (G_newest : Nat → Int32) (G_chosen : Nat → Int32) (G_rule : Int32) (G_step : Int32) (S_roundEdges : Nat → Int32) (S_values : Nat → Int32) (S_nodes : Int32) (S_rounds : Int32) (o : Int32) (hf : fX4_choice x1 G_known G_sent G_newest G_rule G_step S_nodes = some o) : CI l D yX4_choice wsX4_choice ({ frames := 2, cells := 0, slots := 0, locals := 42 } : Room) (tysK cI cC cS) [.ref Ga, .int x1] (sh_X4 Ga Ga_known Ga_sent Ga_newest Ga_chosen Sa Sa_roundEdges Sa_values cI cC cS G_known G_sent G_newest G_chosen G_rule G_step S_roundEdges S_values S_nodes S_rounds) o (sh_X4 Ga Ga_known Ga_sent Ga_newest Ga_chosen Sa Sa_roundEdges Sa_values cI cC cS G_known G_sent G_newest G_chosen G_rule G_step S_roundEdges S_values S_nodes S_rounds) := by
  refine met_i (cc := cX4_choice) (maxL := 3) (ret := (some .int)) (by decide) rfl (Nat.le_of_ble_eq_true rfl) ?_
  intro p e s m args below meth c R Q A F hR hQ hP hK hD hA hS ls hl
  obtain ⟨hx, hb, hr, hts, hml, hlocks, hown⟩ := F
  have hown : s.vm.findClass RX4 = some m.cls := hown
  have hi_X4 : ∀ w ∈ u_ws RX4 TX4 7, w ∈ wsX4_choice := fun w h => List.mem_cons_of_mem _ (List.mem_append_left _ (List.mem_append_right _ h))
  have q28 := hts (.fieldLink RX4 28 "ChangingRounds$Gossip" "rule" "I") (by decide +kernel)
  have q9 := hts (.fieldLink RX4 9 "ChangingRounds$Gossip" "known" "[I") (by decide +kernel)
  have q15 := hts (.fieldLink RX4 15 "ChangingRounds$Gossip" "sent" "[I") (by decide +kernel)
  have q18 := hts (.fieldLink RX4 18 "ChangingRounds$Gossip" "newest" "[I") (by decide +kernel)
  have q24 := hts (.fieldLink RX4 24 "ChangingRounds$Gossip" "schedule" "LChangingRounds$Schedule;") (by decide +kernel)
  have q32 := hts (.fieldLink RX4 32 "ChangingRounds$Gossip" "step" "I") (by decide +kernel)
  have hl : lv_has ls 3 [(0, .ref Ga), (1, .int x1)] := hl
  unfold fX4_choice at hf
  have J82 : ∀ (y0 : Int32) (H : Heap) (locs : List Loc) (ls : Array Slot), fX4_choice_b82 x1 y0 G_known = some o → va_P D vwCl (sh_X4 Ga Ga_known Ga_sent Ga_newest Ga_chosen Sa Sa_roundEdges Sa_values cI cC cS G_known G_sent G_newest G_chosen G_rule G_step S_roundEdges S_values S_nodes S_rounds) H → va_D A (sh_X4 Ga Ga_known Ga_sent Ga_newest Ga_chosen Sa Sa_roundEdges Sa_values cI cC cS G_known G_sent G_newest G_chosen G_rule G_step S_roundEdges S_values S_nodes S_rounds) → va_S A s.heap H locs → lv_has ls 3 [(0, .ref Ga), (1, .int x1)] → W p l e R s m args below meth c H locs 0 0 Q (F0 m 82 ls [.int y0]) := by
    intro y0 H locs ls hf hP hD hS hl
    unfold fX4_choice_b82 at hf
    refine lv_istore_n (lv' := [(2, .int y0), (0, .ref Ga), (1, .int x1)]) hx hb dX4_choice_82 rfl hl (by decide) rfl (fun ls hl => ?_)
    refine lv_aload_n hx hb dX4_choice_83 rfl (lv_at hl 1 rfl) ?_
    refine va_get (D := D) (ci := 2) (v := .ref Ga_known) (C := RX4) (T := TX4) (N := 7) hx hb hts hi_X4 hown hK hP 0 rfl rfl 1 (by decide) q9 (fun _ h9 => h9) rfl dX4_choice_84 ?_
    refine lv_iload_n hx hb dX4_choice_87 rfl (lv_at hl 2 rfl) ?_
    obtain ⟨hz, hf⟩ := ck_some hf
    refine sx_iald (j := x1.toNatClampNeg) hx hb hK hP 1 0 rfl rfl (inb_vp hz) rfl dX4_choice_88 ?_
    refine lv_iload_n hx hb dX4_choice_89 rfl (lv_at hl 0 rfl) ?_
    refine cs_i (As := [.int (G_known x1.toNatClampNeg), .int y0]) (rest := []) hx hb hml hown hts hK hP hD hA hS (kX6_has l D cI cC cS  (G_known x1.toNatClampNeg) y0  (fX6_has (G_known x1.toNatClampNeg) y0) rfl) (va_cwS 2 hts gX4_choice_X6_has rfl rfl rfl (by decide +kernel) (by subst hR; exact ⟨Nat.le_of_ble_eq_true rfl, Nat.le_of_ble_eq_true rfl⟩)) rfl hl.1 rfl (Nat.le_of_ble_eq_true rfl) ⟨Nat.zero_le _, Nat.zero_le _⟩ dX4_choice_90 (fun H locs hP hD hS => ?_)
    refine lv_if_eq (tgt := 100) hx hb dX4_choice_93 (by decide) (fun c1 => ?_) (fun c1 => ?_)
    · have hf := if_t c1 hf
      refine lv_iload_n hx hb dX4_choice_100 rfl (lv_at hl 2 rfl) ?_
      have hf := Option.some.inj hf
      subst hf
      exact rt_i hx hb hr hlocks hQ hK hP hD hS rfl dX4_choice_101
    · have hf := if_f c1 hf
      refine lv_iload_n hx hb dX4_choice_96 rfl (lv_at hl 0 rfl) ?_
      refine lv_goto (tgt := 101) hx hb dX4_choice_97 (by decide) ?_
      have hf := Option.some.inj hf
      subst hf
      exact rt_i hx hb hr hlocks hQ hK hP hD hS rfl dX4_choice_101
  have J37 : ∀ (y0 : Int32) (H : Heap) (locs : List Loc) (ls : Array Slot), fX4_choice_b37 y0 = some o → va_P D vwCl (sh_X4 Ga Ga_known Ga_sent Ga_newest Ga_chosen Sa Sa_roundEdges Sa_values cI cC cS G_known G_sent G_newest G_chosen G_rule G_step S_roundEdges S_values S_nodes S_rounds) H → va_D A (sh_X4 Ga Ga_known Ga_sent Ga_newest Ga_chosen Sa Sa_roundEdges Sa_values cI cC cS G_known G_sent G_newest G_chosen G_rule G_step S_roundEdges S_values S_nodes S_rounds) → va_S A s.heap H locs → lv_has ls 3 [] → W p l e R s m args below meth c H locs 0 0 Q (F0 m 37 ls [.int y0]) := by
    intro y0 H locs ls hf hP hD hS hl
    unfold fX4_choice_b37 at hf
    obtain ⟨o2, ho2, hf⟩ := bd_some hf
    refine cs_i (As := [.int y0]) (rest := []) hx hb hml hown hts hK hP hD hA hS (kX6_smallest l D cI cC cS  y0  o2 ho2) (va_cwS 1 hts gX4_choice_X6_smallest rfl rfl rfl (by decide +kernel) (by subst hR; exact ⟨Nat.le_of_ble_eq_true rfl, Nat.le_of_ble_eq_true rfl⟩)) rfl hl.1 rfl (Nat.le_of_ble_eq_true rfl) ⟨Nat.zero_le _, Nat.zero_le _⟩ dX4_choice_37 (fun H locs hP hD hS => ?_)
    have hf := Option.some.inj hf
    subst hf
    exact rt_i hx hb hr hlocks hQ hK hP hD hS rfl dX4_choice_40
  refine lv_aload_n hx hb dX4_choice_0 rfl (lv_at hl 0 rfl) ?_
  refine va_get (D := D) (ci := 2) (v := .int G_rule) (C := RX4) (T := TX4) (N := 7) hx hb hts hi_X4 hown hK hP 0 rfl rfl 5 (by decide) q28 (fun _ h9 => h9) rfl dX4_choice_1 ?_
  refine lv_if_ne (tgt := 41) hx hb dX4_choice_4 (by decide) (fun c3 => ?_) (fun c3 => ?_)
  · have hf := if_f c3 hf
    refine lv_aload_n hx hb dX4_choice_41 rfl (lv_at hl 0 rfl) ?_
    refine va_get (D := D) (ci := 2) (v := .int G_rule) (C := RX4) (T := TX4) (N := 7) hx hb hts hi_X4 hown hK hP 0 rfl rfl 5 (by decide) q28 (fun _ h9 => h9) rfl dX4_choice_42 ?_
    refine lv_iconst (v := (1 : Int32)) hx hb dX4_choice_45 (by decide) ?_
    refine lv_icmp_ne (tgt := 56) hx hb dX4_choice_46 (by decide) (fun c4 => ?_) (fun c4 => ?_)
    · have hf := if_f c4 hf
      refine lv_aload_n hx hb dX4_choice_56 rfl (lv_at hl 0 rfl) ?_
      refine va_get (D := D) (ci := 2) (v := .ref Sa) (C := RX4) (T := TX4) (N := 7) hx hb hts hi_X4 hown hK hP 0 rfl rfl 0 (by decide) q24 (fun _ h9 => h9) rfl dX4_choice_57 ?_
      refine cv_i (ci := 4) (q := (RX7, TX7, 4)) (As := []) (rest := []) hx hb hml hown hts hK hP hD hA hS (kX7_nodes l D cI cC cS Sa Sa_roundEdges Sa_values  S_roundEdges S_values S_nodes S_rounds (fX7_nodes S_nodes) rfl) (cwV 0 hts gX4_choice_X7_nodes rfl rfl rfl (by decide +kernel) (by subst hR; exact ⟨Nat.le_of_ble_eq_true rfl, Nat.le_of_ble_eq_true rfl⟩)) [5, 6, 7] [0, 1, 2, 3, 4] [0, 1, 2, 3, 4, 5, 6, 7] [(Ga, .inr (2, [.ref Sa, .ref Ga_known, .ref Ga_sent, .ref Ga_newest, .ref Ga_chosen, .int G_rule, .int G_step])), (Ga_known, .inl (cI, 8, .inl G_known)), (Ga_sent, .inl (cI, 8, .inl G_sent)), (Ga_newest, .inl (cI, 8, .inl G_newest)), (Ga_chosen, .inl (cI, 8, .inl G_chosen))] (sh_X4 Ga Ga_known Ga_sent Ga_newest Ga_chosen Sa Sa_roundEdges Sa_values cI cC cS G_known G_sent G_newest G_chosen G_rule G_step S_roundEdges S_values S_nodes S_rounds) rfl rfl rfl rfl (by decide) rfl rfl rfl rfl rfl rfl hl.1 rfl (Nat.le_of_ble_eq_true rfl) ⟨Nat.zero_le _, Nat.zero_le _⟩ dX4_choice_60 (fun H locs hP hD hS => ?_)
      refine lv_if_le (tgt := 81) hx hb dX4_choice_63 (by decide) (fun c5 => ?_) (fun c5 => ?_)
      · have hf := if_t c5 hf
        refine lv_iload_n hx hb dX4_choice_81 rfl (lv_at hl 1 rfl) ?_
        exact J82 x1 _ _ _ hf hP hD hS (lv_sub hl [0, 1] rfl)
      · have hf := if_f c5 hf
        refine lv_aload_n hx hb dX4_choice_66 rfl (lv_at hl 0 rfl) ?_
        refine va_get (D := D) (ci := 2) (v := .int G_step) (C := RX4) (T := TX4) (N := 7) hx hb hts hi_X4 hown hK hP 0 rfl rfl 6 (by decide) q32 (fun _ h9 => h9) rfl dX4_choice_67 ?_
        refine lv_aload_n hx hb dX4_choice_70 rfl (lv_at hl 0 rfl) ?_
        refine va_get (D := D) (ci := 2) (v := .ref Sa) (C := RX4) (T := TX4) (N := 7) hx hb hts hi_X4 hown hK hP 0 rfl rfl 0 (by decide) q24 (fun _ h9 => h9) rfl dX4_choice_71 ?_
        refine cv_i (ci := 4) (q := (RX7, TX7, 4)) (As := []) (rest := [.int G_step]) hx hb hml hown hts hK hP hD hA hS (kX7_nodes l D cI cC cS Sa Sa_roundEdges Sa_values  S_roundEdges S_values S_nodes S_rounds (fX7_nodes S_nodes) rfl) (cwV 0 hts gX4_choice_X7_nodes rfl rfl rfl (by decide +kernel) (by subst hR; exact ⟨Nat.le_of_ble_eq_true rfl, Nat.le_of_ble_eq_true rfl⟩)) [5, 6, 7] [0, 1, 2, 3, 4] [0, 1, 2, 3, 4, 5, 6, 7] [(Ga, .inr (2, [.ref Sa, .ref Ga_known, .ref Ga_sent, .ref Ga_newest, .ref Ga_chosen, .int G_rule, .int G_step])), (Ga_known, .inl (cI, 8, .inl G_known)), (Ga_sent, .inl (cI, 8, .inl G_sent)), (Ga_newest, .inl (cI, 8, .inl G_newest)), (Ga_chosen, .inl (cI, 8, .inl G_chosen))] (sh_X4 Ga Ga_known Ga_sent Ga_newest Ga_chosen Sa Sa_roundEdges Sa_values cI cC cS G_known G_sent G_newest G_chosen G_rule G_step S_roundEdges S_values S_nodes S_rounds) rfl rfl rfl rfl (by decide) rfl rfl rfl rfl rfl rfl hl.1 rfl (Nat.le_of_ble_eq_true rfl) ⟨Nat.zero_le _, Nat.zero_le _⟩ dX4_choice_74 (fun H locs hP hD hS => ?_)
        obtain ⟨hz, hf⟩ := ck_some hf
        refine lv_irem hx hb dX4_choice_77 (nz_ne hz) ?_
        refine lv_goto (tgt := 82) hx hb dX4_choice_78 (by decide) ?_
        exact J82 (G_step - G_step / (fX7_nodes S_nodes) * (fX7_nodes S_nodes)) _ _ _ hf hP hD hS (lv_sub hl [0, 1] rfl)
    · have hf := if_t c4 hf
      refine lv_aload_n hx hb dX4_choice_49 rfl (lv_at hl 0 rfl) ?_
      refine va_get (D := D) (ci := 2) (v := .ref Ga_newest) (C := RX4) (T := TX4) (N := 7) hx hb hts hi_X4 hown hK hP 0 rfl rfl 3 (by decide) q18 (fun _ h9 => h9) rfl dX4_choice_50 ?_
      refine lv_iload_n hx hb dX4_choice_53 rfl (lv_at hl 1 rfl) ?_
      obtain ⟨hz, hf⟩ := ck_some hf
      refine sx_iald (j := x1.toNatClampNeg) hx hb hK hP 3 0 rfl rfl (inb_vp hz) rfl dX4_choice_54 ?_
      have hf := Option.some.inj hf
      subst hf
      exact rt_i hx hb hr hlocks hQ hK hP hD hS rfl dX4_choice_55
  · have hf := if_t c3 hf
    refine lv_aload_n hx hb dX4_choice_7 rfl (lv_at hl 0 rfl) ?_
    refine va_get (D := D) (ci := 2) (v := .ref Ga_known) (C := RX4) (T := TX4) (N := 7) hx hb hts hi_X4 hown hK hP 0 rfl rfl 1 (by decide) q9 (fun _ h9 => h9) rfl dX4_choice_8 ?_
    refine lv_iload_n hx hb dX4_choice_11 rfl (lv_at hl 1 rfl) ?_
    obtain ⟨hz, hf⟩ := ck_some hf
    refine sx_iald (j := x1.toNatClampNeg) hx hb hK hP 1 0 rfl rfl (inb_vp hz) rfl dX4_choice_12 ?_
    refine lv_aload_n hx hb dX4_choice_13 rfl (lv_at hl 0 rfl) ?_
    refine va_get (D := D) (ci := 2) (v := .ref Ga_sent) (C := RX4) (T := TX4) (N := 7) hx hb hts hi_X4 hown hK hP 0 rfl rfl 2 (by decide) q15 (fun _ h9 => h9) rfl dX4_choice_14 ?_
    refine lv_iload_n hx hb dX4_choice_17 rfl (lv_at hl 1 rfl) ?_
    obtain ⟨hz, hf⟩ := ck_some hf
    refine sx_iald (j := x1.toNatClampNeg) hx hb hK hP 2 0 rfl rfl (inb_vp hz) rfl dX4_choice_18 ?_
    refine lv_iconst (v := (-1 : Int32)) hx hb dX4_choice_19 (by decide) ?_
    refine lv_ixor hx hb dX4_choice_20 ?_
    refine lv_iand hx hb dX4_choice_21 ?_
    refine lv_istore_n (lv' := [(2, .int ((G_known x1.toNatClampNeg) &&& ((G_sent x1.toNatClampNeg) ^^^ (-1 : Int32)))), (0, .ref Ga), (1, .int x1)]) hx hb dX4_choice_22 rfl hl (by decide) rfl (fun ls hl => ?_)
    refine lv_iload_n hx hb dX4_choice_23 rfl (lv_at hl 0 rfl) ?_
    refine lv_if_eq (tgt := 31) hx hb dX4_choice_24 (by decide) (fun c6 => ?_) (fun c6 => ?_)
    · have hf := if_t c6 hf
      refine lv_aload_n hx hb dX4_choice_31 rfl (lv_at hl 1 rfl) ?_
      refine va_get (D := D) (ci := 2) (v := .ref Ga_known) (C := RX4) (T := TX4) (N := 7) hx hb hts hi_X4 hown hK hP 0 rfl rfl 1 (by decide) q9 (fun _ h9 => h9) rfl dX4_choice_32 ?_
      refine lv_iload_n hx hb dX4_choice_35 rfl (lv_at hl 2 rfl) ?_
      obtain ⟨hz, hf⟩ := ck_some hf
      refine sx_iald (j := x1.toNatClampNeg) hx hb hK hP 1 0 rfl rfl (inb_vp hz) rfl dX4_choice_36 ?_
      exact J37 (G_known x1.toNatClampNeg) _ _ _ hf hP hD hS (lv_sub hl [] rfl)
    · have hf := if_f c6 hf
      refine lv_iload_n hx hb dX4_choice_27 rfl (lv_at hl 0 rfl) ?_
      refine lv_goto (tgt := 37) hx hb dX4_choice_28 (by decide) ?_
      exact J37 ((G_known x1.toNatClampNeg) &&& ((G_sent x1.toNatClampNeg) ^^^ (-1 : Int32))) _ _ _ hf hP hD hS (lv_sub hl [] rfl)
set_option maxRecDepth 100000 in
set_option maxHeartbeats 4000000 in
theorem kX4_tokensSentBy (l : Launch) (D : va_G) (cI cC cS : ClassId) (Ga Ga_known Ga_sent Ga_newest Ga_chosen Sa Sa_roundEdges Sa_values : Nat) (x1 : Int32) (G_known : Nat → Int32) (G_sent : Nat → Int32) (G_newest : Nat → Int32) (G_chosen : Nat → Int32) (G_rule : Int32) (G_step : Int32) (S_roundEdges : Nat → Int32) (S_values : Nat → Int32) (S_nodes : Int32) (S_rounds : Int32) (o : Int32) (hf : fX4_tokensSentBy x1 G_chosen S_nodes = some o) : CI l D yX4_tokensSentBy wsX4_tokensSentBy ({ frames := 1, cells := 0, slots := 0, locals := 21 } : Room) (tysK cI cC cS) [.ref Ga, .int x1] (sh_X4 Ga Ga_known Ga_sent Ga_newest Ga_chosen Sa Sa_roundEdges Sa_values cI cC cS G_known G_sent G_newest G_chosen G_rule G_step S_roundEdges S_values S_nodes S_rounds) o (sh_X4 Ga Ga_known Ga_sent Ga_newest Ga_chosen Sa Sa_roundEdges Sa_values cI cC cS G_known G_sent G_newest G_chosen G_rule G_step S_roundEdges S_values S_nodes S_rounds) := by
  refine met_i (cc := cX4_tokensSentBy) (maxL := 4) (ret := (some .int)) (by decide) rfl (Nat.le_of_ble_eq_true rfl) ?_
  intro p e s m args below meth c R Q A F hR hQ hP hK hD hA hS ls hl
  obtain ⟨hx, hb, hr, hts, hml, hlocks, hown⟩ := F
  have hown : s.vm.findClass RX4 = some m.cls := hown
  have hi_X4 : ∀ w ∈ u_ws RX4 TX4 7, w ∈ wsX4_tokensSentBy := fun w h => List.mem_cons_of_mem _ (List.mem_append_left _ (List.mem_append_right _ h))
  have q24 := hts (.fieldLink RX4 24 "ChangingRounds$Gossip" "schedule" "LChangingRounds$Schedule;") (by decide +kernel)
  have q21 := hts (.fieldLink RX4 21 "ChangingRounds$Gossip" "chosen" "[I") (by decide +kernel)
  have hl : lv_has ls 4 [(0, .ref Ga), (1, .int x1)] := hl
  unfold fX4_tokensSentBy at hf
  have L4 : ∀ (n4 : Nat) (x2 : Int32) (x3 : Int32) (H : Heap) (locs : List Loc) (ls : Array Slot), fX4_tokensSentBy_l4 x1 G_chosen S_nodes n4 x2 x3 = some o → va_P D vwCl (sh_X4 Ga Ga_known Ga_sent Ga_newest Ga_chosen Sa Sa_roundEdges Sa_values cI cC cS G_known G_sent G_newest G_chosen G_rule G_step S_roundEdges S_values S_nodes S_rounds) H → va_D A (sh_X4 Ga Ga_known Ga_sent Ga_newest Ga_chosen Sa Sa_roundEdges Sa_values cI cC cS G_known G_sent G_newest G_chosen G_rule G_step S_roundEdges S_values S_nodes S_rounds) → va_S A s.heap H locs → lv_has ls 4 [(0, .ref Ga), (1, .int x1), (2, .int x2), (3, .int x3)] → W p l e R s m args below meth c H locs 0 0 Q (F0 m 4 ls []) := by
    intro n4
    induction n4 with
    | zero => intro x2 x3 H locs ls hf; cases (show (none : Option _) = some _ from hf)
    | succ n4 ih4 =>
      intro x2 x3 H locs ls hf hP hD hS hl
      rw [fX4_tokensSentBy_l4] at hf
      refine lv_iload_n hx hb dX4_tokensSentBy_4 rfl (lv_at hl 3 rfl) ?_
      refine lv_aload_n hx hb dX4_tokensSentBy_5 rfl (lv_at hl 0 rfl) ?_
      refine va_get (D := D) (ci := 2) (v := .ref Sa) (C := RX4) (T := TX4) (N := 7) hx hb hts hi_X4 hown hK hP 0 rfl rfl 0 (by decide) q24 (fun _ h9 => h9) rfl dX4_tokensSentBy_6 ?_
      refine cv_i (ci := 4) (q := (RX7, TX7, 4)) (As := []) (rest := [.int x3]) hx hb hml hown hts hK hP hD hA hS (kX7_nodes l D cI cC cS Sa Sa_roundEdges Sa_values  S_roundEdges S_values S_nodes S_rounds (fX7_nodes S_nodes) rfl) (cwV 0 hts gX4_tokensSentBy_X7_nodes rfl rfl rfl (by decide +kernel) (by subst hR; exact ⟨Nat.le_of_ble_eq_true rfl, Nat.le_of_ble_eq_true rfl⟩)) [5, 6, 7] [0, 1, 2, 3, 4] [0, 1, 2, 3, 4, 5, 6, 7] [(Ga, .inr (2, [.ref Sa, .ref Ga_known, .ref Ga_sent, .ref Ga_newest, .ref Ga_chosen, .int G_rule, .int G_step])), (Ga_known, .inl (cI, 8, .inl G_known)), (Ga_sent, .inl (cI, 8, .inl G_sent)), (Ga_newest, .inl (cI, 8, .inl G_newest)), (Ga_chosen, .inl (cI, 8, .inl G_chosen))] (sh_X4 Ga Ga_known Ga_sent Ga_newest Ga_chosen Sa Sa_roundEdges Sa_values cI cC cS G_known G_sent G_newest G_chosen G_rule G_step S_roundEdges S_values S_nodes S_rounds) rfl rfl rfl rfl (by decide) rfl rfl rfl rfl rfl rfl hl.1 rfl (Nat.le_of_ble_eq_true rfl) ⟨Nat.zero_le _, Nat.zero_le _⟩ dX4_tokensSentBy_9 (fun H locs hP hD hS => ?_)
      refine lv_icmp_ge (tgt := 41) hx hb dX4_tokensSentBy_12 (by decide) (fun c1 => ?_) (fun c1 => ?_)
      · have hf := if_t c1 hf
        refine lv_iload_n hx hb dX4_tokensSentBy_41 rfl (lv_at hl 2 rfl) ?_
        have hf := Option.some.inj hf
        subst hf
        exact rt_i hx hb hr hlocks hQ hK hP hD hS rfl dX4_tokensSentBy_42
      · have hf := if_f c1 hf
        refine lv_iload_n hx hb dX4_tokensSentBy_15 rfl (lv_at hl 1 rfl) ?_
        refine lv_iload_n hx hb dX4_tokensSentBy_16 rfl (lv_at hl 3 rfl) ?_
        refine cs_i (As := [.int x1, .int x3]) (rest := []) hx hb hml hown hts hK hP hD hA hS (kX6_has l D cI cC cS  x1 x3  (fX6_has x1 x3) rfl) (va_cwS 2 hts gX4_tokensSentBy_X6_has rfl rfl rfl (by decide +kernel) (by subst hR; exact ⟨Nat.le_of_ble_eq_true rfl, Nat.le_of_ble_eq_true rfl⟩)) rfl hl.1 rfl (Nat.le_of_ble_eq_true rfl) ⟨Nat.zero_le _, Nat.zero_le _⟩ dX4_tokensSentBy_17 (fun H locs hP hD hS => ?_)
        refine lv_if_eq (tgt := 35) hx hb dX4_tokensSentBy_20 (by decide) (fun c2 => ?_) (fun c2 => ?_)
        · have hf := if_t c2 hf
          refine lv_iinc (v := (x3 + 1)) (lv' := [(3, .int (x3 + 1)), (0, .ref Ga), (1, .int x1), (2, .int x2)]) hx hb dX4_tokensSentBy_35 hl (k := 3) rfl rfl (by decide) rfl (fun ls hl => ?_)
          refine lv_goto (tgt := 4) hx hb dX4_tokensSentBy_38 (by decide) ?_
          exact ih4 x2 (x3 + 1) _ _ _ hf hP hD hS (lv_sub hl [1, 2, 3, 0] rfl)
        · have hf := if_f c2 hf
          refine lv_iload_n hx hb dX4_tokensSentBy_23 rfl (lv_at hl 2 rfl) ?_
          refine lv_aload_n hx hb dX4_tokensSentBy_24 rfl (lv_at hl 0 rfl) ?_
          refine va_get (D := D) (ci := 2) (v := .ref Ga_chosen) (C := RX4) (T := TX4) (N := 7) hx hb hts hi_X4 hown hK hP 0 rfl rfl 4 (by decide) q21 (fun _ h9 => h9) rfl dX4_tokensSentBy_25 ?_
          refine lv_iload_n hx hb dX4_tokensSentBy_28 rfl (lv_at hl 3 rfl) ?_
          obtain ⟨hz, hf⟩ := ck_some hf
          refine sx_iald (j := x3.toNatClampNeg) hx hb hK hP 4 0 rfl rfl (inb_vp hz) rfl dX4_tokensSentBy_29 ?_
          refine cs_i (As := [.int (G_chosen x3.toNatClampNeg)]) (rest := [.int x2]) hx hb hml hown hts hK hP hD hA hS (kX6_of l D cI cC cS  (G_chosen x3.toNatClampNeg)  (fX6_of (G_chosen x3.toNatClampNeg)) rfl) (va_cwS 1 hts gX4_tokensSentBy_X6_of rfl rfl rfl (by decide +kernel) (by subst hR; exact ⟨Nat.le_of_ble_eq_true rfl, Nat.le_of_ble_eq_true rfl⟩)) rfl hl.1 rfl (Nat.le_of_ble_eq_true rfl) ⟨Nat.zero_le _, Nat.zero_le _⟩ dX4_tokensSentBy_30 (fun H locs hP hD hS => ?_)
          refine lv_ior hx hb dX4_tokensSentBy_33 ?_
          refine lv_istore_n (lv' := [(2, .int (x2 ||| (fX6_of (G_chosen x3.toNatClampNeg)))), (0, .ref Ga), (1, .int x1), (3, .int x3)]) hx hb dX4_tokensSentBy_34 rfl hl (by decide) rfl (fun ls hl => ?_)
          refine lv_iinc (v := (x3 + 1)) (lv' := [(3, .int (x3 + 1)), (2, .int (x2 ||| (fX6_of (G_chosen x3.toNatClampNeg)))), (0, .ref Ga), (1, .int x1)]) hx hb dX4_tokensSentBy_35 hl (k := 3) rfl rfl (by decide) rfl (fun ls hl => ?_)
          refine lv_goto (tgt := 4) hx hb dX4_tokensSentBy_38 (by decide) ?_
          exact ih4 (x2 ||| (fX6_of (G_chosen x3.toNatClampNeg))) (x3 + 1) _ _ _ hf hP hD hS (lv_sub hl [2, 3, 1, 0] rfl)
  refine lv_iconst (v := (0 : Int32)) hx hb dX4_tokensSentBy_0 (by decide) ?_
  refine lv_istore_n (lv' := [(2, .int (0 : Int32)), (0, .ref Ga), (1, .int x1)]) hx hb dX4_tokensSentBy_1 rfl hl (by decide) rfl (fun ls hl => ?_)
  refine lv_iconst (v := (0 : Int32)) hx hb dX4_tokensSentBy_2 (by decide) ?_
  refine lv_istore_n (lv' := [(3, .int (0 : Int32)), (2, .int (0 : Int32)), (0, .ref Ga), (1, .int x1)]) hx hb dX4_tokensSentBy_3 rfl hl (by decide) rfl (fun ls hl => ?_)
  exact L4  fuel (0 : Int32) (0 : Int32) _ _ _ hf hP hD hS (lv_sub hl [2, 3, 1, 0] rfl)
set_option maxRecDepth 100000 in
set_option maxHeartbeats 4000000 in
theorem kX4_learn (l : Launch) (D : va_G) (cI cC cS : ClassId) (Ga Ga_known Ga_sent Ga_newest Ga_chosen Sa Sa_roundEdges Sa_values : Nat) (x1 : Int32) (x2 : Int32) (G_known : Nat → Int32) (G_sent : Nat → Int32) (G_newest : Nat → Int32) (G_chosen : Nat → Int32) (G_rule : Int32) (G_step : Int32) (S_roundEdges : Nat → Int32) (S_values : Nat → Int32) (S_nodes : Int32) (S_rounds : Int32) (o : (Nat → Int32) × (Nat → Int32)) (hf : fX4_learn x1 x2 G_known G_newest = some o) : CV l D yX4_learn wsX4_learn ({ frames := 2, cells := 0, slots := 0, locals := 42 } : Room) (tysK cI cC cS) [.ref Ga, .int x1, .int x2] (sh_X4 Ga Ga_known Ga_sent Ga_newest Ga_chosen Sa Sa_roundEdges Sa_values cI cC cS G_known G_sent G_newest G_chosen G_rule G_step S_roundEdges S_values S_nodes S_rounds) (sh_X4 Ga Ga_known Ga_sent Ga_newest Ga_chosen Sa Sa_roundEdges Sa_values cI cC cS o.1 G_sent o.2 G_chosen G_rule G_step S_roundEdges S_values S_nodes S_rounds) := by
  refine met_v (cc := cX4_learn) (maxL := 4) (ret := none) (by decide) rfl (Nat.le_of_ble_eq_true rfl) ?_
  intro p e s m args below meth c R Q A F hR hQ hP hK hD hA hS ls hl
  obtain ⟨hx, hb, hr, hts, hml, hlocks, hown⟩ := F
  have hown : s.vm.findClass RX4 = some m.cls := hown
  have hi_X4 : ∀ w ∈ u_ws RX4 TX4 7, w ∈ wsX4_learn := fun w h => List.mem_cons_of_mem _ (List.mem_append_right _ h)
  have q9 := hts (.fieldLink RX4 9 "ChangingRounds$Gossip" "known" "[I") (by decide +kernel)
  have q18 := hts (.fieldLink RX4 18 "ChangingRounds$Gossip" "newest" "[I") (by decide +kernel)
  have hl : lv_has ls 4 [(0, .ref Ga), (1, .int x1), (2, .int x2)] := hl
  unfold fX4_learn at hf
  refine lv_iload_n hx hb dX4_learn_0 rfl (lv_at hl 2 rfl) ?_
  refine lv_aload_n hx hb dX4_learn_1 rfl (lv_at hl 0 rfl) ?_
  refine va_get (D := D) (ci := 2) (v := .ref Ga_known) (C := RX4) (T := TX4) (N := 7) hx hb hts hi_X4 hown hK hP 0 rfl rfl 1 (by decide) q9 (fun _ h9 => h9) rfl dX4_learn_2 ?_
  refine lv_iload_n hx hb dX4_learn_5 rfl (lv_at hl 1 rfl) ?_
  obtain ⟨hz, hf⟩ := ck_some hf
  refine sx_iald (j := x1.toNatClampNeg) hx hb hK hP 1 0 rfl rfl (inb_vp hz) rfl dX4_learn_6 ?_
  refine lv_iconst (v := (-1 : Int32)) hx hb dX4_learn_7 (by decide) ?_
  refine lv_ixor hx hb dX4_learn_8 ?_
  refine lv_iand hx hb dX4_learn_9 ?_
  refine lv_istore_n (lv' := [(3, .int (x2 &&& ((G_known x1.toNatClampNeg) ^^^ (-1 : Int32)))), (0, .ref Ga), (1, .int x1), (2, .int x2)]) hx hb dX4_learn_10 rfl hl (by decide) rfl (fun ls hl => ?_)
  refine lv_iload_n hx hb dX4_learn_11 rfl (lv_at hl 0 rfl) ?_
  refine lv_if_eq (tgt := 35) hx hb dX4_learn_12 (by decide) (fun c1 => ?_) (fun c1 => ?_)
  · have hf := if_t c1 hf
    have hf := Option.some.inj hf
    subst hf
    exact rt_v hx hb hr hlocks hQ hK hP hD hS dX4_learn_35
  · have hf := if_f c1 hf
    refine lv_aload_n hx hb dX4_learn_15 rfl (lv_at hl 1 rfl) ?_
    refine va_get (D := D) (ci := 2) (v := .ref Ga_known) (C := RX4) (T := TX4) (N := 7) hx hb hts hi_X4 hown hK hP 0 rfl rfl 1 (by decide) q9 (fun _ h9 => h9) rfl dX4_learn_16 ?_
    refine lv_iload_n hx hb dX4_learn_19 rfl (lv_at hl 2 rfl) ?_
    refine lv_dup2_11 hx hb dX4_learn_20 rfl rfl ?_
    obtain ⟨hz, hf⟩ := ck_some hf
    refine sx_iald (j := x1.toNatClampNeg) hx hb hK hP 1 0 rfl rfl (inb_vp hz) rfl dX4_learn_21 ?_
    refine lv_iload_n hx hb dX4_learn_22 rfl (lv_at hl 0 rfl) ?_
    refine lv_ior hx hb dX4_learn_23 ?_
    obtain ⟨hz, hf⟩ := ck_some hf
    refine sx_iast (j := x1.toNatClampNeg) hx hb hK hP hD hS 1 0 rfl rfl (inb_vp hz) rfl dX4_learn_24 (sh_X4 Ga Ga_known Ga_sent Ga_newest Ga_chosen Sa Sa_roundEdges Sa_values cI cC cS (upd G_known x1.toNatClampNeg ((G_known x1.toNatClampNeg) ||| (x2 &&& ((G_known x1.toNatClampNeg) ^^^ (-1 : Int32))))) G_sent G_newest G_chosen G_rule G_step S_roundEdges S_values S_nodes S_rounds) rfl (fun H locs hP hD hS => ?_)
    refine lv_aload_n hx hb dX4_learn_25 rfl (lv_at hl 1 rfl) ?_
    refine va_get (D := D) (ci := 2) (v := .ref Ga_newest) (C := RX4) (T := TX4) (N := 7) hx hb hts hi_X4 hown hK hP 0 rfl rfl 3 (by decide) q18 (fun _ h9 => h9) rfl dX4_learn_26 ?_
    refine lv_iload_n hx hb dX4_learn_29 rfl (lv_at hl 2 rfl) ?_
    refine lv_iload_n hx hb dX4_learn_30 rfl (lv_at hl 0 rfl) ?_
    obtain ⟨o2, ho2, hf⟩ := bd_some hf
    refine cs_i (As := [.int (x2 &&& ((G_known x1.toNatClampNeg) ^^^ (-1 : Int32)))]) (rest := [.int x1, .ref Ga_newest]) hx hb hml hown hts hK hP hD hA hS (kX6_greatest l D cI cC cS  (x2 &&& ((G_known x1.toNatClampNeg) ^^^ (-1 : Int32)))  o2 ho2) (va_cwS 1 hts gX4_learn_X6_greatest rfl rfl rfl (by decide +kernel) (by subst hR; exact ⟨Nat.le_of_ble_eq_true rfl, Nat.le_of_ble_eq_true rfl⟩)) rfl hl.1 rfl (Nat.le_of_ble_eq_true rfl) ⟨Nat.zero_le _, Nat.zero_le _⟩ dX4_learn_31 (fun H locs hP hD hS => ?_)
    obtain ⟨hz, hf⟩ := ck_some hf
    refine sx_iast (j := x1.toNatClampNeg) hx hb hK hP hD hS 3 0 rfl rfl (inb_vp hz) rfl dX4_learn_34 (sh_X4 Ga Ga_known Ga_sent Ga_newest Ga_chosen Sa Sa_roundEdges Sa_values cI cC cS (upd G_known x1.toNatClampNeg ((G_known x1.toNatClampNeg) ||| (x2 &&& ((G_known x1.toNatClampNeg) ^^^ (-1 : Int32))))) G_sent (upd G_newest x1.toNatClampNeg o2) G_chosen G_rule G_step S_roundEdges S_values S_nodes S_rounds) rfl (fun H locs hP hD hS => ?_)
    have hf := Option.some.inj hf
    subst hf
    exact rt_v hx hb hr hlocks hQ hK hP hD hS dX4_learn_35
set_option maxRecDepth 100000 in
set_option maxHeartbeats 4000000 in
theorem kX4_advance (l : Launch) (D : va_G) (cI cC cS : ClassId) (Ga Ga_known Ga_sent Ga_newest Ga_chosen Sa Sa_roundEdges Sa_values : Nat) (G_known : Nat → Int32) (G_sent : Nat → Int32) (G_newest : Nat → Int32) (G_chosen : Nat → Int32) (G_rule : Int32) (G_step : Int32) (S_roundEdges : Nat → Int32) (S_values : Nat → Int32) (S_nodes : Int32) (S_rounds : Int32) (o : (Nat → Int32) × (Nat → Int32) × (Nat → Int32) × (Nat → Int32) × Int32) (hf : fX4_advance G_known G_sent G_newest G_chosen G_rule G_step S_roundEdges S_nodes S_rounds = some o) : CV l D yX4_advance wsX4_advance ({ frames := 3, cells := 0, slots := 0, locals := 67 } : Room) (tysK cI cC cS) [.ref Ga] (sh_X4 Ga Ga_known Ga_sent Ga_newest Ga_chosen Sa Sa_roundEdges Sa_values cI cC cS G_known G_sent G_newest G_chosen G_rule G_step S_roundEdges S_values S_nodes S_rounds) (sh_X4 Ga Ga_known Ga_sent Ga_newest Ga_chosen Sa Sa_roundEdges Sa_values cI cC cS o.1 o.2.1 o.2.2.1 o.2.2.2.1 G_rule o.2.2.2.2 S_roundEdges S_values S_nodes S_rounds) := by
  refine met_v (cc := cX4_advance) (maxL := 3) (ret := none) (by decide) rfl (Nat.le_of_ble_eq_true rfl) ?_
  intro p e s m args below meth c R Q A F hR hQ hP hK hD hA hS ls hl
  obtain ⟨hx, hb, hr, hts, hml, hlocks, hown⟩ := F
  have hown : s.vm.findClass RX4 = some m.cls := hown
  have hi_X4 : ∀ w ∈ u_ws RX4 TX4 7, w ∈ wsX4_advance := fun w h => List.mem_cons_of_mem _ (List.mem_append_left _ (List.mem_append_right _ h))
  have q24 := hts (.fieldLink RX4 24 "ChangingRounds$Gossip" "schedule" "LChangingRounds$Schedule;") (by decide +kernel)
  have q21 := hts (.fieldLink RX4 21 "ChangingRounds$Gossip" "chosen" "[I") (by decide +kernel)
  have q15 := hts (.fieldLink RX4 15 "ChangingRounds$Gossip" "sent" "[I") (by decide +kernel)
  have q32 := hts (.fieldLink RX4 32 "ChangingRounds$Gossip" "step" "I") (by decide +kernel)
  have hl : lv_has ls 3 [(0, .ref Ga)] := hl
  unfold fX4_advance at hf
  have L62 : ∀ (x1 : Int32) (G_sent : Nat → Int32) (G_chosen : Nat → Int32) (G_step : Int32) (n62 : Nat) (x2 : Int32) (G_known : Nat → Int32) (G_newest : Nat → Int32) (H : Heap) (locs : List Loc) (ls : Array Slot), fX4_advance_l62 x1 G_sent G_chosen G_step S_nodes n62 x2 G_known G_newest = some o → va_P D vwCl (sh_X4 Ga Ga_known Ga_sent Ga_newest Ga_chosen Sa Sa_roundEdges Sa_values cI cC cS G_known G_sent G_newest G_chosen G_rule G_step S_roundEdges S_values S_nodes S_rounds) H → va_D A (sh_X4 Ga Ga_known Ga_sent Ga_newest Ga_chosen Sa Sa_roundEdges Sa_values cI cC cS G_known G_sent G_newest G_chosen G_rule G_step S_roundEdges S_values S_nodes S_rounds) → va_S A s.heap H locs → lv_has ls 3 [(0, .ref Ga), (1, .int x1), (2, .int x2)] → W p l e R s m args below meth c H locs 0 0 Q (F0 m 62 ls []) := by
    intro x1 G_sent G_chosen G_step n62
    induction n62 with
    | zero => intro x2 G_known G_newest H locs ls hf; cases (show (none : Option _) = some _ from hf)
    | succ n62 ih62 =>
      intro x2 G_known G_newest H locs ls hf hP hD hS hl
      rw [fX4_advance_l62] at hf
      refine lv_iload_n hx hb dX4_advance_62 rfl (lv_at hl 2 rfl) ?_
      refine lv_aload_n hx hb dX4_advance_63 rfl (lv_at hl 0 rfl) ?_
      refine va_get (D := D) (ci := 2) (v := .ref Sa) (C := RX4) (T := TX4) (N := 7) hx hb hts hi_X4 hown hK hP 0 rfl rfl 0 (by decide) q24 (fun _ h9 => h9) rfl dX4_advance_64 ?_
      refine cv_i (ci := 4) (q := (RX7, TX7, 4)) (As := []) (rest := [.int x2]) hx hb hml hown hts hK hP hD hA hS (kX7_nodes l D cI cC cS Sa Sa_roundEdges Sa_values  S_roundEdges S_values S_nodes S_rounds (fX7_nodes S_nodes) rfl) (cwV 0 hts gX4_advance_X7_nodes rfl rfl rfl (by decide +kernel) (by subst hR; exact ⟨Nat.le_of_ble_eq_true rfl, Nat.le_of_ble_eq_true rfl⟩)) [5, 6, 7] [0, 1, 2, 3, 4] [0, 1, 2, 3, 4, 5, 6, 7] [(Ga, .inr (2, [.ref Sa, .ref Ga_known, .ref Ga_sent, .ref Ga_newest, .ref Ga_chosen, .int G_rule, .int G_step])), (Ga_known, .inl (cI, 8, .inl G_known)), (Ga_sent, .inl (cI, 8, .inl G_sent)), (Ga_newest, .inl (cI, 8, .inl G_newest)), (Ga_chosen, .inl (cI, 8, .inl G_chosen))] (sh_X4 Ga Ga_known Ga_sent Ga_newest Ga_chosen Sa Sa_roundEdges Sa_values cI cC cS G_known G_sent G_newest G_chosen G_rule G_step S_roundEdges S_values S_nodes S_rounds) rfl rfl rfl rfl (by decide) rfl rfl rfl rfl rfl rfl hl.1 rfl (Nat.le_of_ble_eq_true rfl) ⟨Nat.zero_le _, Nat.zero_le _⟩ dX4_advance_67 (fun H locs hP hD hS => ?_)
      refine lv_icmp_ge (tgt := 100) hx hb dX4_advance_70 (by decide) (fun c1 => ?_) (fun c1 => ?_)
      · have hf := if_t c1 hf
        refine lv_aload_n hx hb dX4_advance_100 rfl (lv_at hl 0 rfl) ?_
        refine lv_dup hx hb dX4_advance_101 rfl ?_
        refine va_get (D := D) (ci := 2) (v := .int G_step) (C := RX4) (T := TX4) (N := 7) hx hb hts hi_X4 hown hK hP 0 rfl rfl 6 (by decide) q32 (fun _ h9 => h9) rfl dX4_advance_102 ?_
        refine lv_iconst (v := (1 : Int32)) hx hb dX4_advance_105 (by decide) ?_
        refine lv_iadd hx hb dX4_advance_106 ?_
        refine sx_put (D := D) (ci := 2) (v := .int (G_step + (1 : Int32))) (ty := .int) (C := RX4) (T := TX4) (N := 7) hx hb hts hi_X4 tyX4 tyX4_ok nmX4 hown hK hP hD hS 0 rfl rfl 6 (by decide) q32 (fun _ h9 => h9) rfl (by decide +kernel) rfl rfl (Nat.le_of_ble_eq_true rfl) dX4_advance_107 (sh_X4 Ga Ga_known Ga_sent Ga_newest Ga_chosen Sa Sa_roundEdges Sa_values cI cC cS G_known G_sent G_newest G_chosen G_rule (G_step + (1 : Int32)) S_roundEdges S_values S_nodes S_rounds) rfl (fun H locs hP hD hS => ?_)
        have hf := Option.some.inj hf
        subst hf
        exact rt_v hx hb hr hlocks hQ hK hP hD hS dX4_advance_110
      · have hf := if_f c1 hf
        refine lv_aload_n hx hb dX4_advance_73 rfl (lv_at hl 0 rfl) ?_
        refine lv_iload_n hx hb dX4_advance_74 rfl (lv_at hl 2 rfl) ?_
        refine lv_aload_n hx hb dX4_advance_75 rfl (lv_at hl 0 rfl) ?_
        refine lv_iload_n hx hb dX4_advance_76 rfl (lv_at hl 1 rfl) ?_
        refine lv_iload_n hx hb dX4_advance_77 rfl (lv_at hl 2 rfl) ?_
        refine lv_aload_n hx hb dX4_advance_78 rfl (lv_at hl 0 rfl) ?_
        refine va_get (D := D) (ci := 2) (v := .ref Sa) (C := RX4) (T := TX4) (N := 7) hx hb hts hi_X4 hown hK hP 0 rfl rfl 0 (by decide) q24 (fun _ h9 => h9) rfl dX4_advance_79 ?_
        refine cv_i (ci := 4) (q := (RX7, TX7, 4)) (As := []) (rest := [.int x2, .int x1, .ref Ga, .int x2, .ref Ga]) hx hb hml hown hts hK hP hD hA hS (kX7_nodes l D cI cC cS Sa Sa_roundEdges Sa_values  S_roundEdges S_values S_nodes S_rounds (fX7_nodes S_nodes) rfl) (cwV 0 hts gX4_advance_X7_nodes rfl rfl rfl (by decide +kernel) (by subst hR; exact ⟨Nat.le_of_ble_eq_true rfl, Nat.le_of_ble_eq_true rfl⟩)) [5, 6, 7] [0, 1, 2, 3, 4] [0, 1, 2, 3, 4, 5, 6, 7] [(Ga, .inr (2, [.ref Sa, .ref Ga_known, .ref Ga_sent, .ref Ga_newest, .ref Ga_chosen, .int G_rule, .int G_step])), (Ga_known, .inl (cI, 8, .inl G_known)), (Ga_sent, .inl (cI, 8, .inl G_sent)), (Ga_newest, .inl (cI, 8, .inl G_newest)), (Ga_chosen, .inl (cI, 8, .inl G_chosen))] (sh_X4 Ga Ga_known Ga_sent Ga_newest Ga_chosen Sa Sa_roundEdges Sa_values cI cC cS G_known G_sent G_newest G_chosen G_rule G_step S_roundEdges S_values S_nodes S_rounds) rfl rfl rfl rfl (by decide) rfl rfl rfl rfl rfl rfl hl.1 rfl (Nat.le_of_ble_eq_true rfl) ⟨Nat.zero_le _, Nat.zero_le _⟩ dX4_advance_82 (fun H locs hP hD hS => ?_)
        obtain ⟨o2, ho2, hf⟩ := bd_some hf
        refine cs_i (As := [.int x1, .int x2, .int (fX7_nodes S_nodes)]) (rest := [.ref Ga, .int x2, .ref Ga]) hx hb hml hown hts hK hP hD hA hS (kX2_neighbours l D cI cC cS  x1 x2 (fX7_nodes S_nodes)  o2 ho2) (va_cwS 3 hts gX4_advance_X2_neighbours rfl rfl rfl (by decide +kernel) (by subst hR; exact ⟨Nat.le_of_ble_eq_true rfl, Nat.le_of_ble_eq_true rfl⟩)) rfl hl.1 rfl (Nat.le_of_ble_eq_true rfl) ⟨Nat.zero_le _, Nat.zero_le _⟩ dX4_advance_85 (fun H locs hP hD hS => ?_)
        obtain ⟨o3, ho3, hf⟩ := bd_some hf
        refine cv_i (ci := 2) (q := (RX4, TX4, 7)) (As := [.int o2]) (rest := [.int x2, .ref Ga]) hx hb hml hown hts hK hP hD hA hS (kX4_tokensSentBy l D cI cC cS Ga Ga_known Ga_sent Ga_newest Ga_chosen Sa Sa_roundEdges Sa_values o2 G_known G_sent G_newest G_chosen G_rule G_step S_roundEdges S_values S_nodes S_rounds o3 ho3) (cwV 1 hts gX4_advance_X4_tokensSentBy rfl rfl rfl (by decide +kernel) (by subst hR; exact ⟨Nat.le_of_ble_eq_true rfl, Nat.le_of_ble_eq_true rfl⟩)) [0, 1, 2, 3, 4, 5, 6, 7] [] [0, 1, 2, 3, 4, 5, 6, 7] [] (sh_X4 Ga Ga_known Ga_sent Ga_newest Ga_chosen Sa Sa_roundEdges Sa_values cI cC cS G_known G_sent G_newest G_chosen G_rule G_step S_roundEdges S_values S_nodes S_rounds) rfl rfl rfl rfl (by decide) rfl rfl rfl rfl rfl rfl hl.1 rfl (Nat.le_of_ble_eq_true rfl) ⟨Nat.zero_le _, Nat.zero_le _⟩ dX4_advance_88 (fun H locs hP hD hS => ?_)
        obtain ⟨o4, ho4, hf⟩ := bd_some hf
        refine cv_v (ci := 2) (q := (RX4, TX4, 7)) (As := [.int x2, .int o3]) (rest := []) hx hb hml hown hts hK hP hD hA hS (kX4_learn l D cI cC cS Ga Ga_known Ga_sent Ga_newest Ga_chosen Sa Sa_roundEdges Sa_values x2 o3 G_known G_sent G_newest G_chosen G_rule G_step S_roundEdges S_values S_nodes S_rounds o4 ho4) (cwV 2 hts gX4_advance_X4_learn rfl rfl rfl (by decide +kernel) (by subst hR; exact ⟨Nat.le_of_ble_eq_true rfl, Nat.le_of_ble_eq_true rfl⟩)) [0, 1, 2, 3, 4, 5, 6, 7] [] [0, 1, 2, 3, 4, 5, 6, 7] [] (sh_X4 Ga Ga_known Ga_sent Ga_newest Ga_chosen Sa Sa_roundEdges Sa_values cI cC cS o4.1 G_sent o4.2 G_chosen G_rule G_step S_roundEdges S_values S_nodes S_rounds) rfl rfl rfl rfl (by decide) rfl rfl rfl rfl rfl rfl hl.1 rfl (Nat.le_of_ble_eq_true rfl) ⟨Nat.zero_le _, Nat.zero_le _⟩ dX4_advance_91 (fun H locs hP hD hS => ?_)
        refine lv_iinc (v := (x2 + 1)) (lv' := [(2, .int (x2 + 1)), (0, .ref Ga), (1, .int x1)]) hx hb dX4_advance_94 hl (k := 2) rfl rfl (by decide) rfl (fun ls hl => ?_)
        refine lv_goto (tgt := 62) hx hb dX4_advance_97 (by decide) ?_
        exact ih62 (x2 + 1) o4.1 o4.2 _ _ _ hf hP hD hS (lv_sub hl [1, 2, 0] rfl)
  have L2 : ∀ (G_known : Nat → Int32) (G_newest : Nat → Int32) (G_step : Int32) (n2 : Nat) (x1 : Int32) (G_sent : Nat → Int32) (G_chosen : Nat → Int32) (H : Heap) (locs : List Loc) (ls : Array Slot), fX4_advance_l2 G_known G_newest G_rule G_step S_roundEdges S_nodes S_rounds n2 x1 G_sent G_chosen = some o → va_P D vwCl (sh_X4 Ga Ga_known Ga_sent Ga_newest Ga_chosen Sa Sa_roundEdges Sa_values cI cC cS G_known G_sent G_newest G_chosen G_rule G_step S_roundEdges S_values S_nodes S_rounds) H → va_D A (sh_X4 Ga Ga_known Ga_sent Ga_newest Ga_chosen Sa Sa_roundEdges Sa_values cI cC cS G_known G_sent G_newest G_chosen G_rule G_step S_roundEdges S_values S_nodes S_rounds) → va_S A s.heap H locs → lv_has ls 3 [(0, .ref Ga), (1, .int x1)] → W p l e R s m args below meth c H locs 0 0 Q (F0 m 2 ls []) := by
    intro G_known G_newest G_step n2
    induction n2 with
    | zero => intro x1 G_sent G_chosen H locs ls hf; cases (show (none : Option _) = some _ from hf)
    | succ n2 ih2 =>
      intro x1 G_sent G_chosen H locs ls hf hP hD hS hl
      rw [fX4_advance_l2] at hf
      refine lv_iload_n hx hb dX4_advance_2 rfl (lv_at hl 1 rfl) ?_
      refine lv_aload_n hx hb dX4_advance_3 rfl (lv_at hl 0 rfl) ?_
      refine va_get (D := D) (ci := 2) (v := .ref Sa) (C := RX4) (T := TX4) (N := 7) hx hb hts hi_X4 hown hK hP 0 rfl rfl 0 (by decide) q24 (fun _ h9 => h9) rfl dX4_advance_4 ?_
      refine cv_i (ci := 4) (q := (RX7, TX7, 4)) (As := []) (rest := [.int x1]) hx hb hml hown hts hK hP hD hA hS (kX7_nodes l D cI cC cS Sa Sa_roundEdges Sa_values  S_roundEdges S_values S_nodes S_rounds (fX7_nodes S_nodes) rfl) (cwV 0 hts gX4_advance_X7_nodes rfl rfl rfl (by decide +kernel) (by subst hR; exact ⟨Nat.le_of_ble_eq_true rfl, Nat.le_of_ble_eq_true rfl⟩)) [5, 6, 7] [0, 1, 2, 3, 4] [0, 1, 2, 3, 4, 5, 6, 7] [(Ga, .inr (2, [.ref Sa, .ref Ga_known, .ref Ga_sent, .ref Ga_newest, .ref Ga_chosen, .int G_rule, .int G_step])), (Ga_known, .inl (cI, 8, .inl G_known)), (Ga_sent, .inl (cI, 8, .inl G_sent)), (Ga_newest, .inl (cI, 8, .inl G_newest)), (Ga_chosen, .inl (cI, 8, .inl G_chosen))] (sh_X4 Ga Ga_known Ga_sent Ga_newest Ga_chosen Sa Sa_roundEdges Sa_values cI cC cS G_known G_sent G_newest G_chosen G_rule G_step S_roundEdges S_values S_nodes S_rounds) rfl rfl rfl rfl (by decide) rfl rfl rfl rfl rfl rfl hl.1 rfl (Nat.le_of_ble_eq_true rfl) ⟨Nat.zero_le _, Nat.zero_le _⟩ dX4_advance_7 (fun H locs hP hD hS => ?_)
      refine lv_icmp_ge (tgt := 48) hx hb dX4_advance_10 (by decide) (fun c5 => ?_) (fun c5 => ?_)
      · have hf := if_t c5 hf
        refine lv_aload_n hx hb dX4_advance_48 rfl (lv_at hl 0 rfl) ?_
        refine va_get (D := D) (ci := 2) (v := .ref Sa) (C := RX4) (T := TX4) (N := 7) hx hb hts hi_X4 hown hK hP 0 rfl rfl 0 (by decide) q24 (fun _ h9 => h9) rfl dX4_advance_49 ?_
        refine lv_aload_n hx hb dX4_advance_52 rfl (lv_at hl 0 rfl) ?_
        refine va_get (D := D) (ci := 2) (v := .int G_step) (C := RX4) (T := TX4) (N := 7) hx hb hts hi_X4 hown hK hP 0 rfl rfl 6 (by decide) q32 (fun _ h9 => h9) rfl dX4_advance_53 ?_
        obtain ⟨o6, ho6, hf⟩ := bd_some hf
        refine cv_i (ci := 4) (q := (RX7, TX7, 4)) (As := [.int G_step]) (rest := []) hx hb hml hown hts hK hP hD hA hS (kX7_edgesAtStep l D cI cC cS Sa Sa_roundEdges Sa_values G_step S_roundEdges S_values S_nodes S_rounds o6 ho6) (cwV 1 hts gX4_advance_X7_edgesAtStep rfl rfl rfl (by decide +kernel) (by subst hR; exact ⟨Nat.le_of_ble_eq_true rfl, Nat.le_of_ble_eq_true rfl⟩)) [5, 6, 7] [0, 1, 2, 3, 4] [0, 1, 2, 3, 4, 5, 6, 7] [(Ga, .inr (2, [.ref Sa, .ref Ga_known, .ref Ga_sent, .ref Ga_newest, .ref Ga_chosen, .int G_rule, .int G_step])), (Ga_known, .inl (cI, 8, .inl G_known)), (Ga_sent, .inl (cI, 8, .inl G_sent)), (Ga_newest, .inl (cI, 8, .inl G_newest)), (Ga_chosen, .inl (cI, 8, .inl G_chosen))] (sh_X4 Ga Ga_known Ga_sent Ga_newest Ga_chosen Sa Sa_roundEdges Sa_values cI cC cS G_known G_sent G_newest G_chosen G_rule G_step S_roundEdges S_values S_nodes S_rounds) rfl rfl rfl rfl (by decide) rfl rfl rfl rfl rfl rfl hl.1 rfl (Nat.le_of_ble_eq_true rfl) ⟨Nat.zero_le _, Nat.zero_le _⟩ dX4_advance_56 (fun H locs hP hD hS => ?_)
        refine lv_istore_n (lv' := [(1, .int o6), (0, .ref Ga)]) hx hb dX4_advance_59 rfl hl (by decide) rfl (fun ls hl => ?_)
        refine lv_iconst (v := (0 : Int32)) hx hb dX4_advance_60 (by decide) ?_
        refine lv_istore_n (lv' := [(2, .int (0 : Int32)), (1, .int o6), (0, .ref Ga)]) hx hb dX4_advance_61 rfl hl (by decide) rfl (fun ls hl => ?_)
        exact L62 o6 G_sent G_chosen G_step fuel (0 : Int32) G_known G_newest _ _ _ hf hP hD hS (lv_sub hl [2, 1, 0] rfl)
      · have hf := if_f c5 hf
        refine lv_aload_n hx hb dX4_advance_13 rfl (lv_at hl 0 rfl) ?_
        refine va_get (D := D) (ci := 2) (v := .ref Ga_chosen) (C := RX4) (T := TX4) (N := 7) hx hb hts hi_X4 hown hK hP 0 rfl rfl 4 (by decide) q21 (fun _ h9 => h9) rfl dX4_advance_14 ?_
        refine lv_iload_n hx hb dX4_advance_17 rfl (lv_at hl 1 rfl) ?_
        refine lv_aload_n hx hb dX4_advance_18 rfl (lv_at hl 0 rfl) ?_
        refine lv_iload_n hx hb dX4_advance_19 rfl (lv_at hl 1 rfl) ?_
        obtain ⟨o7, ho7, hf⟩ := bd_some hf
        refine cv_i (ci := 2) (q := (RX4, TX4, 7)) (As := [.int x1]) (rest := [.int x1, .ref Ga_chosen]) hx hb hml hown hts hK hP hD hA hS (kX4_choice l D cI cC cS Ga Ga_known Ga_sent Ga_newest Ga_chosen Sa Sa_roundEdges Sa_values x1 G_known G_sent G_newest G_chosen G_rule G_step S_roundEdges S_values S_nodes S_rounds o7 ho7) (cwV 1 hts gX4_advance_X4_choice rfl rfl rfl (by decide +kernel) (by subst hR; exact ⟨Nat.le_of_ble_eq_true rfl, Nat.le_of_ble_eq_true rfl⟩)) [0, 1, 2, 3, 4, 5, 6, 7] [] [0, 1, 2, 3, 4, 5, 6, 7] [] (sh_X4 Ga Ga_known Ga_sent Ga_newest Ga_chosen Sa Sa_roundEdges Sa_values cI cC cS G_known G_sent G_newest G_chosen G_rule G_step S_roundEdges S_values S_nodes S_rounds) rfl rfl rfl rfl (by decide) rfl rfl rfl rfl rfl rfl hl.1 rfl (Nat.le_of_ble_eq_true rfl) ⟨Nat.zero_le _, Nat.zero_le _⟩ dX4_advance_20 (fun H locs hP hD hS => ?_)
        obtain ⟨hz, hf⟩ := ck_some hf
        refine sx_iast (j := x1.toNatClampNeg) hx hb hK hP hD hS 4 0 rfl rfl (inb_vp hz) rfl dX4_advance_23 (sh_X4 Ga Ga_known Ga_sent Ga_newest Ga_chosen Sa Sa_roundEdges Sa_values cI cC cS G_known G_sent G_newest (upd G_chosen x1.toNatClampNeg o7) G_rule G_step S_roundEdges S_values S_nodes S_rounds) rfl (fun H locs hP hD hS => ?_)
        refine lv_aload_n hx hb dX4_advance_24 rfl (lv_at hl 0 rfl) ?_
        refine va_get (D := D) (ci := 2) (v := .ref Ga_sent) (C := RX4) (T := TX4) (N := 7) hx hb hts hi_X4 hown hK hP 0 rfl rfl 2 (by decide) q15 (fun _ h9 => h9) rfl dX4_advance_25 ?_
        refine lv_iload_n hx hb dX4_advance_28 rfl (lv_at hl 1 rfl) ?_
        refine lv_dup2_11 hx hb dX4_advance_29 rfl rfl ?_
        obtain ⟨hz, hf⟩ := ck_some hf
        refine sx_iald (j := x1.toNatClampNeg) hx hb hK hP 2 0 rfl rfl (inb_vp hz) rfl dX4_advance_30 ?_
        refine lv_aload_n hx hb dX4_advance_31 rfl (lv_at hl 0 rfl) ?_
        refine va_get (D := D) (ci := 2) (v := .ref Ga_chosen) (C := RX4) (T := TX4) (N := 7) hx hb hts hi_X4 hown hK hP 0 rfl rfl 4 (by decide) q21 (fun _ h9 => h9) rfl dX4_advance_32 ?_
        refine lv_iload_n hx hb dX4_advance_35 rfl (lv_at hl 1 rfl) ?_
        obtain ⟨hz, hf⟩ := ck_some hf
        refine sx_iald (j := x1.toNatClampNeg) hx hb hK hP 4 0 rfl rfl (inb_vp hz) rfl dX4_advance_36 ?_
        refine cs_i (As := [.int ((upd G_chosen x1.toNatClampNeg o7) x1.toNatClampNeg)]) (rest := [.int (G_sent x1.toNatClampNeg), .int x1, .ref Ga_sent]) hx hb hml hown hts hK hP hD hA hS (kX6_of l D cI cC cS  ((upd G_chosen x1.toNatClampNeg o7) x1.toNatClampNeg)  (fX6_of ((upd G_chosen x1.toNatClampNeg o7) x1.toNatClampNeg)) rfl) (va_cwS 1 hts gX4_advance_X6_of rfl rfl rfl (by decide +kernel) (by subst hR; exact ⟨Nat.le_of_ble_eq_true rfl, Nat.le_of_ble_eq_true rfl⟩)) rfl hl.1 rfl (Nat.le_of_ble_eq_true rfl) ⟨Nat.zero_le _, Nat.zero_le _⟩ dX4_advance_37 (fun H locs hP hD hS => ?_)
        refine lv_ior hx hb dX4_advance_40 ?_
        obtain ⟨hz, hf⟩ := ck_some hf
        refine sx_iast (j := x1.toNatClampNeg) hx hb hK hP hD hS 2 0 rfl rfl (inb_vp hz) rfl dX4_advance_41 (sh_X4 Ga Ga_known Ga_sent Ga_newest Ga_chosen Sa Sa_roundEdges Sa_values cI cC cS G_known (upd G_sent x1.toNatClampNeg ((G_sent x1.toNatClampNeg) ||| (fX6_of ((upd G_chosen x1.toNatClampNeg o7) x1.toNatClampNeg)))) G_newest (upd G_chosen x1.toNatClampNeg o7) G_rule G_step S_roundEdges S_values S_nodes S_rounds) rfl (fun H locs hP hD hS => ?_)
        refine lv_iinc (v := (x1 + 1)) (lv' := [(1, .int (x1 + 1)), (0, .ref Ga)]) hx hb dX4_advance_42 hl (k := 1) rfl rfl (by decide) rfl (fun ls hl => ?_)
        refine lv_goto (tgt := 2) hx hb dX4_advance_45 (by decide) ?_
        exact ih2 (x1 + 1) (upd G_sent x1.toNatClampNeg ((G_sent x1.toNatClampNeg) ||| (fX6_of ((upd G_chosen x1.toNatClampNeg o7) x1.toNatClampNeg)))) (upd G_chosen x1.toNatClampNeg o7) _ _ _ hf hP hD hS (lv_sub hl [1, 0] rfl)
  refine lv_iconst (v := (0 : Int32)) hx hb dX4_advance_0 (by decide) ?_
  refine lv_istore_n (lv' := [(1, .int (0 : Int32)), (0, .ref Ga)]) hx hb dX4_advance_1 rfl hl (by decide) rfl (fun ls hl => ?_)
  exact L2 G_known G_newest G_step fuel (0 : Int32) G_sent G_chosen _ _ _ hf hP hD hS (lv_sub hl [1, 0] rfl)
