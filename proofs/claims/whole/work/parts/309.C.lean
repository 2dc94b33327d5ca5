set_option maxRecDepth 100000 in
set_option maxHeartbeats 4000000 in
theorem kX8_digitAt (l : Launch) (D : va_G) (cI cC cS : ClassId) (Xa Xa_characters : Nat) (x1 : Int32) (X_characters : Nat → Int32) (X_length : Int32) (X_kind : Int32) (X_start : Int32) (X_end : Int32) (o : Int32) (hf : fX8_digitAt x1 X_characters X_length = some o) : CI l D yX8_digitAt wsX8_digitAt ({ frames := 1, cells := 0, slots := 0, locals := 21 } : Room) (tysK cI cC cS) [.ref Xa, .int x1] (sh_X8 Xa Xa_characters cI cC cS X_characters X_length X_kind X_start X_end) o (sh_X8 Xa Xa_characters cI cC cS X_characters X_length X_kind X_start X_end) := by
  refine met_i (cc := cX8_digitAt) (maxL := 2) (ret := (some .int)) (by decide) rfl (Nat.le_of_ble_eq_true rfl) ?_
  intro p e s m args below meth c R Q A F hR hQ hP hK hD hA hS ls hl
  obtain ⟨hx, hb, hr, hts, hml, hlocks, hown⟩ := F
  have hown : s.vm.findClass RX8 = some m.cls := hown
  have hl : lv_has ls 2 [(0, .ref Xa), (1, .int x1)] := hl
  unfold fX8_digitAt at hf
  refine lv_aload_n hx hb dX8_digitAt_0 rfl (lv_at hl 0 rfl) ?_
  refine lv_iload_n hx hb dX8_digitAt_1 rfl (lv_at hl 1 rfl) ?_
  obtain ⟨o1, ho1, hf⟩ := bd_some hf
  refine cv_i (ci := 5) (q := (RX8, TX8, 5)) (As := [.int x1]) (rest := []) hx hb hml hown hts hK hP hD hA hS (kX8_characterAt l D cI cC cS Xa Xa_characters x1 X_characters X_length X_kind X_start X_end o1 ho1) (cwV 1 hts gX8_digitAt_X8_characterAt rfl rfl rfl (by decide +kernel) (by subst hR; exact ⟨Nat.le_of_ble_eq_true rfl, Nat.le_of_ble_eq_true rfl⟩)) [0, 1] [] [0, 1] [] (sh_X8 Xa Xa_characters cI cC cS X_characters X_length X_kind X_start X_end) rfl rfl rfl rfl (by decide) rfl rfl rfl rfl rfl rfl hl.1 rfl (Nat.le_of_ble_eq_true rfl) ⟨Nat.zero_le _, Nat.zero_le _⟩ dX8_digitAt_2 (fun H locs hP hD hS => ?_)
  refine lv_bipush (v := (48 : Int32)) hx hb dX8_digitAt_5 (by decide) ?_
  refine lv_isub hx hb dX8_digitAt_7 ?_
  have hf := Option.some.inj hf
  subst hf
  exact rt_i hx hb hr hlocks hQ hK hP hD hS rfl dX8_digitAt_8
set_option maxRecDepth 100000 in
set_option maxHeartbeats 4000000 in
theorem kX8_isEdge (l : Launch) (D : va_G) (cI cC cS : ClassId) (Xa Xa_characters Da Da_roundEdges Da_values : Nat) (X_characters : Nat → Int32) (X_length : Int32) (X_kind : Int32) (X_start : Int32) (X_end : Int32) (D_roundEdges : Nat → Int32) (D_values : Nat → Int32) (D_nodes : Int32) (D_rounds : Int32) (o : Bool) (hf : fX8_isEdge X_characters X_length X_start X_end D_nodes = some o) : CI l D yX8_isEdge wsX8_isEdge ({ frames := 2, cells := 0, slots := 0, locals := 42 } : Room) (tysK cI cC cS) [.ref Xa, .ref Da] (sh_X8d Xa Xa_characters Da Da_roundEdges Da_values cI cC cS X_characters X_length X_kind X_start X_end D_roundEdges D_values D_nodes D_rounds) (b2i o) (sh_X8d Xa Xa_characters Da Da_roundEdges Da_values cI cC cS X_characters X_length X_kind X_start X_end D_roundEdges D_values D_nodes D_rounds) := by
  refine met_i (cc := cX8_isEdge) (maxL := 4) (ret := (some .boolean)) (by decide) rfl (Nat.le_of_ble_eq_true rfl) ?_
  intro p e s m args below meth c R Q A F hR hQ hP hK hD hA hS ls hl
  obtain ⟨hx, hb, hr, hts, hml, hlocks, hown⟩ := F
  have hown : s.vm.findClass RX8 = some m.cls := hown
  have hi_X8 : ∀ w ∈ u_ws RX8 TX8 5, w ∈ wsX8_isEdge := fun w h => List.mem_cons_of_mem _ (List.mem_append_left _ (List.mem_append_right _ h))
  have q29 := hts (.fieldLink RX8 29 "ChangingRounds$ScheduleText" "end" "I") (by decide +kernel)
  have q42 := hts (.fieldLink RX8 42 "ChangingRounds$ScheduleText" "start" "I") (by decide +kernel)
  have hl : lv_has ls 4 [(0, .ref Xa), (1, .ref Da)] := hl
  unfold fX8_isEdge at hf
  refine lv_aload_n hx hb dX8_isEdge_0 rfl (lv_at hl 0 rfl) ?_
  refine va_get (D := D) (ci := 5) (v := .int X_end) (C := RX8) (T := TX8) (N := 5) hx hb hts hi_X8 hown hK hP 0 rfl rfl 4 (by decide) q29 (fun _ h9 => h9) rfl dX8_isEdge_1 ?_
  refine lv_aload_n hx hb dX8_isEdge_4 rfl (lv_at hl 0 rfl) ?_
  refine va_get (D := D) (ci := 5) (v := .int X_start) (C := RX8) (T := TX8) (N := 5) hx hb hts hi_X8 hown hK hP 0 rfl rfl 3 (by decide) q42 (fun _ h9 => h9) rfl dX8_isEdge_5 ?_
  refine lv_isub hx hb dX8_isEdge_8 ?_
  refine lv_iconst (v := (2 : Int32)) hx hb dX8_isEdge_9 (by decide) ?_
  refine lv_icmp_eq (tgt := 15) hx hb dX8_isEdge_10 (by decide) (fun c1 => ?_) (fun c1 => ?_)
  · have hf := if_t c1 hf
    refine lv_aload_n hx hb dX8_isEdge_15 rfl (lv_at hl 0 rfl) ?_
    refine lv_aload_n hx hb dX8_isEdge_16 rfl (lv_at hl 0 rfl) ?_
    refine va_get (D := D) (ci := 5) (v := .int X_start) (C := RX8) (T := TX8) (N := 5) hx hb hts hi_X8 hown hK hP 0 rfl rfl 3 (by decide) q42 (fun _ h9 => h9) rfl dX8_isEdge_17 ?_
    obtain ⟨o2, ho2, hf⟩ := bd_some hf
    refine cv_i (ci := 5) (q := (RX8, TX8, 5)) (As := [.int X_start]) (rest := []) hx hb hml hown hts hK hP hD hA hS (kX8_digitAt l D cI cC cS Xa Xa_characters X_start X_characters X_length X_kind X_start X_end o2 ho2) (cwV 1 hts gX8_isEdge_X8_digitAt rfl rfl rfl (by decide +kernel) (by subst hR; exact ⟨Nat.le_of_ble_eq_true rfl, Nat.le_of_ble_eq_true rfl⟩)) [0, 1] [2, 3, 4] [3, 4, 0, 1, 2] [(Da, .inr (4, [.ref Da_roundEdges, .ref Da_values, .int D_nodes, .int D_rounds])), (Da_roundEdges, .inl (cI, 16, .inl D_roundEdges)), (Da_values, .inl (cI, 8, .inl D_values))] (sh_X8d Xa Xa_characters Da Da_roundEdges Da_values cI cC cS X_characters X_length X_kind X_start X_end D_roundEdges D_values D_nodes D_rounds) rfl rfl rfl rfl (by decide) rfl rfl rfl rfl rfl rfl hl.1 rfl (Nat.le_of_ble_eq_true rfl) ⟨Nat.zero_le _, Nat.zero_le _⟩ dX8_isEdge_20 (fun H locs hP hD hS => ?_)
    refine lv_istore_n (lv' := [(2, .int o2), (0, .ref Xa), (1, .ref Da)]) hx hb dX8_isEdge_23 rfl hl (by decide) rfl (fun ls hl => ?_)
    refine lv_aload_n hx hb dX8_isEdge_24 rfl (lv_at hl 1 rfl) ?_
    refine lv_aload_n hx hb dX8_isEdge_25 rfl (lv_at hl 1 rfl) ?_
    refine va_get (D := D) (ci := 5) (v := .int X_start) (C := RX8) (T := TX8) (N := 5) hx hb hts hi_X8 hown hK hP 0 rfl rfl 3 (by decide) q42 (fun _ h9 => h9) rfl dX8_isEdge_26 ?_
    refine lv_iconst (v := (1 : Int32)) hx hb dX8_isEdge_29 (by decide) ?_
    refine lv_iadd hx hb dX8_isEdge_30 ?_
    obtain ⟨o3, ho3, hf⟩ := bd_some hf
    refine cv_i (ci := 5) (q := (RX8, TX8, 5)) (As := [.int (X_start + (1 : Int32))]) (rest := []) hx hb hml hown hts hK hP hD hA hS (kX8_digitAt l D cI cC cS Xa Xa_characters (X_start + (1 : Int32)) X_characters X_length X_kind X_start X_end o3 ho3) (cwV 1 hts gX8_isEdge_X8_digitAt rfl rfl rfl (by decide +kernel) (by subst hR; exact ⟨Nat.le_of_ble_eq_true rfl, Nat.le_of_ble_eq_true rfl⟩)) [0, 1] [2, 3, 4] [3, 4, 0, 1, 2] [(Da, .inr (4, [.ref Da_roundEdges, .ref Da_values, .int D_nodes, .int D_rounds])), (Da_roundEdges, .inl (cI, 16, .inl D_roundEdges)), (Da_values, .inl (cI, 8, .inl D_values))] (sh_X8d Xa Xa_characters Da Da_roundEdges Da_values cI cC cS X_characters X_length X_kind X_start X_end D_roundEdges D_values D_nodes D_rounds) rfl rfl rfl rfl (by decide) rfl rfl rfl rfl rfl rfl hl.1 rfl (Nat.le_of_ble_eq_true rfl) ⟨Nat.zero_le _, Nat.zero_le _⟩ dX8_isEdge_31 (fun H locs hP hD hS => ?_)
    refine lv_istore_n (lv' := [(3, .int o3), (2, .int o2), (0, .ref Xa), (1, .ref Da)]) hx hb dX8_isEdge_34 rfl hl (by decide) rfl (fun ls hl => ?_)
    refine lv_aload_n hx hb dX8_isEdge_35 rfl (lv_at hl 3 rfl) ?_
    refine lv_iload_n hx hb dX8_isEdge_36 rfl (lv_at hl 1 rfl) ?_
    refine cv_i (ci := 4) (q := (RX7, TX7, 4)) (As := [.int o2]) (rest := []) hx hb hml hown hts hK hP hD hA hS (kX7_hasNode l D cI cC cS Da Da_roundEdges Da_values o2 D_roundEdges D_values D_nodes D_rounds (fX7_hasNode o2 D_nodes) rfl) (cwV 1 hts gX8_isEdge_X7_hasNode rfl rfl rfl (by decide +kernel) (by subst hR; exact ⟨Nat.le_of_ble_eq_true rfl, Nat.le_of_ble_eq_true rfl⟩)) [2, 3, 4] [0, 1] [0, 1, 2, 3, 4] [(Xa, .inr (5, [.ref Xa_characters, .int X_length, .int X_kind, .int X_start, .int X_end])), (Xa_characters, .inl (cC, 120, .inl X_characters))] (sh_X8d Xa Xa_characters Da Da_roundEdges Da_values cI cC cS X_characters X_length X_kind X_start X_end D_roundEdges D_values D_nodes D_rounds) rfl rfl rfl rfl (by decide) rfl rfl rfl rfl rfl rfl hl.1 rfl (Nat.le_of_ble_eq_true rfl) ⟨Nat.zero_le _, Nat.zero_le _⟩ dX8_isEdge_37 (fun H locs hP hD hS => ?_)
    refine lv_if_eq (tgt := 60) hx hb dX8_isEdge_40 (by decide) (fun c4 => ?_) (fun c4 => ?_)
    · have hf := if_t c4 hf
      refine lv_iconst (v := (0 : Int32)) hx hb dX8_isEdge_60 (by decide) ?_
      have hf := Option.some.inj hf
      subst hf
      exact rt_z (ty := .boolean) hx hb hr rfl hlocks hQ hK hP hD hS rfl dX8_isEdge_61
    · have hf := if_f c4 hf
      refine lv_aload_n hx hb dX8_isEdge_43 rfl (lv_at hl 3 rfl) ?_
      refine lv_iload_n hx hb dX8_isEdge_44 rfl (lv_at hl 0 rfl) ?_
      refine cv_i (ci := 4) (q := (RX7, TX7, 4)) (As := [.int o3]) (rest := []) hx hb hml hown hts hK hP hD hA hS (kX7_hasNode l D cI cC cS Da Da_roundEdges Da_values o3 D_roundEdges D_values D_nodes D_rounds (fX7_hasNode o3 D_nodes) rfl) (cwV 1 hts gX8_isEdge_X7_hasNode rfl rfl rfl (by decide +kernel) (by subst hR; exact ⟨Nat.le_of_ble_eq_true rfl, Nat.le_of_ble_eq_true rfl⟩)) [2, 3, 4] [0, 1] [0, 1, 2, 3, 4] [(Xa, .inr (5, [.ref Xa_characters, .int X_length, .int X_kind, .int X_start, .int X_end])), (Xa_characters, .inl (cC, 120, .inl X_characters))] (sh_X8d Xa Xa_characters Da Da_roundEdges Da_values cI cC cS X_characters X_length X_kind X_start X_end D_roundEdges D_values D_nodes D_rounds) rfl rfl rfl rfl (by decide) rfl rfl rfl rfl rfl rfl hl.1 rfl (Nat.le_of_ble_eq_true rfl) ⟨Nat.zero_le _, Nat.zero_le _⟩ dX8_isEdge_45 (fun H locs hP hD hS => ?_)
      refine lv_if_eq (tgt := 60) hx hb dX8_isEdge_48 (by decide) (fun c5 => ?_) (fun c5 => ?_)
      · have hf := if_t c5 hf
        refine lv_iconst (v := (0 : Int32)) hx hb dX8_isEdge_60 (by decide) ?_
        have hf := Option.some.inj hf
        subst hf
        exact rt_z (ty := .boolean) hx hb hr rfl hlocks hQ hK hP hD hS rfl dX8_isEdge_61
      · have hf := if_f c5 hf
        refine lv_iload_n hx hb dX8_isEdge_51 rfl (lv_at hl 1 rfl) ?_
        refine lv_iload_n hx hb dX8_isEdge_52 rfl (lv_at hl 0 rfl) ?_
        refine lv_icmp_eq (tgt := 60) hx hb dX8_isEdge_53 (by decide) (fun c6 => ?_) (fun c6 => ?_)
        · have hf := if_t c6 hf
          refine lv_iconst (v := (0 : Int32)) hx hb dX8_isEdge_60 (by decide) ?_
          have hf := Option.some.inj hf
          subst hf
          exact rt_z (ty := .boolean) hx hb hr rfl hlocks hQ hK hP hD hS rfl dX8_isEdge_61
        · have hf := if_f c6 hf
          refine lv_iconst (v := (1 : Int32)) hx hb dX8_isEdge_56 (by decide) ?_
          refine lv_goto (tgt := 61) hx hb dX8_isEdge_57 (by decide) ?_
          have hf := Option.some.inj hf
          subst hf
          exact rt_z (ty := .boolean) hx hb hr rfl hlocks hQ hK hP hD hS rfl dX8_isEdge_61
  · have hf := if_f c1 hf
    refine lv_iconst (v := (0 : Int32)) hx hb dX8_isEdge_13 (by decide) ?_
    have hf := Option.some.inj hf
    subst hf
    exact rt_z (ty := .boolean) hx hb hr rfl hlocks hQ hK hP hD hS rfl dX8_isEdge_14
set_option maxRecDepth 100000 in
set_option maxHeartbeats 4000000 in
theorem kX8_readEdges (l : Launch) (D : va_G) (cI cC cS : ClassId) (Xa Xa_characters Da Da_roundEdges Da_values : Nat) (X_characters : Nat → Int32) (X_length : Int32) (X_kind : Int32) (X_start : Int32) (X_end : Int32) (D_roundEdges : Nat → Int32) (D_values : Nat → Int32) (D_nodes : Int32) (D_rounds : Int32) (o : Bool × Int32 × Int32 × Int32 × (Nat → Int32) × Int32) (hf : fX8_readEdges X_characters X_length X_kind X_start X_end D_roundEdges D_nodes D_rounds = some o) : CI l D yX8_readEdges wsX8_readEdges ({ frames := 3, cells := 0, slots := 0, locals := 65 } : Room) (tysK cI cC cS) [.ref Xa, .ref Da] (sh_X8d Xa Xa_characters Da Da_roundEdges Da_values cI cC cS X_characters X_length X_kind X_start X_end D_roundEdges D_values D_nodes D_rounds) (b2i o.1) (sh_X8d Xa Xa_characters Da Da_roundEdges Da_values cI cC cS X_characters X_length o.2.1 o.2.2.1 o.2.2.2.1 o.2.2.2.2.1 D_values D_nodes o.2.2.2.2.2) := by
  refine met_i (cc := cX8_readEdges) (maxL := 4) (ret := (some .boolean)) (by decide) rfl (Nat.le_of_ble_eq_true rfl) ?_
  intro p e s m args below meth c R Q A F hR hQ hP hK hD hA hS ls hl
  obtain ⟨hx, hb, hr, hts, hml, hlocks, hown⟩ := F
  have hown : s.vm.findClass RX8 = some m.cls := hown
  have hi_X8 : ∀ w ∈ u_ws RX8 TX8 5, w ∈ wsX8_readEdges := fun w h => List.mem_cons_of_mem _ (List.mem_append_left _ (List.mem_append_right _ h))
  have q35 := hts (.fieldLink RX8 35 "ChangingRounds$ScheduleText" "kind" "I") (by decide +kernel)
  have q42 := hts (.fieldLink RX8 42 "ChangingRounds$ScheduleText" "start" "I") (by decide +kernel)
  have hl : lv_has ls 4 [(0, .ref Xa), (1, .ref Da)] := hl
  unfold fX8_readEdges at hf
  have J71 : ∀ (x2 : Int32) (X_kind : Int32) (X_start : Int32) (X_end : Int32) (D_roundEdges : Nat → Int32) (D_rounds : Int32) (H : Heap) (locs : List Loc) (ls : Array Slot), fX8_readEdges_b71 x2 X_kind X_start X_end D_roundEdges D_rounds = some o → va_P D vwCl (sh_X8d Xa Xa_characters Da Da_roundEdges Da_values cI cC cS X_characters X_length X_kind X_start X_end D_roundEdges D_values D_nodes D_rounds) H → va_D A (sh_X8d Xa Xa_characters Da Da_roundEdges Da_values cI cC cS X_characters X_length X_kind X_start X_end D_roundEdges D_values D_nodes D_rounds) → va_S A s.heap H locs → lv_has ls 4 [(1, .ref Da), (2, .int x2)] → W p l e R s m args below meth c H locs 0 0 Q (F0 m 71 ls []) := by
    intro x2 X_kind X_start X_end D_roundEdges D_rounds H locs ls hf hP hD hS hl
    unfold fX8_readEdges_b71 at hf
    refine lv_aload_n hx hb dX8_readEdges_71 rfl (lv_at hl 0 rfl) ?_
    refine lv_iload_n hx hb dX8_readEdges_72 rfl (lv_at hl 1 rfl) ?_
    obtain ⟨o1, ho1, hf⟩ := bd_some hf
    refine cv_v (ci := 4) (q := (RX7, TX7, 4)) (As := [.int x2]) (rest := []) hx hb hml hown hts hK hP hD hA hS (kX7_append l D cI cC cS Da Da_roundEdges Da_values x2 D_roundEdges D_values D_nodes D_rounds o1 ho1) (cwV 1 hts gX8_readEdges_X7_append rfl rfl rfl (by decide +kernel) (by subst hR; exact ⟨Nat.le_of_ble_eq_true rfl, Nat.le_of_ble_eq_true rfl⟩)) [2, 3, 4] [0, 1] [0, 1, 2, 3, 4] [(Xa, .inr (5, [.ref Xa_characters, .int X_length, .int X_kind, .int X_start, .int X_end])), (Xa_characters, .inl (cC, 120, .inl X_characters))] (sh_X8d Xa Xa_characters Da Da_roundEdges Da_values cI cC cS X_characters X_length X_kind X_start X_end o1.1 D_values D_nodes o1.2) rfl rfl rfl rfl (by decide) rfl rfl rfl rfl rfl rfl hl.1 rfl (Nat.le_of_ble_eq_true rfl) ⟨Nat.zero_le _, Nat.zero_le _⟩ dX8_readEdges_73 (fun H locs hP hD hS => ?_)
    refine lv_iconst (v := (1 : Int32)) hx hb dX8_readEdges_76 (by decide) ?_
    have hf := Option.some.inj hf
    subst hf
    exact rt_z (ty := .boolean) hx hb hr rfl hlocks hQ hK hP hD hS rfl dX8_readEdges_77
  have L13 : ∀ (D_roundEdges : Nat → Int32) (D_rounds : Int32) (n13 : Nat) (x2 : Int32) (x3 : Int32) (X_kind : Int32) (X_start : Int32) (X_end : Int32) (H : Heap) (locs : List Loc) (ls : Array Slot), fX8_readEdges_l13 X_characters X_length D_roundEdges D_nodes D_rounds n13 x2 x3 X_kind X_start X_end = some o → va_P D vwCl (sh_X8d Xa Xa_characters Da Da_roundEdges Da_values cI cC cS X_characters X_length X_kind X_start X_end D_roundEdges D_values D_nodes D_rounds) H → va_D A (sh_X8d Xa Xa_characters Da Da_roundEdges Da_values cI cC cS X_characters X_length X_kind X_start X_end D_roundEdges D_values D_nodes D_rounds) → va_S A s.heap H locs → lv_has ls 4 [(0, .ref Xa), (1, .ref Da), (2, .int x2), (3, .int x3)] → W p l e R s m args below meth c H locs 0 0 Q (F0 m 13 ls []) := by
    intro D_roundEdges D_rounds n13
    induction n13 with
    | zero => intro x2 x3 X_kind X_start X_end H locs ls hf; cases (show (none : Option _) = some _ from hf)
    | succ n13 ih13 =>
      intro x2 x3 X_kind X_start X_end H locs ls hf hP hD hS hl
      rw [fX8_readEdges_l13] at hf
      refine lv_iload_n hx hb dX8_readEdges_13 rfl (lv_at hl 3 rfl) ?_
      refine lv_bipush (v := (120 : Int32)) hx hb dX8_readEdges_14 (by decide) ?_
      refine lv_icmp_ge (tgt := 71) hx hb dX8_readEdges_16 (by decide) (fun c2 => ?_) (fun c2 => ?_)
      · have hf := if_t c2 hf
        exact J71 x2 X_kind X_start X_end D_roundEdges D_rounds _ _ _ hf hP hD hS (lv_sub hl [1, 2] rfl)
      · have hf := if_f c2 hf
        refine lv_aload_n hx hb dX8_readEdges_19 rfl (lv_at hl 0 rfl) ?_
        refine va_get (D := D) (ci := 5) (v := .int X_kind) (C := RX8) (T := TX8) (N := 5) hx hb hts hi_X8 hown hK hP 0 rfl rfl 2 (by decide) q35 (fun _ h9 => h9) rfl dX8_readEdges_20 ?_
        refine lv_iconst (v := (2 : Int32)) hx hb dX8_readEdges_23 (by decide) ?_
        refine lv_icmp_ne (tgt := 71) hx hb dX8_readEdges_24 (by decide) (fun c3 => ?_) (fun c3 => ?_)
        · have hf := if_f c3 hf
          exact J71 x2 X_kind X_start X_end D_roundEdges D_rounds _ _ _ hf hP hD hS (lv_sub hl [1, 2] rfl)
        · have hf := if_t c3 hf
          refine lv_aload_n hx hb dX8_readEdges_27 rfl (lv_at hl 0 rfl) ?_
          refine lv_aload_n hx hb dX8_readEdges_28 rfl (lv_at hl 1 rfl) ?_
          obtain ⟨o4, ho4, hf⟩ := bd_some hf
          refine cv_i (ci := 5) (q := (RX8, TX8, 5)) (As := [.ref Da]) (rest := []) hx hb hml hown hts hK hP hD hA hS (kX8_isEdge l D cI cC cS Xa Xa_characters Da Da_roundEdges Da_values  X_characters X_length X_kind X_start X_end D_roundEdges D_values D_nodes D_rounds o4 ho4) (cwV 1 hts gX8_readEdges_X8_isEdge rfl rfl rfl (by decide +kernel) (by subst hR; exact ⟨Nat.le_of_ble_eq_true rfl, Nat.le_of_ble_eq_true rfl⟩)) [0, 1, 2, 3, 4] [] [0, 1, 2, 3, 4] [] (sh_X8d Xa Xa_characters Da Da_roundEdges Da_values cI cC cS X_characters X_length X_kind X_start X_end D_roundEdges D_values D_nodes D_rounds) rfl rfl rfl rfl (by decide) rfl rfl rfl rfl rfl rfl hl.1 rfl (Nat.le_of_ble_eq_true rfl) ⟨Nat.zero_le _, Nat.zero_le _⟩ dX8_readEdges_29 (fun H locs hP hD hS => ?_)
          refine lv_if_ne (tgt := 37) hx hb dX8_readEdges_32 (by decide) (fun c5 => ?_) (fun c5 => ?_)
          · have hf := if_f c5 hf
            refine lv_iload_n hx hb dX8_readEdges_37 rfl (lv_at hl 2 rfl) ?_
            refine lv_aload_n hx hb dX8_readEdges_38 rfl (lv_at hl 0 rfl) ?_
            refine lv_aload_n hx hb dX8_readEdges_39 rfl (lv_at hl 0 rfl) ?_
            refine va_get (D := D) (ci := 5) (v := .int X_start) (C := RX8) (T := TX8) (N := 5) hx hb hts hi_X8 hown hK hP 0 rfl rfl 3 (by decide) q42 (fun _ h9 => h9) rfl dX8_readEdges_40 ?_
            obtain ⟨o6, ho6, hf⟩ := bd_some hf
            refine cv_i (ci := 5) (q := (RX8, TX8, 5)) (As := [.int X_start]) (rest := [.int x2]) hx hb hml hown hts hK hP hD hA hS (kX8_digitAt l D cI cC cS Xa Xa_characters X_start X_characters X_length X_kind X_start X_end o6 ho6) (cwV 1 hts gX8_readEdges_X8_digitAt rfl rfl rfl (by decide +kernel) (by subst hR; exact ⟨Nat.le_of_ble_eq_true rfl, Nat.le_of_ble_eq_true rfl⟩)) [0, 1] [2, 3, 4] [3, 4, 0, 1, 2] [(Da, .inr (4, [.ref Da_roundEdges, .ref Da_values, .int D_nodes, .int D_rounds])), (Da_roundEdges, .inl (cI, 16, .inl D_roundEdges)), (Da_values, .inl (cI, 8, .inl D_values))] (sh_X8d Xa Xa_characters Da Da_roundEdges Da_values cI cC cS X_characters X_length X_kind X_start X_end D_roundEdges D_values D_nodes D_rounds) rfl rfl rfl rfl (by decide) rfl rfl rfl rfl rfl rfl hl.1 rfl (Nat.le_of_ble_eq_true rfl) ⟨Nat.zero_le _, Nat.zero_le _⟩ dX8_readEdges_43 (fun H locs hP hD hS => ?_)
            refine lv_aload_n hx hb dX8_readEdges_46 rfl (lv_at hl 0 rfl) ?_
            refine lv_aload_n hx hb dX8_readEdges_47 rfl (lv_at hl 0 rfl) ?_
            refine va_get (D := D) (ci := 5) (v := .int X_start) (C := RX8) (T := TX8) (N := 5) hx hb hts hi_X8 hown hK hP 0 rfl rfl 3 (by decide) q42 (fun _ h9 => h9) rfl dX8_readEdges_48 ?_
            refine lv_iconst (v := (1 : Int32)) hx hb dX8_readEdges_51 (by decide) ?_
            refine lv_iadd hx hb dX8_readEdges_52 ?_
            obtain ⟨o7, ho7, hf⟩ := bd_some hf
            refine cv_i (ci := 5) (q := (RX8, TX8, 5)) (As := [.int (X_start + (1 : Int32))]) (rest := [.int o6, .int x2]) hx hb hml hown hts hK hP hD hA hS (kX8_digitAt l D cI cC cS Xa Xa_characters (X_start + (1 : Int32)) X_characters X_length X_kind X_start X_end o7 ho7) (cwV 1 hts gX8_readEdges_X8_digitAt rfl rfl rfl (by decide +kernel) (by subst hR; exact ⟨Nat.le_of_ble_eq_true rfl, Nat.le_of_ble_eq_true rfl⟩)) [0, 1] [2, 3, 4] [3, 4, 0, 1, 2] [(Da, .inr (4, [.ref Da_roundEdges, .ref Da_values, .int D_nodes, .int D_rounds])), (Da_roundEdges, .inl (cI, 16, .inl D_roundEdges)), (Da_values, .inl (cI, 8, .inl D_values))] (sh_X8d Xa Xa_characters Da Da_roundEdges Da_values cI cC cS X_characters X_length X_kind X_start X_end D_roundEdges D_values D_nodes D_rounds) rfl rfl rfl rfl (by decide) rfl rfl rfl rfl rfl rfl hl.1 rfl (Nat.le_of_ble_eq_true rfl) ⟨Nat.zero_le _, Nat.zero_le _⟩ dX8_readEdges_53 (fun H locs hP hD hS => ?_)
            refine cs_i (As := [.int o6, .int o7]) (rest := [.int x2]) hx hb hml hown hts hK hP hD hA hS (kX2_between l D cI cC cS  o6 o7  (fX2_between o6 o7) rfl) (va_cwS 2 hts gX8_readEdges_X2_between rfl rfl rfl (by decide +kernel) (by subst hR; exact ⟨Nat.le_of_ble_eq_true rfl, Nat.le_of_ble_eq_true rfl⟩)) rfl hl.1 rfl (Nat.le_of_ble_eq_true rfl) ⟨Nat.zero_le _, Nat.zero_le _⟩ dX8_readEdges_56 (fun H locs hP hD hS => ?_)
            refine lv_ior hx hb dX8_readEdges_59 ?_
            refine lv_istore_n (lv' := [(2, .int (x2 ||| (fX2_between o6 o7))), (0, .ref Xa), (1, .ref Da), (3, .int x3)]) hx hb dX8_readEdges_60 rfl hl (by decide) rfl (fun ls hl => ?_)
            refine lv_aload_n hx hb dX8_readEdges_61 rfl (lv_at hl 1 rfl) ?_
            obtain ⟨o8, ho8, hf⟩ := bd_some hf
            refine cv_v (ci := 5) (q := (RX8, TX8, 5)) (As := []) (rest := []) hx hb hml hown hts hK hP hD hA hS (kX8_nextToken l D cI cC cS Xa Xa_characters  X_characters X_length X_kind X_start X_end o8 ho8) (cwV 0 hts gX8_readEdges_X8_nextToken rfl rfl rfl (by decide +kernel) (by subst hR; exact ⟨Nat.le_of_ble_eq_true rfl, Nat.le_of_ble_eq_true rfl⟩)) [0, 1] [2, 3, 4] [3, 4, 0, 1, 2] [(Da, .inr (4, [.ref Da_roundEdges, .ref Da_values, .int D_nodes, .int D_rounds])), (Da_roundEdges, .inl (cI, 16, .inl D_roundEdges)), (Da_values, .inl (cI, 8, .inl D_values))] (sh_X8d Xa Xa_characters Da Da_roundEdges Da_values cI cC cS X_characters X_length o8.1 o8.2.1 o8.2.2 D_roundEdges D_values D_nodes D_rounds) rfl rfl rfl rfl (by decide) rfl rfl rfl rfl rfl rfl hl.1 rfl (Nat.le_of_ble_eq_true rfl) ⟨Nat.zero_le _, Nat.zero_le _⟩ dX8_readEdges_62 (fun H locs hP hD hS => ?_)
            refine lv_iinc (v := (x3 + 1)) (lv' := [(3, .int (x3 + 1)), (2, .int (x2 ||| (fX2_between o6 o7))), (0, .ref Xa), (1, .ref Da)]) hx hb dX8_readEdges_65 hl (k := 3) rfl rfl (by decide) rfl (fun ls hl => ?_)
            refine lv_goto (tgt := 13) hx hb dX8_readEdges_68 (by decide) ?_
            exact ih13 (x2 ||| (fX2_between o6 o7)) (x3 + 1) o8.1 o8.2.1 o8.2.2 _ _ _ hf hP hD hS (lv_sub hl [2, 3, 1, 0] rfl)
          · have hf := if_t c5 hf
            refine lv_iconst (v := (0 : Int32)) hx hb dX8_readEdges_35 (by decide) ?_
            have hf := Option.some.inj hf
            subst hf
            exact rt_z (ty := .boolean) hx hb hr rfl hlocks hQ hK hP hD hS rfl dX8_readEdges_36
  refine lv_aload_n hx hb dX8_readEdges_0 rfl (lv_at hl 1 rfl) ?_
  refine cv_i (ci := 4) (q := (RX7, TX7, 4)) (As := []) (rest := []) hx hb hml hown hts hK hP hD hA hS (kX7_isFull l D cI cC cS Da Da_roundEdges Da_values  D_roundEdges D_values D_nodes D_rounds (fX7_isFull D_rounds) rfl) (cwV 0 hts gX8_readEdges_X7_isFull rfl rfl rfl (by decide +kernel) (by subst hR; exact ⟨Nat.le_of_ble_eq_true rfl, Nat.le_of_ble_eq_true rfl⟩)) [2, 3, 4] [0, 1] [0, 1, 2, 3, 4] [(Xa, .inr (5, [.ref Xa_characters, .int X_length, .int X_kind, .int X_start, .int X_end])), (Xa_characters, .inl (cC, 120, .inl X_characters))] (sh_X8d Xa Xa_characters Da Da_roundEdges Da_values cI cC cS X_characters X_length X_kind X_start X_end D_roundEdges D_values D_nodes D_rounds) rfl rfl rfl rfl (by decide) rfl rfl rfl rfl rfl rfl hl.1 rfl (Nat.le_of_ble_eq_true rfl) ⟨Nat.zero_le _, Nat.zero_le _⟩ dX8_readEdges_1 (fun H locs hP hD hS => ?_)
  refine lv_if_eq (tgt := 9) hx hb dX8_readEdges_4 (by decide) (fun c9 => ?_) (fun c9 => ?_)
  · have hf := if_t c9 hf
    refine lv_iconst (v := (0 : Int32)) hx hb dX8_readEdges_9 (by decide) ?_
    refine lv_istore_n (lv' := [(2, .int (0 : Int32)), (0, .ref Xa), (1, .ref Da)]) hx hb dX8_readEdges_10 rfl hl (by decide) rfl (fun ls hl => ?_)
    refine lv_iconst (v := (0 : Int32)) hx hb dX8_readEdges_11 (by decide) ?_
    refine lv_istore_n (lv' := [(3, .int (0 : Int32)), (2, .int (0 : Int32)), (0, .ref Xa), (1, .ref Da)]) hx hb dX8_readEdges_12 rfl hl (by decide) rfl (fun ls hl => ?_)
    exact L13 D_roundEdges D_rounds fuel (0 : Int32) (0 : Int32) X_kind X_start X_end _ _ _ hf hP hD hS (lv_sub hl [2, 3, 1, 0] rfl)
  · have hf := if_f c9 hf
    refine lv_iconst (v := (0 : Int32)) hx hb dX8_readEdges_7 (by decide) ?_
    have hf := Option.some.inj hf
    subst hf
    exact rt_z (ty := .boolean) hx hb hr rfl hlocks hQ hK hP hD hS rfl dX8_readEdges_8
set_option maxRecDepth 100000 in
set_option maxHeartbeats 4000000 in
theorem kX8_oneDigit (l : Launch) (D : va_G) (cI cC cS : ClassId) (Xa Xa_characters : Nat) (X_characters : Nat → Int32) (X_length : Int32) (X_kind : Int32) (X_start : Int32) (X_end : Int32) (o : Int32) (hf : fX8_oneDigit X_characters X_length X_kind X_start X_end = some o) : CI l D yX8_oneDigit wsX8_oneDigit ({ frames := 2, cells := 0, slots := 0, locals := 42 } : Room) (tysK cI cC cS) [.ref Xa] (sh_X8 Xa Xa_characters cI cC cS X_characters X_length X_kind X_start X_end) o (sh_X8 Xa Xa_characters cI cC cS X_characters X_length X_kind X_start X_end) := by
  refine met_i (cc := cX8_oneDigit) (maxL := 1) (ret := (some .int)) (by decide) rfl (Nat.le_of_ble_eq_true rfl) ?_
  intro p e s m args below meth c R Q A F hR hQ hP hK hD hA hS ls hl
  obtain ⟨hx, hb, hr, hts, hml, hlocks, hown⟩ := F
  have hown : s.vm.findClass RX8 = some m.cls := hown
  have hi_X8 : ∀ w ∈ u_ws RX8 TX8 5, w ∈ wsX8_oneDigit := fun w h => List.mem_cons_of_mem _ (List.mem_append_right _ h)
  have q35 := hts (.fieldLink RX8 35 "ChangingRounds$ScheduleText" "kind" "I") (by decide +kernel)
  have q29 := hts (.fieldLink RX8 29 "ChangingRounds$ScheduleText" "end" "I") (by decide +kernel)
  have q42 := hts (.fieldLink RX8 42 "ChangingRounds$ScheduleText" "start" "I") (by decide +kernel)
  have hl : lv_has ls 1 [(0, .ref Xa)] := hl
  unfold fX8_oneDigit at hf
  refine lv_aload_n hx hb dX8_oneDigit_0 rfl (lv_at hl 0 rfl) ?_
  refine va_get (D := D) (ci := 5) (v := .int X_kind) (C := RX8) (T := TX8) (N := 5) hx hb hts hi_X8 hown hK hP 0 rfl rfl 2 (by decide) q35 (fun _ h9 => h9) rfl dX8_oneDigit_1 ?_
  refine lv_iconst (v := (2 : Int32)) hx hb dX8_oneDigit_4 (by decide) ?_
  refine lv_icmp_ne (tgt := 32) hx hb dX8_oneDigit_5 (by decide) (fun c1 => ?_) (fun c1 => ?_)
  · have hf := if_f c1 hf
    refine lv_iconst (v := (-1 : Int32)) hx hb dX8_oneDigit_32 (by decide) ?_
    have hf := Option.some.inj hf
    subst hf
    exact rt_i hx hb hr hlocks hQ hK hP hD hS rfl dX8_oneDigit_33
  · have hf := if_t c1 hf
    refine lv_aload_n hx hb dX8_oneDigit_8 rfl (lv_at hl 0 rfl) ?_
    refine va_get (D := D) (ci := 5) (v := .int X_end) (C := RX8) (T := TX8) (N := 5) hx hb hts hi_X8 hown hK hP 0 rfl rfl 4 (by decide) q29 (fun _ h9 => h9) rfl dX8_oneDigit_9 ?_
    refine lv_aload_n hx hb dX8_oneDigit_12 rfl (lv_at hl 0 rfl) ?_
    refine va_get (D := D) (ci := 5) (v := .int X_start) (C := RX8) (T := TX8) (N := 5) hx hb hts hi_X8 hown hK hP 0 rfl rfl 3 (by decide) q42 (fun _ h9 => h9) rfl dX8_oneDigit_13 ?_
    refine lv_isub hx hb dX8_oneDigit_16 ?_
    refine lv_iconst (v := (1 : Int32)) hx hb dX8_oneDigit_17 (by decide) ?_
    refine lv_icmp_ne (tgt := 32) hx hb dX8_oneDigit_18 (by decide) (fun c2 => ?_) (fun c2 => ?_)
    · have hf := if_f c2 hf
      refine lv_iconst (v := (-1 : Int32)) hx hb dX8_oneDigit_32 (by decide) ?_
      have hf := Option.some.inj hf
      subst hf
      exact rt_i hx hb hr hlocks hQ hK hP hD hS rfl dX8_oneDigit_33
    · have hf := if_t c2 hf
      refine lv_aload_n hx hb dX8_oneDigit_21 rfl (lv_at hl 0 rfl) ?_
      refine lv_aload_n hx hb dX8_oneDigit_22 rfl (lv_at hl 0 rfl) ?_
      refine va_get (D := D) (ci := 5) (v := .int X_start) (C := RX8) (T := TX8) (N := 5) hx hb hts hi_X8 hown hK hP 0 rfl rfl 3 (by decide) q42 (fun _ h9 => h9) rfl dX8_oneDigit_23 ?_
      obtain ⟨o3, ho3, hf⟩ := bd_some hf
      refine cv_i (ci := 5) (q := (RX8, TX8, 5)) (As := [.int X_start]) (rest := []) hx hb hml hown hts hK hP hD hA hS (kX8_digitAt l D cI cC cS Xa Xa_characters X_start X_characters X_length X_kind X_start X_end o3 ho3) (cwV 1 hts gX8_oneDigit_X8_digitAt rfl rfl rfl (by decide +kernel) (by subst hR; exact ⟨Nat.le_of_ble_eq_true rfl, Nat.le_of_ble_eq_true rfl⟩)) [0, 1] [] [0, 1] [] (sh_X8 Xa Xa_characters cI cC cS X_characters X_length X_kind X_start X_end) rfl rfl rfl rfl (by decide) rfl rfl rfl rfl rfl rfl hl.1 rfl (Nat.le_of_ble_eq_true rfl) ⟨Nat.zero_le _, Nat.zero_le _⟩ dX8_oneDigit_26 (fun H locs hP hD hS => ?_)
      refine lv_goto (tgt := 33) hx hb dX8_oneDigit_29 (by decide) ?_
      have hf := Option.some.inj hf
      subst hf
      exact rt_i hx hb hr hlocks hQ hK hP hD hS rfl dX8_oneDigit_33
set_option maxRecDepth 100000 in
set_option maxHeartbeats 4000000 in
theorem kX8_readNodes (l : Launch) (D : va_G) (cI cC cS : ClassId) (Xa Xa_characters Da Da_roundEdges Da_values : Nat) (X_characters : Nat → Int32) (X_length : Int32) (X_kind : Int32) (X_start : Int32) (X_end : Int32) (D_roundEdges : Nat → Int32) (D_values : Nat → Int32) (D_nodes : Int32) (D_rounds : Int32) (o : Bool × Int32 × Int32 × Int32 × (Nat → Int32) × Int32 × Int32) (hf : fX8_readNodes X_characters X_length X_kind X_start X_end D_values D_nodes D_rounds = some o) : CI l D yX8_readNodes wsX8_readNodes ({ frames := 3, cells := 0, slots := 0, locals := 63 } : Room) (tysK cI cC cS) [.ref Xa, .ref Da] (sh_X8d Xa Xa_characters Da Da_roundEdges Da_values cI cC cS X_characters X_length X_kind X_start X_end D_roundEdges D_values D_nodes D_rounds) (b2i o.1) (sh_X8d Xa Xa_characters Da Da_roundEdges Da_values cI cC cS X_characters X_length o.2.1 o.2.2.1 o.2.2.2.1 D_roundEdges o.2.2.2.2.1 o.2.2.2.2.2.1 o.2.2.2.2.2.2) := by
  refine met_i (cc := cX8_readNodes) (maxL := 3) (ret := (some .boolean)) (by decide) rfl (Nat.le_of_ble_eq_true rfl) ?_
  intro p e s m args below meth c R Q A F hR hQ hP hK hD hA hS ls hl
  obtain ⟨hx, hb, hr, hts, hml, hlocks, hown⟩ := F
  have hown : s.vm.findClass RX8 = some m.cls := hown
  have hl : lv_has ls 3 [(0, .ref Xa), (1, .ref Da)] := hl
  unfold fX8_readNodes at hf
  refine lv_aload_n hx hb dX8_readNodes_0 rfl (lv_at hl 0 rfl) ?_
  obtain ⟨o1, ho1, hf⟩ := bd_some hf
  refine cv_v (ci := 5) (q := (RX8, TX8, 5)) (As := []) (rest := []) hx hb hml hown hts hK hP hD hA hS (kX8_nextToken l D cI cC cS Xa Xa_characters  X_characters X_length X_kind X_start X_end o1 ho1) (cwV 0 hts gX8_readNodes_X8_nextToken rfl rfl rfl (by decide +kernel) (by subst hR; exact ⟨Nat.le_of_ble_eq_true rfl, Nat.le_of_ble_eq_true rfl⟩)) [0, 1] [2, 3, 4] [3, 4, 0, 1, 2] [(Da, .inr (4, [.ref Da_roundEdges, .ref Da_values, .int D_nodes, .int D_rounds])), (Da_roundEdges, .inl (cI, 16, .inl D_roundEdges)), (Da_values, .inl (cI, 8, .inl D_values))] (sh_X8d Xa Xa_characters Da Da_roundEdges Da_values cI cC cS X_characters X_length o1.1 o1.2.1 o1.2.2 D_roundEdges D_values D_nodes D_rounds) rfl rfl rfl rfl (by decide) rfl rfl rfl rfl rfl rfl hl.1 rfl (Nat.le_of_ble_eq_true rfl) ⟨Nat.zero_le _, Nat.zero_le _⟩ dX8_readNodes_1 (fun H locs hP hD hS => ?_)
  refine lv_aload_n hx hb dX8_readNodes_4 rfl (lv_at hl 0 rfl) ?_
  obtain ⟨o2, ho2, hf⟩ := bd_some hf
  refine cv_i (ci := 5) (q := (RX8, TX8, 5)) (As := []) (rest := []) hx hb hml hown hts hK hP hD hA hS (kX8_oneDigit l D cI cC cS Xa Xa_characters  X_characters X_length o1.1 o1.2.1 o1.2.2 o2 ho2) (cwV 0 hts gX8_readNodes_X8_oneDigit rfl rfl rfl (by decide +kernel) (by subst hR; exact ⟨Nat.le_of_ble_eq_true rfl, Nat.le_of_ble_eq_true rfl⟩)) [0, 1] [2, 3, 4] [3, 4, 0, 1, 2] [(Da, .inr (4, [.ref Da_roundEdges, .ref Da_values, .int D_nodes, .int D_rounds])), (Da_roundEdges, .inl (cI, 16, .inl D_roundEdges)), (Da_values, .inl (cI, 8, .inl D_values))] (sh_X8d Xa Xa_characters Da Da_roundEdges Da_values cI cC cS X_characters X_length o1.1 o1.2.1 o1.2.2 D_roundEdges D_values D_nodes D_rounds) rfl rfl rfl rfl (by decide) rfl rfl rfl rfl rfl rfl hl.1 rfl (Nat.le_of_ble_eq_true rfl) ⟨Nat.zero_le _, Nat.zero_le _⟩ dX8_readNodes_5 (fun H locs hP hD hS => ?_)
  refine lv_istore_n (lv' := [(2, .int o2), (0, .ref Xa), (1, .ref Da)]) hx hb dX8_readNodes_8 rfl hl (by decide) rfl (fun ls hl => ?_)
  refine lv_iload_n hx hb dX8_readNodes_9 rfl (lv_at hl 0 rfl) ?_
  refine lv_iconst (v := (2 : Int32)) hx hb dX8_readNodes_10 (by decide) ?_
  refine lv_icmp_lt (tgt := 20) hx hb dX8_readNodes_11 (by decide) (fun c3 => ?_) (fun c3 => ?_)
  · have hf := if_t c3 hf
    refine lv_iconst (v := (0 : Int32)) hx hb dX8_readNodes_20 (by decide) ?_
    have hf := Option.some.inj hf
    subst hf
    exact rt_z (ty := .boolean) hx hb hr rfl hlocks hQ hK hP hD hS rfl dX8_readNodes_21
  · have hf := if_f c3 hf
    refine lv_iload_n hx hb dX8_readNodes_14 rfl (lv_at hl 0 rfl) ?_
    refine lv_bipush (v := (8 : Int32)) hx hb dX8_readNodes_15 (by decide) ?_
    refine lv_icmp_le (tgt := 22) hx hb dX8_readNodes_17 (by decide) (fun c4 => ?_) (fun c4 => ?_)
    · have hf := if_t c4 hf
      refine lv_aload_n hx hb dX8_readNodes_22 rfl (lv_at hl 2 rfl) ?_
      refine lv_iload_n hx hb dX8_readNodes_23 rfl (lv_at hl 0 rfl) ?_
      obtain ⟨o5, ho5, hf⟩ := bd_some hf
      refine cv_v (ci := 4) (q := (RX7, TX7, 4)) (As := [.int o2]) (rest := []) hx hb hml hown hts hK hP hD hA hS (kX7_beginAnew l D cI cC cS Da Da_roundEdges Da_values o2 D_roundEdges D_values D_nodes D_rounds o5 ho5) (cwV 1 hts gX8_readNodes_X7_beginAnew rfl rfl rfl (by decide +kernel) (by subst hR; exact ⟨Nat.le_of_ble_eq_true rfl, Nat.le_of_ble_eq_true rfl⟩)) [2, 3, 4] [0, 1] [0, 1, 2, 3, 4] [(Xa, .inr (5, [.ref Xa_characters, .int X_length, .int o1.1, .int o1.2.1, .int o1.2.2])), (Xa_characters, .inl (cC, 120, .inl X_characters))] (sh_X8d Xa Xa_characters Da Da_roundEdges Da_values cI cC cS X_characters X_length o1.1 o1.2.1 o1.2.2 D_roundEdges o5.1 o5.2.1 o5.2.2) rfl rfl rfl rfl (by decide) rfl rfl rfl rfl rfl rfl hl.1 rfl (Nat.le_of_ble_eq_true rfl) ⟨Nat.zero_le _, Nat.zero_le _⟩ dX8_readNodes_24 (fun H locs hP hD hS => ?_)
      refine lv_aload_n hx hb dX8_readNodes_27 rfl (lv_at hl 1 rfl) ?_
      obtain ⟨o6, ho6, hf⟩ := bd_some hf
      refine cv_v (ci := 5) (q := (RX8, TX8, 5)) (As := []) (rest := []) hx hb hml hown hts hK hP hD hA hS (kX8_nextToken l D cI cC cS Xa Xa_characters  X_characters X_length o1.1 o1.2.1 o1.2.2 o6 ho6) (cwV 0 hts gX8_readNodes_X8_nextToken rfl rfl rfl (by decide +kernel) (by subst hR; exact ⟨Nat.le_of_ble_eq_true rfl, Nat.le_of_ble_eq_true rfl⟩)) [0, 1] [2, 3, 4] [3, 4, 0, 1, 2] [(Da, .inr (4, [.ref Da_roundEdges, .ref Da_values, .int o5.2.1, .int o5.2.2])), (Da_roundEdges, .inl (cI, 16, .inl D_roundEdges)), (Da_values, .inl (cI, 8, .inl o5.1))] (sh_X8d Xa Xa_characters Da Da_roundEdges Da_values cI cC cS X_characters X_length o6.1 o6.2.1 o6.2.2 D_roundEdges o5.1 o5.2.1 o5.2.2) rfl rfl rfl rfl (by decide) rfl rfl rfl rfl rfl rfl hl.1 rfl (Nat.le_of_ble_eq_true rfl) ⟨Nat.zero_le _, Nat.zero_le _⟩ dX8_readNodes_28 (fun H locs hP hD hS => ?_)
      refine lv_iconst (v := (1 : Int32)) hx hb dX8_readNodes_31 (by decide) ?_
      have hf := Option.some.inj hf
      subst hf
      exact rt_z (ty := .boolean) hx hb hr rfl hlocks hQ hK hP hD hS rfl dX8_readNodes_32
    · have hf := if_f c4 hf
      refine lv_iconst (v := (0 : Int32)) hx hb dX8_readNodes_20 (by decide) ?_
      have hf := Option.some.inj hf
      subst hf
      exact rt_z (ty := .boolean) hx hb hr rfl hlocks hQ hK hP hD hS rfl dX8_readNodes_21
set_option maxRecDepth 100000 in
set_option maxHeartbeats 4000000 in
theorem kX8_readRepeat (l : Launch) (D : va_G) (cI cC cS : ClassId) (Xa Xa_characters Da Da_roundEdges Da_values : Nat) (X_characters : Nat → Int32) (X_length : Int32) (X_kind : Int32) (X_start : Int32) (X_end : Int32) (D_roundEdges : Nat → Int32) (D_values : Nat → Int32) (D_nodes : Int32) (D_rounds : Int32) (o : Bool × Int32 × Int32 × Int32 × (Nat → Int32) × Int32) (hf : fX8_readRepeat X_characters X_length X_kind X_start X_end D_roundEdges D_rounds = some o) : CI l D yX8_readRepeat wsX8_readRepeat ({ frames := 3, cells := 0, slots := 0, locals := 63 } : Room) (tysK cI cC cS) [.ref Xa, .ref Da] (sh_X8d Xa Xa_characters Da Da_roundEdges Da_values cI cC cS X_characters X_length X_kind X_start X_end D_roundEdges D_values D_nodes D_rounds) (b2i o.1) (sh_X8d Xa Xa_characters Da Da_roundEdges Da_values cI cC cS X_characters X_length o.2.1 o.2.2.1 o.2.2.2.1 o.2.2.2.2.1 D_values D_nodes o.2.2.2.2.2) := by
  refine met_i (cc := cX8_readRepeat) (maxL := 5) (ret := (some .boolean)) (by decide) rfl (Nat.le_of_ble_eq_true rfl) ?_
  intro p e s m args below meth c R Q A F hR hQ hP hK hD hA hS ls hl
  obtain ⟨hx, hb, hr, hts, hml, hlocks, hown⟩ := F
  have hown : s.vm.findClass RX8 = some m.cls := hown
  have hl : lv_has ls 5 [(0, .ref Xa), (1, .ref Da)] := hl
  unfold fX8_readRepeat at hf
  have L41 : ∀ (x2 : Int32) (x3 : Int32) (X_kind : Int32) (X_start : Int32) (X_end : Int32) (n41 : Nat) (x4 : Int32) (D_roundEdges : Nat → Int32) (D_rounds : Int32) (H : Heap) (locs : List Loc) (ls : Array Slot), fX8_readRepeat_l41 x2 x3 X_characters X_length X_kind X_start X_end n41 x4 D_roundEdges D_rounds = some o → va_P D vwCl (sh_X8d Xa Xa_characters Da Da_roundEdges Da_values cI cC cS X_characters X_length X_kind X_start X_end D_roundEdges D_values D_nodes D_rounds) H → va_D A (sh_X8d Xa Xa_characters Da Da_roundEdges Da_values cI cC cS X_characters X_length X_kind X_start X_end D_roundEdges D_values D_nodes D_rounds) → va_S A s.heap H locs → lv_has ls 5 [(0, .ref Xa), (1, .ref Da), (2, .int x2), (3, .int x3), (4, .int x4)] → W p l e R s m args below meth c H locs 0 0 Q (F0 m 41 ls []) := by
    intro x2 x3 X_kind X_start X_end n41
    induction n41 with
    | zero => intro x4 D_roundEdges D_rounds H locs ls hf; cases (show (none : Option _) = some _ from hf)
    | succ n41 ih41 =>
      intro x4 D_roundEdges D_rounds H locs ls hf hP hD hS hl
      rw [fX8_readRepeat_l41] at hf
      refine lv_iload hx hb dX8_readRepeat_41 (lv_at hl 4 rfl) ?_
      refine lv_iload_n hx hb dX8_readRepeat_43 rfl (lv_at hl 2 rfl) ?_
      refine lv_icmp_ge (tgt := 58) hx hb dX8_readRepeat_44 (by decide) (fun c1 => ?_) (fun c1 => ?_)
      · have hf := if_t c1 hf
        refine lv_aload_n hx hb dX8_readRepeat_58 rfl (lv_at hl 0 rfl) ?_
        obtain ⟨o2, ho2, hf⟩ := bd_some hf
        refine cv_v (ci := 5) (q := (RX8, TX8, 5)) (As := []) (rest := []) hx hb hml hown hts hK hP hD hA hS (kX8_nextToken l D cI cC cS Xa Xa_characters  X_characters X_length X_kind X_start X_end o2 ho2) (cwV 0 hts gX8_readRepeat_X8_nextToken rfl rfl rfl (by decide +kernel) (by subst hR; exact ⟨Nat.le_of_ble_eq_true rfl, Nat.le_of_ble_eq_true rfl⟩)) [0, 1] [2, 3, 4] [3, 4, 0, 1, 2] [(Da, .inr (4, [.ref Da_roundEdges, .ref Da_values, .int D_nodes, .int D_rounds])), (Da_roundEdges, .inl (cI, 16, .inl D_roundEdges)), (Da_values, .inl (cI, 8, .inl D_values))] (sh_X8d Xa Xa_characters Da Da_roundEdges Da_values cI cC cS X_characters X_length o2.1 o2.2.1 o2.2.2 D_roundEdges D_values D_nodes D_rounds) rfl rfl rfl rfl (by decide) rfl rfl rfl rfl rfl rfl hl.1 rfl (Nat.le_of_ble_eq_true rfl) ⟨Nat.zero_le _, Nat.zero_le _⟩ dX8_readRepeat_59 (fun H locs hP hD hS => ?_)
        refine lv_iconst (v := (1 : Int32)) hx hb dX8_readRepeat_62 (by decide) ?_
        have hf := Option.some.inj hf
        subst hf
        exact rt_z (ty := .boolean) hx hb hr rfl hlocks hQ hK hP hD hS rfl dX8_readRepeat_63
      · have hf := if_f c1 hf
        refine lv_aload_n hx hb dX8_readRepeat_47 rfl (lv_at hl 1 rfl) ?_
        refine lv_iload_n hx hb dX8_readRepeat_48 rfl (lv_at hl 3 rfl) ?_
        obtain ⟨o3, ho3, hf⟩ := bd_some hf
        refine cv_v (ci := 4) (q := (RX7, TX7, 4)) (As := [.int x3]) (rest := []) hx hb hml hown hts hK hP hD hA hS (kX7_append l D cI cC cS Da Da_roundEdges Da_values x3 D_roundEdges D_values D_nodes D_rounds o3 ho3) (cwV 1 hts gX8_readRepeat_X7_append rfl rfl rfl (by decide +kernel) (by subst hR; exact ⟨Nat.le_of_ble_eq_true rfl, Nat.le_of_ble_eq_true rfl⟩)) [2, 3, 4] [0, 1] [0, 1, 2, 3, 4] [(Xa, .inr (5, [.ref Xa_characters, .int X_length, .int X_kind, .int X_start, .int X_end])), (Xa_characters, .inl (cC, 120, .inl X_characters))] (sh_X8d Xa Xa_characters Da Da_roundEdges Da_values cI cC cS X_characters X_length X_kind X_start X_end o3.1 D_values D_nodes o3.2) rfl rfl rfl rfl (by decide) rfl rfl rfl rfl rfl rfl hl.1 rfl (Nat.le_of_ble_eq_true rfl) ⟨Nat.zero_le _, Nat.zero_le _⟩ dX8_readRepeat_49 (fun H locs hP hD hS => ?_)
        refine lv_iinc (v := (x4 + 1)) (lv' := [(4, .int (x4 + 1)), (0, .ref Xa), (1, .ref Da), (2, .int x2), (3, .int x3)]) hx hb dX8_readRepeat_52 hl (k := 4) rfl rfl (by decide) rfl (fun ls hl => ?_)
        refine lv_goto (tgt := 41) hx hb dX8_readRepeat_55 (by decide) ?_
        exact ih41 (x4 + 1) o3.1 o3.2 _ _ _ hf hP hD hS (lv_sub hl [1, 2, 3, 4, 0] rfl)
  refine lv_aload_n hx hb dX8_readRepeat_0 rfl (lv_at hl 0 rfl) ?_
  obtain ⟨o4, ho4, hf⟩ := bd_some hf
  refine cv_v (ci := 5) (q := (RX8, TX8, 5)) (As := []) (rest := []) hx hb hml hown hts hK hP hD hA hS (kX8_nextToken l D cI cC cS Xa Xa_characters  X_characters X_length X_kind X_start X_end o4 ho4) (cwV 0 hts gX8_readRepeat_X8_nextToken rfl rfl rfl (by decide +kernel) (by subst hR; exact ⟨Nat.le_of_ble_eq_true rfl, Nat.le_of_ble_eq_true rfl⟩)) [0, 1] [2, 3, 4] [3, 4, 0, 1, 2] [(Da, .inr (4, [.ref Da_roundEdges, .ref Da_values, .int D_nodes, .int D_rounds])), (Da_roundEdges, .inl (cI, 16, .inl D_roundEdges)), (Da_values, .inl (cI, 8, .inl D_values))] (sh_X8d Xa Xa_characters Da Da_roundEdges Da_values cI cC cS X_characters X_length o4.1 o4.2.1 o4.2.2 D_roundEdges D_values D_nodes D_rounds) rfl rfl rfl rfl (by decide) rfl rfl rfl rfl rfl rfl hl.1 rfl (Nat.le_of_ble_eq_true rfl) ⟨Nat.zero_le _, Nat.zero_le _⟩ dX8_readRepeat_1 (fun H locs hP hD hS => ?_)
  refine lv_aload_n hx hb dX8_readRepeat_4 rfl (lv_at hl 0 rfl) ?_
  obtain ⟨o5, ho5, hf⟩ := bd_some hf
  refine cv_i (ci := 5) (q := (RX8, TX8, 5)) (As := []) (rest := []) hx hb hml hown hts hK hP hD hA hS (kX8_oneDigit l D cI cC cS Xa Xa_characters  X_characters X_length o4.1 o4.2.1 o4.2.2 o5 ho5) (cwV 0 hts gX8_readRepeat_X8_oneDigit rfl rfl rfl (by decide +kernel) (by subst hR; exact ⟨Nat.le_of_ble_eq_true rfl, Nat.le_of_ble_eq_true rfl⟩)) [0, 1] [2, 3, 4] [3, 4, 0, 1, 2] [(Da, .inr (4, [.ref Da_roundEdges, .ref Da_values, .int D_nodes, .int D_rounds])), (Da_roundEdges, .inl (cI, 16, .inl D_roundEdges)), (Da_values, .inl (cI, 8, .inl D_values))] (sh_X8d Xa Xa_characters Da Da_roundEdges Da_values cI cC cS X_characters X_length o4.1 o4.2.1 o4.2.2 D_roundEdges D_values D_nodes D_rounds) rfl rfl rfl rfl (by decide) rfl rfl rfl rfl rfl rfl hl.1 rfl (Nat.le_of_ble_eq_true rfl) ⟨Nat.zero_le _, Nat.zero_le _⟩ dX8_readRepeat_5 (fun H locs hP hD hS => ?_)
  refine lv_istore_n (lv' := [(2, .int o5), (0, .ref Xa), (1, .ref Da)]) hx hb dX8_readRepeat_8 rfl hl (by decide) rfl (fun ls hl => ?_)
  refine lv_iload_n hx hb dX8_readRepeat_9 rfl (lv_at hl 0 rfl) ?_
  refine lv_iconst (v := (1 : Int32)) hx hb dX8_readRepeat_10 (by decide) ?_
  refine lv_icmp_lt (tgt := 25) hx hb dX8_readRepeat_11 (by decide) (fun c6 => ?_) (fun c6 => ?_)
  · have hf := if_t c6 hf
    refine lv_iconst (v := (0 : Int32)) hx hb dX8_readRepeat_25 (by decide) ?_
    have hf := Option.some.inj hf
    subst hf
    exact rt_z (ty := .boolean) hx hb hr rfl hlocks hQ hK hP hD hS rfl dX8_readRepeat_26
  · have hf := if_f c6 hf
    refine lv_iload_n hx hb dX8_readRepeat_14 rfl (lv_at hl 0 rfl) ?_
    refine lv_bipush (v := (16 : Int32)) hx hb dX8_readRepeat_15 (by decide) ?_
    refine lv_aload_n hx hb dX8_readRepeat_17 rfl (lv_at hl 2 rfl) ?_
    refine cv_i (ci := 4) (q := (RX7, TX7, 4)) (As := []) (rest := [.int (16 : Int32), .int o5]) hx hb hml hown hts hK hP hD hA hS (kX7_rounds l D cI cC cS Da Da_roundEdges Da_values  D_roundEdges D_values D_nodes D_rounds (fX7_rounds D_rounds) rfl) (cwV 0 hts gX8_readRepeat_X7_rounds rfl rfl rfl (by decide +kernel) (by subst hR; exact ⟨Nat.le_of_ble_eq_true rfl, Nat.le_of_ble_eq_true rfl⟩)) [2, 3, 4] [0, 1] [0, 1, 2, 3, 4] [(Xa, .inr (5, [.ref Xa_characters, .int X_length, .int o4.1, .int o4.2.1, .int o4.2.2])), (Xa_characters, .inl (cC, 120, .inl X_characters))] (sh_X8d Xa Xa_characters Da Da_roundEdges Da_values cI cC cS X_characters X_length o4.1 o4.2.1 o4.2.2 D_roundEdges D_values D_nodes D_rounds) rfl rfl rfl rfl (by decide) rfl rfl rfl rfl rfl rfl hl.1 rfl (Nat.le_of_ble_eq_true rfl) ⟨Nat.zero_le _, Nat.zero_le _⟩ dX8_readRepeat_18 (fun H locs hP hD hS => ?_)
    refine lv_isub hx hb dX8_readRepeat_21 ?_
    refine lv_icmp_le (tgt := 27) hx hb dX8_readRepeat_22 (by decide) (fun c7 => ?_) (fun c7 => ?_)
    · have hf := if_t c7 hf
      refine lv_aload_n hx hb dX8_readRepeat_27 rfl (lv_at hl 2 rfl) ?_
      refine lv_aload_n hx hb dX8_readRepeat_28 rfl (lv_at hl 2 rfl) ?_
      refine cv_i (ci := 4) (q := (RX7, TX7, 4)) (As := []) (rest := [.ref Da]) hx hb hml hown hts hK hP hD hA hS (kX7_rounds l D cI cC cS Da Da_roundEdges Da_values  D_roundEdges D_values D_nodes D_rounds (fX7_rounds D_rounds) rfl) (cwV 0 hts gX8_readRepeat_X7_rounds rfl rfl rfl (by decide +kernel) (by subst hR; exact ⟨Nat.le_of_ble_eq_true rfl, Nat.le_of_ble_eq_true rfl⟩)) [2, 3, 4] [0, 1] [0, 1, 2, 3, 4] [(Xa, .inr (5, [.ref Xa_characters, .int X_length, .int o4.1, .int o4.2.1, .int o4.2.2])), (Xa_characters, .inl (cC, 120, .inl X_characters))] (sh_X8d Xa Xa_characters Da Da_roundEdges Da_values cI cC cS X_characters X_length o4.1 o4.2.1 o4.2.2 D_roundEdges D_values D_nodes D_rounds) rfl rfl rfl rfl (by decide) rfl rfl rfl rfl rfl rfl hl.1 rfl (Nat.le_of_ble_eq_true rfl) ⟨Nat.zero_le _, Nat.zero_le _⟩ dX8_readRepeat_29 (fun H locs hP hD hS => ?_)
      refine lv_iconst (v := (1 : Int32)) hx hb dX8_readRepeat_32 (by decide) ?_
      refine lv_isub hx hb dX8_readRepeat_33 ?_
      obtain ⟨o8, ho8, hf⟩ := bd_some hf
      refine cv_i (ci := 4) (q := (RX7, TX7, 4)) (As := [.int ((fX7_rounds D_rounds) - (1 : Int32))]) (rest := []) hx hb hml hown hts hK hP hD hA hS (kX7_edgesOf l D cI cC cS Da Da_roundEdges Da_values ((fX7_rounds D_rounds) - (1 : Int32)) D_roundEdges D_values D_nodes D_rounds o8 ho8) (cwV 1 hts gX8_readRepeat_X7_edgesOf rfl rfl rfl (by decide +kernel) (by subst hR; exact ⟨Nat.le_of_ble_eq_true rfl, Nat.le_of_ble_eq_true rfl⟩)) [2, 3, 4] [0, 1] [0, 1, 2, 3, 4] [(Xa, .inr (5, [.ref Xa_characters, .int X_length, .int o4.1, .int o4.2.1, .int o4.2.2])), (Xa_characters, .inl (cC, 120, .inl X_characters))] (sh_X8d Xa Xa_characters Da Da_roundEdges Da_values cI cC cS X_characters X_length o4.1 o4.2.1 o4.2.2 D_roundEdges D_values D_nodes D_rounds) rfl rfl rfl rfl (by decide) rfl rfl rfl rfl rfl rfl hl.1 rfl (Nat.le_of_ble_eq_true rfl) ⟨Nat.zero_le _, Nat.zero_le _⟩ dX8_readRepeat_34 (fun H locs hP hD hS => ?_)
      refine lv_istore_n (lv' := [(3, .int o8), (2, .int o5), (0, .ref Xa), (1, .ref Da)]) hx hb dX8_readRepeat_37 rfl hl (by decide) rfl (fun ls hl => ?_)
      refine lv_iconst (v := (0 : Int32)) hx hb dX8_readRepeat_38 (by decide) ?_
      refine lv_istore (lv' := [(4, .int (0 : Int32)), (3, .int o8), (2, .int o5), (0, .ref Xa), (1, .ref Da)]) hx hb dX8_readRepeat_39 hl (by decide) rfl (fun ls hl => ?_)
      exact L41 o5 o8 o4.1 o4.2.1 o4.2.2 fuel (0 : Int32) D_roundEdges D_rounds _ _ _ hf hP hD hS (lv_sub hl [3, 4, 2, 1, 0] rfl)
    · have hf := if_f c7 hf
      refine lv_iconst (v := (0 : Int32)) hx hb dX8_readRepeat_25 (by decide) ?_
      have hf := Option.some.inj hf
      subst hf
      exact rt_z (ty := .boolean) hx hb hr rfl hlocks hQ hK hP hD hS rfl dX8_readRepeat_26
set_option maxRecDepth 100000 in
set_option maxHeartbeats 4000000 in
theorem kX8_readStar (l : Launch) (D : va_G) (cI cC cS : ClassId) (Xa Xa_characters Da Da_roundEdges Da_values : Nat) (X_characters : Nat → Int32) (X_length : Int32) (X_kind : Int32) (X_start : Int32) (X_end : Int32) (D_roundEdges : Nat → Int32) (D_values : Nat → Int32) (D_nodes : Int32) (D_rounds : Int32) (o : Bool × Int32 × Int32 × Int32 × (Nat → Int32) × Int32) (hf : fX8_readStar X_characters X_length X_kind X_start X_end D_roundEdges D_nodes D_rounds = some o) : CI l D yX8_readStar wsX8_readStar ({ frames := 3, cells := 0, slots := 0, locals := 63 } : Room) (tysK cI cC cS) [.ref Xa, .ref Da] (sh_X8d Xa Xa_characters Da Da_roundEdges Da_values cI cC cS X_characters X_length X_kind X_start X_end D_roundEdges D_values D_nodes D_rounds) (b2i o.1) (sh_X8d Xa Xa_characters Da Da_roundEdges Da_values cI cC cS X_characters X_length o.2.1 o.2.2.1 o.2.2.2.1 o.2.2.2.2.1 D_values D_nodes o.2.2.2.2.2) := by
  refine met_i (cc := cX8_readStar) (maxL := 3) (ret := (some .boolean)) (by decide) rfl (Nat.le_of_ble_eq_true rfl) ?_
  intro p e s m args below meth c R Q A F hR hQ hP hK hD hA hS ls hl
  obtain ⟨hx, hb, hr, hts, hml, hlocks, hown⟩ := F
  have hown : s.vm.findClass RX8 = some m.cls := hown
  have hl : lv_has ls 3 [(0, .ref Xa), (1, .ref Da)] := hl
  unfold fX8_readStar at hf
  refine lv_aload_n hx hb dX8_readStar_0 rfl (lv_at hl 0 rfl) ?_
  obtain ⟨o1, ho1, hf⟩ := bd_some hf
  refine cv_v (ci := 5) (q := (RX8, TX8, 5)) (As := []) (rest := []) hx hb hml hown hts hK hP hD hA hS (kX8_nextToken l D cI cC cS Xa Xa_characters  X_characters X_length X_kind X_start X_end o1 ho1) (cwV 0 hts gX8_readStar_X8_nextToken rfl rfl rfl (by decide +kernel) (by subst hR; exact ⟨Nat.le_of_ble_eq_true rfl, Nat.le_of_ble_eq_true rfl⟩)) [0, 1] [2, 3, 4] [3, 4, 0, 1, 2] [(Da, .inr (4, [.ref Da_roundEdges, .ref Da_values, .int D_nodes, .int D_rounds])), (Da_roundEdges, .inl (cI, 16, .inl D_roundEdges)), (Da_values, .inl (cI, 8, .inl D_values))] (sh_X8d Xa Xa_characters Da Da_roundEdges Da_values cI cC cS X_characters X_length o1.1 o1.2.1 o1.2.2 D_roundEdges D_values D_nodes D_rounds) rfl rfl rfl rfl (by decide) rfl rfl rfl rfl rfl rfl hl.1 rfl (Nat.le_of_ble_eq_true rfl) ⟨Nat.zero_le _, Nat.zero_le _⟩ dX8_readStar_1 (fun H locs hP hD hS => ?_)
  refine lv_aload_n hx hb dX8_readStar_4 rfl (lv_at hl 0 rfl) ?_
  obtain ⟨o2, ho2, hf⟩ := bd_some hf
  refine cv_i (ci := 5) (q := (RX8, TX8, 5)) (As := []) (rest := []) hx hb hml hown hts hK hP hD hA hS (kX8_oneDigit l D cI cC cS Xa Xa_characters  X_characters X_length o1.1 o1.2.1 o1.2.2 o2 ho2) (cwV 0 hts gX8_readStar_X8_oneDigit rfl rfl rfl (by decide +kernel) (by subst hR; exact ⟨Nat.le_of_ble_eq_true rfl, Nat.le_of_ble_eq_true rfl⟩)) [0, 1] [2, 3, 4] [3, 4, 0, 1, 2] [(Da, .inr (4, [.ref Da_roundEdges, .ref Da_values, .int D_nodes, .int D_rounds])), (Da_roundEdges, .inl (cI, 16, .inl D_roundEdges)), (Da_values, .inl (cI, 8, .inl D_values))] (sh_X8d Xa Xa_characters Da Da_roundEdges Da_values cI cC cS X_characters X_length o1.1 o1.2.1 o1.2.2 D_roundEdges D_values D_nodes D_rounds) rfl rfl rfl rfl (by decide) rfl rfl rfl rfl rfl rfl hl.1 rfl (Nat.le_of_ble_eq_true rfl) ⟨Nat.zero_le _, Nat.zero_le _⟩ dX8_readStar_5 (fun H locs hP hD hS => ?_)
  refine lv_istore_n (lv' := [(2, .int o2), (0, .ref Xa), (1, .ref Da)]) hx hb dX8_readStar_8 rfl hl (by decide) rfl (fun ls hl => ?_)
  refine lv_aload_n hx hb dX8_readStar_9 rfl (lv_at hl 2 rfl) ?_
  refine lv_iload_n hx hb dX8_readStar_10 rfl (lv_at hl 0 rfl) ?_
  refine cv_i (ci := 4) (q := (RX7, TX7, 4)) (As := [.int o2]) (rest := []) hx hb hml hown hts hK hP hD hA hS (kX7_hasNode l D cI cC cS Da Da_roundEdges Da_values o2 D_roundEdges D_values D_nodes D_rounds (fX7_hasNode o2 D_nodes) rfl) (cwV 1 hts gX8_readStar_X7_hasNode rfl rfl rfl (by decide +kernel) (by subst hR; exact ⟨Nat.le_of_ble_eq_true rfl, Nat.le_of_ble_eq_true rfl⟩)) [2, 3, 4] [0, 1] [0, 1, 2, 3, 4] [(Xa, .inr (5, [.ref Xa_characters, .int X_length, .int o1.1, .int o1.2.1, .int o1.2.2])), (Xa_characters, .inl (cC, 120, .inl X_characters))] (sh_X8d Xa Xa_characters Da Da_roundEdges Da_values cI cC cS X_characters X_length o1.1 o1.2.1 o1.2.2 D_roundEdges D_values D_nodes D_rounds) rfl rfl rfl rfl (by decide) rfl rfl rfl rfl rfl rfl hl.1 rfl (Nat.le_of_ble_eq_true rfl) ⟨Nat.zero_le _, Nat.zero_le _⟩ dX8_readStar_11 (fun H locs hP hD hS => ?_)
  refine lv_if_ne (tgt := 19) hx hb dX8_readStar_14 (by decide) (fun c3 => ?_) (fun c3 => ?_)
  · have hf := if_f c3 hf
    refine lv_aload_n hx hb dX8_readStar_19 rfl (lv_at hl 2 rfl) ?_
    refine lv_iload_n hx hb dX8_readStar_20 rfl (lv_at hl 0 rfl) ?_
    refine lv_aload_n hx hb dX8_readStar_21 rfl (lv_at hl 2 rfl) ?_
    refine cv_i (ci := 4) (q := (RX7, TX7, 4)) (As := []) (rest := [.int o2, .ref Da]) hx hb hml hown hts hK hP hD hA hS (kX7_nodes l D cI cC cS Da Da_roundEdges Da_values  D_roundEdges D_values D_nodes D_rounds (fX7_nodes D_nodes) rfl) (cwV 0 hts gX8_readStar_X7_nodes rfl rfl rfl (by decide +kernel) (by subst hR; exact ⟨Nat.le_of_ble_eq_true rfl, Nat.le_of_ble_eq_true rfl⟩)) [2, 3, 4] [0, 1] [0, 1, 2, 3, 4] [(Xa, .inr (5, [.ref Xa_characters, .int X_length, .int o1.1, .int o1.2.1, .int o1.2.2])), (Xa_characters, .inl (cC, 120, .inl X_characters))] (sh_X8d Xa Xa_characters Da Da_roundEdges Da_values cI cC cS X_characters X_length o1.1 o1.2.1 o1.2.2 D_roundEdges D_values D_nodes D_rounds) rfl rfl rfl rfl (by decide) rfl rfl rfl rfl rfl rfl hl.1 rfl (Nat.le_of_ble_eq_true rfl) ⟨Nat.zero_le _, Nat.zero_le _⟩ dX8_readStar_22 (fun H locs hP hD hS => ?_)
    obtain ⟨o4, ho4, hf⟩ := bd_some hf
    refine cs_i (As := [.int o2, .int (fX7_nodes D_nodes)]) (rest := [.ref Da]) hx hb hml hown hts hK hP hD hA hS (kX2_star l D cI cC cS  o2 (fX7_nodes D_nodes)  o4 ho4) (va_cwS 2 hts gX8_readStar_X2_star rfl rfl rfl (by decide +kernel) (by subst hR; exact ⟨Nat.le_of_ble_eq_true rfl, Nat.le_of_ble_eq_true rfl⟩)) rfl hl.1 rfl (Nat.le_of_ble_eq_true rfl) ⟨Nat.zero_le _, Nat.zero_le _⟩ dX8_readStar_25 (fun H locs hP hD hS => ?_)
    obtain ⟨o5, ho5, hf⟩ := bd_some hf
    refine cv_v (ci := 4) (q := (RX7, TX7, 4)) (As := [.int o4]) (rest := []) hx hb hml hown hts hK hP hD hA hS (kX7_append l D cI cC cS Da Da_roundEdges Da_values o4 D_roundEdges D_values D_nodes D_rounds o5 ho5) (cwV 1 hts gX8_readStar_X7_append rfl rfl rfl (by decide +kernel) (by subst hR; exact ⟨Nat.le_of_ble_eq_true rfl, Nat.le_of_ble_eq_true rfl⟩)) [2, 3, 4] [0, 1] [0, 1, 2, 3, 4] [(Xa, .inr (5, [.ref Xa_characters, .int X_length, .int o1.1, .int o1.2.1, .int o1.2.2])), (Xa_characters, .inl (cC, 120, .inl X_characters))] (sh_X8d Xa Xa_characters Da Da_roundEdges Da_values cI cC cS X_characters X_length o1.1 o1.2.1 o1.2.2 o5.1 D_values D_nodes o5.2) rfl rfl rfl rfl (by decide) rfl rfl rfl rfl rfl rfl hl.1 rfl (Nat.le_of_ble_eq_true rfl) ⟨Nat.zero_le _, Nat.zero_le _⟩ dX8_readStar_28 (fun H locs hP hD hS => ?_)
    refine lv_aload_n hx hb dX8_readStar_31 rfl (lv_at hl 1 rfl) ?_
    obtain ⟨o6, ho6, hf⟩ := bd_some hf
    refine cv_v (ci := 5) (q := (RX8, TX8, 5)) (As := []) (rest := []) hx hb hml hown hts hK hP hD hA hS (kX8_nextToken l D cI cC cS Xa Xa_characters  X_characters X_length o1.1 o1.2.1 o1.2.2 o6 ho6) (cwV 0 hts gX8_readStar_X8_nextToken rfl rfl rfl (by decide +kernel) (by subst hR; exact ⟨Nat.le_of_ble_eq_true rfl, Nat.le_of_ble_eq_true rfl⟩)) [0, 1] [2, 3, 4] [3, 4, 0, 1, 2] [(Da, .inr (4, [.ref Da_roundEdges, .ref Da_values, .int D_nodes, .int o5.2])), (Da_roundEdges, .inl (cI, 16, .inl o5.1)), (Da_values, .inl (cI, 8, .inl D_values))] (sh_X8d Xa Xa_characters Da Da_roundEdges Da_values cI cC cS X_characters X_length o6.1 o6.2.1 o6.2.2 o5.1 D_values D_nodes o5.2) rfl rfl rfl rfl (by decide) rfl rfl rfl rfl rfl rfl hl.1 rfl (Nat.le_of_ble_eq_true rfl) ⟨Nat.zero_le _, Nat.zero_le _⟩ dX8_readStar_32 (fun H locs hP hD hS => ?_)
    refine lv_iconst (v := (1 : Int32)) hx hb dX8_readStar_35 (by decide) ?_
    have hf := Option.some.inj hf
    subst hf
    exact rt_z (ty := .boolean) hx hb hr rfl hlocks hQ hK hP hD hS rfl dX8_readStar_36
  · have hf := if_t c3 hf
    refine lv_iconst (v := (0 : Int32)) hx hb dX8_readStar_17 (by decide) ?_
    have hf := Option.some.inj hf
    subst hf
    exact rt_z (ty := .boolean) hx hb hr rfl hlocks hQ hK hP hD hS rfl dX8_readStar_18
set_option maxRecDepth 100000 in
set_option maxHeartbeats 4000000 in
theorem kX9_oneIf (l : Launch) (D : va_G) (cI cC cS : ClassId) (x0 : Int32) (o : Int32) (hf : fX9_oneIf x0 = o) : CI l D yX9_oneIf wsX9_oneIf ({ frames := 0, cells := 0, slots := 0, locals := 0 } : Room) (tysK cI cC cS) [.int x0] [] o [] := by
  refine met_i (cc := cX9_oneIf) (maxL := 1) (ret := (some .int)) (by decide) rfl (Nat.le_of_ble_eq_true rfl) ?_
  intro p e s m args below meth c R Q A F hR hQ hP hK hD hA hS ls hl
  obtain ⟨hx, hb, hr, hts, hml, hlocks, hown⟩ := F
  have hown : s.vm.findClass RX9 = some m.cls := hown
  have hl : lv_has ls 1 [(0, .int x0)] := hl
  unfold fX9_oneIf at hf
  refine lv_iload_n hx hb dX9_oneIf_0 rfl (lv_at hl 0 rfl) ?_
  refine lv_if_eq (tgt := 8) hx hb dX9_oneIf_1 (by decide) (fun c1 => ?_) (fun c1 => ?_)
  · have hf := if_t c1 hf
    refine lv_iconst (v := (0 : Int32)) hx hb dX9_oneIf_8 (by decide) ?_
    subst hf
    exact rt_i hx hb hr hlocks hQ hK hP hD hS rfl dX9_oneIf_9
  · have hf := if_f c1 hf
    refine lv_iconst (v := (1 : Int32)) hx hb dX9_oneIf_4 (by decide) ?_
    refine lv_goto (tgt := 9) hx hb dX9_oneIf_5 (by decide) ?_
    subst hf
    exact rt_i hx hb hr hlocks hQ hK hP hD hS rfl dX9_oneIf_9
set_option maxRecDepth 100000 in
set_option maxHeartbeats 4000000 in
theorem kX9_edge (l : Launch) (D : va_G) (cI cC cS : ClassId) (Ta Sa Sa_roundEdges Sa_values Tr_draft Tr_history Tr_text Tr_flooding Tr_gossiping Tr_counting : Nat) (x1 : Int32) (x2 : Int32) (x3 : Int32) (S_roundEdges : Nat → Int32) (S_values : Nat → Int32) (S_nodes : Int32) (S_rounds : Int32) (o : Int32) (hf : fX9_edge x1 x2 x3 S_roundEdges S_nodes S_rounds = some o) : CI l D yX9_edge wsX9_edge ({ frames := 2, cells := 0, slots := 0, locals := 44 } : Room) (tysK cI cC cS) [.ref Ta, .int x1, .int x2, .int x3] (sh_X9S Ta Sa Sa_roundEdges Sa_values Tr_draft Tr_history Tr_text Tr_flooding Tr_gossiping Tr_counting cI cC cS S_roundEdges S_values S_nodes S_rounds) o (sh_X9S Ta Sa Sa_roundEdges Sa_values Tr_draft Tr_history Tr_text Tr_flooding Tr_gossiping Tr_counting cI cC cS S_roundEdges S_values S_nodes S_rounds) := by
  refine met_i (cc := cX9_edge) (maxL := 4) (ret := (some .int)) (by decide) rfl (Nat.le_of_ble_eq_true rfl) ?_
  intro p e s m args below meth c R Q A F hR hQ hP hK hD hA hS ls hl
  obtain ⟨hx, hb, hr, hts, hml, hlocks, hown⟩ := F
  have hown : s.vm.findClass RX9 = some m.cls := hown
  have hi_X9 : ∀ w ∈ u_ws RX9 TX9 7, w ∈ wsX9_edge := fun w h => List.mem_cons_of_mem _ (List.mem_append_left _ (List.mem_append_right _ h))
  have q10 := hts (.fieldLink RX9 10 "ChangingRounds" "schedule" "LChangingRounds$Schedule;") (by decide +kernel)
  have hl : lv_has ls 4 [(0, .ref Ta), (1, .int x1), (2, .int x2), (3, .int x3)] := hl
  unfold fX9_edge at hf
  refine lv_aload_n hx hb dX9_edge_0 rfl (lv_at hl 0 rfl) ?_
  refine va_get (D := D) (ci := 6) (v := .ref Sa) (C := RX9) (T := TX9) (N := 7) hx hb hts hi_X9 hown hK hP 0 rfl rfl 0 (by decide) q10 (fun _ h9 => h9) rfl dX9_edge_1 ?_
  refine lv_iload_n hx hb dX9_edge_4 rfl (lv_at hl 1 rfl) ?_
  refine lv_iload_n hx hb dX9_edge_5 rfl (lv_at hl 2 rfl) ?_
  refine lv_iload_n hx hb dX9_edge_6 rfl (lv_at hl 3 rfl) ?_
  refine cv_i (ci := 4) (q := (RX7, TX7, 4)) (As := [.int x1, .int x2, .int x3]) (rest := []) hx hb hml hown hts hK hP hD hA hS (kX7_hasPlace l D cI cC cS Sa Sa_roundEdges Sa_values x1 x2 x3 S_roundEdges S_values S_nodes S_rounds (fX7_hasPlace x1 x2 x3 S_nodes S_rounds) rfl) (cwV 3 hts gX9_edge_X7_hasPlace rfl rfl rfl (by decide +kernel) (by subst hR; exact ⟨Nat.le_of_ble_eq_true rfl, Nat.le_of_ble_eq_true rfl⟩)) [1, 2, 3] [0] [0, 1, 2, 3] [(Ta, .inr (6, [.ref Sa, .ref Tr_draft, .ref Tr_history, .ref Tr_text, .ref Tr_flooding, .ref Tr_gossiping, .ref Tr_counting]))] (sh_X9S Ta Sa Sa_roundEdges Sa_values Tr_draft Tr_history Tr_text Tr_flooding Tr_gossiping Tr_counting cI cC cS S_roundEdges S_values S_nodes S_rounds) rfl rfl rfl rfl (by decide) rfl rfl rfl rfl rfl rfl hl.1 rfl (Nat.le_of_ble_eq_true rfl) ⟨Nat.zero_le _, Nat.zero_le _⟩ dX9_edge_7 (fun H locs hP hD hS => ?_)
  refine lv_if_ne (tgt := 15) hx hb dX9_edge_10 (by decide) (fun c1 => ?_) (fun c1 => ?_)
  · have hf := if_f c1 hf
    refine lv_aload_n hx hb dX9_edge_15 rfl (lv_at hl 0 rfl) ?_
    refine va_get (D := D) (ci := 6) (v := .ref Sa) (C := RX9) (T := TX9) (N := 7) hx hb hts hi_X9 hown hK hP 0 rfl rfl 0 (by decide) q10 (fun _ h9 => h9) rfl dX9_edge_16 ?_
    refine lv_iload_n hx hb dX9_edge_19 rfl (lv_at hl 1 rfl) ?_
    obtain ⟨o2, ho2, hf⟩ := bd_some hf
    refine cv_i (ci := 4) (q := (RX7, TX7, 4)) (As := [.int x1]) (rest := []) hx hb hml hown hts hK hP hD hA hS (kX7_edgesOf l D cI cC cS Sa Sa_roundEdges Sa_values x1 S_roundEdges S_values S_nodes S_rounds o2 ho2) (cwV 1 hts gX9_edge_X7_edgesOf rfl rfl rfl (by decide +kernel) (by subst hR; exact ⟨Nat.le_of_ble_eq_true rfl, Nat.le_of_ble_eq_true rfl⟩)) [1, 2, 3] [0] [0, 1, 2, 3] [(Ta, .inr (6, [.ref Sa, .ref Tr_draft, .ref Tr_history, .ref Tr_text, .ref Tr_flooding, .ref Tr_gossiping, .ref Tr_counting]))] (sh_X9S Ta Sa Sa_roundEdges Sa_values Tr_draft Tr_history Tr_text Tr_flooding Tr_gossiping Tr_counting cI cC cS S_roundEdges S_values S_nodes S_rounds) rfl rfl rfl rfl (by decide) rfl rfl rfl rfl rfl rfl hl.1 rfl (Nat.le_of_ble_eq_true rfl) ⟨Nat.zero_le _, Nat.zero_le _⟩ dX9_edge_20 (fun H locs hP hD hS => ?_)
    refine lv_iload_n hx hb dX9_edge_23 rfl (lv_at hl 2 rfl) ?_
    refine lv_iload_n hx hb dX9_edge_24 rfl (lv_at hl 3 rfl) ?_
    refine cs_i (As := [.int o2, .int x2, .int x3]) (rest := []) hx hb hml hown hts hK hP hD hA hS (kX2_connects l D cI cC cS  o2 x2 x3  (fX2_connects o2 x2 x3) rfl) (va_cwS 3 hts gX9_edge_X2_connects rfl rfl rfl (by decide +kernel) (by subst hR; exact ⟨Nat.le_of_ble_eq_true rfl, Nat.le_of_ble_eq_true rfl⟩)) rfl hl.1 rfl (Nat.le_of_ble_eq_true rfl) ⟨Nat.zero_le _, Nat.zero_le _⟩ dX9_edge_25 (fun H locs hP hD hS => ?_)
    refine cs_i (As := [.int (b2i (fX2_connects o2 x2 x3))]) (rest := []) hx hb hml hown hts hK hP hD hA hS (kX9_oneIf l D cI cC cS  (b2i (fX2_connects o2 x2 x3))  (fX9_oneIf (b2i (fX2_connects o2 x2 x3))) rfl) (va_cwS 1 hts gX9_edge_X9_oneIf rfl rfl rfl (by decide +kernel) (by subst hR; exact ⟨Nat.le_of_ble_eq_true rfl, Nat.le_of_ble_eq_true rfl⟩)) rfl hl.1 rfl (Nat.le_of_ble_eq_true rfl) ⟨Nat.zero_le _, Nat.zero_le _⟩ dX9_edge_28 (fun H locs hP hD hS => ?_)
    have hf := Option.some.inj hf
    subst hf
    exact rt_i hx hb hr hlocks hQ hK hP hD hS rfl dX9_edge_31
  · have hf := if_t c1 hf
    refine lv_iconst (v := (-1 : Int32)) hx hb dX9_edge_13 (by decide) ?_
    have hf := Option.some.inj hf
    subst hf
    exact rt_i hx hb hr hlocks hQ hK hP hD hS rfl dX9_edge_14
