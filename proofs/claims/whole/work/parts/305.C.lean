set_option maxRecDepth 100000 in
set_option maxHeartbeats 4000000 in
theorem kX7_staysConnected (l : Launch) (D : va_G) (cI cC cS : ClassId) (Sa Sa_roundEdges Sa_values : Nat) (x1 : Int32) (S_roundEdges : Nat → Int32) (S_values : Nat → Int32) (S_nodes : Int32) (S_rounds : Int32) (o : Bool) (hf : fX7_staysConnected x1 S_roundEdges S_nodes S_rounds = some o) : CI l D yX7_staysConnected wsX7_staysConnected ({ frames := 5, cells := 0, slots := 0, locals := 114 } : Room) (tysK cI cC cS) [.ref Sa, .int x1] (sh_X7 Sa Sa_roundEdges Sa_values cI cC cS S_roundEdges S_values S_nodes S_rounds) (b2i o) (sh_X7 Sa Sa_roundEdges Sa_values cI cC cS S_roundEdges S_values S_nodes S_rounds) := by
  refine met_i (cc := cX7_staysConnected) (maxL := 3) (ret := (some .boolean)) (by decide) rfl (Nat.le_of_ble_eq_true rfl) ?_
  intro p e s m args below meth c R Q A F hR hQ hP hK hD hA hS ls hl
  obtain ⟨hx, hb, hr, hts, hml, hlocks, hown⟩ := F
  have hown : s.vm.findClass RX7 = some m.cls := hown
  have hi_X7 : ∀ w ∈ u_ws RX7 TX7 4, w ∈ wsX7_staysConnected := fun w h => List.mem_cons_of_mem _ (List.mem_append_right _ h)
  have q26 := hts (.fieldLink RX7 26 "ChangingRounds$Schedule" "rounds" "I") (by decide +kernel)
  have q22 := hts (.fieldLink RX7 22 "ChangingRounds$Schedule" "nodes" "I") (by decide +kernel)
  have hl : lv_has ls 3 [(0, .ref Sa), (1, .int x1)] := hl
  unfold fX7_staysConnected at hf
  have L2 : ∀ (n2 : Nat) (x2 : Int32) (H : Heap) (locs : List Loc) (ls : Array Slot), fX7_staysConnected_l2 x1 S_roundEdges S_nodes S_rounds n2 x2 = some o → va_P D vwCl (sh_X7 Sa Sa_roundEdges Sa_values cI cC cS S_roundEdges S_values S_nodes S_rounds) H → va_D A (sh_X7 Sa Sa_roundEdges Sa_values cI cC cS S_roundEdges S_values S_nodes S_rounds) → va_S A s.heap H locs → lv_has ls 3 [(0, .ref Sa), (1, .int x1), (2, .int x2)] → W p l e R s m args below meth c H locs 0 0 Q (F0 m 2 ls []) := by
    intro n2
    induction n2 with
    | zero => intro x2 H locs ls hf; cases (show (none : Option _) = some _ from hf)
    | succ n2 ih2 =>
      intro x2 H locs ls hf hP hD hS hl
      rw [fX7_staysConnected_l2] at hf
      refine lv_iload_n hx hb dX7_staysConnected_2 rfl (lv_at hl 2 rfl) ?_
      refine lv_iload_n hx hb dX7_staysConnected_3 rfl (lv_at hl 1 rfl) ?_
      refine lv_iadd hx hb dX7_staysConnected_4 ?_
      refine lv_aload_n hx hb dX7_staysConnected_5 rfl (lv_at hl 0 rfl) ?_
      refine va_get (D := D) (ci := 4) (v := .int S_rounds) (C := RX7) (T := TX7) (N := 4) hx hb hts hi_X7 hown hK hP 0 rfl rfl 3 (by decide) q26 (fun _ h9 => h9) rfl dX7_staysConnected_6 ?_
      refine lv_icmp_gt (tgt := 36) hx hb dX7_staysConnected_9 (by decide) (fun c1 => ?_) (fun c1 => ?_)
      · have hf := if_t c1 hf
        refine lv_iconst (v := (1 : Int32)) hx hb dX7_staysConnected_36 (by decide) ?_
        have hf := Option.some.inj hf
        subst hf
        exact rt_z (ty := .boolean) hx hb hr rfl hlocks hQ hK hP hD hS rfl dX7_staysConnected_37
      · have hf := if_f c1 hf
        refine lv_aload_n hx hb dX7_staysConnected_12 rfl (lv_at hl 0 rfl) ?_
        refine lv_iload_n hx hb dX7_staysConnected_13 rfl (lv_at hl 2 rfl) ?_
        refine lv_iload_n hx hb dX7_staysConnected_14 rfl (lv_at hl 1 rfl) ?_
        obtain ⟨o2, ho2, hf⟩ := bd_some hf
        refine cv_i (ci := 4) (q := (RX7, TX7, 4)) (As := [.int x2, .int x1]) (rest := []) hx hb hml hown hts hK hP hD hA hS (kX7_edgesThatStay l D cI cC cS Sa Sa_roundEdges Sa_values x2 x1 S_roundEdges S_values S_nodes S_rounds o2 ho2) (cwV 2 hts gX7_staysConnected_X7_edgesThatStay rfl rfl rfl (by decide +kernel) (by subst hR; exact ⟨Nat.le_of_ble_eq_true rfl, Nat.le_of_ble_eq_true rfl⟩)) [0, 1, 2] [] [0, 1, 2] [] (sh_X7 Sa Sa_roundEdges Sa_values cI cC cS S_roundEdges S_values S_nodes S_rounds) rfl rfl rfl rfl (by decide) rfl rfl rfl rfl rfl rfl hl.1 rfl (Nat.le_of_ble_eq_true rfl) ⟨Nat.zero_le _, Nat.zero_le _⟩ dX7_staysConnected_15 (fun H locs hP hD hS => ?_)
        refine lv_aload_n hx hb dX7_staysConnected_18 rfl (lv_at hl 0 rfl) ?_
        refine va_get (D := D) (ci := 4) (v := .int S_nodes) (C := RX7) (T := TX7) (N := 4) hx hb hts hi_X7 hown hK hP 0 rfl rfl 2 (by decide) q22 (fun _ h9 => h9) rfl dX7_staysConnected_19 ?_
        obtain ⟨o3, ho3, hf⟩ := bd_some hf
        refine cs_i (As := [.int o2, .int S_nodes]) (rest := []) hx hb hml hown hts hK hP hD hA hS (kX2_areConnected l D cI cC cS  o2 S_nodes  o3 ho3) (va_cwS 2 hts gX7_staysConnected_X2_areConnected rfl rfl rfl (by decide +kernel) (by subst hR; exact ⟨Nat.le_of_ble_eq_true rfl, Nat.le_of_ble_eq_true rfl⟩)) rfl hl.1 rfl (Nat.le_of_ble_eq_true rfl) ⟨Nat.zero_le _, Nat.zero_le _⟩ dX7_staysConnected_22 (fun H locs hP hD hS => ?_)
        refine lv_if_ne (tgt := 30) hx hb dX7_staysConnected_25 (by decide) (fun c4 => ?_) (fun c4 => ?_)
        · have hf := if_f c4 hf
          refine lv_iinc (v := (x2 + 1)) (lv' := [(2, .int (x2 + 1)), (0, .ref Sa), (1, .int x1)]) hx hb dX7_staysConnected_30 hl (k := 2) rfl rfl (by decide) rfl (fun ls hl => ?_)
          refine lv_goto (tgt := 2) hx hb dX7_staysConnected_33 (by decide) ?_
          exact ih2 (x2 + 1) _ _ _ hf hP hD hS (lv_sub hl [1, 2, 0] rfl)
        · have hf := if_t c4 hf
          refine lv_iconst (v := (0 : Int32)) hx hb dX7_staysConnected_28 (by decide) ?_
          have hf := Option.some.inj hf
          subst hf
          exact rt_z (ty := .boolean) hx hb hr rfl hlocks hQ hK hP hD hS rfl dX7_staysConnected_29
  refine lv_iconst (v := (0 : Int32)) hx hb dX7_staysConnected_0 (by decide) ?_
  refine lv_istore_n (lv' := [(2, .int (0 : Int32)), (0, .ref Sa), (1, .int x1)]) hx hb dX7_staysConnected_1 rfl hl (by decide) rfl (fun ls hl => ?_)
  exact L2  fuel (0 : Int32) _ _ _ hf hP hD hS (lv_sub hl [1, 2, 0] rfl)
set_option maxRecDepth 100000 in
set_option maxHeartbeats 4000000 in
theorem kX7_longestWindow (l : Launch) (D : va_G) (cI cC cS : ClassId) (Sa Sa_roundEdges Sa_values : Nat) (x1 : Int32) (S_roundEdges : Nat → Int32) (S_values : Nat → Int32) (S_nodes : Int32) (S_rounds : Int32) (o : Int32) (hf : fX7_longestWindow x1 S_roundEdges S_nodes S_rounds = some o) : CI l D yX7_longestWindow wsX7_longestWindow ({ frames := 5, cells := 0, slots := 0, locals := 114 } : Room) (tysK cI cC cS) [.ref Sa, .int x1] (sh_X7 Sa Sa_roundEdges Sa_values cI cC cS S_roundEdges S_values S_nodes S_rounds) o (sh_X7 Sa Sa_roundEdges Sa_values cI cC cS S_roundEdges S_values S_nodes S_rounds) := by
  refine met_i (cc := cX7_longestWindow) (maxL := 3) (ret := (some .int)) (by decide) rfl (Nat.le_of_ble_eq_true rfl) ?_
  intro p e s m args below meth c R Q A F hR hQ hP hK hD hA hS ls hl
  obtain ⟨hx, hb, hr, hts, hml, hlocks, hown⟩ := F
  have hown : s.vm.findClass RX7 = some m.cls := hown
  have hi_X7 : ∀ w ∈ u_ws RX7 TX7 4, w ∈ wsX7_longestWindow := fun w h => List.mem_cons_of_mem _ (List.mem_append_right _ h)
  have q26 := hts (.fieldLink RX7 26 "ChangingRounds$Schedule" "rounds" "I") (by decide +kernel)
  have q22 := hts (.fieldLink RX7 22 "ChangingRounds$Schedule" "nodes" "I") (by decide +kernel)
  have hl : lv_has ls 3 [(0, .ref Sa), (1, .int x1)] := hl
  unfold fX7_longestWindow at hf
  have L2 : ∀ (n2 : Nat) (x2 : Int32) (H : Heap) (locs : List Loc) (ls : Array Slot), fX7_longestWindow_l2 x1 S_roundEdges S_nodes S_rounds n2 x2 = some o → va_P D vwCl (sh_X7 Sa Sa_roundEdges Sa_values cI cC cS S_roundEdges S_values S_nodes S_rounds) H → va_D A (sh_X7 Sa Sa_roundEdges Sa_values cI cC cS S_roundEdges S_values S_nodes S_rounds) → va_S A s.heap H locs → lv_has ls 3 [(0, .ref Sa), (1, .int x1), (2, .int x2)] → W p l e R s m args below meth c H locs 0 0 Q (F0 m 2 ls []) := by
    intro n2
    induction n2 with
    | zero => intro x2 H locs ls hf; cases (show (none : Option _) = some _ from hf)
    | succ n2 ih2 =>
      intro x2 H locs ls hf hP hD hS hl
      rw [fX7_longestWindow_l2] at hf
      refine lv_iload_n hx hb dX7_longestWindow_2 rfl (lv_at hl 1 rfl) ?_
      refine lv_iload_n hx hb dX7_longestWindow_3 rfl (lv_at hl 2 rfl) ?_
      refine lv_iadd hx hb dX7_longestWindow_4 ?_
      refine lv_aload_n hx hb dX7_longestWindow_5 rfl (lv_at hl 0 rfl) ?_
      refine va_get (D := D) (ci := 4) (v := .int S_rounds) (C := RX7) (T := TX7) (N := 4) hx hb hts hi_X7 hown hK hP 0 rfl rfl 3 (by decide) q26 (fun _ h9 => h9) rfl dX7_longestWindow_6 ?_
      refine lv_icmp_ge (tgt := 36) hx hb dX7_longestWindow_9 (by decide) (fun c1 => ?_) (fun c1 => ?_)
      · have hf := if_t c1 hf
        refine lv_iload_n hx hb dX7_longestWindow_36 rfl (lv_at hl 2 rfl) ?_
        have hf := Option.some.inj hf
        subst hf
        exact rt_i hx hb hr hlocks hQ hK hP hD hS rfl dX7_longestWindow_37
      · have hf := if_f c1 hf
        refine lv_aload_n hx hb dX7_longestWindow_12 rfl (lv_at hl 0 rfl) ?_
        refine lv_iload_n hx hb dX7_longestWindow_13 rfl (lv_at hl 1 rfl) ?_
        refine lv_iload_n hx hb dX7_longestWindow_14 rfl (lv_at hl 2 rfl) ?_
        refine lv_iconst (v := (1 : Int32)) hx hb dX7_longestWindow_15 (by decide) ?_
        refine lv_iadd hx hb dX7_longestWindow_16 ?_
        obtain ⟨o2, ho2, hf⟩ := bd_some hf
        refine cv_i (ci := 4) (q := (RX7, TX7, 4)) (As := [.int x1, .int (x2 + (1 : Int32))]) (rest := []) hx hb hml hown hts hK hP hD hA hS (kX7_edgesThatStay l D cI cC cS Sa Sa_roundEdges Sa_values x1 (x2 + (1 : Int32)) S_roundEdges S_values S_nodes S_rounds o2 ho2) (cwV 2 hts gX7_longestWindow_X7_edgesThatStay rfl rfl rfl (by decide +kernel) (by subst hR; exact ⟨Nat.le_of_ble_eq_true rfl, Nat.le_of_ble_eq_true rfl⟩)) [0, 1, 2] [] [0, 1, 2] [] (sh_X7 Sa Sa_roundEdges Sa_values cI cC cS S_roundEdges S_values S_nodes S_rounds) rfl rfl rfl rfl (by decide) rfl rfl rfl rfl rfl rfl hl.1 rfl (Nat.le_of_ble_eq_true rfl) ⟨Nat.zero_le _, Nat.zero_le _⟩ dX7_longestWindow_17 (fun H locs hP hD hS => ?_)
        refine lv_aload_n hx hb dX7_longestWindow_20 rfl (lv_at hl 0 rfl) ?_
        refine va_get (D := D) (ci := 4) (v := .int S_nodes) (C := RX7) (T := TX7) (N := 4) hx hb hts hi_X7 hown hK hP 0 rfl rfl 2 (by decide) q22 (fun _ h9 => h9) rfl dX7_longestWindow_21 ?_
        obtain ⟨o3, ho3, hf⟩ := bd_some hf
        refine cs_i (As := [.int o2, .int S_nodes]) (rest := []) hx hb hml hown hts hK hP hD hA hS (kX2_areConnected l D cI cC cS  o2 S_nodes  o3 ho3) (va_cwS 2 hts gX7_longestWindow_X2_areConnected rfl rfl rfl (by decide +kernel) (by subst hR; exact ⟨Nat.le_of_ble_eq_true rfl, Nat.le_of_ble_eq_true rfl⟩)) rfl hl.1 rfl (Nat.le_of_ble_eq_true rfl) ⟨Nat.zero_le _, Nat.zero_le _⟩ dX7_longestWindow_24 (fun H locs hP hD hS => ?_)
        refine lv_if_eq (tgt := 36) hx hb dX7_longestWindow_27 (by decide) (fun c4 => ?_) (fun c4 => ?_)
        · have hf := if_t c4 hf
          refine lv_iload_n hx hb dX7_longestWindow_36 rfl (lv_at hl 2 rfl) ?_
          have hf := Option.some.inj hf
          subst hf
          exact rt_i hx hb hr hlocks hQ hK hP hD hS rfl dX7_longestWindow_37
        · have hf := if_f c4 hf
          refine lv_iinc (v := (x2 + 1)) (lv' := [(2, .int (x2 + 1)), (0, .ref Sa), (1, .int x1)]) hx hb dX7_longestWindow_30 hl (k := 2) rfl rfl (by decide) rfl (fun ls hl => ?_)
          refine lv_goto (tgt := 2) hx hb dX7_longestWindow_33 (by decide) ?_
          exact ih2 (x2 + 1) _ _ _ hf hP hD hS (lv_sub hl [1, 2, 0] rfl)
  refine lv_iconst (v := (0 : Int32)) hx hb dX7_longestWindow_0 (by decide) ?_
  refine lv_istore_n (lv' := [(2, .int (0 : Int32)), (0, .ref Sa), (1, .int x1)]) hx hb dX7_longestWindow_1 rfl hl (by decide) rfl (fun ls hl => ?_)
  exact L2  fuel (0 : Int32) _ _ _ hf hP hD hS (lv_sub hl [1, 2, 0] rfl)
set_option maxRecDepth 100000 in
set_option maxHeartbeats 4000000 in
theorem kX3_begin (l : Launch) (D : va_G) (cI cC cS : ClassId) (Fa Fa_known Fa_knownBefore Sa Sa_roundEdges Sa_values : Nat) (x1 : Int32) (F_known : Nat → Int32) (F_knownBefore : Nat → Int32) (F_step : Int32) (S_roundEdges : Nat → Int32) (S_values : Nat → Int32) (S_nodes : Int32) (S_rounds : Int32) (o : (Nat → Int32) × Int32) (hf : fX3_begin x1 F_known F_step = some o) : CV l D yX3_begin wsX3_begin ({ frames := 1, cells := 0, slots := 0, locals := 20 } : Room) (tysK cI cC cS) [.ref Fa, .int x1] (sh_X3 Fa Fa_known Fa_knownBefore Sa Sa_roundEdges Sa_values cI cC cS F_known F_knownBefore F_step S_roundEdges S_values S_nodes S_rounds) (sh_X3 Fa Fa_known Fa_knownBefore Sa Sa_roundEdges Sa_values cI cC cS o.1 F_knownBefore o.2 S_roundEdges S_values S_nodes S_rounds) := by
  refine met_v (cc := cX3_begin) (maxL := 3) (ret := none) (by decide) rfl (Nat.le_of_ble_eq_true rfl) ?_
  intro p e s m args below meth c R Q A F hR hQ hP hK hD hA hS ls hl
  obtain ⟨hx, hb, hr, hts, hml, hlocks, hown⟩ := F
  have hown : s.vm.findClass RX3 = some m.cls := hown
  have hi_X3 : ∀ w ∈ u_ws RX3 TX3 4, w ∈ wsX3_begin := fun w h => List.mem_cons_of_mem _ (List.mem_append_right _ h)
  have q22 := hts (.fieldLink RX3 22 "ChangingRounds$Flooding" "step" "I") (by decide +kernel)
  have q9 := hts (.fieldLink RX3 9 "ChangingRounds$Flooding" "known" "[I") (by decide +kernel)
  have hl : lv_has ls 3 [(0, .ref Fa), (1, .int x1)] := hl
  unfold fX3_begin at hf
  have L7 : ∀ (F_step : Int32) (n7 : Nat) (x2 : Int32) (F_known : Nat → Int32) (H : Heap) (locs : List Loc) (ls : Array Slot), fX3_begin_l7 F_step n7 x2 F_known = some o → va_P D vwCl (sh_X3 Fa Fa_known Fa_knownBefore Sa Sa_roundEdges Sa_values cI cC cS F_known F_knownBefore F_step S_roundEdges S_values S_nodes S_rounds) H → va_D A (sh_X3 Fa Fa_known Fa_knownBefore Sa Sa_roundEdges Sa_values cI cC cS F_known F_knownBefore F_step S_roundEdges S_values S_nodes S_rounds) → va_S A s.heap H locs → lv_has ls 3 [(0, .ref Fa), (2, .int x2)] → W p l e R s m args below meth c H locs 0 0 Q (F0 m 7 ls []) := by
    intro F_step n7
    induction n7 with
    | zero => intro x2 F_known H locs ls hf; cases (show (none : Option _) = some _ from hf)
    | succ n7 ih7 =>
      intro x2 F_known H locs ls hf hP hD hS hl
      rw [fX3_begin_l7] at hf
      refine lv_iload_n hx hb dX3_begin_7 rfl (lv_at hl 1 rfl) ?_
      refine lv_bipush (v := (8 : Int32)) hx hb dX3_begin_8 (by decide) ?_
      refine lv_icmp_ge (tgt := 29) hx hb dX3_begin_10 (by decide) (fun c1 => ?_) (fun c1 => ?_)
      · have hf := if_t c1 hf
        have hf := Option.some.inj hf
        subst hf
        exact rt_v hx hb hr hlocks hQ hK hP hD hS dX3_begin_29
      · have hf := if_f c1 hf
        refine lv_aload_n hx hb dX3_begin_13 rfl (lv_at hl 0 rfl) ?_
        refine va_get (D := D) (ci := 1) (v := .ref Fa_known) (C := RX3) (T := TX3) (N := 4) hx hb hts hi_X3 hown hK hP 0 rfl rfl 1 (by decide) q9 (fun _ h9 => h9) rfl dX3_begin_14 ?_
        refine lv_iload_n hx hb dX3_begin_17 rfl (lv_at hl 1 rfl) ?_
        refine lv_iload_n hx hb dX3_begin_18 rfl (lv_at hl 1 rfl) ?_
        refine cs_i (As := [.int x2]) (rest := [.int x2, .ref Fa_known]) hx hb hml hown hts hK hP hD hA hS (kX6_of l D cI cC cS  x2  (fX6_of x2) rfl) (va_cwS 1 hts gX3_begin_X6_of rfl rfl rfl (by decide +kernel) (by subst hR; exact ⟨Nat.le_of_ble_eq_true rfl, Nat.le_of_ble_eq_true rfl⟩)) rfl hl.1 rfl (Nat.le_of_ble_eq_true rfl) ⟨Nat.zero_le _, Nat.zero_le _⟩ dX3_begin_19 (fun H locs hP hD hS => ?_)
        obtain ⟨hz, hf⟩ := ck_some hf
        refine sx_iast (j := x2.toNatClampNeg) hx hb hK hP hD hS 1 0 rfl rfl (inb_vp hz) rfl dX3_begin_22 (sh_X3 Fa Fa_known Fa_knownBefore Sa Sa_roundEdges Sa_values cI cC cS (upd F_known x2.toNatClampNeg (fX6_of x2)) F_knownBefore F_step S_roundEdges S_values S_nodes S_rounds) rfl (fun H locs hP hD hS => ?_)
        refine lv_iinc (v := (x2 + 1)) (lv' := [(2, .int (x2 + 1)), (0, .ref Fa)]) hx hb dX3_begin_23 hl (k := 1) rfl rfl (by decide) rfl (fun ls hl => ?_)
        refine lv_goto (tgt := 7) hx hb dX3_begin_26 (by decide) ?_
        exact ih7 (x2 + 1) (upd F_known x2.toNatClampNeg (fX6_of x2)) _ _ _ hf hP hD hS (lv_sub hl [1, 0] rfl)
  refine lv_aload_n hx hb dX3_begin_0 rfl (lv_at hl 0 rfl) ?_
  refine lv_iload_n hx hb dX3_begin_1 rfl (lv_at hl 1 rfl) ?_
  refine sx_put (D := D) (ci := 1) (v := .int x1) (ty := .int) (C := RX3) (T := TX3) (N := 4) hx hb hts hi_X3 tyX3 tyX3_ok nmX3 hown hK hP hD hS 0 rfl rfl 3 (by decide) q22 (fun _ h9 => h9) rfl (by decide +kernel) rfl rfl (Nat.le_of_ble_eq_true rfl) dX3_begin_2 (sh_X3 Fa Fa_known Fa_knownBefore Sa Sa_roundEdges Sa_values cI cC cS F_known F_knownBefore x1 S_roundEdges S_values S_nodes S_rounds) rfl (fun H locs hP hD hS => ?_)
  refine lv_iconst (v := (0 : Int32)) hx hb dX3_begin_5 (by decide) ?_
  refine lv_istore_n (lv' := [(2, .int (0 : Int32)), (0, .ref Fa), (1, .int x1)]) hx hb dX3_begin_6 rfl hl (by decide) rfl (fun ls hl => ?_)
  exact L7 x1 fuel (0 : Int32) F_known _ _ _ hf hP hD hS (lv_sub hl [1, 0] rfl)
set_option maxRecDepth 100000 in
set_option maxHeartbeats 4000000 in
theorem kX3_advance (l : Launch) (D : va_G) (cI cC cS : ClassId) (Fa Fa_known Fa_knownBefore Sa Sa_roundEdges Sa_values : Nat) (F_known : Nat → Int32) (F_knownBefore : Nat → Int32) (F_step : Int32) (S_roundEdges : Nat → Int32) (S_values : Nat → Int32) (S_nodes : Int32) (S_rounds : Int32) (o : (Nat → Int32) × (Nat → Int32) × Int32) (hf : fX3_advance F_known F_knownBefore F_step S_roundEdges S_nodes S_rounds = some o) : CV l D yX3_advance wsX3_advance ({ frames := 2, cells := 0, slots := 0, locals := 43 } : Room) (tysK cI cC cS) [.ref Fa] (sh_X3 Fa Fa_known Fa_knownBefore Sa Sa_roundEdges Sa_values cI cC cS F_known F_knownBefore F_step S_roundEdges S_values S_nodes S_rounds) (sh_X3 Fa Fa_known Fa_knownBefore Sa Sa_roundEdges Sa_values cI cC cS o.1 o.2.1 o.2.2 S_roundEdges S_values S_nodes S_rounds) := by
  refine met_v (cc := cX3_advance) (maxL := 4) (ret := none) (by decide) rfl (Nat.le_of_ble_eq_true rfl) ?_
  intro p e s m args below meth c R Q A F hR hQ hP hK hD hA hS ls hl
  obtain ⟨hx, hb, hr, hts, hml, hlocks, hown⟩ := F
  have hown : s.vm.findClass RX3 = some m.cls := hown
  have hi_X3 : ∀ w ∈ u_ws RX3 TX3 4, w ∈ wsX3_advance := fun w h => List.mem_cons_of_mem _ (List.mem_append_left _ (List.mem_append_right _ h))
  have q18 := hts (.fieldLink RX3 18 "ChangingRounds$Flooding" "schedule" "LChangingRounds$Schedule;") (by decide +kernel)
  have q22 := hts (.fieldLink RX3 22 "ChangingRounds$Flooding" "step" "I") (by decide +kernel)
  have q15 := hts (.fieldLink RX3 15 "ChangingRounds$Flooding" "knownBefore" "[I") (by decide +kernel)
  have q9 := hts (.fieldLink RX3 9 "ChangingRounds$Flooding" "known" "[I") (by decide +kernel)
  have hl : lv_has ls 4 [(0, .ref Fa)] := hl
  unfold fX3_advance at hf
  have L40 : ∀ (x1 : Int32) (F_knownBefore : Nat → Int32) (F_step : Int32) (n40 : Nat) (x2 : Int32) (F_known : Nat → Int32) (H : Heap) (locs : List Loc) (ls : Array Slot), fX3_advance_l40 x1 F_knownBefore F_step S_nodes n40 x2 F_known = some o → va_P D vwCl (sh_X3 Fa Fa_known Fa_knownBefore Sa Sa_roundEdges Sa_values cI cC cS F_known F_knownBefore F_step S_roundEdges S_values S_nodes S_rounds) H → va_D A (sh_X3 Fa Fa_known Fa_knownBefore Sa Sa_roundEdges Sa_values cI cC cS F_known F_knownBefore F_step S_roundEdges S_values S_nodes S_rounds) → va_S A s.heap H locs → lv_has ls 4 [(0, .ref Fa), (1, .int x1), (2, .int x2)] → W p l e R s m args below meth c H locs 0 0 Q (F0 m 40 ls []) := by
    intro x1 F_knownBefore F_step n40
    induction n40 with
    | zero => intro x2 F_known H locs ls hf; cases (show (none : Option _) = some _ from hf)
    | succ n40 ih40 =>
      have L53 : ∀ (x2 : Int32) (n53 : Nat) (x3 : Int32) (F_known : Nat → Int32) (H : Heap) (locs : List Loc) (ls : Array Slot), fX3_advance_l53 (fX3_advance_l40 x1 F_knownBefore F_step S_nodes n40) x1 x2 F_knownBefore F_step S_nodes n53 x3 F_known = some o → va_P D vwCl (sh_X3 Fa Fa_known Fa_knownBefore Sa Sa_roundEdges Sa_values cI cC cS F_known F_knownBefore F_step S_roundEdges S_values S_nodes S_rounds) H → va_D A (sh_X3 Fa Fa_known Fa_knownBefore Sa Sa_roundEdges Sa_values cI cC cS F_known F_knownBefore F_step S_roundEdges S_values S_nodes S_rounds) → va_S A s.heap H locs → lv_has ls 4 [(0, .ref Fa), (1, .int x1), (2, .int x2), (3, .int x3)] → W p l e R s m args below meth c H locs 0 0 Q (F0 m 53 ls []) := by
        intro x2 n53
        induction n53 with
        | zero => intro x3 F_known H locs ls hf; cases (show (none : Option _) = some _ from hf)
        | succ n53 ih53 =>
          intro x3 F_known H locs ls hf hP hD hS hl
          rw [fX3_advance_l53] at hf
          refine lv_iload_n hx hb dX3_advance_53 rfl (lv_at hl 3 rfl) ?_
          refine lv_iload_n hx hb dX3_advance_54 rfl (lv_at hl 2 rfl) ?_
          refine lv_icmp_ge (tgt := 103) hx hb dX3_advance_55 (by decide) (fun c1 => ?_) (fun c1 => ?_)
          · have hf := if_t c1 hf
            refine lv_iinc (v := (x2 + 1)) (lv' := [(2, .int (x2 + 1)), (0, .ref Fa), (1, .int x1), (3, .int x3)]) hx hb dX3_advance_103 hl (k := 2) rfl rfl (by decide) rfl (fun ls hl => ?_)
            refine lv_goto (tgt := 40) hx hb dX3_advance_106 (by decide) ?_
            exact ih40 (x2 + 1) F_known _ _ _ hf hP hD hS (lv_sub hl [1, 2, 0] rfl)
          · have hf := if_f c1 hf
            refine lv_iload_n hx hb dX3_advance_58 rfl (lv_at hl 1 rfl) ?_
            refine lv_iload_n hx hb dX3_advance_59 rfl (lv_at hl 3 rfl) ?_
            refine lv_iload_n hx hb dX3_advance_60 rfl (lv_at hl 2 rfl) ?_
            refine cs_i (As := [.int x1, .int x3, .int x2]) (rest := []) hx hb hml hown hts hK hP hD hA hS (kX2_connects l D cI cC cS  x1 x3 x2  (fX2_connects x1 x3 x2) rfl) (va_cwS 3 hts gX3_advance_X2_connects rfl rfl rfl (by decide +kernel) (by subst hR; exact ⟨Nat.le_of_ble_eq_true rfl, Nat.le_of_ble_eq_true rfl⟩)) rfl hl.1 rfl (Nat.le_of_ble_eq_true rfl) ⟨Nat.zero_le _, Nat.zero_le _⟩ dX3_advance_61 (fun H locs hP hD hS => ?_)
            refine lv_if_eq (tgt := 97) hx hb dX3_advance_64 (by decide) (fun c2 => ?_) (fun c2 => ?_)
            · have hf := if_t c2 hf
              refine lv_iinc (v := (x3 + 1)) (lv' := [(3, .int (x3 + 1)), (0, .ref Fa), (1, .int x1), (2, .int x2)]) hx hb dX3_advance_97 hl (k := 3) rfl rfl (by decide) rfl (fun ls hl => ?_)
              refine lv_goto (tgt := 53) hx hb dX3_advance_100 (by decide) ?_
              exact ih53 (x3 + 1) F_known _ _ _ hf hP hD hS (lv_sub hl [1, 2, 3, 0] rfl)
            · have hf := if_f c2 hf
              refine lv_aload_n hx hb dX3_advance_67 rfl (lv_at hl 0 rfl) ?_
              refine va_get (D := D) (ci := 1) (v := .ref Fa_known) (C := RX3) (T := TX3) (N := 4) hx hb hts hi_X3 hown hK hP 0 rfl rfl 1 (by decide) q9 (fun _ h9 => h9) rfl dX3_advance_68 ?_
              refine lv_iload_n hx hb dX3_advance_71 rfl (lv_at hl 3 rfl) ?_
              refine lv_dup2_11 hx hb dX3_advance_72 rfl rfl ?_
              obtain ⟨hz, hf⟩ := ck_some hf
              refine sx_iald (j := x3.toNatClampNeg) hx hb hK hP 1 0 rfl rfl (inb_vp hz) rfl dX3_advance_73 ?_
              refine lv_aload_n hx hb dX3_advance_74 rfl (lv_at hl 0 rfl) ?_
              refine va_get (D := D) (ci := 1) (v := .ref Fa_knownBefore) (C := RX3) (T := TX3) (N := 4) hx hb hts hi_X3 hown hK hP 0 rfl rfl 2 (by decide) q15 (fun _ h9 => h9) rfl dX3_advance_75 ?_
              refine lv_iload_n hx hb dX3_advance_78 rfl (lv_at hl 2 rfl) ?_
              obtain ⟨hz, hf⟩ := ck_some hf
              refine sx_iald (j := x2.toNatClampNeg) hx hb hK hP 2 0 rfl rfl (inb_vp hz) rfl dX3_advance_79 ?_
              refine lv_ior hx hb dX3_advance_80 ?_
              obtain ⟨hz, hf⟩ := ck_some hf
              refine sx_iast (j := x3.toNatClampNeg) hx hb hK hP hD hS 1 0 rfl rfl (inb_vp hz) rfl dX3_advance_81 (sh_X3 Fa Fa_known Fa_knownBefore Sa Sa_roundEdges Sa_values cI cC cS (upd F_known x3.toNatClampNeg ((F_known x3.toNatClampNeg) ||| (F_knownBefore x2.toNatClampNeg))) F_knownBefore F_step S_roundEdges S_values S_nodes S_rounds) rfl (fun H locs hP hD hS => ?_)
              refine lv_aload_n hx hb dX3_advance_82 rfl (lv_at hl 0 rfl) ?_
              refine va_get (D := D) (ci := 1) (v := .ref Fa_known) (C := RX3) (T := TX3) (N := 4) hx hb hts hi_X3 hown hK hP 0 rfl rfl 1 (by decide) q9 (fun _ h9 => h9) rfl dX3_advance_83 ?_
              refine lv_iload_n hx hb dX3_advance_86 rfl (lv_at hl 2 rfl) ?_
              refine lv_dup2_11 hx hb dX3_advance_87 rfl rfl ?_
              obtain ⟨hz, hf⟩ := ck_some hf
              refine sx_iald (j := x2.toNatClampNeg) hx hb hK hP 1 0 rfl rfl (inb_vp hz) rfl dX3_advance_88 ?_
              refine lv_aload_n hx hb dX3_advance_89 rfl (lv_at hl 0 rfl) ?_
              refine va_get (D := D) (ci := 1) (v := .ref Fa_knownBefore) (C := RX3) (T := TX3) (N := 4) hx hb hts hi_X3 hown hK hP 0 rfl rfl 2 (by decide) q15 (fun _ h9 => h9) rfl dX3_advance_90 ?_
              refine lv_iload_n hx hb dX3_advance_93 rfl (lv_at hl 3 rfl) ?_
              obtain ⟨hz, hf⟩ := ck_some hf
              refine sx_iald (j := x3.toNatClampNeg) hx hb hK hP 2 0 rfl rfl (inb_vp hz) rfl dX3_advance_94 ?_
              refine lv_ior hx hb dX3_advance_95 ?_
              obtain ⟨hz, hf⟩ := ck_some hf
              refine sx_iast (j := x2.toNatClampNeg) hx hb hK hP hD hS 1 0 rfl rfl (inb_vp hz) rfl dX3_advance_96 (sh_X3 Fa Fa_known Fa_knownBefore Sa Sa_roundEdges Sa_values cI cC cS (upd (upd F_known x3.toNatClampNeg ((F_known x3.toNatClampNeg) ||| (F_knownBefore x2.toNatClampNeg))) x2.toNatClampNeg (((upd F_known x3.toNatClampNeg ((F_known x3.toNatClampNeg) ||| (F_knownBefore x2.toNatClampNeg))) x2.toNatClampNeg) ||| (F_knownBefore x3.toNatClampNeg))) F_knownBefore F_step S_roundEdges S_values S_nodes S_rounds) rfl (fun H locs hP hD hS => ?_)
              refine lv_iinc (v := (x3 + 1)) (lv' := [(3, .int (x3 + 1)), (0, .ref Fa), (1, .int x1), (2, .int x2)]) hx hb dX3_advance_97 hl (k := 3) rfl rfl (by decide) rfl (fun ls hl => ?_)
              refine lv_goto (tgt := 53) hx hb dX3_advance_100 (by decide) ?_
              exact ih53 (x3 + 1) (upd (upd F_known x3.toNatClampNeg ((F_known x3.toNatClampNeg) ||| (F_knownBefore x2.toNatClampNeg))) x2.toNatClampNeg (((upd F_known x3.toNatClampNeg ((F_known x3.toNatClampNeg) ||| (F_knownBefore x2.toNatClampNeg))) x2.toNatClampNeg) ||| (F_knownBefore x3.toNatClampNeg))) _ _ _ hf hP hD hS (lv_sub hl [1, 2, 3, 0] rfl)
      intro x2 F_known H locs ls hf hP hD hS hl
      rw [fX3_advance_l40] at hf
      refine lv_iload_n hx hb dX3_advance_40 rfl (lv_at hl 2 rfl) ?_
      refine lv_aload_n hx hb dX3_advance_41 rfl (lv_at hl 0 rfl) ?_
      refine va_get (D := D) (ci := 1) (v := .ref Sa) (C := RX3) (T := TX3) (N := 4) hx hb hts hi_X3 hown hK hP 0 rfl rfl 0 (by decide) q18 (fun _ h9 => h9) rfl dX3_advance_42 ?_
      refine cv_i (ci := 4) (q := (RX7, TX7, 4)) (As := []) (rest := [.int x2]) hx hb hml hown hts hK hP hD hA hS (kX7_nodes l D cI cC cS Sa Sa_roundEdges Sa_values  S_roundEdges S_values S_nodes S_rounds (fX7_nodes S_nodes) rfl) (cwV 0 hts gX3_advance_X7_nodes rfl rfl rfl (by decide +kernel) (by subst hR; exact ⟨Nat.le_of_ble_eq_true rfl, Nat.le_of_ble_eq_true rfl⟩)) [3, 4, 5] [0, 1, 2] [0, 1, 2, 3, 4, 5] [(Fa, .inr (1, [.ref Sa, .ref Fa_known, .ref Fa_knownBefore, .int F_step])), (Fa_known, .inl (cI, 8, .inl F_known)), (Fa_knownBefore, .inl (cI, 8, .inl F_knownBefore))] (sh_X3 Fa Fa_known Fa_knownBefore Sa Sa_roundEdges Sa_values cI cC cS F_known F_knownBefore F_step S_roundEdges S_values S_nodes S_rounds) rfl rfl rfl rfl (by decide) rfl rfl rfl rfl rfl rfl hl.1 rfl (Nat.le_of_ble_eq_true rfl) ⟨Nat.zero_le _, Nat.zero_le _⟩ dX3_advance_45 (fun H locs hP hD hS => ?_)
      refine lv_icmp_ge (tgt := 109) hx hb dX3_advance_48 (by decide) (fun c3 => ?_) (fun c3 => ?_)
      · have hf := if_t c3 hf
        refine lv_aload_n hx hb dX3_advance_109 rfl (lv_at hl 0 rfl) ?_
        refine lv_dup hx hb dX3_advance_110 rfl ?_
        refine va_get (D := D) (ci := 1) (v := .int F_step) (C := RX3) (T := TX3) (N := 4) hx hb hts hi_X3 hown hK hP 0 rfl rfl 3 (by decide) q22 (fun _ h9 => h9) rfl dX3_advance_111 ?_
        refine lv_iconst (v := (1 : Int32)) hx hb dX3_advance_114 (by decide) ?_
        refine lv_iadd hx hb dX3_advance_115 ?_
        refine sx_put (D := D) (ci := 1) (v := .int (F_step + (1 : Int32))) (ty := .int) (C := RX3) (T := TX3) (N := 4) hx hb hts hi_X3 tyX3 tyX3_ok nmX3 hown hK hP hD hS 0 rfl rfl 3 (by decide) q22 (fun _ h9 => h9) rfl (by decide +kernel) rfl rfl (Nat.le_of_ble_eq_true rfl) dX3_advance_116 (sh_X3 Fa Fa_known Fa_knownBefore Sa Sa_roundEdges Sa_values cI cC cS F_known F_knownBefore (F_step + (1 : Int32)) S_roundEdges S_values S_nodes S_rounds) rfl (fun H locs hP hD hS => ?_)
        have hf := Option.some.inj hf
        subst hf
        exact rt_v hx hb hr hlocks hQ hK hP hD hS dX3_advance_119
      · have hf := if_f c3 hf
        refine lv_iconst (v := (0 : Int32)) hx hb dX3_advance_51 (by decide) ?_
        refine lv_istore_n (lv' := [(3, .int (0 : Int32)), (0, .ref Fa), (1, .int x1), (2, .int x2)]) hx hb dX3_advance_52 rfl hl (by decide) rfl (fun ls hl => ?_)
        exact L53 x2 fuel (0 : Int32) F_known _ _ _ hf hP hD hS (lv_sub hl [1, 2, 3, 0] rfl)
  have L14 : ∀ (x1 : Int32) (F_known : Nat → Int32) (F_step : Int32) (n14 : Nat) (x2 : Int32) (F_knownBefore : Nat → Int32) (H : Heap) (locs : List Loc) (ls : Array Slot), fX3_advance_l14 x1 F_known F_step S_nodes n14 x2 F_knownBefore = some o → va_P D vwCl (sh_X3 Fa Fa_known Fa_knownBefore Sa Sa_roundEdges Sa_values cI cC cS F_known F_knownBefore F_step S_roundEdges S_values S_nodes S_rounds) H → va_D A (sh_X3 Fa Fa_known Fa_knownBefore Sa Sa_roundEdges Sa_values cI cC cS F_known F_knownBefore F_step S_roundEdges S_values S_nodes S_rounds) → va_S A s.heap H locs → lv_has ls 4 [(0, .ref Fa), (1, .int x1), (2, .int x2)] → W p l e R s m args below meth c H locs 0 0 Q (F0 m 14 ls []) := by
    intro x1 F_known F_step n14
    induction n14 with
    | zero => intro x2 F_knownBefore H locs ls hf; cases (show (none : Option _) = some _ from hf)
    | succ n14 ih14 =>
      intro x2 F_knownBefore H locs ls hf hP hD hS hl
      rw [fX3_advance_l14] at hf
      refine lv_iload_n hx hb dX3_advance_14 rfl (lv_at hl 2 rfl) ?_
      refine lv_bipush (v := (8 : Int32)) hx hb dX3_advance_15 (by decide) ?_
      refine lv_icmp_ge (tgt := 38) hx hb dX3_advance_17 (by decide) (fun c4 => ?_) (fun c4 => ?_)
      · have hf := if_t c4 hf
        refine lv_iconst (v := (1 : Int32)) hx hb dX3_advance_38 (by decide) ?_
        refine lv_istore_n (lv' := [(2, .int (1 : Int32)), (0, .ref Fa), (1, .int x1)]) hx hb dX3_advance_39 rfl hl (by decide) rfl (fun ls hl => ?_)
        exact L40 x1 F_knownBefore F_step fuel (1 : Int32) F_known _ _ _ hf hP hD hS (lv_sub hl [1, 2, 0] rfl)
      · have hf := if_f c4 hf
        refine lv_aload_n hx hb dX3_advance_20 rfl (lv_at hl 0 rfl) ?_
        refine va_get (D := D) (ci := 1) (v := .ref Fa_knownBefore) (C := RX3) (T := TX3) (N := 4) hx hb hts hi_X3 hown hK hP 0 rfl rfl 2 (by decide) q15 (fun _ h9 => h9) rfl dX3_advance_21 ?_
        refine lv_iload_n hx hb dX3_advance_24 rfl (lv_at hl 2 rfl) ?_
        refine lv_aload_n hx hb dX3_advance_25 rfl (lv_at hl 0 rfl) ?_
        refine va_get (D := D) (ci := 1) (v := .ref Fa_known) (C := RX3) (T := TX3) (N := 4) hx hb hts hi_X3 hown hK hP 0 rfl rfl 1 (by decide) q9 (fun _ h9 => h9) rfl dX3_advance_26 ?_
        refine lv_iload_n hx hb dX3_advance_29 rfl (lv_at hl 2 rfl) ?_
        obtain ⟨hz, hf⟩ := ck_some hf
        refine sx_iald (j := x2.toNatClampNeg) hx hb hK hP 1 0 rfl rfl (inb_vp hz) rfl dX3_advance_30 ?_
        obtain ⟨hz, hf⟩ := ck_some hf
        refine sx_iast (j := x2.toNatClampNeg) hx hb hK hP hD hS 2 0 rfl rfl (inb_vp hz) rfl dX3_advance_31 (sh_X3 Fa Fa_known Fa_knownBefore Sa Sa_roundEdges Sa_values cI cC cS F_known (upd F_knownBefore x2.toNatClampNeg (F_known x2.toNatClampNeg)) F_step S_roundEdges S_values S_nodes S_rounds) rfl (fun H locs hP hD hS => ?_)
        refine lv_iinc (v := (x2 + 1)) (lv' := [(2, .int (x2 + 1)), (0, .ref Fa), (1, .int x1)]) hx hb dX3_advance_32 hl (k := 2) rfl rfl (by decide) rfl (fun ls hl => ?_)
        refine lv_goto (tgt := 14) hx hb dX3_advance_35 (by decide) ?_
        exact ih14 (x2 + 1) (upd F_knownBefore x2.toNatClampNeg (F_known x2.toNatClampNeg)) _ _ _ hf hP hD hS (lv_sub hl [1, 2, 0] rfl)
  refine lv_aload_n hx hb dX3_advance_0 rfl (lv_at hl 0 rfl) ?_
  refine va_get (D := D) (ci := 1) (v := .ref Sa) (C := RX3) (T := TX3) (N := 4) hx hb hts hi_X3 hown hK hP 0 rfl rfl 0 (by decide) q18 (fun _ h9 => h9) rfl dX3_advance_1 ?_
  refine lv_aload_n hx hb dX3_advance_4 rfl (lv_at hl 0 rfl) ?_
  refine va_get (D := D) (ci := 1) (v := .int F_step) (C := RX3) (T := TX3) (N := 4) hx hb hts hi_X3 hown hK hP 0 rfl rfl 3 (by decide) q22 (fun _ h9 => h9) rfl dX3_advance_5 ?_
  obtain ⟨o5, ho5, hf⟩ := bd_some hf
  refine cv_i (ci := 4) (q := (RX7, TX7, 4)) (As := [.int F_step]) (rest := []) hx hb hml hown hts hK hP hD hA hS (kX7_edgesAtStep l D cI cC cS Sa Sa_roundEdges Sa_values F_step S_roundEdges S_values S_nodes S_rounds o5 ho5) (cwV 1 hts gX3_advance_X7_edgesAtStep rfl rfl rfl (by decide +kernel) (by subst hR; exact ⟨Nat.le_of_ble_eq_true rfl, Nat.le_of_ble_eq_true rfl⟩)) [3, 4, 5] [0, 1, 2] [0, 1, 2, 3, 4, 5] [(Fa, .inr (1, [.ref Sa, .ref Fa_known, .ref Fa_knownBefore, .int F_step])), (Fa_known, .inl (cI, 8, .inl F_known)), (Fa_knownBefore, .inl (cI, 8, .inl F_knownBefore))] (sh_X3 Fa Fa_known Fa_knownBefore Sa Sa_roundEdges Sa_values cI cC cS F_known F_knownBefore F_step S_roundEdges S_values S_nodes S_rounds) rfl rfl rfl rfl (by decide) rfl rfl rfl rfl rfl rfl hl.1 rfl (Nat.le_of_ble_eq_true rfl) ⟨Nat.zero_le _, Nat.zero_le _⟩ dX3_advance_8 (fun H locs hP hD hS => ?_)
  refine lv_istore_n (lv' := [(1, .int o5), (0, .ref Fa)]) hx hb dX3_advance_11 rfl hl (by decide) rfl (fun ls hl => ?_)
  refine lv_iconst (v := (0 : Int32)) hx hb dX3_advance_12 (by decide) ?_
  refine lv_istore_n (lv' := [(2, .int (0 : Int32)), (1, .int o5), (0, .ref Fa)]) hx hb dX3_advance_13 rfl hl (by decide) rfl (fun ls hl => ?_)
  exact L14 o5 F_known F_step fuel (0 : Int32) F_knownBefore _ _ _ hf hP hD hS (lv_sub hl [2, 1, 0] rfl)
set_option maxRecDepth 100000 in
set_option maxHeartbeats 4000000 in
theorem kX3_advanceBy (l : Launch) (D : va_G) (cI cC cS : ClassId) (Fa Fa_known Fa_knownBefore Sa Sa_roundEdges Sa_values : Nat) (x1 : Int32) (F_known : Nat → Int32) (F_knownBefore : Nat → Int32) (F_step : Int32) (S_roundEdges : Nat → Int32) (S_values : Nat → Int32) (S_nodes : Int32) (S_rounds : Int32) (o : (Nat → Int32) × (Nat → Int32) × Int32) (hf : fX3_advanceBy x1 F_known F_knownBefore F_step S_roundEdges S_nodes S_rounds = some o) : CV l D yX3_advanceBy wsX3_advanceBy ({ frames := 3, cells := 0, slots := 0, locals := 66 } : Room) (tysK cI cC cS) [.ref Fa, .int x1] (sh_X3 Fa Fa_known Fa_knownBefore Sa Sa_roundEdges Sa_values cI cC cS F_known F_knownBefore F_step S_roundEdges S_values S_nodes S_rounds) (sh_X3 Fa Fa_known Fa_knownBefore Sa Sa_roundEdges Sa_values cI cC cS o.1 o.2.1 o.2.2 S_roundEdges S_values S_nodes S_rounds) := by
  refine met_v (cc := cX3_advanceBy) (maxL := 3) (ret := none) (by decide) rfl (Nat.le_of_ble_eq_true rfl) ?_
  intro p e s m args below meth c R Q A F hR hQ hP hK hD hA hS ls hl
  obtain ⟨hx, hb, hr, hts, hml, hlocks, hown⟩ := F
  have hown : s.vm.findClass RX3 = some m.cls := hown
  have hl : lv_has ls 3 [(0, .ref Fa), (1, .int x1)] := hl
  unfold fX3_advanceBy at hf
  have L2 : ∀ (n2 : Nat) (x2 : Int32) (F_known : Nat → Int32) (F_knownBefore : Nat → Int32) (F_step : Int32) (H : Heap) (locs : List Loc) (ls : Array Slot), fX3_advanceBy_l2 x1 S_roundEdges S_nodes S_rounds n2 x2 F_known F_knownBefore F_step = some o → va_P D vwCl (sh_X3 Fa Fa_known Fa_knownBefore Sa Sa_roundEdges Sa_values cI cC cS F_known F_knownBefore F_step S_roundEdges S_values S_nodes S_rounds) H → va_D A (sh_X3 Fa Fa_known Fa_knownBefore Sa Sa_roundEdges Sa_values cI cC cS F_known F_knownBefore F_step S_roundEdges S_values S_nodes S_rounds) → va_S A s.heap H locs → lv_has ls 3 [(0, .ref Fa), (1, .int x1), (2, .int x2)] → W p l e R s m args below meth c H locs 0 0 Q (F0 m 2 ls []) := by
    intro n2
    induction n2 with
    | zero => intro x2 F_known F_knownBefore F_step H locs ls hf; cases (show (none : Option _) = some _ from hf)
    | succ n2 ih2 =>
      intro x2 F_known F_knownBefore F_step H locs ls hf hP hD hS hl
      rw [fX3_advanceBy_l2] at hf
      refine lv_iload_n hx hb dX3_advanceBy_2 rfl (lv_at hl 2 rfl) ?_
      refine lv_iload_n hx hb dX3_advanceBy_3 rfl (lv_at hl 1 rfl) ?_
      refine lv_icmp_ge (tgt := 17) hx hb dX3_advanceBy_4 (by decide) (fun c1 => ?_) (fun c1 => ?_)
      · have hf := if_t c1 hf
        have hf := Option.some.inj hf
        subst hf
        exact rt_v hx hb hr hlocks hQ hK hP hD hS dX3_advanceBy_17
      · have hf := if_f c1 hf
        refine lv_aload_n hx hb dX3_advanceBy_7 rfl (lv_at hl 0 rfl) ?_
        obtain ⟨o2, ho2, hf⟩ := bd_some hf
        refine cv_v (ci := 1) (q := (RX3, TX3, 4)) (As := []) (rest := []) hx hb hml hown hts hK hP hD hA hS (kX3_advance l D cI cC cS Fa Fa_known Fa_knownBefore Sa Sa_roundEdges Sa_values  F_known F_knownBefore F_step S_roundEdges S_values S_nodes S_rounds o2 ho2) (cwV 0 hts gX3_advanceBy_X3_advance rfl rfl rfl (by decide +kernel) (by subst hR; exact ⟨Nat.le_of_ble_eq_true rfl, Nat.le_of_ble_eq_true rfl⟩)) [0, 1, 2, 3, 4, 5] [] [0, 1, 2, 3, 4, 5] [] (sh_X3 Fa Fa_known Fa_knownBefore Sa Sa_roundEdges Sa_values cI cC cS o2.1 o2.2.1 o2.2.2 S_roundEdges S_values S_nodes S_rounds) rfl rfl rfl rfl (by decide) rfl rfl rfl rfl rfl rfl hl.1 rfl (Nat.le_of_ble_eq_true rfl) ⟨Nat.zero_le _, Nat.zero_le _⟩ dX3_advanceBy_8 (fun H locs hP hD hS => ?_)
        refine lv_iinc (v := (x2 + 1)) (lv' := [(2, .int (x2 + 1)), (0, .ref Fa), (1, .int x1)]) hx hb dX3_advanceBy_11 hl (k := 2) rfl rfl (by decide) rfl (fun ls hl => ?_)
        refine lv_goto (tgt := 2) hx hb dX3_advanceBy_14 (by decide) ?_
        exact ih2 (x2 + 1) o2.1 o2.2.1 o2.2.2 _ _ _ hf hP hD hS (lv_sub hl [1, 2, 0] rfl)
  refine lv_iconst (v := (0 : Int32)) hx hb dX3_advanceBy_0 (by decide) ?_
  refine lv_istore_n (lv' := [(2, .int (0 : Int32)), (0, .ref Fa), (1, .int x1)]) hx hb dX3_advanceBy_1 rfl hl (by decide) rfl (fun ls hl => ?_)
  exact L2  fuel (0 : Int32) F_known F_knownBefore F_step _ _ _ hf hP hD hS (lv_sub hl [1, 2, 0] rfl)
set_option maxRecDepth 100000 in
set_option maxHeartbeats 4000000 in
theorem kX3_tokensOf (l : Launch) (D : va_G) (cI cC cS : ClassId) (Fa Fa_known Fa_knownBefore Sa Sa_roundEdges Sa_values : Nat) (x1 : Int32) (F_known : Nat → Int32) (F_knownBefore : Nat → Int32) (F_step : Int32) (S_roundEdges : Nat → Int32) (S_values : Nat → Int32) (S_nodes : Int32) (S_rounds : Int32) (o : Int32) (hf : fX3_tokensOf x1 F_known S_nodes = some o) : CI l D yX3_tokensOf wsX3_tokensOf ({ frames := 1, cells := 0, slots := 0, locals := 21 } : Room) (tysK cI cC cS) [.ref Fa, .int x1] (sh_X3 Fa Fa_known Fa_knownBefore Sa Sa_roundEdges Sa_values cI cC cS F_known F_knownBefore F_step S_roundEdges S_values S_nodes S_rounds) o (sh_X3 Fa Fa_known Fa_knownBefore Sa Sa_roundEdges Sa_values cI cC cS F_known F_knownBefore F_step S_roundEdges S_values S_nodes S_rounds) := by
  refine met_i (cc := cX3_tokensOf) (maxL := 2) (ret := (some .int)) (by decide) rfl (Nat.le_of_ble_eq_true rfl) ?_
  intro p e s m args below meth c R Q A F hR hQ hP hK hD hA hS ls hl
  obtain ⟨hx, hb, hr, hts, hml, hlocks, hown⟩ := F
  have hown : s.vm.findClass RX3 = some m.cls := hown
  have hi_X3 : ∀ w ∈ u_ws RX3 TX3 4, w ∈ wsX3_tokensOf := fun w h => List.mem_cons_of_mem _ (List.mem_append_left _ (List.mem_append_right _ h))
  have q18 := hts (.fieldLink RX3 18 "ChangingRounds$Flooding" "schedule" "LChangingRounds$Schedule;") (by decide +kernel)
  have q9 := hts (.fieldLink RX3 9 "ChangingRounds$Flooding" "known" "[I") (by decide +kernel)
  have hl : lv_has ls 2 [(0, .ref Fa), (1, .int x1)] := hl
  unfold fX3_tokensOf at hf
  refine lv_aload_n hx hb dX3_tokensOf_0 rfl (lv_at hl 0 rfl) ?_
  refine va_get (D := D) (ci := 1) (v := .ref Sa) (C := RX3) (T := TX3) (N := 4) hx hb hts hi_X3 hown hK hP 0 rfl rfl 0 (by decide) q18 (fun _ h9 => h9) rfl dX3_tokensOf_1 ?_
  refine lv_iload_n hx hb dX3_tokensOf_4 rfl (lv_at hl 1 rfl) ?_
  refine cv_i (ci := 4) (q := (RX7, TX7, 4)) (As := [.int x1]) (rest := []) hx hb hml hown hts hK hP hD hA hS (kX7_hasNode l D cI cC cS Sa Sa_roundEdges Sa_values x1 S_roundEdges S_values S_nodes S_rounds (fX7_hasNode x1 S_nodes) rfl) (cwV 1 hts gX3_tokensOf_X7_hasNode rfl rfl rfl (by decide +kernel) (by subst hR; exact ⟨Nat.le_of_ble_eq_true rfl, Nat.le_of_ble_eq_true rfl⟩)) [3, 4, 5] [0, 1, 2] [0, 1, 2, 3, 4, 5] [(Fa, .inr (1, [.ref Sa, .ref Fa_known, .ref Fa_knownBefore, .int F_step])), (Fa_known, .inl (cI, 8, .inl F_known)), (Fa_knownBefore, .inl (cI, 8, .inl F_knownBefore))] (sh_X3 Fa Fa_known Fa_knownBefore Sa Sa_roundEdges Sa_values cI cC cS F_known F_knownBefore F_step S_roundEdges S_values S_nodes S_rounds) rfl rfl rfl rfl (by decide) rfl rfl rfl rfl rfl rfl hl.1 rfl (Nat.le_of_ble_eq_true rfl) ⟨Nat.zero_le _, Nat.zero_le _⟩ dX3_tokensOf_5 (fun H locs hP hD hS => ?_)
  refine lv_if_eq (tgt := 20) hx hb dX3_tokensOf_8 (by decide) (fun c1 => ?_) (fun c1 => ?_)
  · have hf := if_t c1 hf
    refine lv_iconst (v := (0 : Int32)) hx hb dX3_tokensOf_20 (by decide) ?_
    have hf := Option.some.inj hf
    subst hf
    exact rt_i hx hb hr hlocks hQ hK hP hD hS rfl dX3_tokensOf_21
  · have hf := if_f c1 hf
    refine lv_aload_n hx hb dX3_tokensOf_11 rfl (lv_at hl 0 rfl) ?_
    refine va_get (D := D) (ci := 1) (v := .ref Fa_known) (C := RX3) (T := TX3) (N := 4) hx hb hts hi_X3 hown hK hP 0 rfl rfl 1 (by decide) q9 (fun _ h9 => h9) rfl dX3_tokensOf_12 ?_
    refine lv_iload_n hx hb dX3_tokensOf_15 rfl (lv_at hl 1 rfl) ?_
    obtain ⟨hz, hf⟩ := ck_some hf
    refine sx_iald (j := x1.toNatClampNeg) hx hb hK hP 1 0 rfl rfl (inb_vp hz) rfl dX3_tokensOf_16 ?_
    refine lv_goto (tgt := 21) hx hb dX3_tokensOf_17 (by decide) ?_
    have hf := Option.some.inj hf
    subst hf
    exact rt_i hx hb hr hlocks hQ hK hP hD hS rfl dX3_tokensOf_21
set_option maxRecDepth 100000 in
set_option maxHeartbeats 4000000 in
theorem kX3_tokensOfAll (l : Launch) (D : va_G) (cI cC cS : ClassId) (Fa Fa_known Fa_knownBefore Sa Sa_roundEdges Sa_values : Nat) (F_known : Nat → Int32) (F_knownBefore : Nat → Int32) (F_step : Int32) (S_roundEdges : Nat → Int32) (S_values : Nat → Int32) (S_nodes : Int32) (S_rounds : Int32) (o : Int32) (hf : fX3_tokensOfAll F_known S_nodes = some o) : CI l D yX3_tokensOfAll wsX3_tokensOfAll ({ frames := 1, cells := 0, slots := 0, locals := 20 } : Room) (tysK cI cC cS) [.ref Fa] (sh_X3 Fa Fa_known Fa_knownBefore Sa Sa_roundEdges Sa_values cI cC cS F_known F_knownBefore F_step S_roundEdges S_values S_nodes S_rounds) o (sh_X3 Fa Fa_known Fa_knownBefore Sa Sa_roundEdges Sa_values cI cC cS F_known F_knownBefore F_step S_roundEdges S_values S_nodes S_rounds) := by
  refine met_i (cc := cX3_tokensOfAll) (maxL := 3) (ret := (some .int)) (by decide) rfl (Nat.le_of_ble_eq_true rfl) ?_
  intro p e s m args below meth c R Q A F hR hQ hP hK hD hA hS ls hl
  obtain ⟨hx, hb, hr, hts, hml, hlocks, hown⟩ := F
  have hown : s.vm.findClass RX3 = some m.cls := hown
  have hi_X3 : ∀ w ∈ u_ws RX3 TX3 4, w ∈ wsX3_tokensOfAll := fun w h => List.mem_cons_of_mem _ (List.mem_append_left _ (List.mem_append_right _ h))
  have q18 := hts (.fieldLink RX3 18 "ChangingRounds$Flooding" "schedule" "LChangingRounds$Schedule;") (by decide +kernel)
  have q9 := hts (.fieldLink RX3 9 "ChangingRounds$Flooding" "known" "[I") (by decide +kernel)
  have hl : lv_has ls 3 [(0, .ref Fa)] := hl
  unfold fX3_tokensOfAll at hf
  have L13 : ∀ (n13 : Nat) (x1 : Int32) (x2 : Int32) (H : Heap) (locs : List Loc) (ls : Array Slot), fX3_tokensOfAll_l13 F_known S_nodes n13 x1 x2 = some o → va_P D vwCl (sh_X3 Fa Fa_known Fa_knownBefore Sa Sa_roundEdges Sa_values cI cC cS F_known F_knownBefore F_step S_roundEdges S_values S_nodes S_rounds) H → va_D A (sh_X3 Fa Fa_known Fa_knownBefore Sa Sa_roundEdges Sa_values cI cC cS F_known F_knownBefore F_step S_roundEdges S_values S_nodes S_rounds) → va_S A s.heap H locs → lv_has ls 3 [(0, .ref Fa), (1, .int x1), (2, .int x2)] → W p l e R s m args below meth c H locs 0 0 Q (F0 m 13 ls []) := by
    intro n13
    induction n13 with
    | zero => intro x1 x2 H locs ls hf; cases (show (none : Option _) = some _ from hf)
    | succ n13 ih13 =>
      intro x1 x2 H locs ls hf hP hD hS hl
      rw [fX3_tokensOfAll_l13] at hf
      refine lv_iload_n hx hb dX3_tokensOfAll_13 rfl (lv_at hl 2 rfl) ?_
      refine lv_aload_n hx hb dX3_tokensOfAll_14 rfl (lv_at hl 0 rfl) ?_
      refine va_get (D := D) (ci := 1) (v := .ref Sa) (C := RX3) (T := TX3) (N := 4) hx hb hts hi_X3 hown hK hP 0 rfl rfl 0 (by decide) q18 (fun _ h9 => h9) rfl dX3_tokensOfAll_15 ?_
      refine cv_i (ci := 4) (q := (RX7, TX7, 4)) (As := []) (rest := [.int x2]) hx hb hml hown hts hK hP hD hA hS (kX7_nodes l D cI cC cS Sa Sa_roundEdges Sa_values  S_roundEdges S_values S_nodes S_rounds (fX7_nodes S_nodes) rfl) (cwV 0 hts gX3_tokensOfAll_X7_nodes rfl rfl rfl (by decide +kernel) (by subst hR; exact ⟨Nat.le_of_ble_eq_true rfl, Nat.le_of_ble_eq_true rfl⟩)) [3, 4, 5] [0, 1, 2] [0, 1, 2, 3, 4, 5] [(Fa, .inr (1, [.ref Sa, .ref Fa_known, .ref Fa_knownBefore, .int F_step])), (Fa_known, .inl (cI, 8, .inl F_known)), (Fa_knownBefore, .inl (cI, 8, .inl F_knownBefore))] (sh_X3 Fa Fa_known Fa_knownBefore Sa Sa_roundEdges Sa_values cI cC cS F_known F_knownBefore F_step S_roundEdges S_values S_nodes S_rounds) rfl rfl rfl rfl (by decide) rfl rfl rfl rfl rfl rfl hl.1 rfl (Nat.le_of_ble_eq_true rfl) ⟨Nat.zero_le _, Nat.zero_le _⟩ dX3_tokensOfAll_18 (fun H locs hP hD hS => ?_)
      refine lv_icmp_ge (tgt := 39) hx hb dX3_tokensOfAll_21 (by decide) (fun c1 => ?_) (fun c1 => ?_)
      · have hf := if_t c1 hf
        refine lv_iload_n hx hb dX3_tokensOfAll_39 rfl (lv_at hl 1 rfl) ?_
        have hf := Option.some.inj hf
        subst hf
        exact rt_i hx hb hr hlocks hQ hK hP hD hS rfl dX3_tokensOfAll_40
      · have hf := if_f c1 hf
        refine lv_iload_n hx hb dX3_tokensOfAll_24 rfl (lv_at hl 1 rfl) ?_
        refine lv_aload_n hx hb dX3_tokensOfAll_25 rfl (lv_at hl 0 rfl) ?_
        refine va_get (D := D) (ci := 1) (v := .ref Fa_known) (C := RX3) (T := TX3) (N := 4) hx hb hts hi_X3 hown hK hP 0 rfl rfl 1 (by decide) q9 (fun _ h9 => h9) rfl dX3_tokensOfAll_26 ?_
        refine lv_iload_n hx hb dX3_tokensOfAll_29 rfl (lv_at hl 2 rfl) ?_
        obtain ⟨hz, hf⟩ := ck_some hf
        refine sx_iald (j := x2.toNatClampNeg) hx hb hK hP 1 0 rfl rfl (inb_vp hz) rfl dX3_tokensOfAll_30 ?_
        refine lv_iand hx hb dX3_tokensOfAll_31 ?_
        refine lv_istore_n (lv' := [(1, .int (x1 &&& (F_known x2.toNatClampNeg))), (0, .ref Fa), (2, .int x2)]) hx hb dX3_tokensOfAll_32 rfl hl (by decide) rfl (fun ls hl => ?_)
        refine lv_iinc (v := (x2 + 1)) (lv' := [(2, .int (x2 + 1)), (1, .int (x1 &&& (F_known x2.toNatClampNeg))), (0, .ref Fa)]) hx hb dX3_tokensOfAll_33 hl (k := 2) rfl rfl (by decide) rfl (fun ls hl => ?_)
        refine lv_goto (tgt := 13) hx hb dX3_tokensOfAll_36 (by decide) ?_
        exact ih13 (x1 &&& (F_known x2.toNatClampNeg)) (x2 + 1) _ _ _ hf hP hD hS (lv_sub hl [2, 1, 0] rfl)
  refine lv_aload_n hx hb dX3_tokensOfAll_0 rfl (lv_at hl 0 rfl) ?_
  refine va_get (D := D) (ci := 1) (v := .ref Sa) (C := RX3) (T := TX3) (N := 4) hx hb hts hi_X3 hown hK hP 0 rfl rfl 0 (by decide) q18 (fun _ h9 => h9) rfl dX3_tokensOfAll_1 ?_
  refine cv_i (ci := 4) (q := (RX7, TX7, 4)) (As := []) (rest := []) hx hb hml hown hts hK hP hD hA hS (kX7_nodes l D cI cC cS Sa Sa_roundEdges Sa_values  S_roundEdges S_values S_nodes S_rounds (fX7_nodes S_nodes) rfl) (cwV 0 hts gX3_tokensOfAll_X7_nodes rfl rfl rfl (by decide +kernel) (by subst hR; exact ⟨Nat.le_of_ble_eq_true rfl, Nat.le_of_ble_eq_true rfl⟩)) [3, 4, 5] [0, 1, 2] [0, 1, 2, 3, 4, 5] [(Fa, .inr (1, [.ref Sa, .ref Fa_known, .ref Fa_knownBefore, .int F_step])), (Fa_known, .inl (cI, 8, .inl F_known)), (Fa_knownBefore, .inl (cI, 8, .inl F_knownBefore))] (sh_X3 Fa Fa_known Fa_knownBefore Sa Sa_roundEdges Sa_values cI cC cS F_known F_knownBefore F_step S_roundEdges S_values S_nodes S_rounds) rfl rfl rfl rfl (by decide) rfl rfl rfl rfl rfl rfl hl.1 rfl (Nat.le_of_ble_eq_true rfl) ⟨Nat.zero_le _, Nat.zero_le _⟩ dX3_tokensOfAll_4 (fun H locs hP hD hS => ?_)
  refine cs_i (As := [.int (fX7_nodes S_nodes)]) (rest := []) hx hb hml hown hts hK hP hD hA hS (kX6_firstOnes l D cI cC cS  (fX7_nodes S_nodes)  (fX6_firstOnes (fX7_nodes S_nodes)) rfl) (va_cwS 1 hts gX3_tokensOfAll_X6_firstOnes rfl rfl rfl (by decide +kernel) (by subst hR; exact ⟨Nat.le_of_ble_eq_true rfl, Nat.le_of_ble_eq_true rfl⟩)) rfl hl.1 rfl (Nat.le_of_ble_eq_true rfl) ⟨Nat.zero_le _, Nat.zero_le _⟩ dX3_tokensOfAll_7 (fun H locs hP hD hS => ?_)
  refine lv_istore_n (lv' := [(1, .int (fX6_firstOnes (fX7_nodes S_nodes))), (0, .ref Fa)]) hx hb dX3_tokensOfAll_10 rfl hl (by decide) rfl (fun ls hl => ?_)
  refine lv_iconst (v := (0 : Int32)) hx hb dX3_tokensOfAll_11 (by decide) ?_
  refine lv_istore_n (lv' := [(2, .int (0 : Int32)), (1, .int (fX6_firstOnes (fX7_nodes S_nodes))), (0, .ref Fa)]) hx hb dX3_tokensOfAll_12 rfl hl (by decide) rfl (fun ls hl => ?_)
  exact L13  fuel (fX6_firstOnes (fX7_nodes S_nodes)) (0 : Int32) _ _ _ hf hP hD hS (lv_sub hl [2, 1, 0] rfl)
