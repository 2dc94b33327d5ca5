set_option maxRecDepth 100000 in
set_option maxHeartbeats 4000000 in
theorem kX0_bridge (l : Launch) (D : va_G) (cI cC cS : ClassId) (x0 : Int32) (x1 : Int32) (o : Int32) (hf : fX0_bridge x0 x1 = some o) : CI l D yX0_bridge wsX0_bridge ({ frames := 2, cells := 0, slots := 0, locals := 42 } : Room) (tysK cI cC cS) [.int x0, .int x1] [] o [] := by
  refine met_i (cc := cX0_bridge) (maxL := 2) (ret := (some .int)) (by decide) rfl (Nat.le_of_ble_eq_true rfl) ?_
  intro p e s m args below meth c R Q A F hR hQ hP hK hD hA hS ls hl
  obtain ⟨hx, hb, hr, hts, hml, hlocks, hown⟩ := F
  have hown : s.vm.findClass RX0 = some m.cls := hown
  have hl : lv_has ls 2 [(0, .int x0), (1, .int x1)] := hl
  unfold fX0_bridge at hf
  refine lv_iload_n hx hb dX0_bridge_0 rfl (lv_at hl 1 rfl) ?_
  refine lv_if_ne (tgt := 6) hx hb dX0_bridge_1 (by decide) (fun c1 => ?_) (fun c1 => ?_)
  · have hf := if_f c1 hf
    refine lv_iload_n hx hb dX0_bridge_6 rfl (lv_at hl 0 rfl) ?_
    obtain ⟨o2, ho2, hf⟩ := bd_some hf
    refine cs_i (As := [.int x0]) (rest := []) hx hb hml hown hts hK hP hD hA hS (kX6_greatest l D cI cC cS  x0  o2 ho2) (va_cwS 1 hts gX0_bridge_X6_greatest rfl rfl rfl (by decide +kernel) (by subst hR; exact ⟨Nat.le_of_ble_eq_true rfl, Nat.le_of_ble_eq_true rfl⟩)) rfl hl.1 rfl (Nat.le_of_ble_eq_true rfl) ⟨Nat.zero_le _, Nat.zero_le _⟩ dX0_bridge_7 (fun H locs hP hD hS => ?_)
    refine lv_iload_n hx hb dX0_bridge_10 rfl (lv_at hl 1 rfl) ?_
    obtain ⟨o3, ho3, hf⟩ := bd_some hf
    refine cs_i (As := [.int x1]) (rest := [.int o2]) hx hb hml hown hts hK hP hD hA hS (kX6_smallest l D cI cC cS  x1  o3 ho3) (va_cwS 1 hts gX0_bridge_X6_smallest rfl rfl rfl (by decide +kernel) (by subst hR; exact ⟨Nat.le_of_ble_eq_true rfl, Nat.le_of_ble_eq_true rfl⟩)) rfl hl.1 rfl (Nat.le_of_ble_eq_true rfl) ⟨Nat.zero_le _, Nat.zero_le _⟩ dX0_bridge_11 (fun H locs hP hD hS => ?_)
    refine cs_i (As := [.int o2, .int o3]) (rest := []) hx hb hml hown hts hK hP hD hA hS (kX2_between l D cI cC cS  o2 o3  (fX2_between o2 o3) rfl) (va_cwS 2 hts gX0_bridge_X2_between rfl rfl rfl (by decide +kernel) (by subst hR; exact ⟨Nat.le_of_ble_eq_true rfl, Nat.le_of_ble_eq_true rfl⟩)) rfl hl.1 rfl (Nat.le_of_ble_eq_true rfl) ⟨Nat.zero_le _, Nat.zero_le _⟩ dX0_bridge_14 (fun H locs hP hD hS => ?_)
    have hf := Option.some.inj hf
    subst hf
    exact rt_i hx hb hr hlocks hQ hK hP hD hS rfl dX0_bridge_17
  · have hf := if_t c1 hf
    refine lv_iconst (v := (0 : Int32)) hx hb dX0_bridge_4 (by decide) ?_
    have hf := Option.some.inj hf
    subst hf
    exact rt_i hx hb hr hlocks hQ hK hP hD hS rfl dX0_bridge_5
set_option maxRecDepth 100000 in
set_option maxHeartbeats 4000000 in
theorem kX0_path (l : Launch) (D : va_G) (cI cC cS : ClassId) (x0 : Int32) (x1 : Int32) (o : Int32) (hf : fX0_path x0 x1 = some o) : CI l D yX0_path wsX0_path ({ frames := 3, cells := 0, slots := 0, locals := 63 } : Room) (tysK cI cC cS) [.int x0, .int x1] [] o [] := by
  refine met_i (cc := cX0_path) (maxL := 2) (ret := (some .int)) (by decide) rfl (Nat.le_of_ble_eq_true rfl) ?_
  intro p e s m args below meth c R Q A F hR hQ hP hK hD hA hS ls hl
  obtain ⟨hx, hb, hr, hts, hml, hlocks, hown⟩ := F
  have hown : s.vm.findClass RX0 = some m.cls := hown
  have hl : lv_has ls 2 [(0, .int x0), (1, .int x1)] := hl
  unfold fX0_path at hf
  refine lv_iload_n hx hb dX0_path_0 rfl (lv_at hl 0 rfl) ?_
  obtain ⟨o1, ho1, hf⟩ := bd_some hf
  refine cs_i (As := [.int x0]) (rest := []) hx hb hml hown hts hK hP hD hA hS (kX0_chain l D cI cC cS  x0  o1 ho1) (va_cwS 1 hts gX0_path_X0_chain rfl rfl rfl (by decide +kernel) (by subst hR; exact ⟨Nat.le_of_ble_eq_true rfl, Nat.le_of_ble_eq_true rfl⟩)) rfl hl.1 rfl (Nat.le_of_ble_eq_true rfl) ⟨Nat.zero_le _, Nat.zero_le _⟩ dX0_path_1 (fun H locs hP hD hS => ?_)
  refine lv_iload_n hx hb dX0_path_4 rfl (lv_at hl 1 rfl) ?_
  obtain ⟨o2, ho2, hf⟩ := bd_some hf
  refine cs_i (As := [.int x1]) (rest := [.int o1]) hx hb hml hown hts hK hP hD hA hS (kX0_chain l D cI cC cS  x1  o2 ho2) (va_cwS 1 hts gX0_path_X0_chain rfl rfl rfl (by decide +kernel) (by subst hR; exact ⟨Nat.le_of_ble_eq_true rfl, Nat.le_of_ble_eq_true rfl⟩)) rfl hl.1 rfl (Nat.le_of_ble_eq_true rfl) ⟨Nat.zero_le _, Nat.zero_le _⟩ dX0_path_5 (fun H locs hP hD hS => ?_)
  refine lv_ior hx hb dX0_path_8 ?_
  refine lv_iload_n hx hb dX0_path_9 rfl (lv_at hl 0 rfl) ?_
  refine lv_iload_n hx hb dX0_path_10 rfl (lv_at hl 1 rfl) ?_
  obtain ⟨o3, ho3, hf⟩ := bd_some hf
  refine cs_i (As := [.int x0, .int x1]) (rest := [.int (o1 ||| o2)]) hx hb hml hown hts hK hP hD hA hS (kX0_bridge l D cI cC cS  x0 x1  o3 ho3) (va_cwS 2 hts gX0_path_X0_bridge rfl rfl rfl (by decide +kernel) (by subst hR; exact ⟨Nat.le_of_ble_eq_true rfl, Nat.le_of_ble_eq_true rfl⟩)) rfl hl.1 rfl (Nat.le_of_ble_eq_true rfl) ⟨Nat.zero_le _, Nat.zero_le _⟩ dX0_path_11 (fun H locs hP hD hS => ?_)
  refine lv_ior hx hb dX0_path_14 ?_
  have hf := Option.some.inj hf
  subst hf
  exact rt_i hx hb hr hlocks hQ hK hP hD hS rfl dX0_path_15
set_option maxRecDepth 100000 in
set_option maxHeartbeats 4000000 in
theorem kX0_edges (l : Launch) (D : va_G) (cI cC cS : ClassId) (x0 : Int32) (x1 : Int32) (x2 : Int32) (x3 : Int32) (o : Int32) (hf : fX0_edges x0 x1 x2 x3 = some o) : CI l D yX0_edges wsX0_edges ({ frames := 4, cells := 0, slots := 0, locals := 84 } : Room) (tysK cI cC cS) [.int x0, .int x1, .int x2, .int x3] [] o [] := by
  refine met_i (cc := cX0_edges) (maxL := 5) (ret := (some .int)) (by decide) rfl (Nat.le_of_ble_eq_true rfl) ?_
  intro p e s m args below meth c R Q A F hR hQ hP hK hD hA hS ls hl
  obtain ⟨hx, hb, hr, hts, hml, hlocks, hown⟩ := F
  have hown : s.vm.findClass RX0 = some m.cls := hown
  have hl : lv_has ls 5 [(0, .int x0), (1, .int x1), (2, .int x2), (3, .int x3)] := hl
  unfold fX0_edges at hf
  have J40 : ∀ (y0 : Int32) (H : Heap) (locs : List Loc) (ls : Array Slot), fX0_edges_b40 x3 y0 = some o → va_P D vwCl [] H → va_D A [] → va_S A s.heap H locs → lv_has ls 5 [(3, .int x3)] → W p l e R s m args below meth c H locs 0 0 Q (F0 m 40 ls [.int y0]) := by
    intro y0 H locs ls hf hP hD hS hl
    unfold fX0_edges_b40 at hf
    refine lv_iload_n hx hb dX0_edges_40 rfl (lv_at hl 0 rfl) ?_
    obtain ⟨o1, ho1, hf⟩ := bd_some hf
    refine cs_i (As := [.int y0, .int x3]) (rest := []) hx hb hml hown hts hK hP hD hA hS (kX2_star l D cI cC cS  y0 x3  o1 ho1) (va_cwS 2 hts gX0_edges_X2_star rfl rfl rfl (by decide +kernel) (by subst hR; exact ⟨Nat.le_of_ble_eq_true rfl, Nat.le_of_ble_eq_true rfl⟩)) rfl hl.1 rfl (Nat.le_of_ble_eq_true rfl) ⟨Nat.zero_le _, Nat.zero_le _⟩ dX0_edges_41 (fun H locs hP hD hS => ?_)
    have hf := Option.some.inj hf
    subst hf
    exact rt_i hx hb hr hlocks hQ hK hP hD hS rfl dX0_edges_44
  refine lv_iload_n hx hb dX0_edges_0 rfl (lv_at hl 3 rfl) ?_
  refine cs_i (As := [.int x3]) (rest := []) hx hb hml hown hts hK hP hD hA hS (kX6_firstOnes l D cI cC cS  x3  (fX6_firstOnes x3) rfl) (va_cwS 1 hts gX0_edges_X6_firstOnes rfl rfl rfl (by decide +kernel) (by subst hR; exact ⟨Nat.le_of_ble_eq_true rfl, Nat.le_of_ble_eq_true rfl⟩)) rfl hl.1 rfl (Nat.le_of_ble_eq_true rfl) ⟨Nat.zero_le _, Nat.zero_le _⟩ dX0_edges_1 (fun H locs hP hD hS => ?_)
  refine lv_iload_n hx hb dX0_edges_4 rfl (lv_at hl 2 rfl) ?_
  refine lv_iconst (v := (-1 : Int32)) hx hb dX0_edges_5 (by decide) ?_
  refine lv_ixor hx hb dX0_edges_6 ?_
  refine lv_iand hx hb dX0_edges_7 ?_
  refine lv_istore (lv' := [(4, .int ((fX6_firstOnes x3) &&& (x2 ^^^ (-1 : Int32)))), (0, .int x0), (1, .int x1), (2, .int x2), (3, .int x3)]) hx hb dX0_edges_8 hl (by decide) rfl (fun ls hl => ?_)
  refine lv_iload_n hx hb dX0_edges_10 rfl (lv_at hl 1 rfl) ?_
  refine lv_if_ne (tgt := 21) hx hb dX0_edges_11 (by decide) (fun c2 => ?_) (fun c2 => ?_)
  · have hf := if_f c2 hf
    refine lv_iload_n hx hb dX0_edges_21 rfl (lv_at hl 1 rfl) ?_
    refine lv_iconst (v := (1 : Int32)) hx hb dX0_edges_22 (by decide) ?_
    refine lv_icmp_ne (tgt := 45) hx hb dX0_edges_23 (by decide) (fun c3 => ?_) (fun c3 => ?_)
    · have hf := if_f c3 hf
      refine lv_iload_n hx hb dX0_edges_45 rfl (lv_at hl 3 rfl) ?_
      obtain ⟨o4, ho4, hf⟩ := bd_some hf
      refine cs_i (As := [.int x2]) (rest := []) hx hb hml hown hts hK hP hD hA hS (kX2_clique l D cI cC cS  x2  o4 ho4) (va_cwS 1 hts gX0_edges_X2_clique rfl rfl rfl (by decide +kernel) (by subst hR; exact ⟨Nat.le_of_ble_eq_true rfl, Nat.le_of_ble_eq_true rfl⟩)) rfl hl.1 rfl (Nat.le_of_ble_eq_true rfl) ⟨Nat.zero_le _, Nat.zero_le _⟩ dX0_edges_46 (fun H locs hP hD hS => ?_)
      refine lv_iload hx hb dX0_edges_49 (lv_at hl 0 rfl) ?_
      obtain ⟨o5, ho5, hf⟩ := bd_some hf
      refine cs_i (As := [.int ((fX6_firstOnes x3) &&& (x2 ^^^ (-1 : Int32)))]) (rest := [.int o4]) hx hb hml hown hts hK hP hD hA hS (kX2_clique l D cI cC cS  ((fX6_firstOnes x3) &&& (x2 ^^^ (-1 : Int32)))  o5 ho5) (va_cwS 1 hts gX0_edges_X2_clique rfl rfl rfl (by decide +kernel) (by subst hR; exact ⟨Nat.le_of_ble_eq_true rfl, Nat.le_of_ble_eq_true rfl⟩)) rfl hl.1 rfl (Nat.le_of_ble_eq_true rfl) ⟨Nat.zero_le _, Nat.zero_le _⟩ dX0_edges_51 (fun H locs hP hD hS => ?_)
      refine lv_ior hx hb dX0_edges_54 ?_
      refine lv_iload_n hx hb dX0_edges_55 rfl (lv_at hl 3 rfl) ?_
      refine lv_iload hx hb dX0_edges_56 (lv_at hl 0 rfl) ?_
      obtain ⟨o6, ho6, hf⟩ := bd_some hf
      refine cs_i (As := [.int x2, .int ((fX6_firstOnes x3) &&& (x2 ^^^ (-1 : Int32)))]) (rest := [.int (o4 ||| o5)]) hx hb hml hown hts hK hP hD hA hS (kX0_bridge l D cI cC cS  x2 ((fX6_firstOnes x3) &&& (x2 ^^^ (-1 : Int32)))  o6 ho6) (va_cwS 2 hts gX0_edges_X0_bridge rfl rfl rfl (by decide +kernel) (by subst hR; exact ⟨Nat.le_of_ble_eq_true rfl, Nat.le_of_ble_eq_true rfl⟩)) rfl hl.1 rfl (Nat.le_of_ble_eq_true rfl) ⟨Nat.zero_le _, Nat.zero_le _⟩ dX0_edges_58 (fun H locs hP hD hS => ?_)
      refine lv_ior hx hb dX0_edges_61 ?_
      have hf := Option.some.inj hf
      subst hf
      exact rt_i hx hb hr hlocks hQ hK hP hD hS rfl dX0_edges_62
    · have hf := if_t c3 hf
      refine lv_iload hx hb dX0_edges_26 (lv_at hl 0 rfl) ?_
      refine lv_if_eq (tgt := 39) hx hb dX0_edges_28 (by decide) (fun c7 => ?_) (fun c7 => ?_)
      · have hf := if_t c7 hf
        refine lv_iload_n hx hb dX0_edges_39 rfl (lv_at hl 2 rfl) ?_
        exact J40 x1 _ _ _ hf hP hD hS (lv_sub hl [4] rfl)
      · have hf := if_f c7 hf
        refine lv_iload hx hb dX0_edges_31 (lv_at hl 0 rfl) ?_
        obtain ⟨o8, ho8, hf⟩ := bd_some hf
        refine cs_i (As := [.int ((fX6_firstOnes x3) &&& (x2 ^^^ (-1 : Int32)))]) (rest := []) hx hb hml hown hts hK hP hD hA hS (kX6_smallest l D cI cC cS  ((fX6_firstOnes x3) &&& (x2 ^^^ (-1 : Int32)))  o8 ho8) (va_cwS 1 hts gX0_edges_X6_smallest rfl rfl rfl (by decide +kernel) (by subst hR; exact ⟨Nat.le_of_ble_eq_true rfl, Nat.le_of_ble_eq_true rfl⟩)) rfl hl.1 rfl (Nat.le_of_ble_eq_true rfl) ⟨Nat.zero_le _, Nat.zero_le _⟩ dX0_edges_33 (fun H locs hP hD hS => ?_)
        refine lv_goto (tgt := 40) hx hb dX0_edges_36 (by decide) ?_
        exact J40 o8 _ _ _ hf hP hD hS (lv_sub hl [4] rfl)
  · have hf := if_t c2 hf
    refine lv_iload_n hx hb dX0_edges_14 rfl (lv_at hl 3 rfl) ?_
    refine lv_iload hx hb dX0_edges_15 (lv_at hl 0 rfl) ?_
    obtain ⟨o9, ho9, hf⟩ := bd_some hf
    refine cs_i (As := [.int x2, .int ((fX6_firstOnes x3) &&& (x2 ^^^ (-1 : Int32)))]) (rest := []) hx hb hml hown hts hK hP hD hA hS (kX0_path l D cI cC cS  x2 ((fX6_firstOnes x3) &&& (x2 ^^^ (-1 : Int32)))  o9 ho9) (va_cwS 2 hts gX0_edges_X0_path rfl rfl rfl (by decide +kernel) (by subst hR; exact ⟨Nat.le_of_ble_eq_true rfl, Nat.le_of_ble_eq_true rfl⟩)) rfl hl.1 rfl (Nat.le_of_ble_eq_true rfl) ⟨Nat.zero_le _, Nat.zero_le _⟩ dX0_edges_17 (fun H locs hP hD hS => ?_)
    have hf := Option.some.inj hf
    subst hf
    exact rt_i hx hb hr hlocks hQ hK hP hD hS rfl dX0_edges_20
set_option maxRecDepth 100000 in
set_option maxHeartbeats 4000000 in
theorem kX7_beginAnew (l : Launch) (D : va_G) (cI cC cS : ClassId) (Sa Sa_roundEdges Sa_values : Nat) (x1 : Int32) (S_roundEdges : Nat → Int32) (S_values : Nat → Int32) (S_nodes : Int32) (S_rounds : Int32) (o : (Nat → Int32) × Int32 × Int32) (hf : fX7_beginAnew x1 S_values S_nodes S_rounds = some o) : CV l D yX7_beginAnew wsX7_beginAnew ({ frames := 0, cells := 0, slots := 0, locals := 0 } : Room) (tysK cI cC cS) [.ref Sa, .int x1] (sh_X7 Sa Sa_roundEdges Sa_values cI cC cS S_roundEdges S_values S_nodes S_rounds) (sh_X7 Sa Sa_roundEdges Sa_values cI cC cS S_roundEdges o.1 o.2.1 o.2.2) := by
  refine met_v (cc := cX7_beginAnew) (maxL := 3) (ret := none) (by decide) rfl (Nat.le_of_ble_eq_true rfl) ?_
  intro p e s m args below meth c R Q A F hR hQ hP hK hD hA hS ls hl
  obtain ⟨hx, hb, hr, hts, hml, hlocks, hown⟩ := F
  have hown : s.vm.findClass RX7 = some m.cls := hown
  have hi_X7 : ∀ w ∈ u_ws RX7 TX7 4, w ∈ wsX7_beginAnew := fun w h => List.mem_cons_of_mem _ (List.mem_append_right _ h)
  have q22 := hts (.fieldLink RX7 22 "ChangingRounds$Schedule" "nodes" "I") (by decide +kernel)
  have q26 := hts (.fieldLink RX7 26 "ChangingRounds$Schedule" "rounds" "I") (by decide +kernel)
  have q15 := hts (.fieldLink RX7 15 "ChangingRounds$Schedule" "values" "[I") (by decide +kernel)
  have hl : lv_has ls 3 [(0, .ref Sa), (1, .int x1)] := hl
  unfold fX7_beginAnew at hf
  have L12 : ∀ (S_nodes : Int32) (S_rounds : Int32) (n12 : Nat) (x2 : Int32) (S_values : Nat → Int32) (H : Heap) (locs : List Loc) (ls : Array Slot), fX7_beginAnew_l12 S_nodes S_rounds n12 x2 S_values = some o → va_P D vwCl (sh_X7 Sa Sa_roundEdges Sa_values cI cC cS S_roundEdges S_values S_nodes S_rounds) H → va_D A (sh_X7 Sa Sa_roundEdges Sa_values cI cC cS S_roundEdges S_values S_nodes S_rounds) → va_S A s.heap H locs → lv_has ls 3 [(0, .ref Sa), (2, .int x2)] → W p l e R s m args below meth c H locs 0 0 Q (F0 m 12 ls []) := by
    intro S_nodes S_rounds n12
    induction n12 with
    | zero => intro x2 S_values H locs ls hf; cases (show (none : Option _) = some _ from hf)
    | succ n12 ih12 =>
      intro x2 S_values H locs ls hf hP hD hS hl
      rw [fX7_beginAnew_l12] at hf
      refine lv_iload_n hx hb dX7_beginAnew_12 rfl (lv_at hl 1 rfl) ?_
      refine lv_bipush (v := (8 : Int32)) hx hb dX7_beginAnew_13 (by decide) ?_
      refine lv_icmp_ge (tgt := 31) hx hb dX7_beginAnew_15 (by decide) (fun c1 => ?_) (fun c1 => ?_)
      · have hf := if_t c1 hf
        have hf := Option.some.inj hf
        subst hf
        exact rt_v hx hb hr hlocks hQ hK hP hD hS dX7_beginAnew_31
      · have hf := if_f c1 hf
        refine lv_aload_n hx hb dX7_beginAnew_18 rfl (lv_at hl 0 rfl) ?_
        refine va_get (D := D) (ci := 4) (v := .ref Sa_values) (C := RX7) (T := TX7) (N := 4) hx hb hts hi_X7 hown hK hP 0 rfl rfl 1 (by decide) q15 (fun _ h9 => h9) rfl dX7_beginAnew_19 ?_
        refine lv_iload_n hx hb dX7_beginAnew_22 rfl (lv_at hl 1 rfl) ?_
        refine lv_iload_n hx hb dX7_beginAnew_23 rfl (lv_at hl 1 rfl) ?_
        obtain ⟨hz, hf⟩ := ck_some hf
        refine sx_iast (j := x2.toNatClampNeg) hx hb hK hP hD hS 2 0 rfl rfl (inb_vp hz) rfl dX7_beginAnew_24 (sh_X7 Sa Sa_roundEdges Sa_values cI cC cS S_roundEdges (upd S_values x2.toNatClampNeg x2) S_nodes S_rounds) rfl (fun H locs hP hD hS => ?_)
        refine lv_iinc (v := (x2 + 1)) (lv' := [(2, .int (x2 + 1)), (0, .ref Sa)]) hx hb dX7_beginAnew_25 hl (k := 1) rfl rfl (by decide) rfl (fun ls hl => ?_)
        refine lv_goto (tgt := 12) hx hb dX7_beginAnew_28 (by decide) ?_
        exact ih12 (x2 + 1) (upd S_values x2.toNatClampNeg x2) _ _ _ hf hP hD hS (lv_sub hl [1, 0] rfl)
  refine lv_aload_n hx hb dX7_beginAnew_0 rfl (lv_at hl 0 rfl) ?_
  refine lv_iload_n hx hb dX7_beginAnew_1 rfl (lv_at hl 1 rfl) ?_
  refine sx_put (D := D) (ci := 4) (v := .int x1) (ty := .int) (C := RX7) (T := TX7) (N := 4) hx hb hts hi_X7 tyX7 tyX7_ok nmX7 hown hK hP hD hS 0 rfl rfl 2 (by decide) q22 (fun _ h9 => h9) rfl (by decide +kernel) rfl rfl (Nat.le_of_ble_eq_true rfl) dX7_beginAnew_2 (sh_X7 Sa Sa_roundEdges Sa_values cI cC cS S_roundEdges S_values x1 S_rounds) rfl (fun H locs hP hD hS => ?_)
  refine lv_aload_n hx hb dX7_beginAnew_5 rfl (lv_at hl 0 rfl) ?_
  refine lv_iconst (v := (0 : Int32)) hx hb dX7_beginAnew_6 (by decide) ?_
  refine sx_put (D := D) (ci := 4) (v := .int (0 : Int32)) (ty := .int) (C := RX7) (T := TX7) (N := 4) hx hb hts hi_X7 tyX7 tyX7_ok nmX7 hown hK hP hD hS 0 rfl rfl 3 (by decide) q26 (fun _ h9 => h9) rfl (by decide +kernel) rfl rfl (Nat.le_of_ble_eq_true rfl) dX7_beginAnew_7 (sh_X7 Sa Sa_roundEdges Sa_values cI cC cS S_roundEdges S_values x1 (0 : Int32)) rfl (fun H locs hP hD hS => ?_)
  refine lv_iconst (v := (0 : Int32)) hx hb dX7_beginAnew_10 (by decide) ?_
  refine lv_istore_n (lv' := [(2, .int (0 : Int32)), (0, .ref Sa), (1, .int x1)]) hx hb dX7_beginAnew_11 rfl hl (by decide) rfl (fun ls hl => ?_)
  exact L12 x1 (0 : Int32) fuel (0 : Int32) S_values _ _ _ hf hP hD hS (lv_sub hl [1, 0] rfl)
set_option maxRecDepth 100000 in
set_option maxHeartbeats 4000000 in
theorem kX7_become (l : Launch) (D : va_G) (cI cC cS : ClassId) (Sa Sa_roundEdges Sa_values Oa Oa_roundEdges Oa_values : Nat) (S_roundEdges : Nat → Int32) (S_values : Nat → Int32) (S_nodes : Int32) (S_rounds : Int32) (O_roundEdges : Nat → Int32) (O_values : Nat → Int32) (O_nodes : Int32) (O_rounds : Int32) (o : (Nat → Int32) × (Nat → Int32) × Int32 × Int32) (hf : fX7_become S_roundEdges S_values S_nodes S_rounds O_roundEdges O_values O_nodes O_rounds = some o) : CV l D yX7_become wsX7_become ({ frames := 0, cells := 0, slots := 0, locals := 0 } : Room) (tysK cI cC cS) [.ref Sa, .ref Oa] (sh_X7b Sa Sa_roundEdges Sa_values Oa Oa_roundEdges Oa_values cI cC cS S_roundEdges S_values S_nodes S_rounds O_roundEdges O_values O_nodes O_rounds) (sh_X7b Sa Sa_roundEdges Sa_values Oa Oa_roundEdges Oa_values cI cC cS o.1 o.2.1 o.2.2.1 o.2.2.2 O_roundEdges O_values O_nodes O_rounds) := by
  refine met_v (cc := cX7_become) (maxL := 3) (ret := none) (by decide) rfl (Nat.le_of_ble_eq_true rfl) ?_
  intro p e s m args below meth c R Q A F hR hQ hP hK hD hA hS ls hl
  obtain ⟨hx, hb, hr, hts, hml, hlocks, hown⟩ := F
  have hown : s.vm.findClass RX7 = some m.cls := hown
  have hi_X7 : ∀ w ∈ u_ws RX7 TX7 4, w ∈ wsX7_become := fun w h => List.mem_cons_of_mem _ (List.mem_append_right _ h)
  have q22 := hts (.fieldLink RX7 22 "ChangingRounds$Schedule" "nodes" "I") (by decide +kernel)
  have q26 := hts (.fieldLink RX7 26 "ChangingRounds$Schedule" "rounds" "I") (by decide +kernel)
  have q9 := hts (.fieldLink RX7 9 "ChangingRounds$Schedule" "roundEdges" "[I") (by decide +kernel)
  have q15 := hts (.fieldLink RX7 15 "ChangingRounds$Schedule" "values" "[I") (by decide +kernel)
  have hl : lv_has ls 3 [(0, .ref Sa), (1, .ref Oa)] := hl
  unfold fX7_become at hf
  have L44 : ∀ (S_roundEdges : Nat → Int32) (S_nodes : Int32) (S_rounds : Int32) (n44 : Nat) (x2 : Int32) (S_values : Nat → Int32) (H : Heap) (locs : List Loc) (ls : Array Slot), fX7_become_l44 S_roundEdges S_nodes S_rounds O_values n44 x2 S_values = some o → va_P D vwCl (sh_X7b Sa Sa_roundEdges Sa_values Oa Oa_roundEdges Oa_values cI cC cS S_roundEdges S_values S_nodes S_rounds O_roundEdges O_values O_nodes O_rounds) H → va_D A (sh_X7b Sa Sa_roundEdges Sa_values Oa Oa_roundEdges Oa_values cI cC cS S_roundEdges S_values S_nodes S_rounds O_roundEdges O_values O_nodes O_rounds) → va_S A s.heap H locs → lv_has ls 3 [(0, .ref Sa), (1, .ref Oa), (2, .int x2)] → W p l e R s m args below meth c H locs 0 0 Q (F0 m 44 ls []) := by
    intro S_roundEdges S_nodes S_rounds n44
    induction n44 with
    | zero => intro x2 S_values H locs ls hf; cases (show (none : Option _) = some _ from hf)
    | succ n44 ih44 =>
      intro x2 S_values H locs ls hf hP hD hS hl
      rw [fX7_become_l44] at hf
      refine lv_iload_n hx hb dX7_become_44 rfl (lv_at hl 2 rfl) ?_
      refine lv_bipush (v := (8 : Int32)) hx hb dX7_become_45 (by decide) ?_
      refine lv_icmp_ge (tgt := 68) hx hb dX7_become_47 (by decide) (fun c1 => ?_) (fun c1 => ?_)
      · have hf := if_t c1 hf
        have hf := Option.some.inj hf
        subst hf
        exact rt_v hx hb hr hlocks hQ hK hP hD hS dX7_become_68
      · have hf := if_f c1 hf
        refine lv_aload_n hx hb dX7_become_50 rfl (lv_at hl 0 rfl) ?_
        refine va_get (D := D) (ci := 4) (v := .ref Sa_values) (C := RX7) (T := TX7) (N := 4) hx hb hts hi_X7 hown hK hP 0 rfl rfl 1 (by decide) q15 (fun _ h9 => h9) rfl dX7_become_51 ?_
        refine lv_iload_n hx hb dX7_become_54 rfl (lv_at hl 2 rfl) ?_
        refine lv_aload_n hx hb dX7_become_55 rfl (lv_at hl 1 rfl) ?_
        refine va_get (D := D) (ci := 4) (v := .ref Oa_values) (C := RX7) (T := TX7) (N := 4) hx hb hts hi_X7 hown hK hP 3 rfl rfl 1 (by decide) q15 (fun _ h9 => h9) rfl dX7_become_56 ?_
        refine lv_iload_n hx hb dX7_become_59 rfl (lv_at hl 2 rfl) ?_
        obtain ⟨hz, hf⟩ := ck_some hf
        refine sx_iald (j := x2.toNatClampNeg) hx hb hK hP 5 0 rfl rfl (inb_vp hz) rfl dX7_become_60 ?_
        obtain ⟨hz, hf⟩ := ck_some hf
        refine sx_iast (j := x2.toNatClampNeg) hx hb hK hP hD hS 2 0 rfl rfl (inb_vp hz) rfl dX7_become_61 (sh_X7b Sa Sa_roundEdges Sa_values Oa Oa_roundEdges Oa_values cI cC cS S_roundEdges (upd S_values x2.toNatClampNeg (O_values x2.toNatClampNeg)) S_nodes S_rounds O_roundEdges O_values O_nodes O_rounds) rfl (fun H locs hP hD hS => ?_)
        refine lv_iinc (v := (x2 + 1)) (lv' := [(2, .int (x2 + 1)), (0, .ref Sa), (1, .ref Oa)]) hx hb dX7_become_62 hl (k := 2) rfl rfl (by decide) rfl (fun ls hl => ?_)
        refine lv_goto (tgt := 44) hx hb dX7_become_65 (by decide) ?_
        exact ih44 (x2 + 1) (upd S_values x2.toNatClampNeg (O_values x2.toNatClampNeg)) _ _ _ hf hP hD hS (lv_sub hl [1, 2, 0] rfl)
  have L18 : ∀ (S_values : Nat → Int32) (S_nodes : Int32) (S_rounds : Int32) (n18 : Nat) (x2 : Int32) (S_roundEdges : Nat → Int32) (H : Heap) (locs : List Loc) (ls : Array Slot), fX7_become_l18 S_values S_nodes S_rounds O_roundEdges O_values n18 x2 S_roundEdges = some o → va_P D vwCl (sh_X7b Sa Sa_roundEdges Sa_values Oa Oa_roundEdges Oa_values cI cC cS S_roundEdges S_values S_nodes S_rounds O_roundEdges O_values O_nodes O_rounds) H → va_D A (sh_X7b Sa Sa_roundEdges Sa_values Oa Oa_roundEdges Oa_values cI cC cS S_roundEdges S_values S_nodes S_rounds O_roundEdges O_values O_nodes O_rounds) → va_S A s.heap H locs → lv_has ls 3 [(0, .ref Sa), (1, .ref Oa), (2, .int x2)] → W p l e R s m args below meth c H locs 0 0 Q (F0 m 18 ls []) := by
    intro S_values S_nodes S_rounds n18
    induction n18 with
    | zero => intro x2 S_roundEdges H locs ls hf; cases (show (none : Option _) = some _ from hf)
    | succ n18 ih18 =>
      intro x2 S_roundEdges H locs ls hf hP hD hS hl
      rw [fX7_become_l18] at hf
      refine lv_iload_n hx hb dX7_become_18 rfl (lv_at hl 2 rfl) ?_
      refine lv_bipush (v := (16 : Int32)) hx hb dX7_become_19 (by decide) ?_
      refine lv_icmp_ge (tgt := 42) hx hb dX7_become_21 (by decide) (fun c2 => ?_) (fun c2 => ?_)
      · have hf := if_t c2 hf
        refine lv_iconst (v := (0 : Int32)) hx hb dX7_become_42 (by decide) ?_
        refine lv_istore_n (lv' := [(2, .int (0 : Int32)), (0, .ref Sa), (1, .ref Oa)]) hx hb dX7_become_43 rfl hl (by decide) rfl (fun ls hl => ?_)
        exact L44 S_roundEdges S_nodes S_rounds fuel (0 : Int32) S_values _ _ _ hf hP hD hS (lv_sub hl [1, 2, 0] rfl)
      · have hf := if_f c2 hf
        refine lv_aload_n hx hb dX7_become_24 rfl (lv_at hl 0 rfl) ?_
        refine va_get (D := D) (ci := 4) (v := .ref Sa_roundEdges) (C := RX7) (T := TX7) (N := 4) hx hb hts hi_X7 hown hK hP 0 rfl rfl 0 (by decide) q9 (fun _ h9 => h9) rfl dX7_become_25 ?_
        refine lv_iload_n hx hb dX7_become_28 rfl (lv_at hl 2 rfl) ?_
        refine lv_aload_n hx hb dX7_become_29 rfl (lv_at hl 1 rfl) ?_
        refine va_get (D := D) (ci := 4) (v := .ref Oa_roundEdges) (C := RX7) (T := TX7) (N := 4) hx hb hts hi_X7 hown hK hP 3 rfl rfl 0 (by decide) q9 (fun _ h9 => h9) rfl dX7_become_30 ?_
        refine lv_iload_n hx hb dX7_become_33 rfl (lv_at hl 2 rfl) ?_
        obtain ⟨hz, hf⟩ := ck_some hf
        refine sx_iald (j := x2.toNatClampNeg) hx hb hK hP 4 0 rfl rfl (inb_vp hz) rfl dX7_become_34 ?_
        obtain ⟨hz, hf⟩ := ck_some hf
        refine sx_iast (j := x2.toNatClampNeg) hx hb hK hP hD hS 1 0 rfl rfl (inb_vp hz) rfl dX7_become_35 (sh_X7b Sa Sa_roundEdges Sa_values Oa Oa_roundEdges Oa_values cI cC cS (upd S_roundEdges x2.toNatClampNeg (O_roundEdges x2.toNatClampNeg)) S_values S_nodes S_rounds O_roundEdges O_values O_nodes O_rounds) rfl (fun H locs hP hD hS => ?_)
        refine lv_iinc (v := (x2 + 1)) (lv' := [(2, .int (x2 + 1)), (0, .ref Sa), (1, .ref Oa)]) hx hb dX7_become_36 hl (k := 2) rfl rfl (by decide) rfl (fun ls hl => ?_)
        refine lv_goto (tgt := 18) hx hb dX7_become_39 (by decide) ?_
        exact ih18 (x2 + 1) (upd S_roundEdges x2.toNatClampNeg (O_roundEdges x2.toNatClampNeg)) _ _ _ hf hP hD hS (lv_sub hl [1, 2, 0] rfl)
  refine lv_aload_n hx hb dX7_become_0 rfl (lv_at hl 0 rfl) ?_
  refine lv_aload_n hx hb dX7_become_1 rfl (lv_at hl 1 rfl) ?_
  refine va_get (D := D) (ci := 4) (v := .int O_nodes) (C := RX7) (T := TX7) (N := 4) hx hb hts hi_X7 hown hK hP 3 rfl rfl 2 (by decide) q22 (fun _ h9 => h9) rfl dX7_become_2 ?_
  refine sx_put (D := D) (ci := 4) (v := .int O_nodes) (ty := .int) (C := RX7) (T := TX7) (N := 4) hx hb hts hi_X7 tyX7 tyX7_ok nmX7 hown hK hP hD hS 0 rfl rfl 2 (by decide) q22 (fun _ h9 => h9) rfl (by decide +kernel) rfl rfl (Nat.le_of_ble_eq_true rfl) dX7_become_5 (sh_X7b Sa Sa_roundEdges Sa_values Oa Oa_roundEdges Oa_values cI cC cS S_roundEdges S_values O_nodes S_rounds O_roundEdges O_values O_nodes O_rounds) rfl (fun H locs hP hD hS => ?_)
  refine lv_aload_n hx hb dX7_become_8 rfl (lv_at hl 0 rfl) ?_
  refine lv_aload_n hx hb dX7_become_9 rfl (lv_at hl 1 rfl) ?_
  refine va_get (D := D) (ci := 4) (v := .int O_rounds) (C := RX7) (T := TX7) (N := 4) hx hb hts hi_X7 hown hK hP 3 rfl rfl 3 (by decide) q26 (fun _ h9 => h9) rfl dX7_become_10 ?_
  refine sx_put (D := D) (ci := 4) (v := .int O_rounds) (ty := .int) (C := RX7) (T := TX7) (N := 4) hx hb hts hi_X7 tyX7 tyX7_ok nmX7 hown hK hP hD hS 0 rfl rfl 3 (by decide) q26 (fun _ h9 => h9) rfl (by decide +kernel) rfl rfl (Nat.le_of_ble_eq_true rfl) dX7_become_13 (sh_X7b Sa Sa_roundEdges Sa_values Oa Oa_roundEdges Oa_values cI cC cS S_roundEdges S_values O_nodes O_rounds O_roundEdges O_values O_nodes O_rounds) rfl (fun H locs hP hD hS => ?_)
  refine lv_iconst (v := (0 : Int32)) hx hb dX7_become_16 (by decide) ?_
  refine lv_istore_n (lv' := [(2, .int (0 : Int32)), (0, .ref Sa), (1, .ref Oa)]) hx hb dX7_become_17 rfl hl (by decide) rfl (fun ls hl => ?_)
  exact L18 S_values O_nodes O_rounds fuel (0 : Int32) S_roundEdges _ _ _ hf hP hD hS (lv_sub hl [1, 2, 0] rfl)
set_option maxRecDepth 100000 in
set_option maxHeartbeats 4000000 in
theorem kX7_nodes (l : Launch) (D : va_G) (cI cC cS : ClassId) (Sa Sa_roundEdges Sa_values : Nat) (S_roundEdges : Nat → Int32) (S_values : Nat → Int32) (S_nodes : Int32) (S_rounds : Int32) (o : Int32) (hf : fX7_nodes S_nodes = o) : CI l D yX7_nodes wsX7_nodes ({ frames := 0, cells := 0, slots := 0, locals := 0 } : Room) (tysK cI cC cS) [.ref Sa] (sh_X7 Sa Sa_roundEdges Sa_values cI cC cS S_roundEdges S_values S_nodes S_rounds) o (sh_X7 Sa Sa_roundEdges Sa_values cI cC cS S_roundEdges S_values S_nodes S_rounds) := by
  refine met_i (cc := cX7_nodes) (maxL := 1) (ret := (some .int)) (by decide) rfl (Nat.le_of_ble_eq_true rfl) ?_
  intro p e s m args below meth c R Q A F hR hQ hP hK hD hA hS ls hl
  obtain ⟨hx, hb, hr, hts, hml, hlocks, hown⟩ := F
  have hown : s.vm.findClass RX7 = some m.cls := hown
  have hi_X7 : ∀ w ∈ u_ws RX7 TX7 4, w ∈ wsX7_nodes := fun w h => List.mem_cons_of_mem _ (List.mem_append_right _ h)
  have q22 := hts (.fieldLink RX7 22 "ChangingRounds$Schedule" "nodes" "I") (by decide +kernel)
  have hl : lv_has ls 1 [(0, .ref Sa)] := hl
  unfold fX7_nodes at hf
  refine lv_aload_n hx hb dX7_nodes_0 rfl (lv_at hl 0 rfl) ?_
  refine va_get (D := D) (ci := 4) (v := .int S_nodes) (C := RX7) (T := TX7) (N := 4) hx hb hts hi_X7 hown hK hP 0 rfl rfl 2 (by decide) q22 (fun _ h9 => h9) rfl dX7_nodes_1 ?_
  subst hf
  exact rt_i hx hb hr hlocks hQ hK hP hD hS rfl dX7_nodes_4
set_option maxRecDepth 100000 in
set_option maxHeartbeats 4000000 in
theorem kX7_rounds (l : Launch) (D : va_G) (cI cC cS : ClassId) (Sa Sa_roundEdges Sa_values : Nat) (S_roundEdges : Nat → Int32) (S_values : Nat → Int32) (S_nodes : Int32) (S_rounds : Int32) (o : Int32) (hf : fX7_rounds S_rounds = o) : CI l D yX7_rounds wsX7_rounds ({ frames := 0, cells := 0, slots := 0, locals := 0 } : Room) (tysK cI cC cS) [.ref Sa] (sh_X7 Sa Sa_roundEdges Sa_values cI cC cS S_roundEdges S_values S_nodes S_rounds) o (sh_X7 Sa Sa_roundEdges Sa_values cI cC cS S_roundEdges S_values S_nodes S_rounds) := by
  refine met_i (cc := cX7_rounds) (maxL := 1) (ret := (some .int)) (by decide) rfl (Nat.le_of_ble_eq_true rfl) ?_
  intro p e s m args below meth c R Q A F hR hQ hP hK hD hA hS ls hl
  obtain ⟨hx, hb, hr, hts, hml, hlocks, hown⟩ := F
  have hown : s.vm.findClass RX7 = some m.cls := hown
  have hi_X7 : ∀ w ∈ u_ws RX7 TX7 4, w ∈ wsX7_rounds := fun w h => List.mem_cons_of_mem _ (List.mem_append_right _ h)
  have q26 := hts (.fieldLink RX7 26 "ChangingRounds$Schedule" "rounds" "I") (by decide +kernel)
  have hl : lv_has ls 1 [(0, .ref Sa)] := hl
  unfold fX7_rounds at hf
  refine lv_aload_n hx hb dX7_rounds_0 rfl (lv_at hl 0 rfl) ?_
  refine va_get (D := D) (ci := 4) (v := .int S_rounds) (C := RX7) (T := TX7) (N := 4) hx hb hts hi_X7 hown hK hP 0 rfl rfl 3 (by decide) q26 (fun _ h9 => h9) rfl dX7_rounds_1 ?_
  subst hf
  exact rt_i hx hb hr hlocks hQ hK hP hD hS rfl dX7_rounds_4
set_option maxRecDepth 100000 in
set_option maxHeartbeats 4000000 in
theorem kX7_isFull (l : Launch) (D : va_G) (cI cC cS : ClassId) (Sa Sa_roundEdges Sa_values : Nat) (S_roundEdges : Nat → Int32) (S_values : Nat → Int32) (S_nodes : Int32) (S_rounds : Int32) (o : Bool) (hf : fX7_isFull S_rounds = o) : CI l D yX7_isFull wsX7_isFull ({ frames := 0, cells := 0, slots := 0, locals := 0 } : Room) (tysK cI cC cS) [.ref Sa] (sh_X7 Sa Sa_roundEdges Sa_values cI cC cS S_roundEdges S_values S_nodes S_rounds) (b2i o) (sh_X7 Sa Sa_roundEdges Sa_values cI cC cS S_roundEdges S_values S_nodes S_rounds) := by
  refine met_i (cc := cX7_isFull) (maxL := 1) (ret := (some .boolean)) (by decide) rfl (Nat.le_of_ble_eq_true rfl) ?_
  intro p e s m args below meth c R Q A F hR hQ hP hK hD hA hS ls hl
  obtain ⟨hx, hb, hr, hts, hml, hlocks, hown⟩ := F
  have hown : s.vm.findClass RX7 = some m.cls := hown
  have hi_X7 : ∀ w ∈ u_ws RX7 TX7 4, w ∈ wsX7_isFull := fun w h => List.mem_cons_of_mem _ (List.mem_append_right _ h)
  have q26 := hts (.fieldLink RX7 26 "ChangingRounds$Schedule" "rounds" "I") (by decide +kernel)
  have hl : lv_has ls 1 [(0, .ref Sa)] := hl
  unfold fX7_isFull at hf
  refine lv_aload_n hx hb dX7_isFull_0 rfl (lv_at hl 0 rfl) ?_
  refine va_get (D := D) (ci := 4) (v := .int S_rounds) (C := RX7) (T := TX7) (N := 4) hx hb hts hi_X7 hown hK hP 0 rfl rfl 3 (by decide) q26 (fun _ h9 => h9) rfl dX7_isFull_1 ?_
  refine lv_bipush (v := (16 : Int32)) hx hb dX7_isFull_4 (by decide) ?_
  refine lv_icmp_lt (tgt := 13) hx hb dX7_isFull_6 (by decide) (fun c1 => ?_) (fun c1 => ?_)
  · have hf := if_t c1 hf
    refine lv_iconst (v := (0 : Int32)) hx hb dX7_isFull_13 (by decide) ?_
    subst hf
    exact rt_z (ty := .boolean) hx hb hr rfl hlocks hQ hK hP hD hS rfl dX7_isFull_14
  · have hf := if_f c1 hf
    refine lv_iconst (v := (1 : Int32)) hx hb dX7_isFull_9 (by decide) ?_
    refine lv_goto (tgt := 14) hx hb dX7_isFull_10 (by decide) ?_
    subst hf
    exact rt_z (ty := .boolean) hx hb hr rfl hlocks hQ hK hP hD hS rfl dX7_isFull_14
set_option maxRecDepth 100000 in
set_option maxHeartbeats 4000000 in
theorem kX7_hasNode (l : Launch) (D : va_G) (cI cC cS : ClassId) (Sa Sa_roundEdges Sa_values : Nat) (x1 : Int32) (S_roundEdges : Nat → Int32) (S_values : Nat → Int32) (S_nodes : Int32) (S_rounds : Int32) (o : Bool) (hf : fX7_hasNode x1 S_nodes = o) : CI l D yX7_hasNode wsX7_hasNode ({ frames := 0, cells := 0, slots := 0, locals := 0 } : Room) (tysK cI cC cS) [.ref Sa, .int x1] (sh_X7 Sa Sa_roundEdges Sa_values cI cC cS S_roundEdges S_values S_nodes S_rounds) (b2i o) (sh_X7 Sa Sa_roundEdges Sa_values cI cC cS S_roundEdges S_values S_nodes S_rounds) := by
  refine met_i (cc := cX7_hasNode) (maxL := 2) (ret := (some .boolean)) (by decide) rfl (Nat.le_of_ble_eq_true rfl) ?_
  intro p e s m args below meth c R Q A F hR hQ hP hK hD hA hS ls hl
  obtain ⟨hx, hb, hr, hts, hml, hlocks, hown⟩ := F
  have hown : s.vm.findClass RX7 = some m.cls := hown
  have hi_X7 : ∀ w ∈ u_ws RX7 TX7 4, w ∈ wsX7_hasNode := fun w h => List.mem_cons_of_mem _ (List.mem_append_right _ h)
  have q22 := hts (.fieldLink RX7 22 "ChangingRounds$Schedule" "nodes" "I") (by decide +kernel)
  have hl : lv_has ls 2 [(0, .ref Sa), (1, .int x1)] := hl
  unfold fX7_hasNode at hf
  refine lv_iload_n hx hb dX7_hasNode_0 rfl (lv_at hl 1 rfl) ?_
  refine lv_if_lt (tgt := 16) hx hb dX7_hasNode_1 (by decide) (fun c1 => ?_) (fun c1 => ?_)
  · have hf := if_t c1 hf
    refine lv_iconst (v := (0 : Int32)) hx hb dX7_hasNode_16 (by decide) ?_
    subst hf
    exact rt_z (ty := .boolean) hx hb hr rfl hlocks hQ hK hP hD hS rfl dX7_hasNode_17
  · have hf := if_f c1 hf
    refine lv_iload_n hx hb dX7_hasNode_4 rfl (lv_at hl 1 rfl) ?_
    refine lv_aload_n hx hb dX7_hasNode_5 rfl (lv_at hl 0 rfl) ?_
    refine va_get (D := D) (ci := 4) (v := .int S_nodes) (C := RX7) (T := TX7) (N := 4) hx hb hts hi_X7 hown hK hP 0 rfl rfl 2 (by decide) q22 (fun _ h9 => h9) rfl dX7_hasNode_6 ?_
    refine lv_icmp_ge (tgt := 16) hx hb dX7_hasNode_9 (by decide) (fun c2 => ?_) (fun c2 => ?_)
    · have hf := if_t c2 hf
      refine lv_iconst (v := (0 : Int32)) hx hb dX7_hasNode_16 (by decide) ?_
      subst hf
      exact rt_z (ty := .boolean) hx hb hr rfl hlocks hQ hK hP hD hS rfl dX7_hasNode_17
    · have hf := if_f c2 hf
      refine lv_iconst (v := (1 : Int32)) hx hb dX7_hasNode_12 (by decide) ?_
      refine lv_goto (tgt := 17) hx hb dX7_hasNode_13 (by decide) ?_
      subst hf
      exact rt_z (ty := .boolean) hx hb hr rfl hlocks hQ hK hP hD hS rfl dX7_hasNode_17
set_option maxRecDepth 100000 in
set_option maxHeartbeats 4000000 in
theorem kX7_hasRound (l : Launch) (D : va_G) (cI cC cS : ClassId) (Sa Sa_roundEdges Sa_values : Nat) (x1 : Int32) (S_roundEdges : Nat → Int32) (S_values : Nat → Int32) (S_nodes : Int32) (S_rounds : Int32) (o : Bool) (hf : fX7_hasRound x1 S_rounds = o) : CI l D yX7_hasRound wsX7_hasRound ({ frames := 0, cells := 0, slots := 0, locals := 0 } : Room) (tysK cI cC cS) [.ref Sa, .int x1] (sh_X7 Sa Sa_roundEdges Sa_values cI cC cS S_roundEdges S_values S_nodes S_rounds) (b2i o) (sh_X7 Sa Sa_roundEdges Sa_values cI cC cS S_roundEdges S_values S_nodes S_rounds) := by
  refine met_i (cc := cX7_hasRound) (maxL := 2) (ret := (some .boolean)) (by decide) rfl (Nat.le_of_ble_eq_true rfl) ?_
  intro p e s m args below meth c R Q A F hR hQ hP hK hD hA hS ls hl
  obtain ⟨hx, hb, hr, hts, hml, hlocks, hown⟩ := F
  have hown : s.vm.findClass RX7 = some m.cls := hown
  have hi_X7 : ∀ w ∈ u_ws RX7 TX7 4, w ∈ wsX7_hasRound := fun w h => List.mem_cons_of_mem _ (List.mem_append_right _ h)
  have q26 := hts (.fieldLink RX7 26 "ChangingRounds$Schedule" "rounds" "I") (by decide +kernel)
  have hl : lv_has ls 2 [(0, .ref Sa), (1, .int x1)] := hl
  unfold fX7_hasRound at hf
  refine lv_iload_n hx hb dX7_hasRound_0 rfl (lv_at hl 1 rfl) ?_
  refine lv_if_lt (tgt := 16) hx hb dX7_hasRound_1 (by decide) (fun c1 => ?_) (fun c1 => ?_)
  · have hf := if_t c1 hf
    refine lv_iconst (v := (0 : Int32)) hx hb dX7_hasRound_16 (by decide) ?_
    subst hf
    exact rt_z (ty := .boolean) hx hb hr rfl hlocks hQ hK hP hD hS rfl dX7_hasRound_17
  · have hf := if_f c1 hf
    refine lv_iload_n hx hb dX7_hasRound_4 rfl (lv_at hl 1 rfl) ?_
    refine lv_aload_n hx hb dX7_hasRound_5 rfl (lv_at hl 0 rfl) ?_
    refine va_get (D := D) (ci := 4) (v := .int S_rounds) (C := RX7) (T := TX7) (N := 4) hx hb hts hi_X7 hown hK hP 0 rfl rfl 3 (by decide) q26 (fun _ h9 => h9) rfl dX7_hasRound_6 ?_
    refine lv_icmp_ge (tgt := 16) hx hb dX7_hasRound_9 (by decide) (fun c2 => ?_) (fun c2 => ?_)
    · have hf := if_t c2 hf
      refine lv_iconst (v := (0 : Int32)) hx hb dX7_hasRound_16 (by decide) ?_
      subst hf
      exact rt_z (ty := .boolean) hx hb hr rfl hlocks hQ hK hP hD hS rfl dX7_hasRound_17
    · have hf := if_f c2 hf
      refine lv_iconst (v := (1 : Int32)) hx hb dX7_hasRound_12 (by decide) ?_
      refine lv_goto (tgt := 17) hx hb dX7_hasRound_13 (by decide) ?_
      subst hf
      exact rt_z (ty := .boolean) hx hb hr rfl hlocks hQ hK hP hD hS rfl dX7_hasRound_17
set_option maxRecDepth 100000 in
set_option maxHeartbeats 4000000 in
theorem kX7_hasPlace (l : Launch) (D : va_G) (cI cC cS : ClassId) (Sa Sa_roundEdges Sa_values : Nat) (x1 : Int32) (x2 : Int32) (x3 : Int32) (S_roundEdges : Nat → Int32) (S_values : Nat → Int32) (S_nodes : Int32) (S_rounds : Int32) (o : Bool) (hf : fX7_hasPlace x1 x2 x3 S_nodes S_rounds = o) : CI l D yX7_hasPlace wsX7_hasPlace ({ frames := 1, cells := 0, slots := 0, locals := 21 } : Room) (tysK cI cC cS) [.ref Sa, .int x1, .int x2, .int x3] (sh_X7 Sa Sa_roundEdges Sa_values cI cC cS S_roundEdges S_values S_nodes S_rounds) (b2i o) (sh_X7 Sa Sa_roundEdges Sa_values cI cC cS S_roundEdges S_values S_nodes S_rounds) := by
  refine met_i (cc := cX7_hasPlace) (maxL := 4) (ret := (some .boolean)) (by decide) rfl (Nat.le_of_ble_eq_true rfl) ?_
  intro p e s m args below meth c R Q A F hR hQ hP hK hD hA hS ls hl
  obtain ⟨hx, hb, hr, hts, hml, hlocks, hown⟩ := F
  have hown : s.vm.findClass RX7 = some m.cls := hown
  have hl : lv_has ls 4 [(0, .ref Sa), (1, .int x1), (2, .int x2), (3, .int x3)] := hl
  unfold fX7_hasPlace at hf
  refine lv_aload_n hx hb dX7_hasPlace_0 rfl (lv_at hl 0 rfl) ?_
  refine lv_iload_n hx hb dX7_hasPlace_1 rfl (lv_at hl 1 rfl) ?_
  refine cv_i (ci := 4) (q := (RX7, TX7, 4)) (As := [.int x1]) (rest := []) hx hb hml hown hts hK hP hD hA hS (kX7_hasRound l D cI cC cS Sa Sa_roundEdges Sa_values x1 S_roundEdges S_values S_nodes S_rounds (fX7_hasRound x1 S_rounds) rfl) (cwV 1 hts gX7_hasPlace_X7_hasRound rfl rfl rfl (by decide +kernel) (by subst hR; exact ⟨Nat.le_of_ble_eq_true rfl, Nat.le_of_ble_eq_true rfl⟩)) [0, 1, 2] [] [0, 1, 2] [] (sh_X7 Sa Sa_roundEdges Sa_values cI cC cS S_roundEdges S_values S_nodes S_rounds) rfl rfl rfl rfl (by decide) rfl rfl rfl rfl rfl rfl hl.1 rfl (Nat.le_of_ble_eq_true rfl) ⟨Nat.zero_le _, Nat.zero_le _⟩ dX7_hasPlace_2 (fun H locs hP hD hS => ?_)
  refine lv_if_eq (tgt := 33) hx hb dX7_hasPlace_5 (by decide) (fun c1 => ?_) (fun c1 => ?_)
  · have hf := if_t c1 hf
    refine lv_iconst (v := (0 : Int32)) hx hb dX7_hasPlace_33 (by decide) ?_
    subst hf
    exact rt_z (ty := .boolean) hx hb hr rfl hlocks hQ hK hP hD hS rfl dX7_hasPlace_34
  · have hf := if_f c1 hf
    refine lv_aload_n hx hb dX7_hasPlace_8 rfl (lv_at hl 0 rfl) ?_
    refine lv_iload_n hx hb dX7_hasPlace_9 rfl (lv_at hl 2 rfl) ?_
    refine cv_i (ci := 4) (q := (RX7, TX7, 4)) (As := [.int x2]) (rest := []) hx hb hml hown hts hK hP hD hA hS (kX7_hasNode l D cI cC cS Sa Sa_roundEdges Sa_values x2 S_roundEdges S_values S_nodes S_rounds (fX7_hasNode x2 S_nodes) rfl) (cwV 1 hts gX7_hasPlace_X7_hasNode rfl rfl rfl (by decide +kernel) (by subst hR; exact ⟨Nat.le_of_ble_eq_true rfl, Nat.le_of_ble_eq_true rfl⟩)) [0, 1, 2] [] [0, 1, 2] [] (sh_X7 Sa Sa_roundEdges Sa_values cI cC cS S_roundEdges S_values S_nodes S_rounds) rfl rfl rfl rfl (by decide) rfl rfl rfl rfl rfl rfl hl.1 rfl (Nat.le_of_ble_eq_true rfl) ⟨Nat.zero_le _, Nat.zero_le _⟩ dX7_hasPlace_10 (fun H locs hP hD hS => ?_)
    refine lv_if_eq (tgt := 33) hx hb dX7_hasPlace_13 (by decide) (fun c2 => ?_) (fun c2 => ?_)
    · have hf := if_t c2 hf
      refine lv_iconst (v := (0 : Int32)) hx hb dX7_hasPlace_33 (by decide) ?_
      subst hf
      exact rt_z (ty := .boolean) hx hb hr rfl hlocks hQ hK hP hD hS rfl dX7_hasPlace_34
    · have hf := if_f c2 hf
      refine lv_aload_n hx hb dX7_hasPlace_16 rfl (lv_at hl 0 rfl) ?_
      refine lv_iload_n hx hb dX7_hasPlace_17 rfl (lv_at hl 3 rfl) ?_
      refine cv_i (ci := 4) (q := (RX7, TX7, 4)) (As := [.int x3]) (rest := []) hx hb hml hown hts hK hP hD hA hS (kX7_hasNode l D cI cC cS Sa Sa_roundEdges Sa_values x3 S_roundEdges S_values S_nodes S_rounds (fX7_hasNode x3 S_nodes) rfl) (cwV 1 hts gX7_hasPlace_X7_hasNode rfl rfl rfl (by decide +kernel) (by subst hR; exact ⟨Nat.le_of_ble_eq_true rfl, Nat.le_of_ble_eq_true rfl⟩)) [0, 1, 2] [] [0, 1, 2] [] (sh_X7 Sa Sa_roundEdges Sa_values cI cC cS S_roundEdges S_values S_nodes S_rounds) rfl rfl rfl rfl (by decide) rfl rfl rfl rfl rfl rfl hl.1 rfl (Nat.le_of_ble_eq_true rfl) ⟨Nat.zero_le _, Nat.zero_le _⟩ dX7_hasPlace_18 (fun H locs hP hD hS => ?_)
      refine lv_if_eq (tgt := 33) hx hb dX7_hasPlace_21 (by decide) (fun c3 => ?_) (fun c3 => ?_)
      · have hf := if_t c3 hf
        refine lv_iconst (v := (0 : Int32)) hx hb dX7_hasPlace_33 (by decide) ?_
        subst hf
        exact rt_z (ty := .boolean) hx hb hr rfl hlocks hQ hK hP hD hS rfl dX7_hasPlace_34
      · have hf := if_f c3 hf
        refine lv_iload_n hx hb dX7_hasPlace_24 rfl (lv_at hl 2 rfl) ?_
        refine lv_iload_n hx hb dX7_hasPlace_25 rfl (lv_at hl 3 rfl) ?_
        refine lv_icmp_eq (tgt := 33) hx hb dX7_hasPlace_26 (by decide) (fun c4 => ?_) (fun c4 => ?_)
        · have hf := if_t c4 hf
          refine lv_iconst (v := (0 : Int32)) hx hb dX7_hasPlace_33 (by decide) ?_
          subst hf
          exact rt_z (ty := .boolean) hx hb hr rfl hlocks hQ hK hP hD hS rfl dX7_hasPlace_34
        · have hf := if_f c4 hf
          refine lv_iconst (v := (1 : Int32)) hx hb dX7_hasPlace_29 (by decide) ?_
          refine lv_goto (tgt := 34) hx hb dX7_hasPlace_30 (by decide) ?_
          subst hf
          exact rt_z (ty := .boolean) hx hb hr rfl hlocks hQ hK hP hD hS rfl dX7_hasPlace_34
set_option maxRecDepth 100000 in
set_option maxHeartbeats 4000000 in
theorem kX7_append (l : Launch) (D : va_G) (cI cC cS : ClassId) (Sa Sa_roundEdges Sa_values : Nat) (x1 : Int32) (S_roundEdges : Nat → Int32) (S_values : Nat → Int32) (S_nodes : Int32) (S_rounds : Int32) (o : (Nat → Int32) × Int32) (hf : fX7_append x1 S_roundEdges S_rounds = some o) : CV l D yX7_append wsX7_append ({ frames := 1, cells := 0, slots := 0, locals := 20 } : Room) (tysK cI cC cS) [.ref Sa, .int x1] (sh_X7 Sa Sa_roundEdges Sa_values cI cC cS S_roundEdges S_values S_nodes S_rounds) (sh_X7 Sa Sa_roundEdges Sa_values cI cC cS o.1 S_values S_nodes o.2) := by
  refine met_v (cc := cX7_append) (maxL := 2) (ret := none) (by decide) rfl (Nat.le_of_ble_eq_true rfl) ?_
  intro p e s m args below meth c R Q A F hR hQ hP hK hD hA hS ls hl
  obtain ⟨hx, hb, hr, hts, hml, hlocks, hown⟩ := F
  have hown : s.vm.findClass RX7 = some m.cls := hown
  have hi_X7 : ∀ w ∈ u_ws RX7 TX7 4, w ∈ wsX7_append := fun w h => List.mem_cons_of_mem _ (List.mem_append_right _ h)
  have q9 := hts (.fieldLink RX7 9 "ChangingRounds$Schedule" "roundEdges" "[I") (by decide +kernel)
  have q26 := hts (.fieldLink RX7 26 "ChangingRounds$Schedule" "rounds" "I") (by decide +kernel)
  have hl : lv_has ls 2 [(0, .ref Sa), (1, .int x1)] := hl
  unfold fX7_append at hf
  refine lv_aload_n hx hb dX7_append_0 rfl (lv_at hl 0 rfl) ?_
  refine cv_i (ci := 4) (q := (RX7, TX7, 4)) (As := []) (rest := []) hx hb hml hown hts hK hP hD hA hS (kX7_isFull l D cI cC cS Sa Sa_roundEdges Sa_values  S_roundEdges S_values S_nodes S_rounds (fX7_isFull S_rounds) rfl) (cwV 0 hts gX7_append_X7_isFull rfl rfl rfl (by decide +kernel) (by subst hR; exact ⟨Nat.le_of_ble_eq_true rfl, Nat.le_of_ble_eq_true rfl⟩)) [0, 1, 2] [] [0, 1, 2] [] (sh_X7 Sa Sa_roundEdges Sa_values cI cC cS S_roundEdges S_values S_nodes S_rounds) rfl rfl rfl rfl (by decide) rfl rfl rfl rfl rfl rfl hl.1 rfl (Nat.le_of_ble_eq_true rfl) ⟨Nat.zero_le _, Nat.zero_le _⟩ dX7_append_1 (fun H locs hP hD hS => ?_)
  refine lv_if_ne (tgt := 27) hx hb dX7_append_4 (by decide) (fun c1 => ?_) (fun c1 => ?_)
  · have hf := if_f c1 hf
    have hf := Option.some.inj hf
    subst hf
    exact rt_v hx hb hr hlocks hQ hK hP hD hS dX7_append_27
  · have hf := if_t c1 hf
    refine lv_aload_n hx hb dX7_append_7 rfl (lv_at hl 0 rfl) ?_
    refine va_get (D := D) (ci := 4) (v := .ref Sa_roundEdges) (C := RX7) (T := TX7) (N := 4) hx hb hts hi_X7 hown hK hP 0 rfl rfl 0 (by decide) q9 (fun _ h9 => h9) rfl dX7_append_8 ?_
    refine lv_aload_n hx hb dX7_append_11 rfl (lv_at hl 0 rfl) ?_
    refine va_get (D := D) (ci := 4) (v := .int S_rounds) (C := RX7) (T := TX7) (N := 4) hx hb hts hi_X7 hown hK hP 0 rfl rfl 3 (by decide) q26 (fun _ h9 => h9) rfl dX7_append_12 ?_
    refine lv_iload_n hx hb dX7_append_15 rfl (lv_at hl 1 rfl) ?_
    obtain ⟨hz, hf⟩ := ck_some hf
    refine sx_iast (j := S_rounds.toNatClampNeg) hx hb hK hP hD hS 1 0 rfl rfl (inb_vp hz) rfl dX7_append_16 (sh_X7 Sa Sa_roundEdges Sa_values cI cC cS (upd S_roundEdges S_rounds.toNatClampNeg x1) S_values S_nodes S_rounds) rfl (fun H locs hP hD hS => ?_)
    refine lv_aload_n hx hb dX7_append_17 rfl (lv_at hl 0 rfl) ?_
    refine lv_dup hx hb dX7_append_18 rfl ?_
    refine va_get (D := D) (ci := 4) (v := .int S_rounds) (C := RX7) (T := TX7) (N := 4) hx hb hts hi_X7 hown hK hP 0 rfl rfl 3 (by decide) q26 (fun _ h9 => h9) rfl dX7_append_19 ?_
    refine lv_iconst (v := (1 : Int32)) hx hb dX7_append_22 (by decide) ?_
    refine lv_iadd hx hb dX7_append_23 ?_
    refine sx_put (D := D) (ci := 4) (v := .int (S_rounds + (1 : Int32))) (ty := .int) (C := RX7) (T := TX7) (N := 4) hx hb hts hi_X7 tyX7 tyX7_ok nmX7 hown hK hP hD hS 0 rfl rfl 3 (by decide) q26 (fun _ h9 => h9) rfl (by decide +kernel) rfl rfl (Nat.le_of_ble_eq_true rfl) dX7_append_24 (sh_X7 Sa Sa_roundEdges Sa_values cI cC cS (upd S_roundEdges S_rounds.toNatClampNeg x1) S_values S_nodes (S_rounds + (1 : Int32))) rfl (fun H locs hP hD hS => ?_)
    have hf := Option.some.inj hf
    subst hf
    exact rt_v hx hb hr hlocks hQ hK hP hD hS dX7_append_27
