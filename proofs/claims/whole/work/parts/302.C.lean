set_option maxRecDepth 100000 in
set_option maxHeartbeats 4000000 in
theorem kX2_component (l : Launch) (D : va_G) (cI cC cS : ClassId) (x0 : Int32) (x1 : Int32) (x2 : Int32) (o : Int32) (hf : fX2_component x0 x1 x2 = some o) : CI l D yX2_component wsX2_component ({ frames := 3, cells := 0, slots := 0, locals := 68 } : Room) (tysK cI cC cS) [.int x0, .int x1, .int x2] [] o [] := by
  refine met_i (cc := cX2_component) (maxL := 6) (ret := (some .int)) (by decide) rfl (Nat.le_of_ble_eq_true rfl) ?_
  intro p e s m args below meth c R Q A F hR hQ hP hK hD hA hS ls hl
  obtain ⟨hx, hb, hr, hts, hml, hlocks, hown⟩ := F
  have hown : s.vm.findClass RX2 = some m.cls := hown
  have hl : lv_has ls 6 [(0, .int x0), (1, .int x1), (2, .int x2)] := hl
  unfold fX2_component at hf
  have L11 : ∀ (n11 : Nat) (x3 : Int32) (x4 : Int32) (x5 : Int32) (H : Heap) (locs : List Loc) (ls : Array Slot), fX2_component_l11 x0 x2 n11 x3 x4 x5 = some o → va_P D vwCl [] H → va_D A [] → va_S A s.heap H locs → lv_has ls 6 [(0, .int x0), (2, .int x2), (3, .int x3), (4, .int x4), (5, .int x5)] → W p l e R s m args below meth c H locs 0 0 Q (F0 m 11 ls []) := by
    intro n11
    induction n11 with
    | zero => intro x3 x4 x5 H locs ls hf; cases (show (none : Option _) = some _ from hf)
    | succ n11 ih11 =>
      intro x3 x4 x5 H locs ls hf hP hD hS hl
      rw [fX2_component_l11] at hf
      refine lv_iload hx hb dX2_component_11 (lv_at hl 4 rfl) ?_
      refine lv_iload_n hx hb dX2_component_13 rfl (lv_at hl 1 rfl) ?_
      refine lv_icmp_ge (tgt := 41) hx hb dX2_component_14 (by decide) (fun c1 => ?_) (fun c1 => ?_)
      · have hf := if_t c1 hf
        refine lv_iload hx hb dX2_component_41 (lv_at hl 3 rfl) ?_
        have hf := Option.some.inj hf
        subst hf
        exact rt_i hx hb hr hlocks hQ hK hP hD hS rfl dX2_component_43
      · have hf := if_f c1 hf
        refine lv_iload hx hb dX2_component_17 (lv_at hl 3 rfl) ?_
        refine lv_iload_n hx hb dX2_component_19 rfl (lv_at hl 2 rfl) ?_
        refine lv_icmp_eq (tgt := 41) hx hb dX2_component_20 (by decide) (fun c2 => ?_) (fun c2 => ?_)
        · have hf := if_t c2 hf
          refine lv_iload hx hb dX2_component_41 (lv_at hl 3 rfl) ?_
          have hf := Option.some.inj hf
          subst hf
          exact rt_i hx hb hr hlocks hQ hK hP hD hS rfl dX2_component_43
        · have hf := if_f c2 hf
          refine lv_iload hx hb dX2_component_23 (lv_at hl 3 rfl) ?_
          refine lv_istore_n (lv' := [(3, .int x4), (0, .int x0), (2, .int x2), (4, .int x4), (5, .int x5)]) hx hb dX2_component_25 rfl hl (by decide) rfl (fun ls hl => ?_)
          refine lv_iload_n hx hb dX2_component_26 rfl (lv_at hl 1 rfl) ?_
          refine lv_iload hx hb dX2_component_27 (lv_at hl 3 rfl) ?_
          refine lv_iload_n hx hb dX2_component_29 rfl (lv_at hl 2 rfl) ?_
          obtain ⟨o3, ho3, hf⟩ := bd_some hf
          refine cs_i (As := [.int x0, .int x4, .int x2]) (rest := []) hx hb hml hown hts hK hP hD hA hS (kX2_spread l D cI cC cS  x0 x4 x2  o3 ho3) (va_cwS 3 hts gX2_component_X2_spread rfl rfl rfl (by decide +kernel) (by subst hR; exact ⟨Nat.le_of_ble_eq_true rfl, Nat.le_of_ble_eq_true rfl⟩)) rfl hl.1 rfl (Nat.le_of_ble_eq_true rfl) ⟨Nat.zero_le _, Nat.zero_le _⟩ dX2_component_30 (fun H locs hP hD hS => ?_)
          refine lv_istore (lv' := [(4, .int o3), (3, .int x4), (0, .int x0), (2, .int x2), (5, .int x5)]) hx hb dX2_component_33 hl (by decide) rfl (fun ls hl => ?_)
          refine lv_iinc (v := (x5 + 1)) (lv' := [(5, .int (x5 + 1)), (4, .int o3), (3, .int x4), (0, .int x0), (2, .int x2)]) hx hb dX2_component_35 hl (k := 4) rfl rfl (by decide) rfl (fun ls hl => ?_)
          refine lv_goto (tgt := 11) hx hb dX2_component_38 (by decide) ?_
          exact ih11 x4 o3 (x5 + 1) _ _ _ hf hP hD hS (lv_sub hl [3, 4, 2, 1, 0] rfl)
  refine lv_iconst (v := (0 : Int32)) hx hb dX2_component_0 (by decide) ?_
  refine lv_istore_n (lv' := [(3, .int (0 : Int32)), (0, .int x0), (1, .int x1), (2, .int x2)]) hx hb dX2_component_1 rfl hl (by decide) rfl (fun ls hl => ?_)
  refine lv_iload_n hx hb dX2_component_2 rfl (lv_at hl 2 rfl) ?_
  refine cs_i (As := [.int x1]) (rest := []) hx hb hml hown hts hK hP hD hA hS (kX6_of l D cI cC cS  x1  (fX6_of x1) rfl) (va_cwS 1 hts gX2_component_X6_of rfl rfl rfl (by decide +kernel) (by subst hR; exact ⟨Nat.le_of_ble_eq_true rfl, Nat.le_of_ble_eq_true rfl⟩)) rfl hl.1 rfl (Nat.le_of_ble_eq_true rfl) ⟨Nat.zero_le _, Nat.zero_le _⟩ dX2_component_3 (fun H locs hP hD hS => ?_)
  refine lv_istore (lv' := [(4, .int (fX6_of x1)), (3, .int (0 : Int32)), (0, .int x0), (1, .int x1), (2, .int x2)]) hx hb dX2_component_6 hl (by decide) rfl (fun ls hl => ?_)
  refine lv_iconst (v := (1 : Int32)) hx hb dX2_component_8 (by decide) ?_
  refine lv_istore (lv' := [(5, .int (1 : Int32)), (4, .int (fX6_of x1)), (3, .int (0 : Int32)), (0, .int x0), (1, .int x1), (2, .int x2)]) hx hb dX2_component_9 hl (by decide) rfl (fun ls hl => ?_)
  exact L11  fuel (0 : Int32) (fX6_of x1) (1 : Int32) _ _ _ hf hP hD hS (lv_sub hl [3, 5, 2, 1, 0] rfl)
set_option maxRecDepth 100000 in
set_option maxHeartbeats 4000000 in
theorem kX2_components (l : Launch) (D : va_G) (cI cC cS : ClassId) (x0 : Int32) (x1 : Int32) (o : Int32) (hf : fX2_components x0 x1 = some o) : CI l D yX2_components wsX2_components ({ frames := 4, cells := 0, slots := 0, locals := 93 } : Room) (tysK cI cC cS) [.int x0, .int x1] [] o [] := by
  refine met_i (cc := cX2_components) (maxL := 5) (ret := (some .int)) (by decide) rfl (Nat.le_of_ble_eq_true rfl) ?_
  intro p e s m args below meth c R Q A F hR hQ hP hK hD hA hS ls hl
  obtain ⟨hx, hb, hr, hts, hml, hlocks, hown⟩ := F
  have hown : s.vm.findClass RX2 = some m.cls := hown
  have hl : lv_has ls 5 [(0, .int x0), (1, .int x1)] := hl
  unfold fX2_components at hf
  have L7 : ∀ (n7 : Nat) (x2 : Int32) (x3 : Int32) (x4 : Int32) (H : Heap) (locs : List Loc) (ls : Array Slot), fX2_components_l7 x0 x1 n7 x2 x3 x4 = some o → va_P D vwCl [] H → va_D A [] → va_S A s.heap H locs → lv_has ls 5 [(0, .int x0), (1, .int x1), (2, .int x2), (3, .int x3), (4, .int x4)] → W p l e R s m args below meth c H locs 0 0 Q (F0 m 7 ls []) := by
    intro n7
    induction n7 with
    | zero => intro x2 x3 x4 H locs ls hf; cases (show (none : Option _) = some _ from hf)
    | succ n7 ih7 =>
      intro x2 x3 x4 H locs ls hf hP hD hS hl
      rw [fX2_components_l7] at hf
      refine lv_iload hx hb dX2_components_7 (lv_at hl 4 rfl) ?_
      refine lv_iload_n hx hb dX2_components_9 rfl (lv_at hl 1 rfl) ?_
      refine lv_icmp_ge (tgt := 41) hx hb dX2_components_10 (by decide) (fun c1 => ?_) (fun c1 => ?_)
      · have hf := if_t c1 hf
        refine lv_iload_n hx hb dX2_components_41 rfl (lv_at hl 2 rfl) ?_
        have hf := Option.some.inj hf
        subst hf
        exact rt_i hx hb hr hlocks hQ hK hP hD hS rfl dX2_components_42
      · have hf := if_f c1 hf
        refine lv_iload_n hx hb dX2_components_13 rfl (lv_at hl 3 rfl) ?_
        refine lv_iload hx hb dX2_components_14 (lv_at hl 4 rfl) ?_
        refine cs_i (As := [.int x3, .int x4]) (rest := []) hx hb hml hown hts hK hP hD hA hS (kX6_has l D cI cC cS  x3 x4  (fX6_has x3 x4) rfl) (va_cwS 2 hts gX2_components_X6_has rfl rfl rfl (by decide +kernel) (by subst hR; exact ⟨Nat.le_of_ble_eq_true rfl, Nat.le_of_ble_eq_true rfl⟩)) rfl hl.1 rfl (Nat.le_of_ble_eq_true rfl) ⟨Nat.zero_le _, Nat.zero_le _⟩ dX2_components_16 (fun H locs hP hD hS => ?_)
        refine lv_if_ne (tgt := 35) hx hb dX2_components_19 (by decide) (fun c2 => ?_) (fun c2 => ?_)
        · have hf := if_f c2 hf
          refine lv_iinc (v := (x4 + 1)) (lv' := [(4, .int (x4 + 1)), (0, .int x0), (1, .int x1), (2, .int x2), (3, .int x3)]) hx hb dX2_components_35 hl (k := 4) rfl rfl (by decide) rfl (fun ls hl => ?_)
          refine lv_goto (tgt := 7) hx hb dX2_components_38 (by decide) ?_
          exact ih7 x2 x3 (x4 + 1) _ _ _ hf hP hD hS (lv_sub hl [1, 2, 3, 4, 0] rfl)
        · have hf := if_t c2 hf
          refine lv_iload_n hx hb dX2_components_22 rfl (lv_at hl 3 rfl) ?_
          refine lv_iload_n hx hb dX2_components_23 rfl (lv_at hl 0 rfl) ?_
          refine lv_iload hx hb dX2_components_24 (lv_at hl 4 rfl) ?_
          refine lv_iload_n hx hb dX2_components_26 rfl (lv_at hl 1 rfl) ?_
          obtain ⟨o3, ho3, hf⟩ := bd_some hf
          refine cs_i (As := [.int x0, .int x4, .int x1]) (rest := [.int x3]) hx hb hml hown hts hK hP hD hA hS (kX2_component l D cI cC cS  x0 x4 x1  o3 ho3) (va_cwS 3 hts gX2_components_X2_component rfl rfl rfl (by decide +kernel) (by subst hR; exact ⟨Nat.le_of_ble_eq_true rfl, Nat.le_of_ble_eq_true rfl⟩)) rfl hl.1 rfl (Nat.le_of_ble_eq_true rfl) ⟨Nat.zero_le _, Nat.zero_le _⟩ dX2_components_27 (fun H locs hP hD hS => ?_)
          refine lv_ior hx hb dX2_components_30 ?_
          refine lv_istore_n (lv' := [(3, .int (x3 ||| o3)), (0, .int x0), (1, .int x1), (2, .int x2), (4, .int x4)]) hx hb dX2_components_31 rfl hl (by decide) rfl (fun ls hl => ?_)
          refine lv_iinc (v := (x2 + 1)) (lv' := [(2, .int (x2 + 1)), (3, .int (x3 ||| o3)), (0, .int x0), (1, .int x1), (4, .int x4)]) hx hb dX2_components_32 hl (k := 3) rfl rfl (by decide) rfl (fun ls hl => ?_)
          refine lv_iinc (v := (x4 + 1)) (lv' := [(4, .int (x4 + 1)), (2, .int (x2 + 1)), (3, .int (x3 ||| o3)), (0, .int x0), (1, .int x1)]) hx hb dX2_components_35 hl (k := 4) rfl rfl (by decide) rfl (fun ls hl => ?_)
          refine lv_goto (tgt := 7) hx hb dX2_components_38 (by decide) ?_
          exact ih7 (x2 + 1) (x3 ||| o3) (x4 + 1) _ _ _ hf hP hD hS (lv_sub hl [3, 4, 1, 2, 0] rfl)
  refine lv_iconst (v := (0 : Int32)) hx hb dX2_components_0 (by decide) ?_
  refine lv_istore_n (lv' := [(2, .int (0 : Int32)), (0, .int x0), (1, .int x1)]) hx hb dX2_components_1 rfl hl (by decide) rfl (fun ls hl => ?_)
  refine lv_iconst (v := (0 : Int32)) hx hb dX2_components_2 (by decide) ?_
  refine lv_istore_n (lv' := [(3, .int (0 : Int32)), (2, .int (0 : Int32)), (0, .int x0), (1, .int x1)]) hx hb dX2_components_3 rfl hl (by decide) rfl (fun ls hl => ?_)
  refine lv_iconst (v := (0 : Int32)) hx hb dX2_components_4 (by decide) ?_
  refine lv_istore (lv' := [(4, .int (0 : Int32)), (3, .int (0 : Int32)), (2, .int (0 : Int32)), (0, .int x0), (1, .int x1)]) hx hb dX2_components_5 hl (by decide) rfl (fun ls hl => ?_)
  exact L7  fuel (0 : Int32) (0 : Int32) (0 : Int32) _ _ _ hf hP hD hS (lv_sub hl [3, 4, 2, 1, 0] rfl)
set_option maxRecDepth 100000 in
set_option maxHeartbeats 4000000 in
theorem kX2_areConnected (l : Launch) (D : va_G) (cI cC cS : ClassId) (x0 : Int32) (x1 : Int32) (o : Bool) (hf : fX2_areConnected x0 x1 = some o) : CI l D yX2_areConnected wsX2_areConnected ({ frames := 4, cells := 0, slots := 0, locals := 93 } : Room) (tysK cI cC cS) [.int x0, .int x1] [] (b2i o) [] := by
  refine met_i (cc := cX2_areConnected) (maxL := 2) (ret := (some .boolean)) (by decide) rfl (Nat.le_of_ble_eq_true rfl) ?_
  intro p e s m args below meth c R Q A F hR hQ hP hK hD hA hS ls hl
  obtain ⟨hx, hb, hr, hts, hml, hlocks, hown⟩ := F
  have hown : s.vm.findClass RX2 = some m.cls := hown
  have hl : lv_has ls 2 [(0, .int x0), (1, .int x1)] := hl
  unfold fX2_areConnected at hf
  refine lv_iload_n hx hb dX2_areConnected_0 rfl (lv_at hl 0 rfl) ?_
  refine lv_iconst (v := (0 : Int32)) hx hb dX2_areConnected_1 (by decide) ?_
  refine lv_iload_n hx hb dX2_areConnected_2 rfl (lv_at hl 1 rfl) ?_
  obtain ⟨o1, ho1, hf⟩ := bd_some hf
  refine cs_i (As := [.int x0, .int (0 : Int32), .int x1]) (rest := []) hx hb hml hown hts hK hP hD hA hS (kX2_component l D cI cC cS  x0 (0 : Int32) x1  o1 ho1) (va_cwS 3 hts gX2_areConnected_X2_component rfl rfl rfl (by decide +kernel) (by subst hR; exact ⟨Nat.le_of_ble_eq_true rfl, Nat.le_of_ble_eq_true rfl⟩)) rfl hl.1 rfl (Nat.le_of_ble_eq_true rfl) ⟨Nat.zero_le _, Nat.zero_le _⟩ dX2_areConnected_3 (fun H locs hP hD hS => ?_)
  refine lv_iload_n hx hb dX2_areConnected_6 rfl (lv_at hl 1 rfl) ?_
  refine cs_i (As := [.int x1]) (rest := [.int o1]) hx hb hml hown hts hK hP hD hA hS (kX6_firstOnes l D cI cC cS  x1  (fX6_firstOnes x1) rfl) (va_cwS 1 hts gX2_areConnected_X6_firstOnes rfl rfl rfl (by decide +kernel) (by subst hR; exact ⟨Nat.le_of_ble_eq_true rfl, Nat.le_of_ble_eq_true rfl⟩)) rfl hl.1 rfl (Nat.le_of_ble_eq_true rfl) ⟨Nat.zero_le _, Nat.zero_le _⟩ dX2_areConnected_7 (fun H locs hP hD hS => ?_)
  refine lv_icmp_ne (tgt := 17) hx hb dX2_areConnected_10 (by decide) (fun c2 => ?_) (fun c2 => ?_)
  · have hf := if_f c2 hf
    refine lv_iconst (v := (0 : Int32)) hx hb dX2_areConnected_17 (by decide) ?_
    have hf := Option.some.inj hf
    subst hf
    exact rt_z (ty := .boolean) hx hb hr rfl hlocks hQ hK hP hD hS rfl dX2_areConnected_18
  · have hf := if_t c2 hf
    refine lv_iconst (v := (1 : Int32)) hx hb dX2_areConnected_13 (by decide) ?_
    refine lv_goto (tgt := 18) hx hb dX2_areConnected_14 (by decide) ?_
    have hf := Option.some.inj hf
    subst hf
    exact rt_z (ty := .boolean) hx hb hr rfl hlocks hQ hK hP hD hS rfl dX2_areConnected_18
set_option maxRecDepth 100000 in
set_option maxHeartbeats 4000000 in
theorem kX2_greatestDegree (l : Launch) (D : va_G) (cI cC cS : ClassId) (x0 : Int32) (x1 : Int32) (o : Int32) (hf : fX2_greatestDegree x0 x1 = some o) : CI l D yX2_greatestDegree wsX2_greatestDegree ({ frames := 3, cells := 0, slots := 0, locals := 67 } : Room) (tysK cI cC cS) [.int x0, .int x1] [] o [] := by
  refine met_i (cc := cX2_greatestDegree) (maxL := 5) (ret := (some .int)) (by decide) rfl (Nat.le_of_ble_eq_true rfl) ?_
  intro p e s m args below meth c R Q A F hR hQ hP hK hD hA hS ls hl
  obtain ⟨hx, hb, hr, hts, hml, hlocks, hown⟩ := F
  have hown : s.vm.findClass RX2 = some m.cls := hown
  have qm47 := hts (.methodLink RX2 47 Lib.Math.max.name) (by decide +kernel)
  have qs47 := hts (.static Lib.Math.max.name) (by decide +kernel)
  have qi47 := hts (.initialized "java/lang/Math") (by decide +kernel)
  have qk47 := hts (.code Lib.Math.max.name Lib.Math.max.code 2 (some .int)) (by decide +kernel)
  have hl : lv_has ls 5 [(0, .int x0), (1, .int x1)] := hl
  unfold fX2_greatestDegree at hf
  have L4 : ∀ (n4 : Nat) (x2 : Int32) (x3 : Int32) (H : Heap) (locs : List Loc) (ls : Array Slot), fX2_greatestDegree_l4 x0 x1 n4 x2 x3 = some o → va_P D vwCl [] H → va_D A [] → va_S A s.heap H locs → lv_has ls 5 [(0, .int x0), (1, .int x1), (2, .int x2), (3, .int x3)] → W p l e R s m args below meth c H locs 0 0 Q (F0 m 4 ls []) := by
    intro n4
    induction n4 with
    | zero => intro x2 x3 H locs ls hf; cases (show (none : Option _) = some _ from hf)
    | succ n4 ih4 =>
      intro x2 x3 H locs ls hf hP hD hS hl
      rw [fX2_greatestDegree_l4] at hf
      refine lv_iload_n hx hb dX2_greatestDegree_4 rfl (lv_at hl 3 rfl) ?_
      refine lv_iload_n hx hb dX2_greatestDegree_5 rfl (lv_at hl 1 rfl) ?_
      refine lv_icmp_ge (tgt := 33) hx hb dX2_greatestDegree_6 (by decide) (fun c1 => ?_) (fun c1 => ?_)
      · have hf := if_t c1 hf
        refine lv_iload_n hx hb dX2_greatestDegree_33 rfl (lv_at hl 2 rfl) ?_
        have hf := Option.some.inj hf
        subst hf
        exact rt_i hx hb hr hlocks hQ hK hP hD hS rfl dX2_greatestDegree_34
      · have hf := if_f c1 hf
        refine lv_iload_n hx hb dX2_greatestDegree_9 rfl (lv_at hl 0 rfl) ?_
        refine lv_iload_n hx hb dX2_greatestDegree_10 rfl (lv_at hl 3 rfl) ?_
        refine lv_iload_n hx hb dX2_greatestDegree_11 rfl (lv_at hl 1 rfl) ?_
        obtain ⟨o2, ho2, hf⟩ := bd_some hf
        refine cs_i (As := [.int x0, .int x3, .int x1]) (rest := []) hx hb hml hown hts hK hP hD hA hS (kX2_neighbours l D cI cC cS  x0 x3 x1  o2 ho2) (va_cwS 3 hts gX2_greatestDegree_X2_neighbours rfl rfl rfl (by decide +kernel) (by subst hR; exact ⟨Nat.le_of_ble_eq_true rfl, Nat.le_of_ble_eq_true rfl⟩)) rfl hl.1 rfl (Nat.le_of_ble_eq_true rfl) ⟨Nat.zero_le _, Nat.zero_le _⟩ dX2_greatestDegree_12 (fun H locs hP hD hS => ?_)
        refine cs_i (As := [.int o2]) (rest := []) hx hb hml hown hts hK hP hD hA hS (kJ6_bitCount_0f7a4 l D cI cC cS  o2  (fJ6_bitCount_0f7a4 o2) rfl) (va_cwS 1 hts gX2_greatestDegree_J6_bitCount_0f7a4 rfl rfl rfl (by decide +kernel) (by subst hR; exact ⟨Nat.le_of_ble_eq_true rfl, Nat.le_of_ble_eq_true rfl⟩)) rfl hl.1 rfl (Nat.le_of_ble_eq_true rfl) ⟨Nat.zero_le _, Nat.zero_le _⟩ dX2_greatestDegree_15 (fun H locs hP hD hS => ?_)
        refine lv_istore (lv' := [(4, .int (fJ6_bitCount_0f7a4 o2)), (0, .int x0), (1, .int x1), (2, .int x2), (3, .int x3)]) hx hb dX2_greatestDegree_18 hl (by decide) rfl (fun ls hl => ?_)
        refine lv_iload_n hx hb dX2_greatestDegree_20 rfl (lv_at hl 3 rfl) ?_
        refine lv_iload hx hb dX2_greatestDegree_21 (lv_at hl 0 rfl) ?_
        refine va_mmax hx hb (by rw [hml]; exact hl.1.symm) hown qm47 qs47 qi47 qk47 (by subst hR; exact Nat.le_of_ble_eq_true rfl) (by subst hR; exact Nat.le_of_ble_eq_true rfl) (Nat.zero_le _) (Nat.zero_le _) dX2_greatestDegree_23 ?_
        refine lv_istore_n (lv' := [(2, .int (if x2 < (fJ6_bitCount_0f7a4 o2) then (fJ6_bitCount_0f7a4 o2) else x2)), (4, .int (fJ6_bitCount_0f7a4 o2)), (0, .int x0), (1, .int x1), (3, .int x3)]) hx hb dX2_greatestDegree_26 rfl hl (by decide) rfl (fun ls hl => ?_)
        refine lv_iinc (v := (x3 + 1)) (lv' := [(3, .int (x3 + 1)), (2, .int (if x2 < (fJ6_bitCount_0f7a4 o2) then (fJ6_bitCount_0f7a4 o2) else x2)), (4, .int (fJ6_bitCount_0f7a4 o2)), (0, .int x0), (1, .int x1)]) hx hb dX2_greatestDegree_27 hl (k := 4) rfl rfl (by decide) rfl (fun ls hl => ?_)
        refine lv_goto (tgt := 4) hx hb dX2_greatestDegree_30 (by decide) ?_
        exact ih4 (if x2 < (fJ6_bitCount_0f7a4 o2) then (fJ6_bitCount_0f7a4 o2) else x2) (x3 + 1) _ _ _ hf hP hD hS (lv_sub hl [3, 4, 1, 0] rfl)
  refine lv_iconst (v := (0 : Int32)) hx hb dX2_greatestDegree_0 (by decide) ?_
  refine lv_istore_n (lv' := [(2, .int (0 : Int32)), (0, .int x0), (1, .int x1)]) hx hb dX2_greatestDegree_1 rfl hl (by decide) rfl (fun ls hl => ?_)
  refine lv_iconst (v := (0 : Int32)) hx hb dX2_greatestDegree_2 (by decide) ?_
  refine lv_istore_n (lv' := [(3, .int (0 : Int32)), (2, .int (0 : Int32)), (0, .int x0), (1, .int x1)]) hx hb dX2_greatestDegree_3 rfl hl (by decide) rfl (fun ls hl => ?_)
  exact L4  fuel (0 : Int32) (0 : Int32) _ _ _ hf hP hD hS (lv_sub hl [2, 3, 1, 0] rfl)
set_option maxRecDepth 100000 in
set_option maxHeartbeats 4000000 in
theorem kX2_path (l : Launch) (D : va_G) (cI cC cS : ClassId) (x0 : Int32) (o : Int32) (hf : fX2_path x0 = some o) : CI l D yX2_path wsX2_path ({ frames := 1, cells := 0, slots := 0, locals := 21 } : Room) (tysK cI cC cS) [.int x0] [] o [] := by
  refine met_i (cc := cX2_path) (maxL := 3) (ret := (some .int)) (by decide) rfl (Nat.le_of_ble_eq_true rfl) ?_
  intro p e s m args below meth c R Q A F hR hQ hP hK hD hA hS ls hl
  obtain ⟨hx, hb, hr, hts, hml, hlocks, hown⟩ := F
  have hown : s.vm.findClass RX2 = some m.cls := hown
  have hl : lv_has ls 3 [(0, .int x0)] := hl
  unfold fX2_path at hf
  have L4 : ∀ (n4 : Nat) (x1 : Int32) (x2 : Int32) (H : Heap) (locs : List Loc) (ls : Array Slot), fX2_path_l4 x0 n4 x1 x2 = some o → va_P D vwCl [] H → va_D A [] → va_S A s.heap H locs → lv_has ls 3 [(0, .int x0), (1, .int x1), (2, .int x2)] → W p l e R s m args below meth c H locs 0 0 Q (F0 m 4 ls []) := by
    intro n4
    induction n4 with
    | zero => intro x1 x2 H locs ls hf; cases (show (none : Option _) = some _ from hf)
    | succ n4 ih4 =>
      intro x1 x2 H locs ls hf hP hD hS hl
      rw [fX2_path_l4] at hf
      refine lv_iload_n hx hb dX2_path_4 rfl (lv_at hl 2 rfl) ?_
      refine lv_iload_n hx hb dX2_path_5 rfl (lv_at hl 0 rfl) ?_
      refine lv_icmp_ge (tgt := 25) hx hb dX2_path_6 (by decide) (fun c1 => ?_) (fun c1 => ?_)
      · have hf := if_t c1 hf
        refine lv_iload_n hx hb dX2_path_25 rfl (lv_at hl 1 rfl) ?_
        have hf := Option.some.inj hf
        subst hf
        exact rt_i hx hb hr hlocks hQ hK hP hD hS rfl dX2_path_26
      · have hf := if_f c1 hf
        refine lv_iload_n hx hb dX2_path_9 rfl (lv_at hl 1 rfl) ?_
        refine lv_iload_n hx hb dX2_path_10 rfl (lv_at hl 2 rfl) ?_
        refine lv_iconst (v := (1 : Int32)) hx hb dX2_path_11 (by decide) ?_
        refine lv_isub hx hb dX2_path_12 ?_
        refine lv_iload_n hx hb dX2_path_13 rfl (lv_at hl 2 rfl) ?_
        refine cs_i (As := [.int (x2 - (1 : Int32)), .int x2]) (rest := [.int x1]) hx hb hml hown hts hK hP hD hA hS (kX2_between l D cI cC cS  (x2 - (1 : Int32)) x2  (fX2_between (x2 - (1 : Int32)) x2) rfl) (va_cwS 2 hts gX2_path_X2_between rfl rfl rfl (by decide +kernel) (by subst hR; exact ⟨Nat.le_of_ble_eq_true rfl, Nat.le_of_ble_eq_true rfl⟩)) rfl hl.1 rfl (Nat.le_of_ble_eq_true rfl) ⟨Nat.zero_le _, Nat.zero_le _⟩ dX2_path_14 (fun H locs hP hD hS => ?_)
        refine lv_ior hx hb dX2_path_17 ?_
        refine lv_istore_n (lv' := [(1, .int (x1 ||| (fX2_between (x2 - (1 : Int32)) x2))), (0, .int x0), (2, .int x2)]) hx hb dX2_path_18 rfl hl (by decide) rfl (fun ls hl => ?_)
        refine lv_iinc (v := (x2 + 1)) (lv' := [(2, .int (x2 + 1)), (1, .int (x1 ||| (fX2_between (x2 - (1 : Int32)) x2))), (0, .int x0)]) hx hb dX2_path_19 hl (k := 2) rfl rfl (by decide) rfl (fun ls hl => ?_)
        refine lv_goto (tgt := 4) hx hb dX2_path_22 (by decide) ?_
        exact ih4 (x1 ||| (fX2_between (x2 - (1 : Int32)) x2)) (x2 + 1) _ _ _ hf hP hD hS (lv_sub hl [2, 1, 0] rfl)
  refine lv_iconst (v := (0 : Int32)) hx hb dX2_path_0 (by decide) ?_
  refine lv_istore_n (lv' := [(1, .int (0 : Int32)), (0, .int x0)]) hx hb dX2_path_1 rfl hl (by decide) rfl (fun ls hl => ?_)
  refine lv_iconst (v := (1 : Int32)) hx hb dX2_path_2 (by decide) ?_
  refine lv_istore_n (lv' := [(2, .int (1 : Int32)), (1, .int (0 : Int32)), (0, .int x0)]) hx hb dX2_path_3 rfl hl (by decide) rfl (fun ls hl => ?_)
  exact L4  fuel (0 : Int32) (1 : Int32) _ _ _ hf hP hD hS (lv_sub hl [2, 1, 0] rfl)
set_option maxRecDepth 100000 in
set_option maxHeartbeats 4000000 in
theorem kX2_ring (l : Launch) (D : va_G) (cI cC cS : ClassId) (x0 : Int32) (o : Int32) (hf : fX2_ring x0 = some o) : CI l D yX2_ring wsX2_ring ({ frames := 2, cells := 0, slots := 0, locals := 43 } : Room) (tysK cI cC cS) [.int x0] [] o [] := by
  refine met_i (cc := cX2_ring) (maxL := 1) (ret := (some .int)) (by decide) rfl (Nat.le_of_ble_eq_true rfl) ?_
  intro p e s m args below meth c R Q A F hR hQ hP hK hD hA hS ls hl
  obtain ⟨hx, hb, hr, hts, hml, hlocks, hown⟩ := F
  have hown : s.vm.findClass RX2 = some m.cls := hown
  have hl : lv_has ls 1 [(0, .int x0)] := hl
  unfold fX2_ring at hf
  refine lv_iload_n hx hb dX2_ring_0 rfl (lv_at hl 0 rfl) ?_
  obtain ⟨o1, ho1, hf⟩ := bd_some hf
  refine cs_i (As := [.int x0]) (rest := []) hx hb hml hown hts hK hP hD hA hS (kX2_path l D cI cC cS  x0  o1 ho1) (va_cwS 1 hts gX2_ring_X2_path rfl rfl rfl (by decide +kernel) (by subst hR; exact ⟨Nat.le_of_ble_eq_true rfl, Nat.le_of_ble_eq_true rfl⟩)) rfl hl.1 rfl (Nat.le_of_ble_eq_true rfl) ⟨Nat.zero_le _, Nat.zero_le _⟩ dX2_ring_1 (fun H locs hP hD hS => ?_)
  refine lv_iconst (v := (0 : Int32)) hx hb dX2_ring_4 (by decide) ?_
  refine lv_iload_n hx hb dX2_ring_5 rfl (lv_at hl 0 rfl) ?_
  refine lv_iconst (v := (1 : Int32)) hx hb dX2_ring_6 (by decide) ?_
  refine lv_isub hx hb dX2_ring_7 ?_
  refine cs_i (As := [.int (0 : Int32), .int (x0 - (1 : Int32))]) (rest := [.int o1]) hx hb hml hown hts hK hP hD hA hS (kX2_between l D cI cC cS  (0 : Int32) (x0 - (1 : Int32))  (fX2_between (0 : Int32) (x0 - (1 : Int32))) rfl) (va_cwS 2 hts gX2_ring_X2_between rfl rfl rfl (by decide +kernel) (by subst hR; exact ⟨Nat.le_of_ble_eq_true rfl, Nat.le_of_ble_eq_true rfl⟩)) rfl hl.1 rfl (Nat.le_of_ble_eq_true rfl) ⟨Nat.zero_le _, Nat.zero_le _⟩ dX2_ring_8 (fun H locs hP hD hS => ?_)
  refine lv_ior hx hb dX2_ring_11 ?_
  have hf := Option.some.inj hf
  subst hf
  exact rt_i hx hb hr hlocks hQ hK hP hD hS rfl dX2_ring_12
set_option maxRecDepth 100000 in
set_option maxHeartbeats 4000000 in
theorem kX2_star (l : Launch) (D : va_G) (cI cC cS : ClassId) (x0 : Int32) (x1 : Int32) (o : Int32) (hf : fX2_star x0 x1 = some o) : CI l D yX2_star wsX2_star ({ frames := 1, cells := 0, slots := 0, locals := 21 } : Room) (tysK cI cC cS) [.int x0, .int x1] [] o [] := by
  refine met_i (cc := cX2_star) (maxL := 4) (ret := (some .int)) (by decide) rfl (Nat.le_of_ble_eq_true rfl) ?_
  intro p e s m args below meth c R Q A F hR hQ hP hK hD hA hS ls hl
  obtain ⟨hx, hb, hr, hts, hml, hlocks, hown⟩ := F
  have hown : s.vm.findClass RX2 = some m.cls := hown
  have hl : lv_has ls 4 [(0, .int x0), (1, .int x1)] := hl
  unfold fX2_star at hf
  have L4 : ∀ (n4 : Nat) (x2 : Int32) (x3 : Int32) (H : Heap) (locs : List Loc) (ls : Array Slot), fX2_star_l4 x0 x1 n4 x2 x3 = some o → va_P D vwCl [] H → va_D A [] → va_S A s.heap H locs → lv_has ls 4 [(0, .int x0), (1, .int x1), (2, .int x2), (3, .int x3)] → W p l e R s m args below meth c H locs 0 0 Q (F0 m 4 ls []) := by
    intro n4
    induction n4 with
    | zero => intro x2 x3 H locs ls hf; cases (show (none : Option _) = some _ from hf)
    | succ n4 ih4 =>
      intro x2 x3 H locs ls hf hP hD hS hl
      rw [fX2_star_l4] at hf
      refine lv_iload_n hx hb dX2_star_4 rfl (lv_at hl 3 rfl) ?_
      refine lv_iload_n hx hb dX2_star_5 rfl (lv_at hl 1 rfl) ?_
      refine lv_icmp_ge (tgt := 28) hx hb dX2_star_6 (by decide) (fun c1 => ?_) (fun c1 => ?_)
      · have hf := if_t c1 hf
        refine lv_iload_n hx hb dX2_star_28 rfl (lv_at hl 2 rfl) ?_
        have hf := Option.some.inj hf
        subst hf
        exact rt_i hx hb hr hlocks hQ hK hP hD hS rfl dX2_star_29
      · have hf := if_f c1 hf
        refine lv_iload_n hx hb dX2_star_9 rfl (lv_at hl 3 rfl) ?_
        refine lv_iload_n hx hb dX2_star_10 rfl (lv_at hl 0 rfl) ?_
        refine lv_icmp_eq (tgt := 22) hx hb dX2_star_11 (by decide) (fun c2 => ?_) (fun c2 => ?_)
        · have hf := if_t c2 hf
          refine lv_iinc (v := (x3 + 1)) (lv' := [(3, .int (x3 + 1)), (0, .int x0), (1, .int x1), (2, .int x2)]) hx hb dX2_star_22 hl (k := 3) rfl rfl (by decide) rfl (fun ls hl => ?_)
          refine lv_goto (tgt := 4) hx hb dX2_star_25 (by decide) ?_
          exact ih4 x2 (x3 + 1) _ _ _ hf hP hD hS (lv_sub hl [1, 2, 3, 0] rfl)
        · have hf := if_f c2 hf
          refine lv_iload_n hx hb dX2_star_14 rfl (lv_at hl 2 rfl) ?_
          refine lv_iload_n hx hb dX2_star_15 rfl (lv_at hl 0 rfl) ?_
          refine lv_iload_n hx hb dX2_star_16 rfl (lv_at hl 3 rfl) ?_
          refine cs_i (As := [.int x0, .int x3]) (rest := [.int x2]) hx hb hml hown hts hK hP hD hA hS (kX2_between l D cI cC cS  x0 x3  (fX2_between x0 x3) rfl) (va_cwS 2 hts gX2_star_X2_between rfl rfl rfl (by decide +kernel) (by subst hR; exact ⟨Nat.le_of_ble_eq_true rfl, Nat.le_of_ble_eq_true rfl⟩)) rfl hl.1 rfl (Nat.le_of_ble_eq_true rfl) ⟨Nat.zero_le _, Nat.zero_le _⟩ dX2_star_17 (fun H locs hP hD hS => ?_)
          refine lv_ior hx hb dX2_star_20 ?_
          refine lv_istore_n (lv' := [(2, .int (x2 ||| (fX2_between x0 x3))), (0, .int x0), (1, .int x1), (3, .int x3)]) hx hb dX2_star_21 rfl hl (by decide) rfl (fun ls hl => ?_)
          refine lv_iinc (v := (x3 + 1)) (lv' := [(3, .int (x3 + 1)), (2, .int (x2 ||| (fX2_between x0 x3))), (0, .int x0), (1, .int x1)]) hx hb dX2_star_22 hl (k := 3) rfl rfl (by decide) rfl (fun ls hl => ?_)
          refine lv_goto (tgt := 4) hx hb dX2_star_25 (by decide) ?_
          exact ih4 (x2 ||| (fX2_between x0 x3)) (x3 + 1) _ _ _ hf hP hD hS (lv_sub hl [2, 3, 1, 0] rfl)
  refine lv_iconst (v := (0 : Int32)) hx hb dX2_star_0 (by decide) ?_
  refine lv_istore_n (lv' := [(2, .int (0 : Int32)), (0, .int x0), (1, .int x1)]) hx hb dX2_star_1 rfl hl (by decide) rfl (fun ls hl => ?_)
  refine lv_iconst (v := (0 : Int32)) hx hb dX2_star_2 (by decide) ?_
  refine lv_istore_n (lv' := [(3, .int (0 : Int32)), (2, .int (0 : Int32)), (0, .int x0), (1, .int x1)]) hx hb dX2_star_3 rfl hl (by decide) rfl (fun ls hl => ?_)
  exact L4  fuel (0 : Int32) (0 : Int32) _ _ _ hf hP hD hS (lv_sub hl [2, 3, 1, 0] rfl)
set_option maxRecDepth 100000 in
set_option maxHeartbeats 4000000 in
theorem kX2_clique (l : Launch) (D : va_G) (cI cC cS : ClassId) (x0 : Int32) (o : Int32) (hf : fX2_clique x0 = some o) : CI l D yX2_clique wsX2_clique ({ frames := 1, cells := 0, slots := 0, locals := 21 } : Room) (tysK cI cC cS) [.int x0] [] o [] := by
  refine met_i (cc := cX2_clique) (maxL := 4) (ret := (some .int)) (by decide) rfl (Nat.le_of_ble_eq_true rfl) ?_
  intro p e s m args below meth c R Q A F hR hQ hP hK hD hA hS ls hl
  obtain ⟨hx, hb, hr, hts, hml, hlocks, hown⟩ := F
  have hown : s.vm.findClass RX2 = some m.cls := hown
  have hl : lv_has ls 4 [(0, .int x0)] := hl
  unfold fX2_clique at hf
  have L4 : ∀ (n4 : Nat) (x1 : Int32) (x2 : Int32) (H : Heap) (locs : List Loc) (ls : Array Slot), fX2_clique_l4 x0 n4 x1 x2 = some o → va_P D vwCl [] H → va_D A [] → va_S A s.heap H locs → lv_has ls 4 [(0, .int x0), (1, .int x1), (2, .int x2)] → W p l e R s m args below meth c H locs 0 0 Q (F0 m 4 ls []) := by
    intro n4
    induction n4 with
    | zero => intro x1 x2 H locs ls hf; cases (show (none : Option _) = some _ from hf)
    | succ n4 ih4 =>
      have L12 : ∀ (x2 : Int32) (n12 : Nat) (x1 : Int32) (x3 : Int32) (H : Heap) (locs : List Loc) (ls : Array Slot), fX2_clique_l12 (fX2_clique_l4 x0 n4) x0 x2 n12 x1 x3 = some o → va_P D vwCl [] H → va_D A [] → va_S A s.heap H locs → lv_has ls 4 [(0, .int x0), (1, .int x1), (2, .int x2), (3, .int x3)] → W p l e R s m args below meth c H locs 0 0 Q (F0 m 12 ls []) := by
        intro x2 n12
        induction n12 with
        | zero => intro x1 x3 H locs ls hf; cases (show (none : Option _) = some _ from hf)
        | succ n12 ih12 =>
          intro x1 x3 H locs ls hf hP hD hS hl
          rw [fX2_clique_l12] at hf
          refine lv_iload_n hx hb dX2_clique_12 rfl (lv_at hl 3 rfl) ?_
          refine lv_iload_n hx hb dX2_clique_13 rfl (lv_at hl 2 rfl) ?_
          refine lv_icmp_ge (tgt := 47) hx hb dX2_clique_14 (by decide) (fun c1 => ?_) (fun c1 => ?_)
          · have hf := if_t c1 hf
            refine lv_iinc (v := (x2 + 1)) (lv' := [(2, .int (x2 + 1)), (0, .int x0), (1, .int x1), (3, .int x3)]) hx hb dX2_clique_47 hl (k := 2) rfl rfl (by decide) rfl (fun ls hl => ?_)
            refine lv_goto (tgt := 4) hx hb dX2_clique_50 (by decide) ?_
            exact ih4 x1 (x2 + 1) _ _ _ hf hP hD hS (lv_sub hl [1, 2, 0] rfl)
          · have hf := if_f c1 hf
            refine lv_iload_n hx hb dX2_clique_17 rfl (lv_at hl 0 rfl) ?_
            refine lv_iload_n hx hb dX2_clique_18 rfl (lv_at hl 3 rfl) ?_
            refine cs_i (As := [.int x0, .int x3]) (rest := []) hx hb hml hown hts hK hP hD hA hS (kX6_has l D cI cC cS  x0 x3  (fX6_has x0 x3) rfl) (va_cwS 2 hts gX2_clique_X6_has rfl rfl rfl (by decide +kernel) (by subst hR; exact ⟨Nat.le_of_ble_eq_true rfl, Nat.le_of_ble_eq_true rfl⟩)) rfl hl.1 rfl (Nat.le_of_ble_eq_true rfl) ⟨Nat.zero_le _, Nat.zero_le _⟩ dX2_clique_19 (fun H locs hP hD hS => ?_)
            refine lv_if_eq (tgt := 41) hx hb dX2_clique_22 (by decide) (fun c2 => ?_) (fun c2 => ?_)
            · have hf := if_t c2 hf
              refine lv_iinc (v := (x3 + 1)) (lv' := [(3, .int (x3 + 1)), (0, .int x0), (1, .int x1), (2, .int x2)]) hx hb dX2_clique_41 hl (k := 3) rfl rfl (by decide) rfl (fun ls hl => ?_)
              refine lv_goto (tgt := 12) hx hb dX2_clique_44 (by decide) ?_
              exact ih12 x1 (x3 + 1) _ _ _ hf hP hD hS (lv_sub hl [1, 2, 3, 0] rfl)
            · have hf := if_f c2 hf
              refine lv_iload_n hx hb dX2_clique_25 rfl (lv_at hl 0 rfl) ?_
              refine lv_iload_n hx hb dX2_clique_26 rfl (lv_at hl 2 rfl) ?_
              refine cs_i (As := [.int x0, .int x2]) (rest := []) hx hb hml hown hts hK hP hD hA hS (kX6_has l D cI cC cS  x0 x2  (fX6_has x0 x2) rfl) (va_cwS 2 hts gX2_clique_X6_has rfl rfl rfl (by decide +kernel) (by subst hR; exact ⟨Nat.le_of_ble_eq_true rfl, Nat.le_of_ble_eq_true rfl⟩)) rfl hl.1 rfl (Nat.le_of_ble_eq_true rfl) ⟨Nat.zero_le _, Nat.zero_le _⟩ dX2_clique_27 (fun H locs hP hD hS => ?_)
              refine lv_if_eq (tgt := 41) hx hb dX2_clique_30 (by decide) (fun c3 => ?_) (fun c3 => ?_)
              · have hf := if_t c3 hf
                refine lv_iinc (v := (x3 + 1)) (lv' := [(3, .int (x3 + 1)), (0, .int x0), (1, .int x1), (2, .int x2)]) hx hb dX2_clique_41 hl (k := 3) rfl rfl (by decide) rfl (fun ls hl => ?_)
                refine lv_goto (tgt := 12) hx hb dX2_clique_44 (by decide) ?_
                exact ih12 x1 (x3 + 1) _ _ _ hf hP hD hS (lv_sub hl [1, 2, 3, 0] rfl)
              · have hf := if_f c3 hf
                refine lv_iload_n hx hb dX2_clique_33 rfl (lv_at hl 1 rfl) ?_
                refine lv_iload_n hx hb dX2_clique_34 rfl (lv_at hl 3 rfl) ?_
                refine lv_iload_n hx hb dX2_clique_35 rfl (lv_at hl 2 rfl) ?_
                refine cs_i (As := [.int x3, .int x2]) (rest := [.int x1]) hx hb hml hown hts hK hP hD hA hS (kX2_between l D cI cC cS  x3 x2  (fX2_between x3 x2) rfl) (va_cwS 2 hts gX2_clique_X2_between rfl rfl rfl (by decide +kernel) (by subst hR; exact ⟨Nat.le_of_ble_eq_true rfl, Nat.le_of_ble_eq_true rfl⟩)) rfl hl.1 rfl (Nat.le_of_ble_eq_true rfl) ⟨Nat.zero_le _, Nat.zero_le _⟩ dX2_clique_36 (fun H locs hP hD hS => ?_)
                refine lv_ior hx hb dX2_clique_39 ?_
                refine lv_istore_n (lv' := [(1, .int (x1 ||| (fX2_between x3 x2))), (0, .int x0), (2, .int x2), (3, .int x3)]) hx hb dX2_clique_40 rfl hl (by decide) rfl (fun ls hl => ?_)
                refine lv_iinc (v := (x3 + 1)) (lv' := [(3, .int (x3 + 1)), (1, .int (x1 ||| (fX2_between x3 x2))), (0, .int x0), (2, .int x2)]) hx hb dX2_clique_41 hl (k := 3) rfl rfl (by decide) rfl (fun ls hl => ?_)
                refine lv_goto (tgt := 12) hx hb dX2_clique_44 (by decide) ?_
                exact ih12 (x1 ||| (fX2_between x3 x2)) (x3 + 1) _ _ _ hf hP hD hS (lv_sub hl [2, 1, 3, 0] rfl)
      intro x1 x2 H locs ls hf hP hD hS hl
      rw [fX2_clique_l4] at hf
      refine lv_iload_n hx hb dX2_clique_4 rfl (lv_at hl 2 rfl) ?_
      refine lv_bipush (v := (8 : Int32)) hx hb dX2_clique_5 (by decide) ?_
      refine lv_icmp_ge (tgt := 53) hx hb dX2_clique_7 (by decide) (fun c4 => ?_) (fun c4 => ?_)
      · have hf := if_t c4 hf
        refine lv_iload_n hx hb dX2_clique_53 rfl (lv_at hl 1 rfl) ?_
        have hf := Option.some.inj hf
        subst hf
        exact rt_i hx hb hr hlocks hQ hK hP hD hS rfl dX2_clique_54
      · have hf := if_f c4 hf
        refine lv_iconst (v := (0 : Int32)) hx hb dX2_clique_10 (by decide) ?_
        refine lv_istore_n (lv' := [(3, .int (0 : Int32)), (0, .int x0), (1, .int x1), (2, .int x2)]) hx hb dX2_clique_11 rfl hl (by decide) rfl (fun ls hl => ?_)
        exact L12 x2 fuel x1 (0 : Int32) _ _ _ hf hP hD hS (lv_sub hl [1, 2, 3, 0] rfl)
  refine lv_iconst (v := (0 : Int32)) hx hb dX2_clique_0 (by decide) ?_
  refine lv_istore_n (lv' := [(1, .int (0 : Int32)), (0, .int x0)]) hx hb dX2_clique_1 rfl hl (by decide) rfl (fun ls hl => ?_)
  refine lv_iconst (v := (1 : Int32)) hx hb dX2_clique_2 (by decide) ?_
  refine lv_istore_n (lv' := [(2, .int (1 : Int32)), (1, .int (0 : Int32)), (0, .int x0)]) hx hb dX2_clique_3 rfl hl (by decide) rfl (fun ls hl => ?_)
  exact L4  fuel (0 : Int32) (1 : Int32) _ _ _ hf hP hD hS (lv_sub hl [2, 1, 0] rfl)
set_option maxRecDepth 100000 in
set_option maxHeartbeats 4000000 in
theorem kX0_chain (l : Launch) (D : va_G) (cI cC cS : ClassId) (x0 : Int32) (o : Int32) (hf : fX0_chain x0 = some o) : CI l D yX0_chain wsX0_chain ({ frames := 1, cells := 0, slots := 0, locals := 21 } : Room) (tysK cI cC cS) [.int x0] [] o [] := by
  refine met_i (cc := cX0_chain) (maxL := 4) (ret := (some .int)) (by decide) rfl (Nat.le_of_ble_eq_true rfl) ?_
  intro p e s m args below meth c R Q A F hR hQ hP hK hD hA hS ls hl
  obtain ⟨hx, hb, hr, hts, hml, hlocks, hown⟩ := F
  have hown : s.vm.findClass RX0 = some m.cls := hown
  have hl : lv_has ls 4 [(0, .int x0)] := hl
  unfold fX0_chain at hf
  have L6 : ∀ (n6 : Nat) (x1 : Int32) (x2 : Int32) (x3 : Int32) (H : Heap) (locs : List Loc) (ls : Array Slot), fX0_chain_l6 x0 n6 x1 x2 x3 = some o → va_P D vwCl [] H → va_D A [] → va_S A s.heap H locs → lv_has ls 4 [(0, .int x0), (1, .int x1), (2, .int x2), (3, .int x3)] → W p l e R s m args below meth c H locs 0 0 Q (F0 m 6 ls []) := by
    intro n6
    induction n6 with
    | zero => intro x1 x2 x3 H locs ls hf; cases (show (none : Option _) = some _ from hf)
    | succ n6 ih6 =>
      intro x1 x2 x3 H locs ls hf hP hD hS hl
      rw [fX0_chain_l6] at hf
      refine lv_iload_n hx hb dX0_chain_6 rfl (lv_at hl 3 rfl) ?_
      refine lv_bipush (v := (8 : Int32)) hx hb dX0_chain_7 (by decide) ?_
      refine lv_icmp_ge (tgt := 45) hx hb dX0_chain_9 (by decide) (fun c1 => ?_) (fun c1 => ?_)
      · have hf := if_t c1 hf
        refine lv_iload_n hx hb dX0_chain_45 rfl (lv_at hl 1 rfl) ?_
        have hf := Option.some.inj hf
        subst hf
        exact rt_i hx hb hr hlocks hQ hK hP hD hS rfl dX0_chain_46
      · have hf := if_f c1 hf
        refine lv_iload_n hx hb dX0_chain_12 rfl (lv_at hl 0 rfl) ?_
        refine lv_iload_n hx hb dX0_chain_13 rfl (lv_at hl 3 rfl) ?_
        refine cs_i (As := [.int x0, .int x3]) (rest := []) hx hb hml hown hts hK hP hD hA hS (kX6_has l D cI cC cS  x0 x3  (fX6_has x0 x3) rfl) (va_cwS 2 hts gX0_chain_X6_has rfl rfl rfl (by decide +kernel) (by subst hR; exact ⟨Nat.le_of_ble_eq_true rfl, Nat.le_of_ble_eq_true rfl⟩)) rfl hl.1 rfl (Nat.le_of_ble_eq_true rfl) ⟨Nat.zero_le _, Nat.zero_le _⟩ dX0_chain_14 (fun H locs hP hD hS => ?_)
        refine lv_if_eq (tgt := 39) hx hb dX0_chain_17 (by decide) (fun c2 => ?_) (fun c2 => ?_)
        · have hf := if_t c2 hf
          refine lv_iinc (v := (x3 + 1)) (lv' := [(3, .int (x3 + 1)), (0, .int x0), (1, .int x1), (2, .int x2)]) hx hb dX0_chain_39 hl (k := 3) rfl rfl (by decide) rfl (fun ls hl => ?_)
          refine lv_goto (tgt := 6) hx hb dX0_chain_42 (by decide) ?_
          exact ih6 x1 x2 (x3 + 1) _ _ _ hf hP hD hS (lv_sub hl [1, 2, 3, 0] rfl)
        · have hf := if_f c2 hf
          refine lv_iload_n hx hb dX0_chain_20 rfl (lv_at hl 1 rfl) ?_
          refine lv_iload_n hx hb dX0_chain_21 rfl (lv_at hl 2 rfl) ?_
          refine lv_iconst (v := (-1 : Int32)) hx hb dX0_chain_22 (by decide) ?_
          refine lv_icmp_eq (tgt := 34) hx hb dX0_chain_23 (by decide) (fun c3 => ?_) (fun c3 => ?_)
          · have hf := if_t c3 hf
            refine lv_iconst (v := (0 : Int32)) hx hb dX0_chain_34 (by decide) ?_
            refine lv_ior hx hb dX0_chain_35 ?_
            refine lv_istore_n (lv' := [(1, .int (x1 ||| (0 : Int32))), (0, .int x0), (2, .int x2), (3, .int x3)]) hx hb dX0_chain_36 rfl hl (by decide) rfl (fun ls hl => ?_)
            refine lv_iload_n hx hb dX0_chain_37 rfl (lv_at hl 3 rfl) ?_
            refine lv_istore_n (lv' := [(2, .int x3), (1, .int (x1 ||| (0 : Int32))), (0, .int x0), (3, .int x3)]) hx hb dX0_chain_38 rfl hl (by decide) rfl (fun ls hl => ?_)
            refine lv_iinc (v := (x3 + 1)) (lv' := [(3, .int (x3 + 1)), (2, .int x3), (1, .int (x1 ||| (0 : Int32))), (0, .int x0)]) hx hb dX0_chain_39 hl (k := 3) rfl rfl (by decide) rfl (fun ls hl => ?_)
            refine lv_goto (tgt := 6) hx hb dX0_chain_42 (by decide) ?_
            exact ih6 (x1 ||| (0 : Int32)) x3 (x3 + 1) _ _ _ hf hP hD hS (lv_sub hl [3, 2, 1, 0] rfl)
          · have hf := if_f c3 hf
            refine lv_iload_n hx hb dX0_chain_26 rfl (lv_at hl 2 rfl) ?_
            refine lv_iload_n hx hb dX0_chain_27 rfl (lv_at hl 3 rfl) ?_
            refine cs_i (As := [.int x2, .int x3]) (rest := [.int x1]) hx hb hml hown hts hK hP hD hA hS (kX2_between l D cI cC cS  x2 x3  (fX2_between x2 x3) rfl) (va_cwS 2 hts gX0_chain_X2_between rfl rfl rfl (by decide +kernel) (by subst hR; exact ⟨Nat.le_of_ble_eq_true rfl, Nat.le_of_ble_eq_true rfl⟩)) rfl hl.1 rfl (Nat.le_of_ble_eq_true rfl) ⟨Nat.zero_le _, Nat.zero_le _⟩ dX0_chain_28 (fun H locs hP hD hS => ?_)
            refine lv_goto (tgt := 35) hx hb dX0_chain_31 (by decide) ?_
            refine lv_ior hx hb dX0_chain_35 ?_
            refine lv_istore_n (lv' := [(1, .int (x1 ||| (fX2_between x2 x3))), (0, .int x0), (2, .int x2), (3, .int x3)]) hx hb dX0_chain_36 rfl hl (by decide) rfl (fun ls hl => ?_)
            refine lv_iload_n hx hb dX0_chain_37 rfl (lv_at hl 3 rfl) ?_
            refine lv_istore_n (lv' := [(2, .int x3), (1, .int (x1 ||| (fX2_between x2 x3))), (0, .int x0), (3, .int x3)]) hx hb dX0_chain_38 rfl hl (by decide) rfl (fun ls hl => ?_)
            refine lv_iinc (v := (x3 + 1)) (lv' := [(3, .int (x3 + 1)), (2, .int x3), (1, .int (x1 ||| (fX2_between x2 x3))), (0, .int x0)]) hx hb dX0_chain_39 hl (k := 3) rfl rfl (by decide) rfl (fun ls hl => ?_)
            refine lv_goto (tgt := 6) hx hb dX0_chain_42 (by decide) ?_
            exact ih6 (x1 ||| (fX2_between x2 x3)) x3 (x3 + 1) _ _ _ hf hP hD hS (lv_sub hl [3, 2, 1, 0] rfl)
  refine lv_iconst (v := (0 : Int32)) hx hb dX0_chain_0 (by decide) ?_
  refine lv_istore_n (lv' := [(1, .int (0 : Int32)), (0, .int x0)]) hx hb dX0_chain_1 rfl hl (by decide) rfl (fun ls hl => ?_)
  refine lv_iconst (v := (-1 : Int32)) hx hb dX0_chain_2 (by decide) ?_
  refine lv_istore_n (lv' := [(2, .int (-1 : Int32)), (1, .int (0 : Int32)), (0, .int x0)]) hx hb dX0_chain_3 rfl hl (by decide) rfl (fun ls hl => ?_)
  refine lv_iconst (v := (0 : Int32)) hx hb dX0_chain_4 (by decide) ?_
  refine lv_istore_n (lv' := [(3, .int (0 : Int32)), (2, .int (-1 : Int32)), (1, .int (0 : Int32)), (0, .int x0)]) hx hb dX0_chain_5 rfl hl (by decide) rfl (fun ls hl => ?_)
  exact L6  fuel (0 : Int32) (-1 : Int32) (0 : Int32) _ _ _ hf hP hD hS (lv_sub hl [3, 2, 1, 0] rfl)
