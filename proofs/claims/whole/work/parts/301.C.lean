set_option maxRecDepth 100000 in
set_option maxHeartbeats 4000000 in
theorem kJ6_bitCount_0f7a4 (l : Launch) (D : va_G) (cI cC cS : ClassId) (x0 : Int32) (o : Int32) (hf : fJ6_bitCount_0f7a4 x0 = o) : CI l D yJ6_bitCount_0f7a4 wsJ6_bitCount_0f7a4 ({ frames := 0, cells := 0, slots := 0, locals := 0 } : Room) (tysK cI cC cS) [.int x0] [] o [] := by
  refine met_i (cc := cJ6_bitCount_0f7a4) (maxL := 1) (ret := (some .int)) (by decide) rfl (Nat.le_of_ble_eq_true rfl) ?_
  intro p e s m args below meth c R Q A F hR hQ hP hK hD hA hS ls hl
  obtain ⟨hx, hb, hr, hts, hml, hlocks, hown⟩ := F
  have hown : s.vm.findClass RJ6 = some m.cls := hown
  have qc265 := hts (.constant RJ6 265 (1431655765)) (by decide +kernel)
  have qc266 := hts (.constant RJ6 266 (858993459)) (by decide +kernel)
  have qc267 := hts (.constant RJ6 267 (252645135)) (by decide +kernel)
  have hl : lv_has ls 1 [(0, .int x0)] := hl
  unfold fJ6_bitCount_0f7a4 at hf
  refine lv_iload_n hx hb dJ6_bitCount_0f7a4_0 rfl (lv_at hl 0 rfl) ?_
  refine lv_iload_n hx hb dJ6_bitCount_0f7a4_1 rfl (lv_at hl 0 rfl) ?_
  refine lv_iconst (v := (1 : Int32)) hx hb dJ6_bitCount_0f7a4_2 (by decide) ?_
  refine lv_iushr (v := (x0.toUInt32 >>> ((1 : Int32).toUInt32 &&& Int32.toUInt32 31)).toInt32) hx hb dJ6_bitCount_0f7a4_3 rfl ?_
  refine lv_ldcw hx hb hown qc265 dJ6_bitCount_0f7a4_4 ?_
  refine lv_iand hx hb dJ6_bitCount_0f7a4_7 ?_
  refine lv_isub hx hb dJ6_bitCount_0f7a4_8 ?_
  refine lv_istore_n (lv' := [(0, .int (x0 - (((x0.toUInt32 >>> ((1 : Int32).toUInt32 &&& Int32.toUInt32 31)).toInt32) &&& (1431655765 : Int32))))]) hx hb dJ6_bitCount_0f7a4_9 rfl hl (by decide) rfl (fun ls hl => ?_)
  refine lv_iload_n hx hb dJ6_bitCount_0f7a4_10 rfl (lv_at hl 0 rfl) ?_
  refine lv_ldcw hx hb hown qc266 dJ6_bitCount_0f7a4_11 ?_
  refine lv_iand hx hb dJ6_bitCount_0f7a4_14 ?_
  refine lv_iload_n hx hb dJ6_bitCount_0f7a4_15 rfl (lv_at hl 0 rfl) ?_
  refine lv_iconst (v := (2 : Int32)) hx hb dJ6_bitCount_0f7a4_16 (by decide) ?_
  refine lv_iushr (v := ((x0 - (((x0.toUInt32 >>> ((1 : Int32).toUInt32 &&& Int32.toUInt32 31)).toInt32) &&& (1431655765 : Int32))).toUInt32 >>> ((2 : Int32).toUInt32 &&& Int32.toUInt32 31)).toInt32) hx hb dJ6_bitCount_0f7a4_17 rfl ?_
  refine lv_ldcw hx hb hown qc266 dJ6_bitCount_0f7a4_18 ?_
  refine lv_iand hx hb dJ6_bitCount_0f7a4_21 ?_
  refine lv_iadd hx hb dJ6_bitCount_0f7a4_22 ?_
  refine lv_topi (fun v1 ev1 => ?_)
  have hf := nm_eq ev1 hf
  refine lv_istore_n (lv' := [(0, .int v1)]) hx hb dJ6_bitCount_0f7a4_23 rfl hl (by decide) rfl (fun ls hl => ?_)
  refine lv_iload_n hx hb dJ6_bitCount_0f7a4_24 rfl (lv_at hl 0 rfl) ?_
  refine lv_iload_n hx hb dJ6_bitCount_0f7a4_25 rfl (lv_at hl 0 rfl) ?_
  refine lv_iconst (v := (4 : Int32)) hx hb dJ6_bitCount_0f7a4_26 (by decide) ?_
  refine lv_iushr (v := (v1.toUInt32 >>> ((4 : Int32).toUInt32 &&& Int32.toUInt32 31)).toInt32) hx hb dJ6_bitCount_0f7a4_27 rfl ?_
  refine lv_iadd hx hb dJ6_bitCount_0f7a4_28 ?_
  refine lv_ldcw hx hb hown qc267 dJ6_bitCount_0f7a4_29 ?_
  refine lv_iand hx hb dJ6_bitCount_0f7a4_32 ?_
  refine lv_istore_n (lv' := [(0, .int ((v1 + ((v1.toUInt32 >>> ((4 : Int32).toUInt32 &&& Int32.toUInt32 31)).toInt32)) &&& (252645135 : Int32)))]) hx hb dJ6_bitCount_0f7a4_33 rfl hl (by decide) rfl (fun ls hl => ?_)
  refine lv_iload_n hx hb dJ6_bitCount_0f7a4_34 rfl (lv_at hl 0 rfl) ?_
  refine lv_iload_n hx hb dJ6_bitCount_0f7a4_35 rfl (lv_at hl 0 rfl) ?_
  refine lv_bipush (v := (8 : Int32)) hx hb dJ6_bitCount_0f7a4_36 (by decide) ?_
  refine lv_iushr (v := (((v1 + ((v1.toUInt32 >>> ((4 : Int32).toUInt32 &&& Int32.toUInt32 31)).toInt32)) &&& (252645135 : Int32)).toUInt32 >>> ((8 : Int32).toUInt32 &&& Int32.toUInt32 31)).toInt32) hx hb dJ6_bitCount_0f7a4_38 rfl ?_
  refine lv_iadd hx hb dJ6_bitCount_0f7a4_39 ?_
  refine lv_topi (fun v2 ev2 => ?_)
  have hf := nm_eq ev2 hf
  refine lv_istore_n (lv' := [(0, .int v2)]) hx hb dJ6_bitCount_0f7a4_40 rfl hl (by decide) rfl (fun ls hl => ?_)
  refine lv_iload_n hx hb dJ6_bitCount_0f7a4_41 rfl (lv_at hl 0 rfl) ?_
  refine lv_iload_n hx hb dJ6_bitCount_0f7a4_42 rfl (lv_at hl 0 rfl) ?_
  refine lv_bipush (v := (16 : Int32)) hx hb dJ6_bitCount_0f7a4_43 (by decide) ?_
  refine lv_iushr (v := (v2.toUInt32 >>> ((16 : Int32).toUInt32 &&& Int32.toUInt32 31)).toInt32) hx hb dJ6_bitCount_0f7a4_45 rfl ?_
  refine lv_iadd hx hb dJ6_bitCount_0f7a4_46 ?_
  refine lv_istore_n (lv' := [(0, .int (v2 + ((v2.toUInt32 >>> ((16 : Int32).toUInt32 &&& Int32.toUInt32 31)).toInt32)))]) hx hb dJ6_bitCount_0f7a4_47 rfl hl (by decide) rfl (fun ls hl => ?_)
  refine lv_iload_n hx hb dJ6_bitCount_0f7a4_48 rfl (lv_at hl 0 rfl) ?_
  refine lv_bipush (v := (63 : Int32)) hx hb dJ6_bitCount_0f7a4_49 (by decide) ?_
  refine lv_iand hx hb dJ6_bitCount_0f7a4_51 ?_
  subst hf
  exact rt_i hx hb hr hlocks hQ hK hP hD hS rfl dJ6_bitCount_0f7a4_52
set_option maxRecDepth 100000 in
set_option maxHeartbeats 4000000 in
theorem kX6_of (l : Launch) (D : va_G) (cI cC cS : ClassId) (x0 : Int32) (o : Int32) (hf : fX6_of x0 = o) : CI l D yX6_of wsX6_of ({ frames := 0, cells := 0, slots := 0, locals := 0 } : Room) (tysK cI cC cS) [.int x0] [] o [] := by
  refine met_i (cc := cX6_of) (maxL := 1) (ret := (some .int)) (by decide) rfl (Nat.le_of_ble_eq_true rfl) ?_
  intro p e s m args below meth c R Q A F hR hQ hP hK hD hA hS ls hl
  obtain ⟨hx, hb, hr, hts, hml, hlocks, hown⟩ := F
  have hown : s.vm.findClass RX6 = some m.cls := hown
  have hl : lv_has ls 1 [(0, .int x0)] := hl
  unfold fX6_of at hf
  refine lv_iconst (v := (1 : Int32)) hx hb dX6_of_0 (by decide) ?_
  refine lv_iload_n hx hb dX6_of_1 rfl (lv_at hl 0 rfl) ?_
  refine lv_ishl hx hb dX6_of_2 ?_
  subst hf
  exact rt_i hx hb hr hlocks hQ hK hP hD hS rfl dX6_of_3
set_option maxRecDepth 100000 in
set_option maxHeartbeats 4000000 in
theorem kX6_firstOnes (l : Launch) (D : va_G) (cI cC cS : ClassId) (x0 : Int32) (o : Int32) (hf : fX6_firstOnes x0 = o) : CI l D yX6_firstOnes wsX6_firstOnes ({ frames := 0, cells := 0, slots := 0, locals := 0 } : Room) (tysK cI cC cS) [.int x0] [] o [] := by
  refine met_i (cc := cX6_firstOnes) (maxL := 1) (ret := (some .int)) (by decide) rfl (Nat.le_of_ble_eq_true rfl) ?_
  intro p e s m args below meth c R Q A F hR hQ hP hK hD hA hS ls hl
  obtain ⟨hx, hb, hr, hts, hml, hlocks, hown⟩ := F
  have hown : s.vm.findClass RX6 = some m.cls := hown
  have hl : lv_has ls 1 [(0, .int x0)] := hl
  unfold fX6_firstOnes at hf
  refine lv_iconst (v := (1 : Int32)) hx hb dX6_firstOnes_0 (by decide) ?_
  refine lv_iload_n hx hb dX6_firstOnes_1 rfl (lv_at hl 0 rfl) ?_
  refine lv_ishl hx hb dX6_firstOnes_2 ?_
  refine lv_iconst (v := (1 : Int32)) hx hb dX6_firstOnes_3 (by decide) ?_
  refine lv_isub hx hb dX6_firstOnes_4 ?_
  subst hf
  exact rt_i hx hb hr hlocks hQ hK hP hD hS rfl dX6_firstOnes_5
set_option maxRecDepth 100000 in
set_option maxHeartbeats 4000000 in
theorem kX6_has (l : Launch) (D : va_G) (cI cC cS : ClassId) (x0 : Int32) (x1 : Int32) (o : Bool) (hf : fX6_has x0 x1 = o) : CI l D yX6_has wsX6_has ({ frames := 0, cells := 0, slots := 0, locals := 0 } : Room) (tysK cI cC cS) [.int x0, .int x1] [] (b2i o) [] := by
  refine met_i (cc := cX6_has) (maxL := 2) (ret := (some .boolean)) (by decide) rfl (Nat.le_of_ble_eq_true rfl) ?_
  intro p e s m args below meth c R Q A F hR hQ hP hK hD hA hS ls hl
  obtain ⟨hx, hb, hr, hts, hml, hlocks, hown⟩ := F
  have hown : s.vm.findClass RX6 = some m.cls := hown
  have hl : lv_has ls 2 [(0, .int x0), (1, .int x1)] := hl
  unfold fX6_has at hf
  refine lv_iload_n hx hb dX6_has_0 rfl (lv_at hl 0 rfl) ?_
  refine lv_iconst (v := (1 : Int32)) hx hb dX6_has_1 (by decide) ?_
  refine lv_iload_n hx hb dX6_has_2 rfl (lv_at hl 1 rfl) ?_
  refine lv_ishl hx hb dX6_has_3 ?_
  refine lv_iand hx hb dX6_has_4 ?_
  refine lv_if_eq (tgt := 12) hx hb dX6_has_5 (by decide) (fun c1 => ?_) (fun c1 => ?_)
  · have hf := if_t c1 hf
    refine lv_iconst (v := (0 : Int32)) hx hb dX6_has_12 (by decide) ?_
    subst hf
    exact rt_z (ty := .boolean) hx hb hr rfl hlocks hQ hK hP hD hS rfl dX6_has_13
  · have hf := if_f c1 hf
    refine lv_iconst (v := (1 : Int32)) hx hb dX6_has_8 (by decide) ?_
    refine lv_goto (tgt := 13) hx hb dX6_has_9 (by decide) ?_
    subst hf
    exact rt_z (ty := .boolean) hx hb hr rfl hlocks hQ hK hP hD hS rfl dX6_has_13
set_option maxRecDepth 100000 in
set_option maxHeartbeats 4000000 in
theorem kX6_smallest (l : Launch) (D : va_G) (cI cC cS : ClassId) (x0 : Int32) (o : Int32) (hf : fX6_smallest x0 = some o) : CI l D yX6_smallest wsX6_smallest ({ frames := 1, cells := 0, slots := 0, locals := 21 } : Room) (tysK cI cC cS) [.int x0] [] o [] := by
  refine met_i (cc := cX6_smallest) (maxL := 2) (ret := (some .int)) (by decide) rfl (Nat.le_of_ble_eq_true rfl) ?_
  intro p e s m args below meth c R Q A F hR hQ hP hK hD hA hS ls hl
  obtain ⟨hx, hb, hr, hts, hml, hlocks, hown⟩ := F
  have hown : s.vm.findClass RX6 = some m.cls := hown
  have hl : lv_has ls 2 [(0, .int x0)] := hl
  unfold fX6_smallest at hf
  have L2 : ∀ (n2 : Nat) (x1 : Int32) (H : Heap) (locs : List Loc) (ls : Array Slot), fX6_smallest_l2 x0 n2 x1 = some o → va_P D vwCl [] H → va_D A [] → va_S A s.heap H locs → lv_has ls 2 [(0, .int x0), (1, .int x1)] → W p l e R s m args below meth c H locs 0 0 Q (F0 m 2 ls []) := by
    intro n2
    induction n2 with
    | zero => intro x1 H locs ls hf; cases (show (none : Option _) = some _ from hf)
    | succ n2 ih2 =>
      intro x1 H locs ls hf hP hD hS hl
      rw [fX6_smallest_l2] at hf
      refine lv_iload_n hx hb dX6_smallest_2 rfl (lv_at hl 1 rfl) ?_
      refine lv_bipush (v := (7 : Int32)) hx hb dX6_smallest_3 (by decide) ?_
      refine lv_icmp_ge (tgt := 22) hx hb dX6_smallest_5 (by decide) (fun c1 => ?_) (fun c1 => ?_)
      · have hf := if_t c1 hf
        refine lv_iload_n hx hb dX6_smallest_22 rfl (lv_at hl 1 rfl) ?_
        have hf := Option.some.inj hf
        subst hf
        exact rt_i hx hb hr hlocks hQ hK hP hD hS rfl dX6_smallest_23
      · have hf := if_f c1 hf
        refine lv_iload_n hx hb dX6_smallest_8 rfl (lv_at hl 0 rfl) ?_
        refine lv_iload_n hx hb dX6_smallest_9 rfl (lv_at hl 1 rfl) ?_
        refine cs_i (As := [.int x0, .int x1]) (rest := []) hx hb hml hown hts hK hP hD hA hS (kX6_has l D cI cC cS  x0 x1  (fX6_has x0 x1) rfl) (va_cwS 2 hts gX6_smallest_X6_has rfl rfl rfl (by decide +kernel) (by subst hR; exact ⟨Nat.le_of_ble_eq_true rfl, Nat.le_of_ble_eq_true rfl⟩)) rfl hl.1 rfl (Nat.le_of_ble_eq_true rfl) ⟨Nat.zero_le _, Nat.zero_le _⟩ dX6_smallest_10 (fun H locs hP hD hS => ?_)
        refine lv_if_ne (tgt := 22) hx hb dX6_smallest_13 (by decide) (fun c2 => ?_) (fun c2 => ?_)
        · have hf := if_f c2 hf
          refine lv_iload_n hx hb dX6_smallest_22 rfl (lv_at hl 1 rfl) ?_
          have hf := Option.some.inj hf
          subst hf
          exact rt_i hx hb hr hlocks hQ hK hP hD hS rfl dX6_smallest_23
        · have hf := if_t c2 hf
          refine lv_iinc (v := (x1 + 1)) (lv' := [(1, .int (x1 + 1)), (0, .int x0)]) hx hb dX6_smallest_16 hl (k := 1) rfl rfl (by decide) rfl (fun ls hl => ?_)
          refine lv_goto (tgt := 2) hx hb dX6_smallest_19 (by decide) ?_
          exact ih2 (x1 + 1) _ _ _ hf hP hD hS (lv_sub hl [1, 0] rfl)
  refine lv_iconst (v := (0 : Int32)) hx hb dX6_smallest_0 (by decide) ?_
  refine lv_istore_n (lv' := [(1, .int (0 : Int32)), (0, .int x0)]) hx hb dX6_smallest_1 rfl hl (by decide) rfl (fun ls hl => ?_)
  exact L2  fuel (0 : Int32) _ _ _ hf hP hD hS (lv_sub hl [1, 0] rfl)
set_option maxRecDepth 100000 in
set_option maxHeartbeats 4000000 in
theorem kX6_greatest (l : Launch) (D : va_G) (cI cC cS : ClassId) (x0 : Int32) (o : Int32) (hf : fX6_greatest x0 = some o) : CI l D yX6_greatest wsX6_greatest ({ frames := 1, cells := 0, slots := 0, locals := 21 } : Room) (tysK cI cC cS) [.int x0] [] o [] := by
  refine met_i (cc := cX6_greatest) (maxL := 2) (ret := (some .int)) (by decide) rfl (Nat.le_of_ble_eq_true rfl) ?_
  intro p e s m args below meth c R Q A F hR hQ hP hK hD hA hS ls hl
  obtain ⟨hx, hb, hr, hts, hml, hlocks, hown⟩ := F
  have hown : s.vm.findClass RX6 = some m.cls := hown
  have hl : lv_has ls 2 [(0, .int x0)] := hl
  unfold fX6_greatest at hf
  have L3 : ∀ (n3 : Nat) (x1 : Int32) (H : Heap) (locs : List Loc) (ls : Array Slot), fX6_greatest_l3 x0 n3 x1 = some o → va_P D vwCl [] H → va_D A [] → va_S A s.heap H locs → lv_has ls 2 [(0, .int x0), (1, .int x1)] → W p l e R s m args below meth c H locs 0 0 Q (F0 m 3 ls []) := by
    intro n3
    induction n3 with
    | zero => intro x1 H locs ls hf; cases (show (none : Option _) = some _ from hf)
    | succ n3 ih3 =>
      intro x1 H locs ls hf hP hD hS hl
      rw [fX6_greatest_l3] at hf
      refine lv_iload_n hx hb dX6_greatest_3 rfl (lv_at hl 1 rfl) ?_
      refine lv_if_le (tgt := 21) hx hb dX6_greatest_4 (by decide) (fun c1 => ?_) (fun c1 => ?_)
      · have hf := if_t c1 hf
        refine lv_iload_n hx hb dX6_greatest_21 rfl (lv_at hl 1 rfl) ?_
        have hf := Option.some.inj hf
        subst hf
        exact rt_i hx hb hr hlocks hQ hK hP hD hS rfl dX6_greatest_22
      · have hf := if_f c1 hf
        refine lv_iload_n hx hb dX6_greatest_7 rfl (lv_at hl 0 rfl) ?_
        refine lv_iload_n hx hb dX6_greatest_8 rfl (lv_at hl 1 rfl) ?_
        refine cs_i (As := [.int x0, .int x1]) (rest := []) hx hb hml hown hts hK hP hD hA hS (kX6_has l D cI cC cS  x0 x1  (fX6_has x0 x1) rfl) (va_cwS 2 hts gX6_greatest_X6_has rfl rfl rfl (by decide +kernel) (by subst hR; exact ⟨Nat.le_of_ble_eq_true rfl, Nat.le_of_ble_eq_true rfl⟩)) rfl hl.1 rfl (Nat.le_of_ble_eq_true rfl) ⟨Nat.zero_le _, Nat.zero_le _⟩ dX6_greatest_9 (fun H locs hP hD hS => ?_)
        refine lv_if_ne (tgt := 21) hx hb dX6_greatest_12 (by decide) (fun c2 => ?_) (fun c2 => ?_)
        · have hf := if_f c2 hf
          refine lv_iload_n hx hb dX6_greatest_21 rfl (lv_at hl 1 rfl) ?_
          have hf := Option.some.inj hf
          subst hf
          exact rt_i hx hb hr hlocks hQ hK hP hD hS rfl dX6_greatest_22
        · have hf := if_t c2 hf
          refine lv_iinc (v := (x1 + (-1))) (lv' := [(1, .int (x1 + (-1))), (0, .int x0)]) hx hb dX6_greatest_15 hl (k := 1) rfl rfl (by decide) rfl (fun ls hl => ?_)
          refine lv_goto (tgt := 3) hx hb dX6_greatest_18 (by decide) ?_
          exact ih3 (x1 + (-1)) _ _ _ hf hP hD hS (lv_sub hl [1, 0] rfl)
  refine lv_bipush (v := (7 : Int32)) hx hb dX6_greatest_0 (by decide) ?_
  refine lv_istore_n (lv' := [(1, .int (7 : Int32)), (0, .int x0)]) hx hb dX6_greatest_2 rfl hl (by decide) rfl (fun ls hl => ?_)
  exact L3  fuel (7 : Int32) _ _ _ hf hP hD hS (lv_sub hl [1, 0] rfl)
set_option maxRecDepth 100000 in
set_option maxHeartbeats 4000000 in
theorem kX2_between (l : Launch) (D : va_G) (cI cC cS : ClassId) (x0 : Int32) (x1 : Int32) (o : Int32) (hf : fX2_between x0 x1 = o) : CI l D yX2_between wsX2_between ({ frames := 0, cells := 0, slots := 0, locals := 0 } : Room) (tysK cI cC cS) [.int x0, .int x1] [] o [] := by
  refine met_i (cc := cX2_between) (maxL := 2) (ret := (some .int)) (by decide) rfl (Nat.le_of_ble_eq_true rfl) ?_
  intro p e s m args below meth c R Q A F hR hQ hP hK hD hA hS ls hl
  obtain ⟨hx, hb, hr, hts, hml, hlocks, hown⟩ := F
  have hown : s.vm.findClass RX2 = some m.cls := hown
  have hl : lv_has ls 2 [(0, .int x0), (1, .int x1)] := hl
  unfold fX2_between at hf
  refine lv_iload_n hx hb dX2_between_0 rfl (lv_at hl 0 rfl) ?_
  refine lv_iload_n hx hb dX2_between_1 rfl (lv_at hl 1 rfl) ?_
  refine lv_icmp_ge (tgt := 19) hx hb dX2_between_2 (by decide) (fun c1 => ?_) (fun c1 => ?_)
  · have hf := if_t c1 hf
    refine lv_iconst (v := (1 : Int32)) hx hb dX2_between_19 (by decide) ?_
    refine lv_iload_n hx hb dX2_between_20 rfl (lv_at hl 0 rfl) ?_
    refine lv_iload_n hx hb dX2_between_21 rfl (lv_at hl 0 rfl) ?_
    refine lv_iconst (v := (1 : Int32)) hx hb dX2_between_22 (by decide) ?_
    refine lv_isub hx hb dX2_between_23 ?_
    refine lv_imul hx hb dX2_between_24 ?_
    refine lv_iconst (v := (2 : Int32)) hx hb dX2_between_25 (by decide) ?_
    refine lv_idiv hx hb dX2_between_26 (by decide) ?_
    refine lv_iload_n hx hb dX2_between_27 rfl (lv_at hl 1 rfl) ?_
    refine lv_iadd hx hb dX2_between_28 ?_
    refine lv_ishl hx hb dX2_between_29 ?_
    subst hf
    exact rt_i hx hb hr hlocks hQ hK hP hD hS rfl dX2_between_30
  · have hf := if_f c1 hf
    refine lv_iconst (v := (1 : Int32)) hx hb dX2_between_5 (by decide) ?_
    refine lv_iload_n hx hb dX2_between_6 rfl (lv_at hl 1 rfl) ?_
    refine lv_iload_n hx hb dX2_between_7 rfl (lv_at hl 1 rfl) ?_
    refine lv_iconst (v := (1 : Int32)) hx hb dX2_between_8 (by decide) ?_
    refine lv_isub hx hb dX2_between_9 ?_
    refine lv_imul hx hb dX2_between_10 ?_
    refine lv_iconst (v := (2 : Int32)) hx hb dX2_between_11 (by decide) ?_
    refine lv_idiv hx hb dX2_between_12 (by decide) ?_
    refine lv_iload_n hx hb dX2_between_13 rfl (lv_at hl 0 rfl) ?_
    refine lv_iadd hx hb dX2_between_14 ?_
    refine lv_ishl hx hb dX2_between_15 ?_
    refine lv_goto (tgt := 30) hx hb dX2_between_16 (by decide) ?_
    subst hf
    exact rt_i hx hb hr hlocks hQ hK hP hD hS rfl dX2_between_30
set_option maxRecDepth 100000 in
set_option maxHeartbeats 4000000 in
theorem kX2_connects (l : Launch) (D : va_G) (cI cC cS : ClassId) (x0 : Int32) (x1 : Int32) (x2 : Int32) (o : Bool) (hf : fX2_connects x0 x1 x2 = o) : CI l D yX2_connects wsX2_connects ({ frames := 1, cells := 0, slots := 0, locals := 21 } : Room) (tysK cI cC cS) [.int x0, .int x1, .int x2] [] (b2i o) [] := by
  refine met_i (cc := cX2_connects) (maxL := 3) (ret := (some .boolean)) (by decide) rfl (Nat.le_of_ble_eq_true rfl) ?_
  intro p e s m args below meth c R Q A F hR hQ hP hK hD hA hS ls hl
  obtain ⟨hx, hb, hr, hts, hml, hlocks, hown⟩ := F
  have hown : s.vm.findClass RX2 = some m.cls := hown
  have hl : lv_has ls 3 [(0, .int x0), (1, .int x1), (2, .int x2)] := hl
  unfold fX2_connects at hf
  refine lv_iload_n hx hb dX2_connects_0 rfl (lv_at hl 0 rfl) ?_
  refine lv_iload_n hx hb dX2_connects_1 rfl (lv_at hl 1 rfl) ?_
  refine lv_iload_n hx hb dX2_connects_2 rfl (lv_at hl 2 rfl) ?_
  refine cs_i (As := [.int x1, .int x2]) (rest := [.int x0]) hx hb hml hown hts hK hP hD hA hS (kX2_between l D cI cC cS  x1 x2  (fX2_between x1 x2) rfl) (va_cwS 2 hts gX2_connects_X2_between rfl rfl rfl (by decide +kernel) (by subst hR; exact ⟨Nat.le_of_ble_eq_true rfl, Nat.le_of_ble_eq_true rfl⟩)) rfl hl.1 rfl (Nat.le_of_ble_eq_true rfl) ⟨Nat.zero_le _, Nat.zero_le _⟩ dX2_connects_3 (fun H locs hP hD hS => ?_)
  refine lv_iand hx hb dX2_connects_6 ?_
  refine lv_if_eq (tgt := 14) hx hb dX2_connects_7 (by decide) (fun c1 => ?_) (fun c1 => ?_)
  · have hf := if_t c1 hf
    refine lv_iconst (v := (0 : Int32)) hx hb dX2_connects_14 (by decide) ?_
    subst hf
    exact rt_z (ty := .boolean) hx hb hr rfl hlocks hQ hK hP hD hS rfl dX2_connects_15
  · have hf := if_f c1 hf
    refine lv_iconst (v := (1 : Int32)) hx hb dX2_connects_10 (by decide) ?_
    refine lv_goto (tgt := 15) hx hb dX2_connects_11 (by decide) ?_
    subst hf
    exact rt_z (ty := .boolean) hx hb hr rfl hlocks hQ hK hP hD hS rfl dX2_connects_15
set_option maxRecDepth 100000 in
set_option maxHeartbeats 4000000 in
theorem kX2_neighbours (l : Launch) (D : va_G) (cI cC cS : ClassId) (x0 : Int32) (x1 : Int32) (x2 : Int32) (o : Int32) (hf : fX2_neighbours x0 x1 x2 = some o) : CI l D yX2_neighbours wsX2_neighbours ({ frames := 2, cells := 0, slots := 0, locals := 43 } : Room) (tysK cI cC cS) [.int x0, .int x1, .int x2] [] o [] := by
  refine met_i (cc := cX2_neighbours) (maxL := 5) (ret := (some .int)) (by decide) rfl (Nat.le_of_ble_eq_true rfl) ?_
  intro p e s m args below meth c R Q A F hR hQ hP hK hD hA hS ls hl
  obtain ⟨hx, hb, hr, hts, hml, hlocks, hown⟩ := F
  have hown : s.vm.findClass RX2 = some m.cls := hown
  have hl : lv_has ls 5 [(0, .int x0), (1, .int x1), (2, .int x2)] := hl
  unfold fX2_neighbours at hf
  have L5 : ∀ (n5 : Nat) (x3 : Int32) (x4 : Int32) (H : Heap) (locs : List Loc) (ls : Array Slot), fX2_neighbours_l5 x0 x1 x2 n5 x3 x4 = some o → va_P D vwCl [] H → va_D A [] → va_S A s.heap H locs → lv_has ls 5 [(0, .int x0), (1, .int x1), (2, .int x2), (3, .int x3), (4, .int x4)] → W p l e R s m args below meth c H locs 0 0 Q (F0 m 5 ls []) := by
    intro n5
    induction n5 with
    | zero => intro x3 x4 H locs ls hf; cases (show (none : Option _) = some _ from hf)
    | succ n5 ih5 =>
      intro x3 x4 H locs ls hf hP hD hS hl
      rw [fX2_neighbours_l5] at hf
      refine lv_iload hx hb dX2_neighbours_5 (lv_at hl 4 rfl) ?_
      refine lv_iload_n hx hb dX2_neighbours_7 rfl (lv_at hl 2 rfl) ?_
      refine lv_icmp_ge (tgt := 41) hx hb dX2_neighbours_8 (by decide) (fun c1 => ?_) (fun c1 => ?_)
      · have hf := if_t c1 hf
        refine lv_iload_n hx hb dX2_neighbours_41 rfl (lv_at hl 3 rfl) ?_
        have hf := Option.some.inj hf
        subst hf
        exact rt_i hx hb hr hlocks hQ hK hP hD hS rfl dX2_neighbours_42
      · have hf := if_f c1 hf
        refine lv_iload hx hb dX2_neighbours_11 (lv_at hl 4 rfl) ?_
        refine lv_iload_n hx hb dX2_neighbours_13 rfl (lv_at hl 1 rfl) ?_
        refine lv_icmp_eq (tgt := 35) hx hb dX2_neighbours_14 (by decide) (fun c2 => ?_) (fun c2 => ?_)
        · have hf := if_t c2 hf
          refine lv_iinc (v := (x4 + 1)) (lv' := [(4, .int (x4 + 1)), (0, .int x0), (1, .int x1), (2, .int x2), (3, .int x3)]) hx hb dX2_neighbours_35 hl (k := 4) rfl rfl (by decide) rfl (fun ls hl => ?_)
          refine lv_goto (tgt := 5) hx hb dX2_neighbours_38 (by decide) ?_
          exact ih5 x3 (x4 + 1) _ _ _ hf hP hD hS (lv_sub hl [1, 2, 3, 4, 0] rfl)
        · have hf := if_f c2 hf
          refine lv_iload_n hx hb dX2_neighbours_17 rfl (lv_at hl 0 rfl) ?_
          refine lv_iload_n hx hb dX2_neighbours_18 rfl (lv_at hl 1 rfl) ?_
          refine lv_iload hx hb dX2_neighbours_19 (lv_at hl 4 rfl) ?_
          refine cs_i (As := [.int x0, .int x1, .int x4]) (rest := []) hx hb hml hown hts hK hP hD hA hS (kX2_connects l D cI cC cS  x0 x1 x4  (fX2_connects x0 x1 x4) rfl) (va_cwS 3 hts gX2_neighbours_X2_connects rfl rfl rfl (by decide +kernel) (by subst hR; exact ⟨Nat.le_of_ble_eq_true rfl, Nat.le_of_ble_eq_true rfl⟩)) rfl hl.1 rfl (Nat.le_of_ble_eq_true rfl) ⟨Nat.zero_le _, Nat.zero_le _⟩ dX2_neighbours_21 (fun H locs hP hD hS => ?_)
          refine lv_if_eq (tgt := 35) hx hb dX2_neighbours_24 (by decide) (fun c3 => ?_) (fun c3 => ?_)
          · have hf := if_t c3 hf
            refine lv_iinc (v := (x4 + 1)) (lv' := [(4, .int (x4 + 1)), (0, .int x0), (1, .int x1), (2, .int x2), (3, .int x3)]) hx hb dX2_neighbours_35 hl (k := 4) rfl rfl (by decide) rfl (fun ls hl => ?_)
            refine lv_goto (tgt := 5) hx hb dX2_neighbours_38 (by decide) ?_
            exact ih5 x3 (x4 + 1) _ _ _ hf hP hD hS (lv_sub hl [1, 2, 3, 4, 0] rfl)
          · have hf := if_f c3 hf
            refine lv_iload_n hx hb dX2_neighbours_27 rfl (lv_at hl 3 rfl) ?_
            refine lv_iload hx hb dX2_neighbours_28 (lv_at hl 4 rfl) ?_
            refine cs_i (As := [.int x4]) (rest := [.int x3]) hx hb hml hown hts hK hP hD hA hS (kX6_of l D cI cC cS  x4  (fX6_of x4) rfl) (va_cwS 1 hts gX2_neighbours_X6_of rfl rfl rfl (by decide +kernel) (by subst hR; exact ⟨Nat.le_of_ble_eq_true rfl, Nat.le_of_ble_eq_true rfl⟩)) rfl hl.1 rfl (Nat.le_of_ble_eq_true rfl) ⟨Nat.zero_le _, Nat.zero_le _⟩ dX2_neighbours_30 (fun H locs hP hD hS => ?_)
            refine lv_ior hx hb dX2_neighbours_33 ?_
            refine lv_istore_n (lv' := [(3, .int (x3 ||| (fX6_of x4))), (0, .int x0), (1, .int x1), (2, .int x2), (4, .int x4)]) hx hb dX2_neighbours_34 rfl hl (by decide) rfl (fun ls hl => ?_)
            refine lv_iinc (v := (x4 + 1)) (lv' := [(4, .int (x4 + 1)), (3, .int (x3 ||| (fX6_of x4))), (0, .int x0), (1, .int x1), (2, .int x2)]) hx hb dX2_neighbours_35 hl (k := 4) rfl rfl (by decide) rfl (fun ls hl => ?_)
            refine lv_goto (tgt := 5) hx hb dX2_neighbours_38 (by decide) ?_
            exact ih5 (x3 ||| (fX6_of x4)) (x4 + 1) _ _ _ hf hP hD hS (lv_sub hl [2, 3, 4, 1, 0] rfl)
  refine lv_iconst (v := (0 : Int32)) hx hb dX2_neighbours_0 (by decide) ?_
  refine lv_istore_n (lv' := [(3, .int (0 : Int32)), (0, .int x0), (1, .int x1), (2, .int x2)]) hx hb dX2_neighbours_1 rfl hl (by decide) rfl (fun ls hl => ?_)
  refine lv_iconst (v := (0 : Int32)) hx hb dX2_neighbours_2 (by decide) ?_
  refine lv_istore (lv' := [(4, .int (0 : Int32)), (3, .int (0 : Int32)), (0, .int x0), (1, .int x1), (2, .int x2)]) hx hb dX2_neighbours_3 hl (by decide) rfl (fun ls hl => ?_)
  exact L5  fuel (0 : Int32) (0 : Int32) _ _ _ hf hP hD hS (lv_sub hl [2, 3, 4, 1, 0] rfl)
set_option maxRecDepth 100000 in
set_option maxHeartbeats 4000000 in
theorem kX2_spread (l : Launch) (D : va_G) (cI cC cS : ClassId) (x0 : Int32) (x1 : Int32) (x2 : Int32) (o : Int32) (hf : fX2_spread x0 x1 x2 = some o) : CI l D yX2_spread wsX2_spread ({ frames := 2, cells := 0, slots := 0, locals := 43 } : Room) (tysK cI cC cS) [.int x0, .int x1, .int x2] [] o [] := by
  refine met_i (cc := cX2_spread) (maxL := 6) (ret := (some .int)) (by decide) rfl (Nat.le_of_ble_eq_true rfl) ?_
  intro p e s m args below meth c R Q A F hR hQ hP hK hD hA hS ls hl
  obtain ⟨hx, hb, hr, hts, hml, hlocks, hown⟩ := F
  have hown : s.vm.findClass RX2 = some m.cls := hown
  have hl : lv_has ls 6 [(0, .int x0), (1, .int x1), (2, .int x2)] := hl
  unfold fX2_spread at hf
  have L5 : ∀ (n5 : Nat) (x3 : Int32) (x4 : Int32) (H : Heap) (locs : List Loc) (ls : Array Slot), fX2_spread_l5 x0 x1 x2 n5 x3 x4 = some o → va_P D vwCl [] H → va_D A [] → va_S A s.heap H locs → lv_has ls 6 [(0, .int x0), (1, .int x1), (2, .int x2), (3, .int x3), (4, .int x4)] → W p l e R s m args below meth c H locs 0 0 Q (F0 m 5 ls []) := by
    intro n5
    induction n5 with
    | zero => intro x3 x4 H locs ls hf; cases (show (none : Option _) = some _ from hf)
    | succ n5 ih5 =>
      have L14 : ∀ (x4 : Int32) (n14 : Nat) (x3 : Int32) (x5 : Int32) (H : Heap) (locs : List Loc) (ls : Array Slot), fX2_spread_l14 (fX2_spread_l5 x0 x1 x2 n5) x0 x1 x2 x4 n14 x3 x5 = some o → va_P D vwCl [] H → va_D A [] → va_S A s.heap H locs → lv_has ls 6 [(0, .int x0), (1, .int x1), (2, .int x2), (3, .int x3), (4, .int x4), (5, .int x5)] → W p l e R s m args below meth c H locs 0 0 Q (F0 m 14 ls []) := by
        intro x4 n14
        induction n14 with
        | zero => intro x3 x5 H locs ls hf; cases (show (none : Option _) = some _ from hf)
        | succ n14 ih14 =>
          have J51 : ∀ (x5 : Int32) (y0 : Int32) (y1 : Int32) (H : Heap) (locs : List Loc) (ls : Array Slot), fX2_spread_b51 (fX2_spread_l5 x0 x1 x2 n5) (fX2_spread_l14 (fX2_spread_l5 x0 x1 x2 n5) x0 x1 x2 x4 n14) x0 x1 x2 x4 x5 y0 y1 = some o → va_P D vwCl [] H → va_D A [] → va_S A s.heap H locs → lv_has ls 6 [(0, .int x0), (1, .int x1), (2, .int x2), (4, .int x4), (5, .int x5)] → W p l e R s m args below meth c H locs 0 0 Q (F0 m 51 ls [.int y1, .int y0]) := by
            intro x5 y0 y1 H locs ls hf hP hD hS hl
            unfold fX2_spread_b51 at hf
            refine lv_ior hx hb dX2_spread_51 ?_
            refine lv_istore_n (lv' := [(3, .int (y0 ||| y1)), (0, .int x0), (1, .int x1), (2, .int x2), (4, .int x4), (5, .int x5)]) hx hb dX2_spread_52 rfl hl (by decide) rfl (fun ls hl => ?_)
            refine lv_iload_n hx hb dX2_spread_53 rfl (lv_at hl 0 rfl) ?_
            refine lv_iload_n hx hb dX2_spread_54 rfl (lv_at hl 2 rfl) ?_
            refine lv_iload hx hb dX2_spread_55 (lv_at hl 4 rfl) ?_
            refine cs_i (As := [.int x1, .int x4]) (rest := [.int (y0 ||| y1)]) hx hb hml hown hts hK hP hD hA hS (kX6_has l D cI cC cS  x1 x4  (fX6_has x1 x4) rfl) (va_cwS 2 hts gX2_spread_X6_has rfl rfl rfl (by decide +kernel) (by subst hR; exact ⟨Nat.le_of_ble_eq_true rfl, Nat.le_of_ble_eq_true rfl⟩)) rfl hl.1 rfl (Nat.le_of_ble_eq_true rfl) ⟨Nat.zero_le _, Nat.zero_le _⟩ dX2_spread_57 (fun H locs hP hD hS => ?_)
            refine lv_if_eq (tgt := 71) hx hb dX2_spread_60 (by decide) (fun c1 => ?_) (fun c1 => ?_)
            · have hf := if_t c1 hf
              refine lv_iconst (v := (0 : Int32)) hx hb dX2_spread_71 (by decide) ?_
              refine lv_ior hx hb dX2_spread_72 ?_
              refine lv_istore_n (lv' := [(3, .int ((y0 ||| y1) ||| (0 : Int32))), (0, .int x0), (1, .int x1), (2, .int x2), (4, .int x4), (5, .int x5)]) hx hb dX2_spread_73 rfl hl (by decide) rfl (fun ls hl => ?_)
              refine lv_iinc (v := (x5 + 1)) (lv' := [(5, .int (x5 + 1)), (3, .int ((y0 ||| y1) ||| (0 : Int32))), (0, .int x0), (1, .int x1), (2, .int x2), (4, .int x4)]) hx hb dX2_spread_74 hl (k := 5) rfl rfl (by decide) rfl (fun ls hl => ?_)
              refine lv_goto (tgt := 14) hx hb dX2_spread_77 (by decide) ?_
              exact ih14 ((y0 ||| y1) ||| (0 : Int32)) (x5 + 1) _ _ _ hf hP hD hS (lv_sub hl [2, 3, 4, 1, 5, 0] rfl)
            · have hf := if_f c1 hf
              refine lv_iload hx hb dX2_spread_63 (lv_at hl 5 rfl) ?_
              refine cs_i (As := [.int x5]) (rest := [.int (y0 ||| y1)]) hx hb hml hown hts hK hP hD hA hS (kX6_of l D cI cC cS  x5  (fX6_of x5) rfl) (va_cwS 1 hts gX2_spread_X6_of rfl rfl rfl (by decide +kernel) (by subst hR; exact ⟨Nat.le_of_ble_eq_true rfl, Nat.le_of_ble_eq_true rfl⟩)) rfl hl.1 rfl (Nat.le_of_ble_eq_true rfl) ⟨Nat.zero_le _, Nat.zero_le _⟩ dX2_spread_65 (fun H locs hP hD hS => ?_)
              refine lv_goto (tgt := 72) hx hb dX2_spread_68 (by decide) ?_
              refine lv_ior hx hb dX2_spread_72 ?_
              refine lv_istore_n (lv' := [(3, .int ((y0 ||| y1) ||| (fX6_of x5))), (0, .int x0), (1, .int x1), (2, .int x2), (4, .int x4), (5, .int x5)]) hx hb dX2_spread_73 rfl hl (by decide) rfl (fun ls hl => ?_)
              refine lv_iinc (v := (x5 + 1)) (lv' := [(5, .int (x5 + 1)), (3, .int ((y0 ||| y1) ||| (fX6_of x5))), (0, .int x0), (1, .int x1), (2, .int x2), (4, .int x4)]) hx hb dX2_spread_74 hl (k := 5) rfl rfl (by decide) rfl (fun ls hl => ?_)
              refine lv_goto (tgt := 14) hx hb dX2_spread_77 (by decide) ?_
              exact ih14 ((y0 ||| y1) ||| (fX6_of x5)) (x5 + 1) _ _ _ hf hP hD hS (lv_sub hl [2, 3, 4, 1, 5, 0] rfl)
          intro x3 x5 H locs ls hf hP hD hS hl
          rw [fX2_spread_l14] at hf
          refine lv_iload hx hb dX2_spread_14 (lv_at hl 5 rfl) ?_
          refine lv_iload hx hb dX2_spread_16 (lv_at hl 4 rfl) ?_
          refine lv_icmp_ge (tgt := 80) hx hb dX2_spread_18 (by decide) (fun c2 => ?_) (fun c2 => ?_)
          · have hf := if_t c2 hf
            refine lv_iinc (v := (x4 + 1)) (lv' := [(4, .int (x4 + 1)), (0, .int x0), (1, .int x1), (2, .int x2), (3, .int x3), (5, .int x5)]) hx hb dX2_spread_80 hl (k := 4) rfl rfl (by decide) rfl (fun ls hl => ?_)
            refine lv_goto (tgt := 5) hx hb dX2_spread_83 (by decide) ?_
            exact ih5 x3 (x4 + 1) _ _ _ hf hP hD hS (lv_sub hl [1, 2, 3, 4, 0] rfl)
          · have hf := if_f c2 hf
            refine lv_iload_n hx hb dX2_spread_21 rfl (lv_at hl 0 rfl) ?_
            refine lv_iload hx hb dX2_spread_22 (lv_at hl 5 rfl) ?_
            refine lv_iload hx hb dX2_spread_24 (lv_at hl 4 rfl) ?_
            refine cs_i (As := [.int x0, .int x5, .int x4]) (rest := []) hx hb hml hown hts hK hP hD hA hS (kX2_connects l D cI cC cS  x0 x5 x4  (fX2_connects x0 x5 x4) rfl) (va_cwS 3 hts gX2_spread_X2_connects rfl rfl rfl (by decide +kernel) (by subst hR; exact ⟨Nat.le_of_ble_eq_true rfl, Nat.le_of_ble_eq_true rfl⟩)) rfl hl.1 rfl (Nat.le_of_ble_eq_true rfl) ⟨Nat.zero_le _, Nat.zero_le _⟩ dX2_spread_26 (fun H locs hP hD hS => ?_)
            refine lv_if_eq (tgt := 74) hx hb dX2_spread_29 (by decide) (fun c3 => ?_) (fun c3 => ?_)
            · have hf := if_t c3 hf
              refine lv_iinc (v := (x5 + 1)) (lv' := [(5, .int (x5 + 1)), (0, .int x0), (1, .int x1), (2, .int x2), (3, .int x3), (4, .int x4)]) hx hb dX2_spread_74 hl (k := 5) rfl rfl (by decide) rfl (fun ls hl => ?_)
              refine lv_goto (tgt := 14) hx hb dX2_spread_77 (by decide) ?_
              exact ih14 x3 (x5 + 1) _ _ _ hf hP hD hS (lv_sub hl [1, 2, 3, 4, 5, 0] rfl)
            · have hf := if_f c3 hf
              refine lv_iload_n hx hb dX2_spread_32 rfl (lv_at hl 3 rfl) ?_
              refine lv_iload_n hx hb dX2_spread_33 rfl (lv_at hl 1 rfl) ?_
              refine lv_iload hx hb dX2_spread_34 (lv_at hl 5 rfl) ?_
              refine cs_i (As := [.int x1, .int x5]) (rest := [.int x3]) hx hb hml hown hts hK hP hD hA hS (kX6_has l D cI cC cS  x1 x5  (fX6_has x1 x5) rfl) (va_cwS 2 hts gX2_spread_X6_has rfl rfl rfl (by decide +kernel) (by subst hR; exact ⟨Nat.le_of_ble_eq_true rfl, Nat.le_of_ble_eq_true rfl⟩)) rfl hl.1 rfl (Nat.le_of_ble_eq_true rfl) ⟨Nat.zero_le _, Nat.zero_le _⟩ dX2_spread_36 (fun H locs hP hD hS => ?_)
              refine lv_if_eq (tgt := 50) hx hb dX2_spread_39 (by decide) (fun c4 => ?_) (fun c4 => ?_)
              · have hf := if_t c4 hf
                refine lv_iconst (v := (0 : Int32)) hx hb dX2_spread_50 (by decide) ?_
                exact J51 x5 x3 (0 : Int32) _ _ _ hf hP hD hS (lv_sub hl [0, 1, 2, 4, 5] rfl)
              · have hf := if_f c4 hf
                refine lv_iload hx hb dX2_spread_42 (lv_at hl 4 rfl) ?_
                refine cs_i (As := [.int x4]) (rest := [.int x3]) hx hb hml hown hts hK hP hD hA hS (kX6_of l D cI cC cS  x4  (fX6_of x4) rfl) (va_cwS 1 hts gX2_spread_X6_of rfl rfl rfl (by decide +kernel) (by subst hR; exact ⟨Nat.le_of_ble_eq_true rfl, Nat.le_of_ble_eq_true rfl⟩)) rfl hl.1 rfl (Nat.le_of_ble_eq_true rfl) ⟨Nat.zero_le _, Nat.zero_le _⟩ dX2_spread_44 (fun H locs hP hD hS => ?_)
                refine lv_goto (tgt := 51) hx hb dX2_spread_47 (by decide) ?_
                exact J51 x5 x3 (fX6_of x4) _ _ _ hf hP hD hS (lv_sub hl [0, 1, 2, 4, 5] rfl)
      intro x3 x4 H locs ls hf hP hD hS hl
      rw [fX2_spread_l5] at hf
      refine lv_iload hx hb dX2_spread_5 (lv_at hl 4 rfl) ?_
      refine lv_iload_n hx hb dX2_spread_7 rfl (lv_at hl 2 rfl) ?_
      refine lv_icmp_ge (tgt := 86) hx hb dX2_spread_8 (by decide) (fun c5 => ?_) (fun c5 => ?_)
      · have hf := if_t c5 hf
        refine lv_iload_n hx hb dX2_spread_86 rfl (lv_at hl 3 rfl) ?_
        have hf := Option.some.inj hf
        subst hf
        exact rt_i hx hb hr hlocks hQ hK hP hD hS rfl dX2_spread_87
      · have hf := if_f c5 hf
        refine lv_iconst (v := (0 : Int32)) hx hb dX2_spread_11 (by decide) ?_
        refine lv_istore (lv' := [(5, .int (0 : Int32)), (0, .int x0), (1, .int x1), (2, .int x2), (3, .int x3), (4, .int x4)]) hx hb dX2_spread_12 hl (by decide) rfl (fun ls hl => ?_)
        exact L14 x4 fuel x3 (0 : Int32) _ _ _ hf hP hD hS (lv_sub hl [1, 2, 3, 4, 5, 0] rfl)
  refine lv_iload_n hx hb dX2_spread_0 rfl (lv_at hl 1 rfl) ?_
  refine lv_istore_n (lv' := [(3, .int x1), (0, .int x0), (1, .int x1), (2, .int x2)]) hx hb dX2_spread_1 rfl hl (by decide) rfl (fun ls hl => ?_)
  refine lv_iconst (v := (1 : Int32)) hx hb dX2_spread_2 (by decide) ?_
  refine lv_istore (lv' := [(4, .int (1 : Int32)), (3, .int x1), (0, .int x0), (1, .int x1), (2, .int x2)]) hx hb dX2_spread_3 hl (by decide) rfl (fun ls hl => ?_)
  exact L5  fuel x1 (1 : Int32) _ _ _ hf hP hD hS (lv_sub hl [2, 3, 4, 1, 0] rfl)
