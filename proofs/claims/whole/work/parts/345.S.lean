set_option maxRecDepth 100000 in
set_option maxHeartbeats 4000000 in
theorem kX8_isWord (l : Launch) (D : va_G) (cI cC cS : ClassId) (adK adV : Nat → Nat) (Xa Xa_characters : Nat) (x1 : Nat) (hx1 : x1 < 7) (X_characters : Nat → Int32) (X_length : Int32) (X_kind : Int32) (X_start : Int32) (X_end : Int32) (o : Bool) (hf : fX8_isWord x1 X_characters X_length X_kind X_start X_end = some o) : CIS l D yX8_isWord wsX8_isWord ({ frames := 4, cells := 0, slots := 0, locals := 85 } : Room) (tysK cI cC cS) [.ref Xa, .ref (adK x1)] (sh_X8 Xa Xa_characters cI cC cS X_characters X_length X_kind X_start X_end) (b2i o) (sh_X8 Xa Xa_characters cI cC cS X_characters X_length X_kind X_start X_end) adK adV := by
  refine met_is (cc := cX8_isWord) (maxL := 3) (ret := (some .boolean)) (by decide) rfl (Nat.le_of_ble_eq_true rfl) ?_
  intro p e s m args below meth c R Q A hE F hR hQ hP hK hD hA hS ls hl
  obtain ⟨hx, hb, hr, hts, hml, hlocks, hown⟩ := F
  have hown : s.vm.findClass RX8 = some m.cls := hown
  have hi_X8 : ∀ w ∈ u_ws RX8 TX8 5, w ∈ wsX8_isWord := fun w h => List.mem_cons_of_mem _ (List.mem_append_right _ h)
  have q35 := hts (.fieldLink RX8 35 "ChangingRounds$ScheduleText" "kind" "I") (by decide +kernel)
  have q29 := hts (.fieldLink RX8 29 "ChangingRounds$ScheduleText" "end" "I") (by decide +kernel)
  have q42 := hts (.fieldLink RX8 42 "ChangingRounds$ScheduleText" "start" "I") (by decide +kernel)
  have hl : lv_has ls 3 [(0, .ref Xa), (1, .ref (adK x1))] := hl
  unfold fX8_isWord at hf
  have L28 : ∀ (n28 : Nat) (x2 : Int32) (H : Heap) (locs : List Loc) (ls : Array Slot), fX8_isWord_l28 x1 X_characters X_length X_start n28 x2 = some o → va_P D vwCl (sh_X8 Xa Xa_characters cI cC cS X_characters X_length X_kind X_start X_end) H → va_D A (sh_X8 Xa Xa_characters cI cC cS X_characters X_length X_kind X_start X_end) → va_S A s.heap H locs → lv_has ls 3 [(0, .ref Xa), (1, .ref (adK x1)), (2, .int x2)] → W p l e R s m args below meth c H locs 0 0 Q (F0 m 28 ls []) := by
    intro n28
    induction n28 with
    | zero => intro x2 H locs ls hf; cases (show (none : Option _) = some _ from hf)
    | succ n28 ih28 =>
      intro x2 H locs ls hf hP hD hS hl
      rw [fX8_isWord_l28] at hf
      refine lv_iload_n hx hb dX8_isWord_28 rfl (lv_at hl 2 rfl) ?_
      refine lv_aload_n hx hb dX8_isWord_29 rfl (lv_at hl 1 rfl) ?_
      refine cj_i (As := []) (rest := [.int x2]) hE hx hb hml hown hts hK hP hD hA hS hx1 (kJ0_length l D cI cC cS adK adV x1 hx1) (cwV 0 hts gX8_isWord_J0_length_8abf5 rfl rfl rfl (by decide +kernel) (by subst hR; exact ⟨Nat.le_of_ble_eq_true rfl, Nat.le_of_ble_eq_true rfl⟩)) rfl hl.1 rfl (Nat.le_of_ble_eq_true rfl) ⟨Nat.zero_le _, Nat.zero_le _⟩ dX8_isWord_30 (fun H locs hP hD hS => ?_)
      refine lv_icmp_ge (tgt := 62) hx hb dX8_isWord_33 (by decide) (fun c1 => ?_) (fun c1 => ?_)
      · have hf := if_t c1 hf
        refine lv_iconst (v := (1 : Int32)) hx hb dX8_isWord_62 (by decide) ?_
        have hf := Option.some.inj hf
        subst hf
        exact rt_z (ty := .boolean) hx hb hr rfl hlocks hQ hK hP hD hS rfl dX8_isWord_63
      · have hf := if_f c1 hf
        refine lv_aload_n hx hb dX8_isWord_36 rfl (lv_at hl 0 rfl) ?_
        refine lv_aload_n hx hb dX8_isWord_37 rfl (lv_at hl 0 rfl) ?_
        refine va_get (D := D) (ci := 5) (v := .int X_start) (C := RX8) (T := TX8) (N := 5) hx hb hts hi_X8 hown hK hP 0 rfl rfl 3 (by decide) q42 (fun _ h9 => h9) rfl dX8_isWord_38 ?_
        refine lv_iload_n hx hb dX8_isWord_41 rfl (lv_at hl 2 rfl) ?_
        refine lv_iadd hx hb dX8_isWord_42 ?_
        obtain ⟨o2, ho2, hf⟩ := bd_some hf
        refine cv_i (ci := 5) (q := (RX8, TX8, 5)) (As := [.int (X_start + x2)]) (rest := []) hx hb hml hown hts hK hP hD hA hS (kX8_characterAt l D cI cC cS Xa Xa_characters (X_start + x2) X_characters X_length X_kind X_start X_end o2 ho2) (cwV 1 hts gX8_isWord_X8_characterAt rfl rfl rfl (by decide +kernel) (by subst hR; exact ⟨Nat.le_of_ble_eq_true rfl, Nat.le_of_ble_eq_true rfl⟩)) [0, 1] [] [0, 1] [] (sh_X8 Xa Xa_characters cI cC cS X_characters X_length X_kind X_start X_end) rfl rfl rfl rfl (by decide) rfl rfl rfl rfl rfl rfl hl.1 rfl (Nat.le_of_ble_eq_true rfl) ⟨Nat.zero_le _, Nat.zero_le _⟩ dX8_isWord_43 (fun H locs hP hD hS => ?_)
        refine lv_aload_n hx hb dX8_isWord_46 rfl (lv_at hl 1 rfl) ?_
        refine lv_iload_n hx hb dX8_isWord_47 rfl (lv_at hl 2 rfl) ?_
        obtain ⟨hz, hf⟩ := ck_some hf
        refine cj_i (As := [.int x2]) (rest := [.int o2]) hE hx hb hml hown hts hK hP hD hA hS hx1 (kJ0_charAt l D cI cC cS adK adV x1 hx1 x2 hz) (cwV 1 hts gX8_isWord_J0_charAt_5068e rfl rfl rfl (by decide +kernel) (by subst hR; exact ⟨Nat.le_of_ble_eq_true rfl, Nat.le_of_ble_eq_true rfl⟩)) rfl hl.1 rfl (Nat.le_of_ble_eq_true rfl) ⟨Nat.zero_le _, Nat.zero_le _⟩ dX8_isWord_48 (fun H locs hP hD hS => ?_)
        refine lv_icmp_eq (tgt := 56) hx hb dX8_isWord_51 (by decide) (fun c3 => ?_) (fun c3 => ?_)
        · have hf := if_t c3 hf
          refine lv_iinc (v := (x2 + 1)) (lv' := [(2, .int (x2 + 1)), (0, .ref Xa), (1, .ref (adK x1))]) hx hb dX8_isWord_56 hl (k := 2) rfl rfl (by decide) rfl (fun ls hl => ?_)
          refine lv_goto (tgt := 28) hx hb dX8_isWord_59 (by decide) ?_
          exact ih28 (x2 + 1) _ _ _ hf hP hD hS (lv_sub hl [1, 2, 0] rfl)
        · have hf := if_f c3 hf
          refine lv_iconst (v := (0 : Int32)) hx hb dX8_isWord_54 (by decide) ?_
          have hf := Option.some.inj hf
          subst hf
          exact rt_z (ty := .boolean) hx hb hr rfl hlocks hQ hK hP hD hS rfl dX8_isWord_55
  refine lv_aload_n hx hb dX8_isWord_0 rfl (lv_at hl 0 rfl) ?_
  refine va_get (D := D) (ci := 5) (v := .int X_kind) (C := RX8) (T := TX8) (N := 5) hx hb hts hi_X8 hown hK hP 0 rfl rfl 2 (by decide) q35 (fun _ h9 => h9) rfl dX8_isWord_1 ?_
  refine lv_iconst (v := (1 : Int32)) hx hb dX8_isWord_4 (by decide) ?_
  refine lv_icmp_ne (tgt := 24) hx hb dX8_isWord_5 (by decide) (fun c4 => ?_) (fun c4 => ?_)
  · have hf := if_f c4 hf
    refine lv_iconst (v := (0 : Int32)) hx hb dX8_isWord_24 (by decide) ?_
    have hf := Option.some.inj hf
    subst hf
    exact rt_z (ty := .boolean) hx hb hr rfl hlocks hQ hK hP hD hS rfl dX8_isWord_25
  · have hf := if_t c4 hf
    refine lv_aload_n hx hb dX8_isWord_8 rfl (lv_at hl 0 rfl) ?_
    refine va_get (D := D) (ci := 5) (v := .int X_end) (C := RX8) (T := TX8) (N := 5) hx hb hts hi_X8 hown hK hP 0 rfl rfl 4 (by decide) q29 (fun _ h9 => h9) rfl dX8_isWord_9 ?_
    refine lv_aload_n hx hb dX8_isWord_12 rfl (lv_at hl 0 rfl) ?_
    refine va_get (D := D) (ci := 5) (v := .int X_start) (C := RX8) (T := TX8) (N := 5) hx hb hts hi_X8 hown hK hP 0 rfl rfl 3 (by decide) q42 (fun _ h9 => h9) rfl dX8_isWord_13 ?_
    refine lv_isub hx hb dX8_isWord_16 ?_
    refine lv_aload_n hx hb dX8_isWord_17 rfl (lv_at hl 1 rfl) ?_
    refine cj_i (As := []) (rest := [.int (X_end - X_start)]) hE hx hb hml hown hts hK hP hD hA hS hx1 (kJ0_length l D cI cC cS adK adV x1 hx1) (cwV 0 hts gX8_isWord_J0_length_8abf5 rfl rfl rfl (by decide +kernel) (by subst hR; exact ⟨Nat.le_of_ble_eq_true rfl, Nat.le_of_ble_eq_true rfl⟩)) rfl hl.1 rfl (Nat.le_of_ble_eq_true rfl) ⟨Nat.zero_le _, Nat.zero_le _⟩ dX8_isWord_18 (fun H locs hP hD hS => ?_)
    refine lv_icmp_eq (tgt := 26) hx hb dX8_isWord_21 (by decide) (fun c5 => ?_) (fun c5 => ?_)
    · have hf := if_t c5 hf
      refine lv_iconst (v := (0 : Int32)) hx hb dX8_isWord_26 (by decide) ?_
      refine lv_istore_n (lv' := [(2, .int (0 : Int32)), (0, .ref Xa), (1, .ref (adK x1))]) hx hb dX8_isWord_27 rfl hl (by decide) rfl (fun ls hl => ?_)
      exact L28  fuel (0 : Int32) _ _ _ hf hP hD hS (lv_sub hl [1, 2, 0] rfl)
    · have hf := if_f c5 hf
      refine lv_iconst (v := (0 : Int32)) hx hb dX8_isWord_24 (by decide) ?_
      have hf := Option.some.inj hf
      subst hf
      exact rt_z (ty := .boolean) hx hb hr rfl hlocks hQ hK hP hD hS rfl dX8_isWord_25
set_option maxRecDepth 100000 in
set_option maxHeartbeats 4000000 in
theorem kX8_readPlainRound (l : Launch) (D : va_G) (cI cC cS : ClassId) (adK adV : Nat → Nat) (Xa Xa_characters Da Da_roundEdges Da_values : Nat) (X_characters : Nat → Int32) (X_length : Int32) (X_kind : Int32) (X_start : Int32) (X_end : Int32) (D_roundEdges : Nat → Int32) (D_values : Nat → Int32) (D_nodes : Int32) (D_rounds : Int32) (o : Bool × Int32 × Int32 × Int32 × (Nat → Int32) × Int32) (hf : fX8_readPlainRound X_characters X_length X_kind X_start X_end D_roundEdges D_nodes D_rounds = some o) : CIS l D yX8_readPlainRound wsX8_readPlainRound ({ frames := 5, cells := 0, slots := 0, locals := 107 } : Room) (tysK cI cC cS) [.ref Xa, .ref Da] (sh_X8d Xa Xa_characters Da Da_roundEdges Da_values cI cC cS X_characters X_length X_kind X_start X_end D_roundEdges D_values D_nodes D_rounds) (b2i o.1) (sh_X8d Xa Xa_characters Da Da_roundEdges Da_values cI cC cS X_characters X_length o.2.1 o.2.2.1 o.2.2.2.1 o.2.2.2.2.1 D_values D_nodes o.2.2.2.2.2) adK adV := by
  refine met_is (cc := cX8_readPlainRound) (maxL := 3) (ret := (some .boolean)) (by decide) rfl (Nat.le_of_ble_eq_true rfl) ?_
  intro p e s m args below meth c R Q A hE F hR hQ hP hK hD hA hS ls hl
  obtain ⟨hx, hb, hr, hts, hml, hlocks, hown⟩ := F
  have hown : s.vm.findClass RX8 = some m.cls := hown
  have hl : lv_has ls 3 [(0, .ref Xa), (1, .ref Da)] := hl
  unfold fX8_readPlainRound at hf
  have J87 : ∀ (X_kind : Int32) (X_start : Int32) (X_end : Int32) (D_roundEdges : Nat → Int32) (D_rounds : Int32) (H : Heap) (locs : List Loc) (ls : Array Slot), fX8_readPlainRound_b87 X_characters X_length X_kind X_start X_end D_roundEdges D_rounds = some o → va_P D vwCl (sh_X8d Xa Xa_characters Da Da_roundEdges Da_values cI cC cS X_characters X_length X_kind X_start X_end D_roundEdges D_values D_nodes D_rounds) H → va_D A (sh_X8d Xa Xa_characters Da Da_roundEdges Da_values cI cC cS X_characters X_length X_kind X_start X_end D_roundEdges D_values D_nodes D_rounds) → va_S A s.heap H locs → lv_has ls 3 [(0, .ref Xa)] → W p l e R s m args below meth c H locs 0 0 Q (F0 m 87 ls []) := by
    intro X_kind X_start X_end D_roundEdges D_rounds H locs ls hf hP hD hS hl
    unfold fX8_readPlainRound_b87 at hf
    refine lv_aload_n hx hb dX8_readPlainRound_87 rfl (lv_at hl 0 rfl) ?_
    obtain ⟨o1, ho1, hf⟩ := bd_some hf
    refine cv_v (ci := 5) (q := (RX8, TX8, 5)) (As := []) (rest := []) hx hb hml hown hts hK hP hD hA hS (kX8_nextToken l D cI cC cS Xa Xa_characters  X_characters X_length X_kind X_start X_end o1 ho1) (cwV 0 hts gX8_readPlainRound_X8_nextToken rfl rfl rfl (by decide +kernel) (by subst hR; exact ⟨Nat.le_of_ble_eq_true rfl, Nat.le_of_ble_eq_true rfl⟩)) [0, 1] [2, 3, 4] [3, 4, 0, 1, 2] [(Da, .inr (4, [.ref Da_roundEdges, .ref Da_values, .int D_nodes, .int D_rounds])), (Da_roundEdges, .inl (cI, 16, .inl D_roundEdges)), (Da_values, .inl (cI, 8, .inl D_values))] (sh_X8d Xa Xa_characters Da Da_roundEdges Da_values cI cC cS X_characters X_length o1.1 o1.2.1 o1.2.2 D_roundEdges D_values D_nodes D_rounds) rfl rfl rfl rfl (by decide) rfl rfl rfl rfl rfl rfl hl.1 rfl (Nat.le_of_ble_eq_true rfl) ⟨Nat.zero_le _, Nat.zero_le _⟩ dX8_readPlainRound_88 (fun H locs hP hD hS => ?_)
    refine lv_iconst (v := (1 : Int32)) hx hb dX8_readPlainRound_91 (by decide) ?_
    have hf := Option.some.inj hf
    subst hf
    exact rt_z (ty := .boolean) hx hb hr rfl hlocks hQ hK hP hD hS rfl dX8_readPlainRound_92
  refine lv_aload_n hx hb dX8_readPlainRound_0 rfl (lv_at hl 1 rfl) ?_
  refine cv_i (ci := 4) (q := (RX7, TX7, 4)) (As := []) (rest := []) hx hb hml hown hts hK hP hD hA hS (kX7_nodes l D cI cC cS Da Da_roundEdges Da_values  D_roundEdges D_values D_nodes D_rounds (fX7_nodes D_nodes) rfl) (cwV 0 hts gX8_readPlainRound_X7_nodes rfl rfl rfl (by decide +kernel) (by subst hR; exact ⟨Nat.le_of_ble_eq_true rfl, Nat.le_of_ble_eq_true rfl⟩)) [2, 3, 4] [0, 1] [0, 1, 2, 3, 4] [(Xa, .inr (5, [.ref Xa_characters, .int X_length, .int X_kind, .int X_start, .int X_end])), (Xa_characters, .inl (cC, 120, .inl X_characters))] (sh_X8d Xa Xa_characters Da Da_roundEdges Da_values cI cC cS X_characters X_length X_kind X_start X_end D_roundEdges D_values D_nodes D_rounds) rfl rfl rfl rfl (by decide) rfl rfl rfl rfl rfl rfl hl.1 rfl (Nat.le_of_ble_eq_true rfl) ⟨Nat.zero_le _, Nat.zero_le _⟩ dX8_readPlainRound_1 (fun H locs hP hD hS => ?_)
  refine lv_istore_n (lv' := [(2, .int (fX7_nodes D_nodes)), (0, .ref Xa), (1, .ref Da)]) hx hb dX8_readPlainRound_4 rfl hl (by decide) rfl (fun ls hl => ?_)
  refine lv_aload_n hx hb dX8_readPlainRound_5 rfl (lv_at hl 1 rfl) ?_
  refine va_ldcS hx hb hown hE.2.2.2.2.2.2.1 dX8_readPlainRound_6 ?_
  obtain ⟨o2, ho2, hf⟩ := bd_some hf
  refine cv_is (ci := 5) (q := (RX8, TX8, 5)) (As := [.ref (adK 3)]) (rest := []) hE hx hb hml hown hts hK hP hD hA hS (kX8_isWord l D cI cC cS adK adV Xa Xa_characters 3 (by decide) X_characters X_length X_kind X_start X_end o2 ho2) (cwV 1 hts gX8_readPlainRound_X8_isWord rfl rfl rfl (by decide +kernel) (by subst hR; exact ⟨Nat.le_of_ble_eq_true rfl, Nat.le_of_ble_eq_true rfl⟩)) [0, 1] [2, 3, 4] [3, 4, 0, 1, 2] [(Da, .inr (4, [.ref Da_roundEdges, .ref Da_values, .int D_nodes, .int D_rounds])), (Da_roundEdges, .inl (cI, 16, .inl D_roundEdges)), (Da_values, .inl (cI, 8, .inl D_values))] (sh_X8d Xa Xa_characters Da Da_roundEdges Da_values cI cC cS X_characters X_length X_kind X_start X_end D_roundEdges D_values D_nodes D_rounds) rfl rfl rfl rfl (by decide) rfl rfl rfl rfl rfl rfl hl.1 rfl (Nat.le_of_ble_eq_true rfl) ⟨Nat.zero_le _, Nat.zero_le _⟩ dX8_readPlainRound_8 (fun H locs hP hD hS => ?_)
  refine lv_if_eq (tgt := 22) hx hb dX8_readPlainRound_11 (by decide) (fun c3 => ?_) (fun c3 => ?_)
  · have hf := if_t c3 hf
    refine lv_aload_n hx hb dX8_readPlainRound_22 rfl (lv_at hl 1 rfl) ?_
    refine va_ldcS hx hb hown hE.2.2.2.2.2.2.2.1 dX8_readPlainRound_23 ?_
    obtain ⟨o4, ho4, hf⟩ := bd_some hf
    refine cv_is (ci := 5) (q := (RX8, TX8, 5)) (As := [.ref (adK 4)]) (rest := []) hE hx hb hml hown hts hK hP hD hA hS (kX8_isWord l D cI cC cS adK adV Xa Xa_characters 4 (by decide) X_characters X_length X_kind X_start X_end o4 ho4) (cwV 1 hts gX8_readPlainRound_X8_isWord rfl rfl rfl (by decide +kernel) (by subst hR; exact ⟨Nat.le_of_ble_eq_true rfl, Nat.le_of_ble_eq_true rfl⟩)) [0, 1] [2, 3, 4] [3, 4, 0, 1, 2] [(Da, .inr (4, [.ref Da_roundEdges, .ref Da_values, .int D_nodes, .int D_rounds])), (Da_roundEdges, .inl (cI, 16, .inl D_roundEdges)), (Da_values, .inl (cI, 8, .inl D_values))] (sh_X8d Xa Xa_characters Da Da_roundEdges Da_values cI cC cS X_characters X_length X_kind X_start X_end D_roundEdges D_values D_nodes D_rounds) rfl rfl rfl rfl (by decide) rfl rfl rfl rfl rfl rfl hl.1 rfl (Nat.le_of_ble_eq_true rfl) ⟨Nat.zero_le _, Nat.zero_le _⟩ dX8_readPlainRound_25 (fun H locs hP hD hS => ?_)
    refine lv_if_eq (tgt := 45) hx hb dX8_readPlainRound_28 (by decide) (fun c5 => ?_) (fun c5 => ?_)
    · have hf := if_t c5 hf
      refine lv_aload_n hx hb dX8_readPlainRound_45 rfl (lv_at hl 1 rfl) ?_
      refine va_ldcS hx hb hown hE.2.2.2.2.2.2.2.2.1 dX8_readPlainRound_46 ?_
      obtain ⟨o6, ho6, hf⟩ := bd_some hf
      refine cv_is (ci := 5) (q := (RX8, TX8, 5)) (As := [.ref (adK 5)]) (rest := []) hE hx hb hml hown hts hK hP hD hA hS (kX8_isWord l D cI cC cS adK adV Xa Xa_characters 5 (by decide) X_characters X_length X_kind X_start X_end o6 ho6) (cwV 1 hts gX8_readPlainRound_X8_isWord rfl rfl rfl (by decide +kernel) (by subst hR; exact ⟨Nat.le_of_ble_eq_true rfl, Nat.le_of_ble_eq_true rfl⟩)) [0, 1] [2, 3, 4] [3, 4, 0, 1, 2] [(Da, .inr (4, [.ref Da_roundEdges, .ref Da_values, .int D_nodes, .int D_rounds])), (Da_roundEdges, .inl (cI, 16, .inl D_roundEdges)), (Da_values, .inl (cI, 8, .inl D_values))] (sh_X8d Xa Xa_characters Da Da_roundEdges Da_values cI cC cS X_characters X_length X_kind X_start X_end D_roundEdges D_values D_nodes D_rounds) rfl rfl rfl rfl (by decide) rfl rfl rfl rfl rfl rfl hl.1 rfl (Nat.le_of_ble_eq_true rfl) ⟨Nat.zero_le _, Nat.zero_le _⟩ dX8_readPlainRound_48 (fun H locs hP hD hS => ?_)
      refine lv_if_eq (tgt := 65) hx hb dX8_readPlainRound_51 (by decide) (fun c7 => ?_) (fun c7 => ?_)
      · have hf := if_t c7 hf
        refine lv_aload_n hx hb dX8_readPlainRound_65 rfl (lv_at hl 1 rfl) ?_
        refine va_ldcS hx hb hown hE.2.2.2.2.2.2.2.2.2 dX8_readPlainRound_66 ?_
        obtain ⟨o8, ho8, hf⟩ := bd_some hf
        refine cv_is (ci := 5) (q := (RX8, TX8, 5)) (As := [.ref (adK 6)]) (rest := []) hE hx hb hml hown hts hK hP hD hA hS (kX8_isWord l D cI cC cS adK adV Xa Xa_characters 6 (by decide) X_characters X_length X_kind X_start X_end o8 ho8) (cwV 1 hts gX8_readPlainRound_X8_isWord rfl rfl rfl (by decide +kernel) (by subst hR; exact ⟨Nat.le_of_ble_eq_true rfl, Nat.le_of_ble_eq_true rfl⟩)) [0, 1] [2, 3, 4] [3, 4, 0, 1, 2] [(Da, .inr (4, [.ref Da_roundEdges, .ref Da_values, .int D_nodes, .int D_rounds])), (Da_roundEdges, .inl (cI, 16, .inl D_roundEdges)), (Da_values, .inl (cI, 8, .inl D_values))] (sh_X8d Xa Xa_characters Da Da_roundEdges Da_values cI cC cS X_characters X_length X_kind X_start X_end D_roundEdges D_values D_nodes D_rounds) rfl rfl rfl rfl (by decide) rfl rfl rfl rfl rfl rfl hl.1 rfl (Nat.le_of_ble_eq_true rfl) ⟨Nat.zero_le _, Nat.zero_le _⟩ dX8_readPlainRound_68 (fun H locs hP hD hS => ?_)
        refine lv_if_eq (tgt := 85) hx hb dX8_readPlainRound_71 (by decide) (fun c9 => ?_) (fun c9 => ?_)
        · have hf := if_t c9 hf
          refine lv_iconst (v := (0 : Int32)) hx hb dX8_readPlainRound_85 (by decide) ?_
          have hf := Option.some.inj hf
          subst hf
          exact rt_z (ty := .boolean) hx hb hr rfl hlocks hQ hK hP hD hS rfl dX8_readPlainRound_86
        · have hf := if_f c9 hf
          refine lv_aload_n hx hb dX8_readPlainRound_74 rfl (lv_at hl 2 rfl) ?_
          refine lv_iload_n hx hb dX8_readPlainRound_75 rfl (lv_at hl 0 rfl) ?_
          obtain ⟨o10, ho10, hf⟩ := bd_some hf
          refine cs_i (As := [.int (fX7_nodes D_nodes)]) (rest := [.ref Da]) hx hb hml hown hts hK hP hD hA hS (kX2_ring l D cI cC cS  (fX7_nodes D_nodes)  o10 ho10) (va_cwS 1 hts gX8_readPlainRound_X2_ring rfl rfl rfl (by decide +kernel) (by subst hR; exact ⟨Nat.le_of_ble_eq_true rfl, Nat.le_of_ble_eq_true rfl⟩)) rfl hl.1 rfl (Nat.le_of_ble_eq_true rfl) ⟨Nat.zero_le _, Nat.zero_le _⟩ dX8_readPlainRound_76 (fun H locs hP hD hS => ?_)
          obtain ⟨o11, ho11, hf⟩ := bd_some hf
          refine cv_v (ci := 4) (q := (RX7, TX7, 4)) (As := [.int o10]) (rest := []) hx hb hml hown hts hK hP hD hA hS (kX7_append l D cI cC cS Da Da_roundEdges Da_values o10 D_roundEdges D_values D_nodes D_rounds o11 ho11) (cwV 1 hts gX8_readPlainRound_X7_append rfl rfl rfl (by decide +kernel) (by subst hR; exact ⟨Nat.le_of_ble_eq_true rfl, Nat.le_of_ble_eq_true rfl⟩)) [2, 3, 4] [0, 1] [0, 1, 2, 3, 4] [(Xa, .inr (5, [.ref Xa_characters, .int X_length, .int X_kind, .int X_start, .int X_end])), (Xa_characters, .inl (cC, 120, .inl X_characters))] (sh_X8d Xa Xa_characters Da Da_roundEdges Da_values cI cC cS X_characters X_length X_kind X_start X_end o11.1 D_values D_nodes o11.2) rfl rfl rfl rfl (by decide) rfl rfl rfl rfl rfl rfl hl.1 rfl (Nat.le_of_ble_eq_true rfl) ⟨Nat.zero_le _, Nat.zero_le _⟩ dX8_readPlainRound_79 (fun H locs hP hD hS => ?_)
          refine lv_goto (tgt := 87) hx hb dX8_readPlainRound_82 (by decide) ?_
          exact J87 X_kind X_start X_end o11.1 o11.2 _ _ _ hf hP hD hS (lv_sub hl [1] rfl)
      · have hf := if_f c7 hf
        refine lv_aload_n hx hb dX8_readPlainRound_54 rfl (lv_at hl 2 rfl) ?_
        refine lv_iload_n hx hb dX8_readPlainRound_55 rfl (lv_at hl 0 rfl) ?_
        obtain ⟨o12, ho12, hf⟩ := bd_some hf
        refine cs_i (As := [.int (fX7_nodes D_nodes)]) (rest := [.ref Da]) hx hb hml hown hts hK hP hD hA hS (kX2_path l D cI cC cS  (fX7_nodes D_nodes)  o12 ho12) (va_cwS 1 hts gX8_readPlainRound_X2_path rfl rfl rfl (by decide +kernel) (by subst hR; exact ⟨Nat.le_of_ble_eq_true rfl, Nat.le_of_ble_eq_true rfl⟩)) rfl hl.1 rfl (Nat.le_of_ble_eq_true rfl) ⟨Nat.zero_le _, Nat.zero_le _⟩ dX8_readPlainRound_56 (fun H locs hP hD hS => ?_)
        obtain ⟨o13, ho13, hf⟩ := bd_some hf
        refine cv_v (ci := 4) (q := (RX7, TX7, 4)) (As := [.int o12]) (rest := []) hx hb hml hown hts hK hP hD hA hS (kX7_append l D cI cC cS Da Da_roundEdges Da_values o12 D_roundEdges D_values D_nodes D_rounds o13 ho13) (cwV 1 hts gX8_readPlainRound_X7_append rfl rfl rfl (by decide +kernel) (by subst hR; exact ⟨Nat.le_of_ble_eq_true rfl, Nat.le_of_ble_eq_true rfl⟩)) [2, 3, 4] [0, 1] [0, 1, 2, 3, 4] [(Xa, .inr (5, [.ref Xa_characters, .int X_length, .int X_kind, .int X_start, .int X_end])), (Xa_characters, .inl (cC, 120, .inl X_characters))] (sh_X8d Xa Xa_characters Da Da_roundEdges Da_values cI cC cS X_characters X_length X_kind X_start X_end o13.1 D_values D_nodes o13.2) rfl rfl rfl rfl (by decide) rfl rfl rfl rfl rfl rfl hl.1 rfl (Nat.le_of_ble_eq_true rfl) ⟨Nat.zero_le _, Nat.zero_le _⟩ dX8_readPlainRound_59 (fun H locs hP hD hS => ?_)
        refine lv_goto (tgt := 87) hx hb dX8_readPlainRound_62 (by decide) ?_
        exact J87 X_kind X_start X_end o13.1 o13.2 _ _ _ hf hP hD hS (lv_sub hl [1] rfl)
    · have hf := if_f c5 hf
      refine lv_aload_n hx hb dX8_readPlainRound_31 rfl (lv_at hl 2 rfl) ?_
      refine lv_iload_n hx hb dX8_readPlainRound_32 rfl (lv_at hl 0 rfl) ?_
      refine cs_i (As := [.int (fX7_nodes D_nodes)]) (rest := [.ref Da]) hx hb hml hown hts hK hP hD hA hS (kX6_firstOnes l D cI cC cS  (fX7_nodes D_nodes)  (fX6_firstOnes (fX7_nodes D_nodes)) rfl) (va_cwS 1 hts gX8_readPlainRound_X6_firstOnes rfl rfl rfl (by decide +kernel) (by subst hR; exact ⟨Nat.le_of_ble_eq_true rfl, Nat.le_of_ble_eq_true rfl⟩)) rfl hl.1 rfl (Nat.le_of_ble_eq_true rfl) ⟨Nat.zero_le _, Nat.zero_le _⟩ dX8_readPlainRound_33 (fun H locs hP hD hS => ?_)
      obtain ⟨o14, ho14, hf⟩ := bd_some hf
      refine cs_i (As := [.int (fX6_firstOnes (fX7_nodes D_nodes))]) (rest := [.ref Da]) hx hb hml hown hts hK hP hD hA hS (kX2_clique l D cI cC cS  (fX6_firstOnes (fX7_nodes D_nodes))  o14 ho14) (va_cwS 1 hts gX8_readPlainRound_X2_clique rfl rfl rfl (by decide +kernel) (by subst hR; exact ⟨Nat.le_of_ble_eq_true rfl, Nat.le_of_ble_eq_true rfl⟩)) rfl hl.1 rfl (Nat.le_of_ble_eq_true rfl) ⟨Nat.zero_le _, Nat.zero_le _⟩ dX8_readPlainRound_36 (fun H locs hP hD hS => ?_)
      obtain ⟨o15, ho15, hf⟩ := bd_some hf
      refine cv_v (ci := 4) (q := (RX7, TX7, 4)) (As := [.int o14]) (rest := []) hx hb hml hown hts hK hP hD hA hS (kX7_append l D cI cC cS Da Da_roundEdges Da_values o14 D_roundEdges D_values D_nodes D_rounds o15 ho15) (cwV 1 hts gX8_readPlainRound_X7_append rfl rfl rfl (by decide +kernel) (by subst hR; exact ⟨Nat.le_of_ble_eq_true rfl, Nat.le_of_ble_eq_true rfl⟩)) [2, 3, 4] [0, 1] [0, 1, 2, 3, 4] [(Xa, .inr (5, [.ref Xa_characters, .int X_length, .int X_kind, .int X_start, .int X_end])), (Xa_characters, .inl (cC, 120, .inl X_characters))] (sh_X8d Xa Xa_characters Da Da_roundEdges Da_values cI cC cS X_characters X_length X_kind X_start X_end o15.1 D_values D_nodes o15.2) rfl rfl rfl rfl (by decide) rfl rfl rfl rfl rfl rfl hl.1 rfl (Nat.le_of_ble_eq_true rfl) ⟨Nat.zero_le _, Nat.zero_le _⟩ dX8_readPlainRound_39 (fun H locs hP hD hS => ?_)
      refine lv_goto (tgt := 87) hx hb dX8_readPlainRound_42 (by decide) ?_
      exact J87 X_kind X_start X_end o15.1 o15.2 _ _ _ hf hP hD hS (lv_sub hl [1] rfl)
  · have hf := if_f c3 hf
    refine lv_aload_n hx hb dX8_readPlainRound_14 rfl (lv_at hl 2 rfl) ?_
    refine lv_iconst (v := (0 : Int32)) hx hb dX8_readPlainRound_15 (by decide) ?_
    obtain ⟨o16, ho16, hf⟩ := bd_some hf
    refine cv_v (ci := 4) (q := (RX7, TX7, 4)) (As := [.int (0 : Int32)]) (rest := []) hx hb hml hown hts hK hP hD hA hS (kX7_append l D cI cC cS Da Da_roundEdges Da_values (0 : Int32) D_roundEdges D_values D_nodes D_rounds o16 ho16) (cwV 1 hts gX8_readPlainRound_X7_append rfl rfl rfl (by decide +kernel) (by subst hR; exact ⟨Nat.le_of_ble_eq_true rfl, Nat.le_of_ble_eq_true rfl⟩)) [2, 3, 4] [0, 1] [0, 1, 2, 3, 4] [(Xa, .inr (5, [.ref Xa_characters, .int X_length, .int X_kind, .int X_start, .int X_end])), (Xa_characters, .inl (cC, 120, .inl X_characters))] (sh_X8d Xa Xa_characters Da Da_roundEdges Da_values cI cC cS X_characters X_length X_kind X_start X_end o16.1 D_values D_nodes o16.2) rfl rfl rfl rfl (by decide) rfl rfl rfl rfl rfl rfl hl.1 rfl (Nat.le_of_ble_eq_true rfl) ⟨Nat.zero_le _, Nat.zero_le _⟩ dX8_readPlainRound_16 (fun H locs hP hD hS => ?_)
    refine lv_goto (tgt := 87) hx hb dX8_readPlainRound_19 (by decide) ?_
    exact J87 X_kind X_start X_end o16.1 o16.2 _ _ _ hf hP hD hS (lv_sub hl [1] rfl)
set_option maxRecDepth 100000 in
set_option maxHeartbeats 4000000 in
theorem kX8_readItem (l : Launch) (D : va_G) (cI cC cS : ClassId) (adK adV : Nat → Nat) (Xa Xa_characters Da Da_roundEdges Da_values : Nat) (x2 : Int32) (X_characters : Nat → Int32) (X_length : Int32) (X_kind : Int32) (X_start : Int32) (X_end : Int32) (D_roundEdges : Nat → Int32) (D_values : Nat → Int32) (D_nodes : Int32) (D_rounds : Int32) (o : Bool × Int32 × Int32 × Int32 × (Nat → Int32) × (Nat → Int32) × Int32 × Int32) (hf : fX8_readItem x2 X_characters X_length X_kind X_start X_end D_roundEdges D_values D_nodes D_rounds = some o) : CIS l D yX8_readItem wsX8_readItem ({ frames := 6, cells := 0, slots := 0, locals := 129 } : Room) (tysK cI cC cS) [.ref Xa, .ref Da, .int x2] (sh_X8d Xa Xa_characters Da Da_roundEdges Da_values cI cC cS X_characters X_length X_kind X_start X_end D_roundEdges D_values D_nodes D_rounds) (b2i o.1) (sh_X8d Xa Xa_characters Da Da_roundEdges Da_values cI cC cS X_characters X_length o.2.1 o.2.2.1 o.2.2.2.1 o.2.2.2.2.1 o.2.2.2.2.2.1 o.2.2.2.2.2.2.1 o.2.2.2.2.2.2.2) adK adV := by
  refine met_is (cc := cX8_readItem) (maxL := 3) (ret := (some .boolean)) (by decide) rfl (Nat.le_of_ble_eq_true rfl) ?_
  intro p e s m args below meth c R Q A hE F hR hQ hP hK hD hA hS ls hl
  obtain ⟨hx, hb, hr, hts, hml, hlocks, hown⟩ := F
  have hown : s.vm.findClass RX8 = some m.cls := hown
  have hi_X8 : ∀ w ∈ u_ws RX8 TX8 5, w ∈ wsX8_readItem := fun w h => List.mem_cons_of_mem _ (List.mem_append_left _ (List.mem_append_right _ h))
  have q35 := hts (.fieldLink RX8 35 "ChangingRounds$ScheduleText" "kind" "I") (by decide +kernel)
  have hl : lv_has ls 3 [(0, .ref Xa), (1, .ref Da), (2, .int x2)] := hl
  unfold fX8_readItem at hf
  refine lv_aload_n hx hb dX8_readItem_0 rfl (lv_at hl 0 rfl) ?_
  refine va_get (D := D) (ci := 5) (v := .int X_kind) (C := RX8) (T := TX8) (N := 5) hx hb hts hi_X8 hown hK hP 0 rfl rfl 2 (by decide) q35 (fun _ h9 => h9) rfl dX8_readItem_1 ?_
  refine lv_iconst (v := (2 : Int32)) hx hb dX8_readItem_4 (by decide) ?_
  refine lv_icmp_ne (tgt := 14) hx hb dX8_readItem_5 (by decide) (fun c1 => ?_) (fun c1 => ?_)
  · have hf := if_f c1 hf
    refine lv_aload_n hx hb dX8_readItem_14 rfl (lv_at hl 0 rfl) ?_
    refine va_ldcS hx hb hown hE.2.2.2.1 dX8_readItem_15 ?_
    obtain ⟨o2, ho2, hf⟩ := bd_some hf
    refine cv_is (ci := 5) (q := (RX8, TX8, 5)) (As := [.ref (adK 0)]) (rest := []) hE hx hb hml hown hts hK hP hD hA hS (kX8_isWord l D cI cC cS adK adV Xa Xa_characters 0 (by decide) X_characters X_length X_kind X_start X_end o2 ho2) (cwV 1 hts gX8_readItem_X8_isWord rfl rfl rfl (by decide +kernel) (by subst hR; exact ⟨Nat.le_of_ble_eq_true rfl, Nat.le_of_ble_eq_true rfl⟩)) [0, 1] [2, 3, 4] [3, 4, 0, 1, 2] [(Da, .inr (4, [.ref Da_roundEdges, .ref Da_values, .int D_nodes, .int D_rounds])), (Da_roundEdges, .inl (cI, 16, .inl D_roundEdges)), (Da_values, .inl (cI, 8, .inl D_values))] (sh_X8d Xa Xa_characters Da Da_roundEdges Da_values cI cC cS X_characters X_length X_kind X_start X_end D_roundEdges D_values D_nodes D_rounds) rfl rfl rfl rfl (by decide) rfl rfl rfl rfl rfl rfl hl.1 rfl (Nat.le_of_ble_eq_true rfl) ⟨Nat.zero_le _, Nat.zero_le _⟩ dX8_readItem_17 (fun H locs hP hD hS => ?_)
    refine lv_if_eq (tgt := 41) hx hb dX8_readItem_20 (by decide) (fun c3 => ?_) (fun c3 => ?_)
    · have hf := if_t c3 hf
      refine lv_aload_n hx hb dX8_readItem_41 rfl (lv_at hl 0 rfl) ?_
      refine va_ldcS hx hb hown hE.2.2.2.2.1 dX8_readItem_42 ?_
      obtain ⟨o4, ho4, hf⟩ := bd_some hf
      refine cv_is (ci := 5) (q := (RX8, TX8, 5)) (As := [.ref (adK 1)]) (rest := []) hE hx hb hml hown hts hK hP hD hA hS (kX8_isWord l D cI cC cS adK adV Xa Xa_characters 1 (by decide) X_characters X_length X_kind X_start X_end o4 ho4) (cwV 1 hts gX8_readItem_X8_isWord rfl rfl rfl (by decide +kernel) (by subst hR; exact ⟨Nat.le_of_ble_eq_true rfl, Nat.le_of_ble_eq_true rfl⟩)) [0, 1] [2, 3, 4] [3, 4, 0, 1, 2] [(Da, .inr (4, [.ref Da_roundEdges, .ref Da_values, .int D_nodes, .int D_rounds])), (Da_roundEdges, .inl (cI, 16, .inl D_roundEdges)), (Da_values, .inl (cI, 8, .inl D_values))] (sh_X8d Xa Xa_characters Da Da_roundEdges Da_values cI cC cS X_characters X_length X_kind X_start X_end D_roundEdges D_values D_nodes D_rounds) rfl rfl rfl rfl (by decide) rfl rfl rfl rfl rfl rfl hl.1 rfl (Nat.le_of_ble_eq_true rfl) ⟨Nat.zero_le _, Nat.zero_le _⟩ dX8_readItem_44 (fun H locs hP hD hS => ?_)
      refine lv_if_eq (tgt := 71) hx hb dX8_readItem_47 (by decide) (fun c5 => ?_) (fun c5 => ?_)
      · have hf := if_t c5 hf
        refine lv_aload_n hx hb dX8_readItem_71 rfl (lv_at hl 1 rfl) ?_
        refine cv_i (ci := 4) (q := (RX7, TX7, 4)) (As := []) (rest := []) hx hb hml hown hts hK hP hD hA hS (kX7_isFull l D cI cC cS Da Da_roundEdges Da_values  D_roundEdges D_values D_nodes D_rounds (fX7_isFull D_rounds) rfl) (cwV 0 hts gX8_readItem_X7_isFull rfl rfl rfl (by decide +kernel) (by subst hR; exact ⟨Nat.le_of_ble_eq_true rfl, Nat.le_of_ble_eq_true rfl⟩)) [2, 3, 4] [0, 1] [0, 1, 2, 3, 4] [(Xa, .inr (5, [.ref Xa_characters, .int X_length, .int X_kind, .int X_start, .int X_end])), (Xa_characters, .inl (cC, 120, .inl X_characters))] (sh_X8d Xa Xa_characters Da Da_roundEdges Da_values cI cC cS X_characters X_length X_kind X_start X_end D_roundEdges D_values D_nodes D_rounds) rfl rfl rfl rfl (by decide) rfl rfl rfl rfl rfl rfl hl.1 rfl (Nat.le_of_ble_eq_true rfl) ⟨Nat.zero_le _, Nat.zero_le _⟩ dX8_readItem_72 (fun H locs hP hD hS => ?_)
        refine lv_if_eq (tgt := 80) hx hb dX8_readItem_75 (by decide) (fun c6 => ?_) (fun c6 => ?_)
        · have hf := if_t c6 hf
          refine lv_aload_n hx hb dX8_readItem_80 rfl (lv_at hl 0 rfl) ?_
          refine va_ldcS hx hb hown hE.2.2.2.2.2.1 dX8_readItem_81 ?_
          obtain ⟨o7, ho7, hf⟩ := bd_some hf
          refine cv_is (ci := 5) (q := (RX8, TX8, 5)) (As := [.ref (adK 2)]) (rest := []) hE hx hb hml hown hts hK hP hD hA hS (kX8_isWord l D cI cC cS adK adV Xa Xa_characters 2 (by decide) X_characters X_length X_kind X_start X_end o7 ho7) (cwV 1 hts gX8_readItem_X8_isWord rfl rfl rfl (by decide +kernel) (by subst hR; exact ⟨Nat.le_of_ble_eq_true rfl, Nat.le_of_ble_eq_true rfl⟩)) [0, 1] [2, 3, 4] [3, 4, 0, 1, 2] [(Da, .inr (4, [.ref Da_roundEdges, .ref Da_values, .int D_nodes, .int D_rounds])), (Da_roundEdges, .inl (cI, 16, .inl D_roundEdges)), (Da_values, .inl (cI, 8, .inl D_values))] (sh_X8d Xa Xa_characters Da Da_roundEdges Da_values cI cC cS X_characters X_length X_kind X_start X_end D_roundEdges D_values D_nodes D_rounds) rfl rfl rfl rfl (by decide) rfl rfl rfl rfl rfl rfl hl.1 rfl (Nat.le_of_ble_eq_true rfl) ⟨Nat.zero_le _, Nat.zero_le _⟩ dX8_readItem_83 (fun H locs hP hD hS => ?_)
          refine lv_if_eq (tgt := 95) hx hb dX8_readItem_86 (by decide) (fun c8 => ?_) (fun c8 => ?_)
          · have hf := if_t c8 hf
            refine lv_aload_n hx hb dX8_readItem_95 rfl (lv_at hl 0 rfl) ?_
            refine lv_aload_n hx hb dX8_readItem_96 rfl (lv_at hl 1 rfl) ?_
            obtain ⟨o9, ho9, hf⟩ := bd_some hf
            refine cv_is (ci := 5) (q := (RX8, TX8, 5)) (As := [.ref Da]) (rest := []) hE hx hb hml hown hts hK hP hD hA hS (kX8_readPlainRound l D cI cC cS adK adV Xa Xa_characters Da Da_roundEdges Da_values  X_characters X_length X_kind X_start X_end D_roundEdges D_values D_nodes D_rounds o9 ho9) (cwV 1 hts gX8_readItem_X8_readPlainRound rfl rfl rfl (by decide +kernel) (by subst hR; exact ⟨Nat.le_of_ble_eq_true rfl, Nat.le_of_ble_eq_true rfl⟩)) [0, 1, 2, 3, 4] [] [0, 1, 2, 3, 4] [] (sh_X8d Xa Xa_characters Da Da_roundEdges Da_values cI cC cS X_characters X_length o9.2.1 o9.2.2.1 o9.2.2.2.1 o9.2.2.2.2.1 D_values D_nodes o9.2.2.2.2.2) rfl rfl rfl rfl (by decide) rfl rfl rfl rfl rfl rfl hl.1 rfl (Nat.le_of_ble_eq_true rfl) ⟨Nat.zero_le _, Nat.zero_le _⟩ dX8_readItem_97 (fun H locs hP hD hS => ?_)
            have hf := Option.some.inj hf
            subst hf
            exact rt_z (ty := .boolean) hx hb hr (b2i_nar _) hlocks hQ hK hP hD hS rfl dX8_readItem_100
          · have hf := if_f c8 hf
            refine lv_aload_n hx hb dX8_readItem_89 rfl (lv_at hl 0 rfl) ?_
            refine lv_aload_n hx hb dX8_readItem_90 rfl (lv_at hl 1 rfl) ?_
            obtain ⟨o10, ho10, hf⟩ := bd_some hf
            refine cv_i (ci := 5) (q := (RX8, TX8, 5)) (As := [.ref Da]) (rest := []) hx hb hml hown hts hK hP hD hA hS (kX8_readStar l D cI cC cS Xa Xa_characters Da Da_roundEdges Da_values  X_characters X_length X_kind X_start X_end D_roundEdges D_values D_nodes D_rounds o10 ho10) (cwV 1 hts gX8_readItem_X8_readStar rfl rfl rfl (by decide +kernel) (by subst hR; exact ⟨Nat.le_of_ble_eq_true rfl, Nat.le_of_ble_eq_true rfl⟩)) [0, 1, 2, 3, 4] [] [0, 1, 2, 3, 4] [] (sh_X8d Xa Xa_characters Da Da_roundEdges Da_values cI cC cS X_characters X_length o10.2.1 o10.2.2.1 o10.2.2.2.1 o10.2.2.2.2.1 D_values D_nodes o10.2.2.2.2.2) rfl rfl rfl rfl (by decide) rfl rfl rfl rfl rfl rfl hl.1 rfl (Nat.le_of_ble_eq_true rfl) ⟨Nat.zero_le _, Nat.zero_le _⟩ dX8_readItem_91 (fun H locs hP hD hS => ?_)
            have hf := Option.some.inj hf
            subst hf
            exact rt_z (ty := .boolean) hx hb hr (b2i_nar _) hlocks hQ hK hP hD hS rfl dX8_readItem_94
        · have hf := if_f c6 hf
          refine lv_iconst (v := (0 : Int32)) hx hb dX8_readItem_78 (by decide) ?_
          have hf := Option.some.inj hf
          subst hf
          exact rt_z (ty := .boolean) hx hb hr rfl hlocks hQ hK hP hD hS rfl dX8_readItem_79
      · have hf := if_f c5 hf
        refine lv_aload_n hx hb dX8_readItem_50 rfl (lv_at hl 1 rfl) ?_
        refine cv_i (ci := 4) (q := (RX7, TX7, 4)) (As := []) (rest := []) hx hb hml hown hts hK hP hD hA hS (kX7_rounds l D cI cC cS Da Da_roundEdges Da_values  D_roundEdges D_values D_nodes D_rounds (fX7_rounds D_rounds) rfl) (cwV 0 hts gX8_readItem_X7_rounds rfl rfl rfl (by decide +kernel) (by subst hR; exact ⟨Nat.le_of_ble_eq_true rfl, Nat.le_of_ble_eq_true rfl⟩)) [2, 3, 4] [0, 1] [0, 1, 2, 3, 4] [(Xa, .inr (5, [.ref Xa_characters, .int X_length, .int X_kind, .int X_start, .int X_end])), (Xa_characters, .inl (cC, 120, .inl X_characters))] (sh_X8d Xa Xa_characters Da Da_roundEdges Da_values cI cC cS X_characters X_length X_kind X_start X_end D_roundEdges D_values D_nodes D_rounds) rfl rfl rfl rfl (by decide) rfl rfl rfl rfl rfl rfl hl.1 rfl (Nat.le_of_ble_eq_true rfl) ⟨Nat.zero_le _, Nat.zero_le _⟩ dX8_readItem_51 (fun H locs hP hD hS => ?_)
        refine lv_if_le (tgt := 69) hx hb dX8_readItem_54 (by decide) (fun c11 => ?_) (fun c11 => ?_)
        · have hf := if_t c11 hf
          refine lv_iconst (v := (0 : Int32)) hx hb dX8_readItem_69 (by decide) ?_
          have hf := Option.some.inj hf
          subst hf
          exact rt_z (ty := .boolean) hx hb hr rfl hlocks hQ hK hP hD hS rfl dX8_readItem_70
        · have hf := if_f c11 hf
          refine lv_aload_n hx hb dX8_readItem_57 rfl (lv_at hl 0 rfl) ?_
          refine lv_aload_n hx hb dX8_readItem_58 rfl (lv_at hl 1 rfl) ?_
          obtain ⟨o12, ho12, hf⟩ := bd_some hf
          refine cv_i (ci := 5) (q := (RX8, TX8, 5)) (As := [.ref Da]) (rest := []) hx hb hml hown hts hK hP hD hA hS (kX8_readRepeat l D cI cC cS Xa Xa_characters Da Da_roundEdges Da_values  X_characters X_length X_kind X_start X_end D_roundEdges D_values D_nodes D_rounds o12 ho12) (cwV 1 hts gX8_readItem_X8_readRepeat rfl rfl rfl (by decide +kernel) (by subst hR; exact ⟨Nat.le_of_ble_eq_true rfl, Nat.le_of_ble_eq_true rfl⟩)) [0, 1, 2, 3, 4] [] [0, 1, 2, 3, 4] [] (sh_X8d Xa Xa_characters Da Da_roundEdges Da_values cI cC cS X_characters X_length o12.2.1 o12.2.2.1 o12.2.2.2.1 o12.2.2.2.2.1 D_values D_nodes o12.2.2.2.2.2) rfl rfl rfl rfl (by decide) rfl rfl rfl rfl rfl rfl hl.1 rfl (Nat.le_of_ble_eq_true rfl) ⟨Nat.zero_le _, Nat.zero_le _⟩ dX8_readItem_59 (fun H locs hP hD hS => ?_)
          refine lv_if_eq (tgt := 69) hx hb dX8_readItem_62 (by decide) (fun c13 => ?_) (fun c13 => ?_)
          · have hf := if_t c13 hf
            refine lv_iconst (v := (0 : Int32)) hx hb dX8_readItem_69 (by decide) ?_
            have hf := Option.some.inj hf
            subst hf
            exact rt_z (ty := .boolean) hx hb hr rfl hlocks hQ hK hP hD hS rfl dX8_readItem_70
          · have hf := if_f c13 hf
            refine lv_iconst (v := (1 : Int32)) hx hb dX8_readItem_65 (by decide) ?_
            refine lv_goto (tgt := 70) hx hb dX8_readItem_66 (by decide) ?_
            have hf := Option.some.inj hf
            subst hf
            exact rt_z (ty := .boolean) hx hb hr rfl hlocks hQ hK hP hD hS rfl dX8_readItem_70
    · have hf := if_f c3 hf
      refine lv_iload_n hx hb dX8_readItem_23 rfl (lv_at hl 2 rfl) ?_
      refine lv_if_eq (tgt := 39) hx hb dX8_readItem_24 (by decide) (fun c14 => ?_) (fun c14 => ?_)
      · have hf := if_t c14 hf
        refine lv_iconst (v := (0 : Int32)) hx hb dX8_readItem_39 (by decide) ?_
        have hf := Option.some.inj hf
        subst hf
        exact rt_z (ty := .boolean) hx hb hr rfl hlocks hQ hK hP hD hS rfl dX8_readItem_40
      · have hf := if_f c14 hf
        refine lv_aload_n hx hb dX8_readItem_27 rfl (lv_at hl 0 rfl) ?_
        refine lv_aload_n hx hb dX8_readItem_28 rfl (lv_at hl 1 rfl) ?_
        obtain ⟨o15, ho15, hf⟩ := bd_some hf
        refine cv_i (ci := 5) (q := (RX8, TX8, 5)) (As := [.ref Da]) (rest := []) hx hb hml hown hts hK hP hD hA hS (kX8_readNodes l D cI cC cS Xa Xa_characters Da Da_roundEdges Da_values  X_characters X_length X_kind X_start X_end D_roundEdges D_values D_nodes D_rounds o15 ho15) (cwV 1 hts gX8_readItem_X8_readNodes rfl rfl rfl (by decide +kernel) (by subst hR; exact ⟨Nat.le_of_ble_eq_true rfl, Nat.le_of_ble_eq_true rfl⟩)) [0, 1, 2, 3, 4] [] [0, 1, 2, 3, 4] [] (sh_X8d Xa Xa_characters Da Da_roundEdges Da_values cI cC cS X_characters X_length o15.2.1 o15.2.2.1 o15.2.2.2.1 D_roundEdges o15.2.2.2.2.1 o15.2.2.2.2.2.1 o15.2.2.2.2.2.2) rfl rfl rfl rfl (by decide) rfl rfl rfl rfl rfl rfl hl.1 rfl (Nat.le_of_ble_eq_true rfl) ⟨Nat.zero_le _, Nat.zero_le _⟩ dX8_readItem_29 (fun H locs hP hD hS => ?_)
        refine lv_if_eq (tgt := 39) hx hb dX8_readItem_32 (by decide) (fun c16 => ?_) (fun c16 => ?_)
        · have hf := if_t c16 hf
          refine lv_iconst (v := (0 : Int32)) hx hb dX8_readItem_39 (by decide) ?_
          have hf := Option.some.inj hf
          subst hf
          exact rt_z (ty := .boolean) hx hb hr rfl hlocks hQ hK hP hD hS rfl dX8_readItem_40
        · have hf := if_f c16 hf
          refine lv_iconst (v := (1 : Int32)) hx hb dX8_readItem_35 (by decide) ?_
          refine lv_goto (tgt := 40) hx hb dX8_readItem_36 (by decide) ?_
          have hf := Option.some.inj hf
          subst hf
          exact rt_z (ty := .boolean) hx hb hr rfl hlocks hQ hK hP hD hS rfl dX8_readItem_40
  · have hf := if_t c1 hf
    refine lv_aload_n hx hb dX8_readItem_8 rfl (lv_at hl 0 rfl) ?_
    refine lv_aload_n hx hb dX8_readItem_9 rfl (lv_at hl 1 rfl) ?_
    obtain ⟨o17, ho17, hf⟩ := bd_some hf
    refine cv_i (ci := 5) (q := (RX8, TX8, 5)) (As := [.ref Da]) (rest := []) hx hb hml hown hts hK hP hD hA hS (kX8_readEdges l D cI cC cS Xa Xa_characters Da Da_roundEdges Da_values  X_characters X_length X_kind X_start X_end D_roundEdges D_values D_nodes D_rounds o17 ho17) (cwV 1 hts gX8_readItem_X8_readEdges rfl rfl rfl (by decide +kernel) (by subst hR; exact ⟨Nat.le_of_ble_eq_true rfl, Nat.le_of_ble_eq_true rfl⟩)) [0, 1, 2, 3, 4] [] [0, 1, 2, 3, 4] [] (sh_X8d Xa Xa_characters Da Da_roundEdges Da_values cI cC cS X_characters X_length o17.2.1 o17.2.2.1 o17.2.2.2.1 o17.2.2.2.2.1 D_values D_nodes o17.2.2.2.2.2) rfl rfl rfl rfl (by decide) rfl rfl rfl rfl rfl rfl hl.1 rfl (Nat.le_of_ble_eq_true rfl) ⟨Nat.zero_le _, Nat.zero_le _⟩ dX8_readItem_10 (fun H locs hP hD hS => ?_)
    have hf := Option.some.inj hf
    subst hf
    exact rt_z (ty := .boolean) hx hb hr (b2i_nar _) hlocks hQ hK hP hD hS rfl dX8_readItem_13
set_option maxRecDepth 100000 in
set_option maxHeartbeats 4000000 in
theorem kX8_readInto (l : Launch) (D : va_G) (cI cC cS : ClassId) (adK adV : Nat → Nat) (Xa Xa_characters Da Da_roundEdges Da_values : Nat) (X_characters : Nat → Int32) (X_length : Int32) (X_kind : Int32) (X_start : Int32) (X_end : Int32) (D_roundEdges : Nat → Int32) (D_values : Nat → Int32) (D_nodes : Int32) (D_rounds : Int32) (o : Int32 × Int32 × Int32 × Int32 × (Nat → Int32) × (Nat → Int32) × Int32 × Int32) (hf : fX8_readInto X_characters X_length X_kind X_start X_end D_roundEdges D_values D_nodes D_rounds = some o) : CIS l D yX8_readInto wsX8_readInto ({ frames := 7, cells := 0, slots := 0, locals := 151 } : Room) (tysK cI cC cS) [.ref Xa, .ref Da] (sh_X8d Xa Xa_characters Da Da_roundEdges Da_values cI cC cS X_characters X_length X_kind X_start X_end D_roundEdges D_values D_nodes D_rounds) o.1 (sh_X8d Xa Xa_characters Da Da_roundEdges Da_values cI cC cS X_characters X_length o.2.1 o.2.2.1 o.2.2.2.1 o.2.2.2.2.1 o.2.2.2.2.2.1 o.2.2.2.2.2.2.1 o.2.2.2.2.2.2.2) adK adV := by
  refine met_is (cc := cX8_readInto) (maxL := 3) (ret := (some .int)) (by decide) rfl (Nat.le_of_ble_eq_true rfl) ?_
  intro p e s m args below meth c R Q A hE F hR hQ hP hK hD hA hS ls hl
  obtain ⟨hx, hb, hr, hts, hml, hlocks, hown⟩ := F
  have hown : s.vm.findClass RX8 = some m.cls := hown
  have hi_X8 : ∀ w ∈ u_ws RX8 TX8 5, w ∈ wsX8_readInto := fun w h => List.mem_cons_of_mem _ (List.mem_append_left _ (List.mem_append_right _ h))
  have q29 := hts (.fieldLink RX8 29 "ChangingRounds$ScheduleText" "end" "I") (by decide +kernel)
  have q35 := hts (.fieldLink RX8 35 "ChangingRounds$ScheduleText" "kind" "I") (by decide +kernel)
  have q42 := hts (.fieldLink RX8 42 "ChangingRounds$ScheduleText" "start" "I") (by decide +kernel)
  have hl : lv_has ls 3 [(0, .ref Xa), (1, .ref Da)] := hl
  unfold fX8_readInto at hf
  have L16 : ∀ (n16 : Nat) (x2 : Int32) (X_kind : Int32) (X_start : Int32) (X_end : Int32) (D_roundEdges : Nat → Int32) (D_values : Nat → Int32) (D_nodes : Int32) (D_rounds : Int32) (H : Heap) (locs : List Loc) (ls : Array Slot), fX8_readInto_l16 X_characters X_length n16 x2 X_kind X_start X_end D_roundEdges D_values D_nodes D_rounds = some o → va_P D vwCl (sh_X8d Xa Xa_characters Da Da_roundEdges Da_values cI cC cS X_characters X_length X_kind X_start X_end D_roundEdges D_values D_nodes D_rounds) H → va_D A (sh_X8d Xa Xa_characters Da Da_roundEdges Da_values cI cC cS X_characters X_length X_kind X_start X_end D_roundEdges D_values D_nodes D_rounds) → va_S A s.heap H locs → lv_has ls 3 [(0, .ref Xa), (1, .ref Da), (2, .int x2)] → W p l e R s m args below meth c H locs 0 0 Q (F0 m 16 ls []) := by
    intro n16
    induction n16 with
    | zero => intro x2 X_kind X_start X_end D_roundEdges D_values D_nodes D_rounds H locs ls hf; cases (show (none : Option _) = some _ from hf)
    | succ n16 ih16 =>
      have J40 : ∀ (x2 : Int32) (y2 : Int32) (X_kind : Int32) (X_start : Int32) (X_end : Int32) (D_roundEdges : Nat → Int32) (D_values : Nat → Int32) (D_nodes : Int32) (D_rounds : Int32) (H : Heap) (locs : List Loc) (ls : Array Slot), fX8_readInto_b40 (fX8_readInto_l16 X_characters X_length n16) x2 y2 X_characters X_length X_kind X_start X_end D_roundEdges D_values D_nodes D_rounds = some o → va_P D vwCl (sh_X8d Xa Xa_characters Da Da_roundEdges Da_values cI cC cS X_characters X_length X_kind X_start X_end D_roundEdges D_values D_nodes D_rounds) H → va_D A (sh_X8d Xa Xa_characters Da Da_roundEdges Da_values cI cC cS X_characters X_length X_kind X_start X_end D_roundEdges D_values D_nodes D_rounds) → va_S A s.heap H locs → lv_has ls 3 [(0, .ref Xa), (1, .ref Da), (2, .int x2)] → W p l e R s m args below meth c H locs 0 0 Q (F0 m 40 ls [.int y2, .ref Da, .ref Xa]) := by
        intro x2 y2 X_kind X_start X_end D_roundEdges D_values D_nodes D_rounds H locs ls hf hP hD hS hl
        unfold fX8_readInto_b40 at hf
        obtain ⟨o1, ho1, hf⟩ := bd_some hf
        refine cv_is (ci := 5) (q := (RX8, TX8, 5)) (As := [.ref Da, .int y2]) (rest := []) hE hx hb hml hown hts hK hP hD hA hS (kX8_readItem l D cI cC cS adK adV Xa Xa_characters Da Da_roundEdges Da_values y2 X_characters X_length X_kind X_start X_end D_roundEdges D_values D_nodes D_rounds o1 ho1) (cwV 2 hts gX8_readInto_X8_readItem rfl rfl rfl (by decide +kernel) (by subst hR; exact ⟨Nat.le_of_ble_eq_true rfl, Nat.le_of_ble_eq_true rfl⟩)) [0, 1, 2, 3, 4] [] [0, 1, 2, 3, 4] [] (sh_X8d Xa Xa_characters Da Da_roundEdges Da_values cI cC cS X_characters X_length o1.2.1 o1.2.2.1 o1.2.2.2.1 o1.2.2.2.2.1 o1.2.2.2.2.2.1 o1.2.2.2.2.2.2.1 o1.2.2.2.2.2.2.2) rfl rfl rfl rfl (by decide) rfl rfl rfl rfl rfl rfl hl.1 rfl (Nat.le_of_ble_eq_true rfl) ⟨Nat.zero_le _, Nat.zero_le _⟩ dX8_readInto_40 (fun H locs hP hD hS => ?_)
        refine lv_if_eq (tgt := 54) hx hb dX8_readInto_43 (by decide) (fun c2 => ?_) (fun c2 => ?_)
        · have hf := if_t c2 hf
          refine lv_aload_n hx hb dX8_readInto_54 rfl (lv_at hl 0 rfl) ?_
          refine va_get (D := D) (ci := 5) (v := .int o1.2.2.1) (C := RX8) (T := TX8) (N := 5) hx hb hts hi_X8 hown hK hP 0 rfl rfl 3 (by decide) q42 (fun _ h9 => h9) rfl dX8_readInto_55 ?_
          have hf := Option.some.inj hf
          subst hf
          exact rt_i hx hb hr hlocks hQ hK hP hD hS rfl dX8_readInto_58
        · have hf := if_f c2 hf
          refine lv_aload_n hx hb dX8_readInto_46 rfl (lv_at hl 0 rfl) ?_
          refine va_get (D := D) (ci := 5) (v := .int o1.2.1) (C := RX8) (T := TX8) (N := 5) hx hb hts hi_X8 hown hK hP 0 rfl rfl 2 (by decide) q35 (fun _ h9 => h9) rfl dX8_readInto_47 ?_
          refine lv_iconst (v := (3 : Int32)) hx hb dX8_readInto_50 (by decide) ?_
          refine lv_icmp_eq (tgt := 59) hx hb dX8_readInto_51 (by decide) (fun c3 => ?_) (fun c3 => ?_)
          · have hf := if_t c3 hf
            refine lv_aload_n hx hb dX8_readInto_59 rfl (lv_at hl 0 rfl) ?_
            obtain ⟨o4, ho4, hf⟩ := bd_some hf
            refine cv_v (ci := 5) (q := (RX8, TX8, 5)) (As := []) (rest := []) hx hb hml hown hts hK hP hD hA hS (kX8_nextToken l D cI cC cS Xa Xa_characters  X_characters X_length o1.2.1 o1.2.2.1 o1.2.2.2.1 o4 ho4) (cwV 0 hts gX8_readInto_X8_nextToken rfl rfl rfl (by decide +kernel) (by subst hR; exact ⟨Nat.le_of_ble_eq_true rfl, Nat.le_of_ble_eq_true rfl⟩)) [0, 1] [2, 3, 4] [3, 4, 0, 1, 2] [(Da, .inr (4, [.ref Da_roundEdges, .ref Da_values, .int o1.2.2.2.2.2.2.1, .int o1.2.2.2.2.2.2.2])), (Da_roundEdges, .inl (cI, 16, .inl o1.2.2.2.2.1)), (Da_values, .inl (cI, 8, .inl o1.2.2.2.2.2.1))] (sh_X8d Xa Xa_characters Da Da_roundEdges Da_values cI cC cS X_characters X_length o4.1 o4.2.1 o4.2.2 o1.2.2.2.2.1 o1.2.2.2.2.2.1 o1.2.2.2.2.2.2.1 o1.2.2.2.2.2.2.2) rfl rfl rfl rfl (by decide) rfl rfl rfl rfl rfl rfl hl.1 rfl (Nat.le_of_ble_eq_true rfl) ⟨Nat.zero_le _, Nat.zero_le _⟩ dX8_readInto_60 (fun H locs hP hD hS => ?_)
            refine lv_iinc (v := (x2 + 1)) (lv' := [(2, .int (x2 + 1)), (0, .ref Xa), (1, .ref Da)]) hx hb dX8_readInto_63 hl (k := 2) rfl rfl (by decide) rfl (fun ls hl => ?_)
            refine lv_goto (tgt := 16) hx hb dX8_readInto_66 (by decide) ?_
            exact ih16 (x2 + 1) o4.1 o4.2.1 o4.2.2 o1.2.2.2.2.1 o1.2.2.2.2.2.1 o1.2.2.2.2.2.2.1 o1.2.2.2.2.2.2.2 _ _ _ hf hP hD hS (lv_sub hl [1, 2, 0] rfl)
          · have hf := if_f c3 hf
            refine lv_aload_n hx hb dX8_readInto_54 rfl (lv_at hl 0 rfl) ?_
            refine va_get (D := D) (ci := 5) (v := .int o1.2.2.1) (C := RX8) (T := TX8) (N := 5) hx hb hts hi_X8 hown hK hP 0 rfl rfl 3 (by decide) q42 (fun _ h9 => h9) rfl dX8_readInto_55 ?_
            have hf := Option.some.inj hf
            subst hf
            exact rt_i hx hb hr hlocks hQ hK hP hD hS rfl dX8_readInto_58
      intro x2 X_kind X_start X_end D_roundEdges D_values D_nodes D_rounds H locs ls hf hP hD hS hl
      rw [fX8_readInto_l16] at hf
      refine lv_iload_n hx hb dX8_readInto_16 rfl (lv_at hl 2 rfl) ?_
      refine lv_bipush (v := (120 : Int32)) hx hb dX8_readInto_17 (by decide) ?_
      refine lv_icmp_ge (tgt := 69) hx hb dX8_readInto_19 (by decide) (fun c5 => ?_) (fun c5 => ?_)
      · have hf := if_t c5 hf
        refine lv_iconst (v := (-1 : Int32)) hx hb dX8_readInto_69 (by decide) ?_
        have hf := Option.some.inj hf
        subst hf
        exact rt_i hx hb hr hlocks hQ hK hP hD hS rfl dX8_readInto_70
      · have hf := if_f c5 hf
        refine lv_aload_n hx hb dX8_readInto_22 rfl (lv_at hl 0 rfl) ?_
        refine va_get (D := D) (ci := 5) (v := .int X_kind) (C := RX8) (T := TX8) (N := 5) hx hb hts hi_X8 hown hK hP 0 rfl rfl 2 (by decide) q35 (fun _ h9 => h9) rfl dX8_readInto_23 ?_
        refine lv_if_eq (tgt := 69) hx hb dX8_readInto_26 (by decide) (fun c6 => ?_) (fun c6 => ?_)
        · have hf := if_t c6 hf
          refine lv_iconst (v := (-1 : Int32)) hx hb dX8_readInto_69 (by decide) ?_
          have hf := Option.some.inj hf
          subst hf
          exact rt_i hx hb hr hlocks hQ hK hP hD hS rfl dX8_readInto_70
        · have hf := if_f c6 hf
          refine lv_aload_n hx hb dX8_readInto_29 rfl (lv_at hl 0 rfl) ?_
          refine lv_aload_n hx hb dX8_readInto_30 rfl (lv_at hl 1 rfl) ?_
          refine lv_iload_n hx hb dX8_readInto_31 rfl (lv_at hl 2 rfl) ?_
          refine lv_if_ne (tgt := 39) hx hb dX8_readInto_32 (by decide) (fun c7 => ?_) (fun c7 => ?_)
          · have hf := if_f c7 hf
            refine lv_iconst (v := (0 : Int32)) hx hb dX8_readInto_39 (by decide) ?_
            exact J40 x2 (0 : Int32) X_kind X_start X_end D_roundEdges D_values D_nodes D_rounds _ _ _ hf hP hD hS (lv_sub hl [0, 1, 2] rfl)
          · have hf := if_t c7 hf
            refine lv_iconst (v := (1 : Int32)) hx hb dX8_readInto_35 (by decide) ?_
            refine lv_goto (tgt := 40) hx hb dX8_readInto_36 (by decide) ?_
            exact J40 x2 (1 : Int32) X_kind X_start X_end D_roundEdges D_values D_nodes D_rounds _ _ _ hf hP hD hS (lv_sub hl [0, 1, 2] rfl)
  refine lv_aload_n hx hb dX8_readInto_0 rfl (lv_at hl 1 rfl) ?_
  refine lv_iconst (v := (4 : Int32)) hx hb dX8_readInto_1 (by decide) ?_
  obtain ⟨o8, ho8, hf⟩ := bd_some hf
  refine cv_v (ci := 4) (q := (RX7, TX7, 4)) (As := [.int (4 : Int32)]) (rest := []) hx hb hml hown hts hK hP hD hA hS (kX7_beginAnew l D cI cC cS Da Da_roundEdges Da_values (4 : Int32) D_roundEdges D_values D_nodes D_rounds o8 ho8) (cwV 1 hts gX8_readInto_X7_beginAnew rfl rfl rfl (by decide +kernel) (by subst hR; exact ⟨Nat.le_of_ble_eq_true rfl, Nat.le_of_ble_eq_true rfl⟩)) [2, 3, 4] [0, 1] [0, 1, 2, 3, 4] [(Xa, .inr (5, [.ref Xa_characters, .int X_length, .int X_kind, .int X_start, .int X_end])), (Xa_characters, .inl (cC, 120, .inl X_characters))] (sh_X8d Xa Xa_characters Da Da_roundEdges Da_values cI cC cS X_characters X_length X_kind X_start X_end D_roundEdges o8.1 o8.2.1 o8.2.2) rfl rfl rfl rfl (by decide) rfl rfl rfl rfl rfl rfl hl.1 rfl (Nat.le_of_ble_eq_true rfl) ⟨Nat.zero_le _, Nat.zero_le _⟩ dX8_readInto_2 (fun H locs hP hD hS => ?_)
  refine lv_aload_n hx hb dX8_readInto_5 rfl (lv_at hl 0 rfl) ?_
  refine lv_iconst (v := (0 : Int32)) hx hb dX8_readInto_6 (by decide) ?_
  refine sx_put (D := D) (ci := 5) (v := .int (0 : Int32)) (ty := .int) (C := RX8) (T := TX8) (N := 5) hx hb hts hi_X8 tyX8 tyX8_ok nmX8 hown hK hP hD hS 0 rfl rfl 4 (by decide) q29 (fun _ h9 => h9) rfl (by decide +kernel) rfl rfl (Nat.le_of_ble_eq_true rfl) dX8_readInto_7 (sh_X8d Xa Xa_characters Da Da_roundEdges Da_values cI cC cS X_characters X_length X_kind X_start (0 : Int32) D_roundEdges o8.1 o8.2.1 o8.2.2) rfl (fun H locs hP hD hS => ?_)
  refine lv_aload_n hx hb dX8_readInto_10 rfl (lv_at hl 0 rfl) ?_
  obtain ⟨o9, ho9, hf⟩ := bd_some hf
  refine cv_v (ci := 5) (q := (RX8, TX8, 5)) (As := []) (rest := []) hx hb hml hown hts hK hP hD hA hS (kX8_nextToken l D cI cC cS Xa Xa_characters  X_characters X_length X_kind X_start (0 : Int32) o9 ho9) (cwV 0 hts gX8_readInto_X8_nextToken rfl rfl rfl (by decide +kernel) (by subst hR; exact ⟨Nat.le_of_ble_eq_true rfl, Nat.le_of_ble_eq_true rfl⟩)) [0, 1] [2, 3, 4] [3, 4, 0, 1, 2] [(Da, .inr (4, [.ref Da_roundEdges, .ref Da_values, .int o8.2.1, .int o8.2.2])), (Da_roundEdges, .inl (cI, 16, .inl D_roundEdges)), (Da_values, .inl (cI, 8, .inl o8.1))] (sh_X8d Xa Xa_characters Da Da_roundEdges Da_values cI cC cS X_characters X_length o9.1 o9.2.1 o9.2.2 D_roundEdges o8.1 o8.2.1 o8.2.2) rfl rfl rfl rfl (by decide) rfl rfl rfl rfl rfl rfl hl.1 rfl (Nat.le_of_ble_eq_true rfl) ⟨Nat.zero_le _, Nat.zero_le _⟩ dX8_readInto_11 (fun H locs hP hD hS => ?_)
  refine lv_iconst (v := (0 : Int32)) hx hb dX8_readInto_14 (by decide) ?_
  refine lv_istore_n (lv' := [(2, .int (0 : Int32)), (0, .ref Xa), (1, .ref Da)]) hx hb dX8_readInto_15 rfl hl (by decide) rfl (fun ls hl => ?_)
  exact L16  fuel (0 : Int32) o9.1 o9.2.1 o9.2.2 D_roundEdges o8.1 o8.2.1 o8.2.2 _ _ _ hf hP hD hS (lv_sub hl [1, 2, 0] rfl)
set_option maxRecDepth 100000 in
set_option maxHeartbeats 4000000 in
theorem kX9_load (l : Launch) (D : va_G) (cI cC cS : ClassId) (adK adV : Nat → Nat) (Ta Sa Sa_roundEdges Sa_values Da Da_roundEdges Da_values Ha Ha_states Xa Xa_characters Tr_flooding Tr_gossiping Tr_counting : Nat) (S_roundEdges : Nat → Int32) (S_values : Nat → Int32) (S_nodes : Int32) (S_rounds : Int32) (D_roundEdges : Nat → Int32) (D_values : Nat → Int32) (D_nodes : Int32) (D_rounds : Int32) (H_size : Int32) (H_b : Nat → Nat) (H_e : Nat → Nat) (H_v : Nat → Nat) (H_re : Nat → Nat → Int32) (H_va : Nat → Nat → Int32) (H_no : Nat → Int32) (H_ro : Nat → Int32) (X_characters : Nat → Int32) (X_length : Int32) (X_kind : Int32) (X_start : Int32) (X_end : Int32) (o : Int32 × (Nat → Int32) × (Nat → Int32) × Int32 × Int32 × (Nat → Int32) × (Nat → Int32) × Int32 × Int32 × Int32 × (Nat → Nat) × (Nat → Nat) × (Nat → Nat) × (Nat → Nat → Int32) × (Nat → Nat → Int32) × (Nat → Int32) × (Nat → Int32) × Int32 × Int32 × Int32 × Int32) (hf : fX9_load S_roundEdges S_values S_nodes S_rounds D_roundEdges D_values D_nodes D_rounds H_size H_b H_e H_v H_re H_va H_no H_ro X_characters X_length X_kind X_start X_end = some o) : CIS l D yX9_load wsX9_load ({ frames := 8, cells := 0, slots := 0, locals := 173 } : Room) (tysK cI cC cS) [.ref Ta] (sh_X9SDHX Ta Sa Sa_roundEdges Sa_values Da Da_roundEdges Da_values Ha Ha_states Xa Xa_characters Tr_flooding Tr_gossiping Tr_counting cI cC cS S_roundEdges S_values S_nodes S_rounds D_roundEdges D_values D_nodes D_rounds H_size H_b H_e H_v H_re H_va H_no H_ro X_characters X_length X_kind X_start X_end) o.1 (sh_X9SDHX Ta Sa Sa_roundEdges Sa_values Da Da_roundEdges Da_values Ha Ha_states Xa Xa_characters Tr_flooding Tr_gossiping Tr_counting cI cC cS o.2.1 o.2.2.1 o.2.2.2.1 o.2.2.2.2.1 o.2.2.2.2.2.1 o.2.2.2.2.2.2.1 o.2.2.2.2.2.2.2.1 o.2.2.2.2.2.2.2.2.1 o.2.2.2.2.2.2.2.2.2.1 o.2.2.2.2.2.2.2.2.2.2.1 o.2.2.2.2.2.2.2.2.2.2.2.1 o.2.2.2.2.2.2.2.2.2.2.2.2.1 o.2.2.2.2.2.2.2.2.2.2.2.2.2.1 o.2.2.2.2.2.2.2.2.2.2.2.2.2.2.1 o.2.2.2.2.2.2.2.2.2.2.2.2.2.2.2.1 o.2.2.2.2.2.2.2.2.2.2.2.2.2.2.2.2.1 X_characters o.2.2.2.2.2.2.2.2.2.2.2.2.2.2.2.2.2.1 o.2.2.2.2.2.2.2.2.2.2.2.2.2.2.2.2.2.2.1 o.2.2.2.2.2.2.2.2.2.2.2.2.2.2.2.2.2.2.2.1 o.2.2.2.2.2.2.2.2.2.2.2.2.2.2.2.2.2.2.2.2) adK adV := by
  refine met_is (cc := cX9_load) (maxL := 2) (ret := (some .int)) (by decide) rfl (Nat.le_of_ble_eq_true rfl) ?_
  intro p e s m args below meth c R Q A hE F hR hQ hP hK hD hA hS ls hl
  obtain ⟨hx, hb, hr, hts, hml, hlocks, hown⟩ := F
  have hown : s.vm.findClass RX9 = some m.cls := hown
  have hi_X9 : ∀ w ∈ u_ws RX9 TX9 7, w ∈ wsX9_load := fun w h => List.mem_cons_of_mem _ (List.mem_append_left _ (List.mem_append_left _ (List.mem_append_left _ (List.mem_append_right _ h))))
  have q29 := hts (.fieldLink RX9 29 "ChangingRounds" "text" "LChangingRounds$ScheduleText;") (by decide +kernel)
  have q16 := hts (.fieldLink RX9 16 "ChangingRounds" "draft" "LChangingRounds$Schedule;") (by decide +kernel)
  have q22 := hts (.fieldLink RX9 22 "ChangingRounds" "history" "LChangingRounds$History;") (by decide +kernel)
  have q10 := hts (.fieldLink RX9 10 "ChangingRounds" "schedule" "LChangingRounds$Schedule;") (by decide +kernel)
  have hl : lv_has ls 2 [(0, .ref Ta)] := hl
  unfold fX9_load at hf
  refine lv_aload_n hx hb dX9_load_0 rfl (lv_at hl 0 rfl) ?_
  refine va_get (D := D) (ci := 6) (v := .ref Xa) (C := RX9) (T := TX9) (N := 7) hx hb hts hi_X9 hown hK hP 0 rfl rfl 3 (by decide) q29 (fun _ h9 => h9) rfl dX9_load_1 ?_
  refine lv_aload_n hx hb dX9_load_4 rfl (lv_at hl 0 rfl) ?_
  refine va_get (D := D) (ci := 6) (v := .ref Da) (C := RX9) (T := TX9) (N := 7) hx hb hts hi_X9 hown hK hP 0 rfl rfl 1 (by decide) q16 (fun _ h9 => h9) rfl dX9_load_5 ?_
  obtain ⟨o1, ho1, hf⟩ := bd_some hf
  refine cv_is (ci := 5) (q := (RX8, TX8, 5)) (As := [.ref Da]) (rest := []) hE hx hb hml hown hts hK hP hD hA hS (kX8_readInto l D cI cC cS adK adV Xa Xa_characters Da Da_roundEdges Da_values  X_characters X_length X_kind X_start X_end D_roundEdges D_values D_nodes D_rounds o1 ho1) (cwV 1 hts gX9_load_X8_readInto rfl rfl rfl (by decide +kernel) (by subst hR; exact ⟨Nat.le_of_ble_eq_true rfl, Nat.le_of_ble_eq_true rfl⟩)) [27, 28, 4, 5, 6] [0, 1, 2, 3, 7, 8, 9, 10, 11, 12, 13, 14, 15, 16, 17, 18, 19, 20, 21, 22, 23, 24, 25, 26] [0, 1, 2, 3, 26, 27, 28, 4, 5, 6, 7, 8, 9, 10, 11, 12, 13, 14, 15, 16, 17, 18, 19, 20, 21, 22, 23, 24, 25] [(Ta, .inr (6, [.ref Sa, .ref Da, .ref Ha, .ref Xa, .ref Tr_flooding, .ref Tr_gossiping, .ref Tr_counting])), (Sa, .inr (4, [.ref Sa_roundEdges, .ref Sa_values, .int S_nodes, .int S_rounds])), (Sa_roundEdges, .inl (cI, 16, .inl S_roundEdges)), (Sa_values, .inl (cI, 8, .inl S_values)), (Ha, .inr (3, [.ref Ha_states, .int H_size])), (Ha_states, .inl (cS, 6, .inr (.inr (.inr (.inr (fun i => some (H_b i))))))), (H_b 0, .inr (4, [.ref (H_e 0), .ref (H_v 0), .int (H_no 0), .int (H_ro 0)])), (H_e 0, .inl (cI, 16, .inl (H_re 0))), (H_v 0, .inl (cI, 8, .inl (H_va 0))), (H_b 1, .inr (4, [.ref (H_e 1), .ref (H_v 1), .int (H_no 1), .int (H_ro 1)])), (H_e 1, .inl (cI, 16, .inl (H_re 1))), (H_v 1, .inl (cI, 8, .inl (H_va 1))), (H_b 2, .inr (4, [.ref (H_e 2), .ref (H_v 2), .int (H_no 2), .int (H_ro 2)])), (H_e 2, .inl (cI, 16, .inl (H_re 2))), (H_v 2, .inl (cI, 8, .inl (H_va 2))), (H_b 3, .inr (4, [.ref (H_e 3), .ref (H_v 3), .int (H_no 3), .int (H_ro 3)])), (H_e 3, .inl (cI, 16, .inl (H_re 3))), (H_v 3, .inl (cI, 8, .inl (H_va 3))), (H_b 4, .inr (4, [.ref (H_e 4), .ref (H_v 4), .int (H_no 4), .int (H_ro 4)])), (H_e 4, .inl (cI, 16, .inl (H_re 4))), (H_v 4, .inl (cI, 8, .inl (H_va 4))), (H_b 5, .inr (4, [.ref (H_e 5), .ref (H_v 5), .int (H_no 5), .int (H_ro 5)])), (H_e 5, .inl (cI, 16, .inl (H_re 5))), (H_v 5, .inl (cI, 8, .inl (H_va 5)))] (sh_X9SDHX Ta Sa Sa_roundEdges Sa_values Da Da_roundEdges Da_values Ha Ha_states Xa Xa_characters Tr_flooding Tr_gossiping Tr_counting cI cC cS S_roundEdges S_values S_nodes S_rounds o1.2.2.2.2.1 o1.2.2.2.2.2.1 o1.2.2.2.2.2.2.1 o1.2.2.2.2.2.2.2 H_size H_b H_e H_v H_re H_va H_no H_ro X_characters X_length o1.2.1 o1.2.2.1 o1.2.2.2.1) rfl rfl rfl rfl (by decide) rfl rfl rfl rfl rfl rfl hl.1 rfl (Nat.le_of_ble_eq_true rfl) ⟨Nat.zero_le _, Nat.zero_le _⟩ dX9_load_8 (fun H locs hP hD hS => ?_)
  refine lv_istore_n (lv' := [(1, .int o1.1), (0, .ref Ta)]) hx hb dX9_load_11 rfl hl (by decide) rfl (fun ls hl => ?_)
  refine lv_iload_n hx hb dX9_load_12 rfl (lv_at hl 0 rfl) ?_
  refine lv_iconst (v := (-1 : Int32)) hx hb dX9_load_13 (by decide) ?_
  refine lv_icmp_eq (tgt := 22) hx hb dX9_load_14 (by decide) (fun c2 => ?_) (fun c2 => ?_)
  · have hf := if_t c2 hf
    refine lv_aload_n hx hb dX9_load_22 rfl (lv_at hl 1 rfl) ?_
    refine va_get (D := D) (ci := 6) (v := .ref Ha) (C := RX9) (T := TX9) (N := 7) hx hb hts hi_X9 hown hK hP 0 rfl rfl 2 (by decide) q22 (fun _ h9 => h9) rfl dX9_load_23 ?_
    refine lv_aload_n hx hb dX9_load_26 rfl (lv_at hl 1 rfl) ?_
    refine va_get (D := D) (ci := 6) (v := .ref Sa) (C := RX9) (T := TX9) (N := 7) hx hb hts hi_X9 hown hK hP 0 rfl rfl 0 (by decide) q10 (fun _ h9 => h9) rfl dX9_load_27 ?_
    obtain ⟨o3, ho3, hf⟩ := bd_some hf
    refine cv_v (ci := 3) (q := (RX5, TX5, 2)) (As := [.ref Sa]) (rest := []) hx hb hml hown hts hK hP hD hA hS (kX5_save l D cI cC cS Ha Ha_states Sa Sa_roundEdges Sa_values  H_size H_b H_e H_v H_re H_va H_no H_ro S_roundEdges S_values S_nodes S_rounds o3 ho3) (cwV 1 hts gX9_load_X5_save rfl rfl rfl (by decide +kernel) (by subst hR; exact ⟨Nat.le_of_ble_eq_true rfl, Nat.le_of_ble_eq_true rfl⟩)) [7, 8, 9, 10, 11, 12, 13, 14, 15, 16, 17, 18, 19, 20, 21, 22, 23, 24, 25, 26, 1, 2, 3] [0, 4, 5, 6, 27, 28] [0, 26, 27, 28, 1, 2, 3, 6, 7, 8, 9, 10, 11, 12, 13, 14, 15, 16, 17, 18, 19, 20, 21, 22, 23, 24, 25, 4, 5] [(Ta, .inr (6, [.ref Sa, .ref Da, .ref Ha, .ref Xa, .ref Tr_flooding, .ref Tr_gossiping, .ref Tr_counting])), (Da, .inr (4, [.ref Da_roundEdges, .ref Da_values, .int o1.2.2.2.2.2.2.1, .int o1.2.2.2.2.2.2.2])), (Da_roundEdges, .inl (cI, 16, .inl o1.2.2.2.2.1)), (Da_values, .inl (cI, 8, .inl o1.2.2.2.2.2.1)), (Xa, .inr (5, [.ref Xa_characters, .int X_length, .int o1.2.1, .int o1.2.2.1, .int o1.2.2.2.1])), (Xa_characters, .inl (cC, 120, .inl X_characters))] (sh_X9SDHX Ta Sa Sa_roundEdges Sa_values Da Da_roundEdges Da_values Ha Ha_states Xa Xa_characters Tr_flooding Tr_gossiping Tr_counting cI cC cS S_roundEdges S_values S_nodes S_rounds o1.2.2.2.2.1 o1.2.2.2.2.2.1 o1.2.2.2.2.2.2.1 o1.2.2.2.2.2.2.2 o3.1 o3.2.1 o3.2.2.1 o3.2.2.2.1 o3.2.2.2.2.1 o3.2.2.2.2.2.1 o3.2.2.2.2.2.2.1 o3.2.2.2.2.2.2.2 X_characters X_length o1.2.1 o1.2.2.1 o1.2.2.2.1) rfl rfl rfl rfl (by decide) rfl rfl rfl rfl rfl rfl hl.1 rfl (Nat.le_of_ble_eq_true rfl) ⟨Nat.zero_le _, Nat.zero_le _⟩ dX9_load_30 (fun H locs hP hD hS => ?_)
    refine lv_aload_n hx hb dX9_load_33 rfl (lv_at hl 1 rfl) ?_
    refine va_get (D := D) (ci := 6) (v := .ref Sa) (C := RX9) (T := TX9) (N := 7) hx hb hts hi_X9 hown hK hP 0 rfl rfl 0 (by decide) q10 (fun _ h9 => h9) rfl dX9_load_34 ?_
    refine lv_aload_n hx hb dX9_load_37 rfl (lv_at hl 1 rfl) ?_
    refine va_get (D := D) (ci := 6) (v := .ref Da) (C := RX9) (T := TX9) (N := 7) hx hb hts hi_X9 hown hK hP 0 rfl rfl 1 (by decide) q16 (fun _ h9 => h9) rfl dX9_load_38 ?_
    obtain ⟨o4, ho4, hf⟩ := bd_some hf
    refine cv_v (ci := 4) (q := (RX7, TX7, 4)) (As := [.ref Da]) (rest := []) hx hb hml hown hts hK hP hD hA hS (kX7_become l D cI cC cS Sa Sa_roundEdges Sa_values Da Da_roundEdges Da_values  S_roundEdges S_values S_nodes S_rounds o1.2.2.2.2.1 o1.2.2.2.2.2.1 o1.2.2.2.2.2.2.1 o1.2.2.2.2.2.2.2 o4 ho4) (cwV 1 hts gX9_load_X7_become rfl rfl rfl (by decide +kernel) (by subst hR; exact ⟨Nat.le_of_ble_eq_true rfl, Nat.le_of_ble_eq_true rfl⟩)) [1, 2, 3, 4, 5, 6] [0, 7, 8, 9, 10, 11, 12, 13, 14, 15, 16, 17, 18, 19, 20, 21, 22, 23, 24, 25, 26, 27, 28] [0, 23, 24, 25, 26, 27, 28, 1, 2, 3, 4, 5, 6, 7, 8, 9, 10, 11, 12, 13, 14, 15, 16, 17, 18, 19, 20, 21, 22] [(Ta, .inr (6, [.ref Sa, .ref Da, .ref Ha, .ref Xa, .ref Tr_flooding, .ref Tr_gossiping, .ref Tr_counting])), (Ha, .inr (3, [.ref Ha_states, .int o3.1])), (Ha_states, .inl (cS, 6, .inr (.inr (.inr (.inr (fun i => some (o3.2.1 i))))))), (o3.2.1 0, .inr (4, [.ref (o3.2.2.1 0), .ref (o3.2.2.2.1 0), .int (o3.2.2.2.2.2.2.1 0), .int (o3.2.2.2.2.2.2.2 0)])), (o3.2.2.1 0, .inl (cI, 16, .inl (o3.2.2.2.2.1 0))), (o3.2.2.2.1 0, .inl (cI, 8, .inl (o3.2.2.2.2.2.1 0))), (o3.2.1 1, .inr (4, [.ref (o3.2.2.1 1), .ref (o3.2.2.2.1 1), .int (o3.2.2.2.2.2.2.1 1), .int (o3.2.2.2.2.2.2.2 1)])), (o3.2.2.1 1, .inl (cI, 16, .inl (o3.2.2.2.2.1 1))), (o3.2.2.2.1 1, .inl (cI, 8, .inl (o3.2.2.2.2.2.1 1))), (o3.2.1 2, .inr (4, [.ref (o3.2.2.1 2), .ref (o3.2.2.2.1 2), .int (o3.2.2.2.2.2.2.1 2), .int (o3.2.2.2.2.2.2.2 2)])), (o3.2.2.1 2, .inl (cI, 16, .inl (o3.2.2.2.2.1 2))), (o3.2.2.2.1 2, .inl (cI, 8, .inl (o3.2.2.2.2.2.1 2))), (o3.2.1 3, .inr (4, [.ref (o3.2.2.1 3), .ref (o3.2.2.2.1 3), .int (o3.2.2.2.2.2.2.1 3), .int (o3.2.2.2.2.2.2.2 3)])), (o3.2.2.1 3, .inl (cI, 16, .inl (o3.2.2.2.2.1 3))), (o3.2.2.2.1 3, .inl (cI, 8, .inl (o3.2.2.2.2.2.1 3))), (o3.2.1 4, .inr (4, [.ref (o3.2.2.1 4), .ref (o3.2.2.2.1 4), .int (o3.2.2.2.2.2.2.1 4), .int (o3.2.2.2.2.2.2.2 4)])), (o3.2.2.1 4, .inl (cI, 16, .inl (o3.2.2.2.2.1 4))), (o3.2.2.2.1 4, .inl (cI, 8, .inl (o3.2.2.2.2.2.1 4))), (o3.2.1 5, .inr (4, [.ref (o3.2.2.1 5), .ref (o3.2.2.2.1 5), .int (o3.2.2.2.2.2.2.1 5), .int (o3.2.2.2.2.2.2.2 5)])), (o3.2.2.1 5, .inl (cI, 16, .inl (o3.2.2.2.2.1 5))), (o3.2.2.2.1 5, .inl (cI, 8, .inl (o3.2.2.2.2.2.1 5))), (Xa, .inr (5, [.ref Xa_characters, .int X_length, .int o1.2.1, .int o1.2.2.1, .int o1.2.2.2.1])), (Xa_characters, .inl (cC, 120, .inl X_characters))] (sh_X9SDHX Ta Sa Sa_roundEdges Sa_values Da Da_roundEdges Da_values Ha Ha_states Xa Xa_characters Tr_flooding Tr_gossiping Tr_counting cI cC cS o4.1 o4.2.1 o4.2.2.1 o4.2.2.2 o1.2.2.2.2.1 o1.2.2.2.2.2.1 o1.2.2.2.2.2.2.1 o1.2.2.2.2.2.2.2 o3.1 o3.2.1 o3.2.2.1 o3.2.2.2.1 o3.2.2.2.2.1 o3.2.2.2.2.2.1 o3.2.2.2.2.2.2.1 o3.2.2.2.2.2.2.2 X_characters X_length o1.2.1 o1.2.2.1 o1.2.2.2.1) rfl rfl rfl rfl (by decide) rfl rfl rfl rfl rfl rfl hl.1 rfl (Nat.le_of_ble_eq_true rfl) ⟨Nat.zero_le _, Nat.zero_le _⟩ dX9_load_41 (fun H locs hP hD hS => ?_)
    refine lv_aload_n hx hb dX9_load_44 rfl (lv_at hl 1 rfl) ?_
    refine va_get (D := D) (ci := 6) (v := .ref Xa) (C := RX9) (T := TX9) (N := 7) hx hb hts hi_X9 hown hK hP 0 rfl rfl 3 (by decide) q29 (fun _ h9 => h9) rfl dX9_load_45 ?_
    refine cv_v (ci := 5) (q := (RX8, TX8, 5)) (As := []) (rest := []) hx hb hml hown hts hK hP hD hA hS (kX8_clear l D cI cC cS Xa Xa_characters  X_characters X_length o1.2.1 o1.2.2.1 o1.2.2.2.1 (fX8_clear X_length) rfl) (cwV 0 hts gX9_load_X8_clear rfl rfl rfl (by decide +kernel) (by subst hR; exact ⟨Nat.le_of_ble_eq_true rfl, Nat.le_of_ble_eq_true rfl⟩)) [27, 28] [0, 1, 2, 3, 4, 5, 6, 7, 8, 9, 10, 11, 12, 13, 14, 15, 16, 17, 18, 19, 20, 21, 22, 23, 24, 25, 26] [0, 1, 2, 3, 4, 5, 6, 7, 8, 9, 10, 11, 12, 13, 14, 15, 16, 17, 18, 19, 20, 21, 22, 23, 24, 25, 26, 27, 28] [(Ta, .inr (6, [.ref Sa, .ref Da, .ref Ha, .ref Xa, .ref Tr_flooding, .ref Tr_gossiping, .ref Tr_counting])), (Sa, .inr (4, [.ref Sa_roundEdges, .ref Sa_values, .int o4.2.2.1, .int o4.2.2.2])), (Sa_roundEdges, .inl (cI, 16, .inl o4.1)), (Sa_values, .inl (cI, 8, .inl o4.2.1)), (Da, .inr (4, [.ref Da_roundEdges, .ref Da_values, .int o1.2.2.2.2.2.2.1, .int o1.2.2.2.2.2.2.2])), (Da_roundEdges, .inl (cI, 16, .inl o1.2.2.2.2.1)), (Da_values, .inl (cI, 8, .inl o1.2.2.2.2.2.1)), (Ha, .inr (3, [.ref Ha_states, .int o3.1])), (Ha_states, .inl (cS, 6, .inr (.inr (.inr (.inr (fun i => some (o3.2.1 i))))))), (o3.2.1 0, .inr (4, [.ref (o3.2.2.1 0), .ref (o3.2.2.2.1 0), .int (o3.2.2.2.2.2.2.1 0), .int (o3.2.2.2.2.2.2.2 0)])), (o3.2.2.1 0, .inl (cI, 16, .inl (o3.2.2.2.2.1 0))), (o3.2.2.2.1 0, .inl (cI, 8, .inl (o3.2.2.2.2.2.1 0))), (o3.2.1 1, .inr (4, [.ref (o3.2.2.1 1), .ref (o3.2.2.2.1 1), .int (o3.2.2.2.2.2.2.1 1), .int (o3.2.2.2.2.2.2.2 1)])), (o3.2.2.1 1, .inl (cI, 16, .inl (o3.2.2.2.2.1 1))), (o3.2.2.2.1 1, .inl (cI, 8, .inl (o3.2.2.2.2.2.1 1))), (o3.2.1 2, .inr (4, [.ref (o3.2.2.1 2), .ref (o3.2.2.2.1 2), .int (o3.2.2.2.2.2.2.1 2), .int (o3.2.2.2.2.2.2.2 2)])), (o3.2.2.1 2, .inl (cI, 16, .inl (o3.2.2.2.2.1 2))), (o3.2.2.2.1 2, .inl (cI, 8, .inl (o3.2.2.2.2.2.1 2))), (o3.2.1 3, .inr (4, [.ref (o3.2.2.1 3), .ref (o3.2.2.2.1 3), .int (o3.2.2.2.2.2.2.1 3), .int (o3.2.2.2.2.2.2.2 3)])), (o3.2.2.1 3, .inl (cI, 16, .inl (o3.2.2.2.2.1 3))), (o3.2.2.2.1 3, .inl (cI, 8, .inl (o3.2.2.2.2.2.1 3))), (o3.2.1 4, .inr (4, [.ref (o3.2.2.1 4), .ref (o3.2.2.2.1 4), .int (o3.2.2.2.2.2.2.1 4), .int (o3.2.2.2.2.2.2.2 4)])), (o3.2.2.1 4, .inl (cI, 16, .inl (o3.2.2.2.2.1 4))), (o3.2.2.2.1 4, .inl (cI, 8, .inl (o3.2.2.2.2.2.1 4))), (o3.2.1 5, .inr (4, [.ref (o3.2.2.1 5), .ref (o3.2.2.2.1 5), .int (o3.2.2.2.2.2.2.1 5), .int (o3.2.2.2.2.2.2.2 5)])), (o3.2.2.1 5, .inl (cI, 16, .inl (o3.2.2.2.2.1 5))), (o3.2.2.2.1 5, .inl (cI, 8, .inl (o3.2.2.2.2.2.1 5)))] (sh_X9SDHX Ta Sa Sa_roundEdges Sa_values Da Da_roundEdges Da_values Ha Ha_states Xa Xa_characters Tr_flooding Tr_gossiping Tr_counting cI cC cS o4.1 o4.2.1 o4.2.2.1 o4.2.2.2 o1.2.2.2.2.1 o1.2.2.2.2.2.1 o1.2.2.2.2.2.2.1 o1.2.2.2.2.2.2.2 o3.1 o3.2.1 o3.2.2.1 o3.2.2.2.1 o3.2.2.2.2.1 o3.2.2.2.2.2.1 o3.2.2.2.2.2.2.1 o3.2.2.2.2.2.2.2 X_characters (fX8_clear X_length) o1.2.1 o1.2.2.1 o1.2.2.2.1) rfl rfl rfl rfl (by decide) rfl rfl rfl rfl rfl rfl hl.1 rfl (Nat.le_of_ble_eq_true rfl) ⟨Nat.zero_le _, Nat.zero_le _⟩ dX9_load_48 (fun H locs hP hD hS => ?_)
    refine lv_aload_n hx hb dX9_load_51 rfl (lv_at hl 1 rfl) ?_
    refine va_get (D := D) (ci := 6) (v := .ref Sa) (C := RX9) (T := TX9) (N := 7) hx hb hts hi_X9 hown hK hP 0 rfl rfl 0 (by decide) q10 (fun _ h9 => h9) rfl dX9_load_52 ?_
    refine cv_i (ci := 4) (q := (RX7, TX7, 4)) (As := []) (rest := []) hx hb hml hown hts hK hP hD hA hS (kX7_rounds l D cI cC cS Sa Sa_roundEdges Sa_values  o4.1 o4.2.1 o4.2.2.1 o4.2.2.2 (fX7_rounds o4.2.2.2) rfl) (cwV 0 hts gX9_load_X7_rounds rfl rfl rfl (by decide +kernel) (by subst hR; exact ⟨Nat.le_of_ble_eq_true rfl, Nat.le_of_ble_eq_true rfl⟩)) [1, 2, 3] [0, 4, 5, 6, 7, 8, 9, 10, 11, 12, 13, 14, 15, 16, 17, 18, 19, 20, 21, 22, 23, 24, 25, 26, 27, 28] [0, 26, 27, 28, 1, 2, 3, 4, 5, 6, 7, 8, 9, 10, 11, 12, 13, 14, 15, 16, 17, 18, 19, 20, 21, 22, 23, 24, 25] [(Ta, .inr (6, [.ref Sa, .ref Da, .ref Ha, .ref Xa, .ref Tr_flooding, .ref Tr_gossiping, .ref Tr_counting])), (Da, .inr (4, [.ref Da_roundEdges, .ref Da_values, .int o1.2.2.2.2.2.2.1, .int o1.2.2.2.2.2.2.2])), (Da_roundEdges, .inl (cI, 16, .inl o1.2.2.2.2.1)), (Da_values, .inl (cI, 8, .inl o1.2.2.2.2.2.1)), (Ha, .inr (3, [.ref Ha_states, .int o3.1])), (Ha_states, .inl (cS, 6, .inr (.inr (.inr (.inr (fun i => some (o3.2.1 i))))))), (o3.2.1 0, .inr (4, [.ref (o3.2.2.1 0), .ref (o3.2.2.2.1 0), .int (o3.2.2.2.2.2.2.1 0), .int (o3.2.2.2.2.2.2.2 0)])), (o3.2.2.1 0, .inl (cI, 16, .inl (o3.2.2.2.2.1 0))), (o3.2.2.2.1 0, .inl (cI, 8, .inl (o3.2.2.2.2.2.1 0))), (o3.2.1 1, .inr (4, [.ref (o3.2.2.1 1), .ref (o3.2.2.2.1 1), .int (o3.2.2.2.2.2.2.1 1), .int (o3.2.2.2.2.2.2.2 1)])), (o3.2.2.1 1, .inl (cI, 16, .inl (o3.2.2.2.2.1 1))), (o3.2.2.2.1 1, .inl (cI, 8, .inl (o3.2.2.2.2.2.1 1))), (o3.2.1 2, .inr (4, [.ref (o3.2.2.1 2), .ref (o3.2.2.2.1 2), .int (o3.2.2.2.2.2.2.1 2), .int (o3.2.2.2.2.2.2.2 2)])), (o3.2.2.1 2, .inl (cI, 16, .inl (o3.2.2.2.2.1 2))), (o3.2.2.2.1 2, .inl (cI, 8, .inl (o3.2.2.2.2.2.1 2))), (o3.2.1 3, .inr (4, [.ref (o3.2.2.1 3), .ref (o3.2.2.2.1 3), .int (o3.2.2.2.2.2.2.1 3), .int (o3.2.2.2.2.2.2.2 3)])), (o3.2.2.1 3, .inl (cI, 16, .inl (o3.2.2.2.2.1 3))), (o3.2.2.2.1 3, .inl (cI, 8, .inl (o3.2.2.2.2.2.1 3))), (o3.2.1 4, .inr (4, [.ref (o3.2.2.1 4), .ref (o3.2.2.2.1 4), .int (o3.2.2.2.2.2.2.1 4), .int (o3.2.2.2.2.2.2.2 4)])), (o3.2.2.1 4, .inl (cI, 16, .inl (o3.2.2.2.2.1 4))), (o3.2.2.2.1 4, .inl (cI, 8, .inl (o3.2.2.2.2.2.1 4))), (o3.2.1 5, .inr (4, [.ref (o3.2.2.1 5), .ref (o3.2.2.2.1 5), .int (o3.2.2.2.2.2.2.1 5), .int (o3.2.2.2.2.2.2.2 5)])), (o3.2.2.1 5, .inl (cI, 16, .inl (o3.2.2.2.2.1 5))), (o3.2.2.2.1 5, .inl (cI, 8, .inl (o3.2.2.2.2.2.1 5))), (Xa, .inr (5, [.ref Xa_characters, .int (fX8_clear X_length), .int o1.2.1, .int o1.2.2.1, .int o1.2.2.2.1])), (Xa_characters, .inl (cC, 120, .inl X_characters))] (sh_X9SDHX Ta Sa Sa_roundEdges Sa_values Da Da_roundEdges Da_values Ha Ha_states Xa Xa_characters Tr_flooding Tr_gossiping Tr_counting cI cC cS o4.1 o4.2.1 o4.2.2.1 o4.2.2.2 o1.2.2.2.2.1 o1.2.2.2.2.2.1 o1.2.2.2.2.2.2.1 o1.2.2.2.2.2.2.2 o3.1 o3.2.1 o3.2.2.1 o3.2.2.2.1 o3.2.2.2.2.1 o3.2.2.2.2.2.1 o3.2.2.2.2.2.2.1 o3.2.2.2.2.2.2.2 X_characters (fX8_clear X_length) o1.2.1 o1.2.2.1 o1.2.2.2.1) rfl rfl rfl rfl (by decide) rfl rfl rfl rfl rfl rfl hl.1 rfl (Nat.le_of_ble_eq_true rfl) ⟨Nat.zero_le _, Nat.zero_le _⟩ dX9_load_55 (fun H locs hP hD hS => ?_)
    have hf := Option.some.inj hf
    subst hf
    exact rt_i hx hb hr hlocks hQ hK hP hD hS rfl dX9_load_58
  · have hf := if_f c2 hf
    refine lv_bipush (v := (-10 : Int32)) hx hb dX9_load_17 (by decide) ?_
    refine lv_iload_n hx hb dX9_load_19 rfl (lv_at hl 0 rfl) ?_
    refine lv_isub hx hb dX9_load_20 ?_
    have hf := Option.some.inj hf
    subst hf
    exact rt_i hx hb hr hlocks hQ hK hP hD hS rfl dX9_load_21
