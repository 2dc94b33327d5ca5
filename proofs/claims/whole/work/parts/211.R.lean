set_option maxRecDepth 100000 in
set_option maxHeartbeats 4000000 in
theorem kX10_center (l : Launch) (D : va_G) (cI cC cS : ClassId) (Ta Ta_s Ta_past Ta_aside Ta_text Ta_known Ta_then Ta_trip Ta_sent Ta_learned Ta_chosen Ta_decided : Nat) (T_s : Nat → Int32) (T_past : Nat → Int32) (T_aside : Nat → Int32) (T_pasts : Int32) (T_text : Nat → Int32) (T_typed : Int32) (T_at : Int32) (T_from : Int32) (T_token : Int32) (T_many : Int32) (T_letters : Int64) (T_number : Int32) (T_known : Nat → Int32) (T_then : Nat → Int32) (T_trip : Nat → Int32) (T_sent : Nat → Int32) (T_learned : Nat → Int32) (T_chosen : Nat → Int32) (T_decided : Nat → Int32) (o : Int32 × (Nat → Int32) × (Nat → Int32) × (Nat → Int32)) (hf : fX10_center T_s T_known T_then T_trip = some o) : CI l D yX10_center wsX10_center ({ frames := 3, cells := 0, slots := 0, locals := 68 } : Room) (tysK cI cC cS) [.ref Ta] (sh_X10 Ta Ta_s Ta_past Ta_aside Ta_text Ta_known Ta_then Ta_trip Ta_sent Ta_learned Ta_chosen Ta_decided cI cC cS T_s T_past T_aside T_pasts T_text T_typed T_at T_from T_token T_many T_letters T_number T_known T_then T_trip T_sent T_learned T_chosen T_decided) o.1 (sh_X10 Ta Ta_s Ta_past Ta_aside Ta_text Ta_known Ta_then Ta_trip Ta_sent Ta_learned Ta_chosen Ta_decided cI cC cS T_s T_past T_aside T_pasts T_text T_typed T_at T_from T_token T_many T_letters T_number o.2.1 o.2.2.1 o.2.2.2 T_sent T_learned T_chosen T_decided) := by
  refine met_i (cc := cX10_center) (maxL := 5) (ret := (some .int)) (by decide) rfl (Nat.le_of_ble_eq_true rfl) ?_
  intro p e s m args below meth c R Q A F hR hQ hP hK hD hA hS ls hl
  obtain ⟨hx, hb, hr, hts, hml, hlocks, hown⟩ := F
  have hown : s.vm.findClass RX10 = some m.cls := hown
  have hi_X10 : ∀ w ∈ u_ws RX10 TX10 19, w ∈ wsX10_center := fun w h => List.mem_cons_of_mem _ (List.mem_append_right _ h)
  have q7 := hts (.fieldLink RX10 7 "ChangingRoundsModel" "s" "[I") (by decide +kernel)
  have hl : lv_has ls 5 [(0, .ref Ta)] := hl
  unfold fX10_center at hf
  have L13 : ∀ (T_known : Nat → Int32) (T_then : Nat → Int32) (T_trip : Nat → Int32) (n13 : Nat) (x1 : Int32) (x2 : Int32) (x3 : Int32) (H : Heap) (locs : List Loc) (ls : Array Slot), fX10_center_l13 T_s T_known T_then T_trip n13 x1 x2 x3 = some o → va_P D vwCl (sh_X10 Ta Ta_s Ta_past Ta_aside Ta_text Ta_known Ta_then Ta_trip Ta_sent Ta_learned Ta_chosen Ta_decided cI cC cS T_s T_past T_aside T_pasts T_text T_typed T_at T_from T_token T_many T_letters T_number T_known T_then T_trip T_sent T_learned T_chosen T_decided) H → va_D A (sh_X10 Ta Ta_s Ta_past Ta_aside Ta_text Ta_known Ta_then Ta_trip Ta_sent Ta_learned Ta_chosen Ta_decided cI cC cS T_s T_past T_aside T_pasts T_text T_typed T_at T_from T_token T_many T_letters T_number T_known T_then T_trip T_sent T_learned T_chosen T_decided) → va_S A s.heap H locs → lv_has ls 5 [(0, .ref Ta), (1, .int x1), (2, .int x2), (3, .int x3)] → W p l e R s m args below meth c H locs 0 0 Q (F0 m 13 ls []) := by
    intro T_known T_then T_trip n13
    induction n13 with
    | zero => intro x1 x2 x3 H locs ls hf; cases (show (none : Option _) = some _ from hf)
    | succ n13 ih13 =>
      intro x1 x2 x3 H locs ls hf hP hD hS hl
      rw [fX10_center_l13] at hf
      refine lv_iload_n hx hb dX10_center_13 rfl (lv_at hl 3 rfl) ?_
      refine lv_aload_n hx hb dX10_center_14 rfl (lv_at hl 0 rfl) ?_
      refine va_get (D := D) (ci := 7) (v := .ref Ta_s) (C := RX10) (T := TX10) (N := 19) hx hb hts hi_X10 hown hK hP 0 rfl rfl 0 (by decide) q7 (fun _ h9 => h9) rfl dX10_center_15 ?_
      refine lv_iconst (v := (0 : Int32)) hx hb dX10_center_18 (by decide) ?_
      refine sx_iald (j := 0) hx hb hK hP 1 0 rfl rfl (inb_vp (by decide)) (by decide) dX10_center_19 ?_
      refine lv_icmp_ge (tgt := 60) hx hb dX10_center_20 (by decide) (fun c1 => ?_) (fun c1 => ?_)
      · have hf := if_t c1 hf
        refine lv_iload_n hx hb dX10_center_60 rfl (lv_at hl 1 rfl) ?_
        have hf := Option.some.inj hf
        subst hf
        exact rt_i hx hb hr hlocks hQ hK hP hD hS rfl dX10_center_61
      · have hf := if_f c1 hf
        refine lv_aload_n hx hb dX10_center_23 rfl (lv_at hl 0 rfl) ?_
        refine lv_iload_n hx hb dX10_center_24 rfl (lv_at hl 3 rfl) ?_
        obtain ⟨o2, ho2, hf⟩ := bd_some hf
        refine cv_i (ci := 7) (q := (RX10, TX10, 19)) (As := [.int x3]) (rest := []) hx hb hml hown hts hK hP hD hA hS (kX10_farthest l D cI cC cS Ta Ta_s Ta_past Ta_aside Ta_text Ta_known Ta_then Ta_trip Ta_sent Ta_learned Ta_chosen Ta_decided x3 T_s T_past T_aside T_pasts T_text T_typed T_at T_from T_token T_many T_letters T_number T_known T_then T_trip T_sent T_learned T_chosen T_decided o2 ho2) (cwV 1 hts gX10_center_X10_farthest rfl rfl rfl (by decide +kernel) (by subst hR; exact ⟨Nat.le_of_ble_eq_true rfl, Nat.le_of_ble_eq_true rfl⟩)) [0, 1, 2, 3, 4, 5, 6, 7, 8, 9, 10, 11] [] [0, 1, 2, 3, 4, 5, 6, 7, 8, 9, 10, 11] [] (sh_X10 Ta Ta_s Ta_past Ta_aside Ta_text Ta_known Ta_then Ta_trip Ta_sent Ta_learned Ta_chosen Ta_decided cI cC cS T_s T_past T_aside T_pasts T_text T_typed T_at T_from T_token T_many T_letters T_number T_known T_then T_trip T_sent T_learned T_chosen T_decided) rfl rfl rfl rfl (by decide) rfl rfl rfl rfl rfl rfl hl.1 rfl (Nat.le_of_ble_eq_true rfl) ⟨Nat.zero_le _, Nat.zero_le _⟩ dX10_center_25 (fun H locs hP hD hS => ?_)
        refine lv_istore (lv' := [(4, .int o2), (0, .ref Ta), (1, .int x1), (2, .int x2), (3, .int x3)]) hx hb dX10_center_28 hl (by decide) rfl (fun ls hl => ?_)
        refine lv_iload hx hb dX10_center_30 (lv_at hl 0 rfl) ?_
        refine lv_bipush (v := (-9 : Int32)) hx hb dX10_center_32 (by decide) ?_
        refine lv_icmp_eq (tgt := 54) hx hb dX10_center_34 (by decide) (fun c3 => ?_) (fun c3 => ?_)
        · have hf := if_t c3 hf
          refine lv_iinc (v := (x3 + 1)) (lv' := [(3, .int (x3 + 1)), (4, .int o2), (0, .ref Ta), (1, .int x1), (2, .int x2)]) hx hb dX10_center_54 hl (k := 4) rfl rfl (by decide) rfl (fun ls hl => ?_)
          refine lv_goto (tgt := 13) hx hb dX10_center_57 (by decide) ?_
          exact ih13 x1 x2 (x3 + 1) _ _ _ hf hP hD hS (lv_sub hl [2, 3, 4, 0] rfl)
        · have hf := if_f c3 hf
          refine lv_iload_n hx hb dX10_center_37 rfl (lv_at hl 2 rfl) ?_
          refine lv_bipush (v := (-9 : Int32)) hx hb dX10_center_38 (by decide) ?_
          refine lv_icmp_eq (tgt := 49) hx hb dX10_center_40 (by decide) (fun c4 => ?_) (fun c4 => ?_)
          · have hf := if_t c4 hf
            refine lv_iload_n hx hb dX10_center_49 rfl (lv_at hl 4 rfl) ?_
            refine lv_istore_n (lv' := [(1, .int x3), (4, .int o2), (0, .ref Ta), (2, .int x2), (3, .int x3)]) hx hb dX10_center_50 rfl hl (by decide) rfl (fun ls hl => ?_)
            refine lv_iload hx hb dX10_center_51 (lv_at hl 1 rfl) ?_
            refine lv_istore_n (lv' := [(2, .int o2), (1, .int x3), (4, .int o2), (0, .ref Ta), (3, .int x3)]) hx hb dX10_center_53 rfl hl (by decide) rfl (fun ls hl => ?_)
            refine lv_iinc (v := (x3 + 1)) (lv' := [(3, .int (x3 + 1)), (2, .int o2), (1, .int x3), (4, .int o2), (0, .ref Ta)]) hx hb dX10_center_54 hl (k := 4) rfl rfl (by decide) rfl (fun ls hl => ?_)
            refine lv_goto (tgt := 13) hx hb dX10_center_57 (by decide) ?_
            exact ih13 x3 o2 (x3 + 1) _ _ _ hf hP hD hS (lv_sub hl [4, 2, 1, 0] rfl)
          · have hf := if_f c4 hf
            refine lv_iload hx hb dX10_center_43 (lv_at hl 0 rfl) ?_
            refine lv_iload_n hx hb dX10_center_45 rfl (lv_at hl 3 rfl) ?_
            refine lv_icmp_ge (tgt := 54) hx hb dX10_center_46 (by decide) (fun c5 => ?_) (fun c5 => ?_)
            · have hf := if_t c5 hf
              refine lv_iinc (v := (x3 + 1)) (lv' := [(3, .int (x3 + 1)), (4, .int o2), (0, .ref Ta), (1, .int x1), (2, .int x2)]) hx hb dX10_center_54 hl (k := 4) rfl rfl (by decide) rfl (fun ls hl => ?_)
              refine lv_goto (tgt := 13) hx hb dX10_center_57 (by decide) ?_
              exact ih13 x1 x2 (x3 + 1) _ _ _ hf hP hD hS (lv_sub hl [2, 3, 4, 0] rfl)
            · have hf := if_f c5 hf
              refine lv_iload_n hx hb dX10_center_49 rfl (lv_at hl 4 rfl) ?_
              refine lv_istore_n (lv' := [(1, .int x3), (4, .int o2), (0, .ref Ta), (2, .int x2), (3, .int x3)]) hx hb dX10_center_50 rfl hl (by decide) rfl (fun ls hl => ?_)
              refine lv_iload hx hb dX10_center_51 (lv_at hl 1 rfl) ?_
              refine lv_istore_n (lv' := [(2, .int o2), (1, .int x3), (4, .int o2), (0, .ref Ta), (3, .int x3)]) hx hb dX10_center_53 rfl hl (by decide) rfl (fun ls hl => ?_)
              refine lv_iinc (v := (x3 + 1)) (lv' := [(3, .int (x3 + 1)), (2, .int o2), (1, .int x3), (4, .int o2), (0, .ref Ta)]) hx hb dX10_center_54 hl (k := 4) rfl rfl (by decide) rfl (fun ls hl => ?_)
              refine lv_goto (tgt := 13) hx hb dX10_center_57 (by decide) ?_
              exact ih13 x3 o2 (x3 + 1) _ _ _ hf hP hD hS (lv_sub hl [4, 2, 1, 0] rfl)
  refine lv_aload_n hx hb dX10_center_0 rfl (lv_at hl 0 rfl) ?_
  refine lv_iconst (v := (0 : Int32)) hx hb dX10_center_1 (by decide) ?_
  obtain ⟨o6, ho6, hf⟩ := bd_some hf
  refine cv_v (ci := 7) (q := (RX10, TX10, 19)) (As := [.int (0 : Int32)]) (rest := []) hx hb hml hown hts hK hP hD hA hS (kX10_travels l D cI cC cS Ta Ta_s Ta_past Ta_aside Ta_text Ta_known Ta_then Ta_trip Ta_sent Ta_learned Ta_chosen Ta_decided (0 : Int32) T_s T_past T_aside T_pasts T_text T_typed T_at T_from T_token T_many T_letters T_number T_known T_then T_trip T_sent T_learned T_chosen T_decided o6 ho6) (cwV 1 hts gX10_center_X10_travels rfl rfl rfl (by decide +kernel) (by subst hR; exact ⟨Nat.le_of_ble_eq_true rfl, Nat.le_of_ble_eq_true rfl⟩)) [0, 1, 2, 3, 4, 5, 6, 7, 8, 9, 10, 11] [] [0, 1, 2, 3, 4, 5, 6, 7, 8, 9, 10, 11] [] (sh_X10 Ta Ta_s Ta_past Ta_aside Ta_text Ta_known Ta_then Ta_trip Ta_sent Ta_learned Ta_chosen Ta_decided cI cC cS T_s T_past T_aside T_pasts T_text T_typed T_at T_from T_token T_many T_letters T_number o6.1 o6.2.1 o6.2.2 T_sent T_learned T_chosen T_decided) rfl rfl rfl rfl (by decide) rfl rfl rfl rfl rfl rfl hl.1 rfl (Nat.le_of_ble_eq_true rfl) ⟨Nat.zero_le _, Nat.zero_le _⟩ dX10_center_2 (fun H locs hP hD hS => ?_)
  refine lv_bipush (v := (-9 : Int32)) hx hb dX10_center_5 (by decide) ?_
  refine lv_istore_n (lv' := [(1, .int (-9 : Int32)), (0, .ref Ta)]) hx hb dX10_center_7 rfl hl (by decide) rfl (fun ls hl => ?_)
  refine lv_bipush (v := (-9 : Int32)) hx hb dX10_center_8 (by decide) ?_
  refine lv_istore_n (lv' := [(2, .int (-9 : Int32)), (1, .int (-9 : Int32)), (0, .ref Ta)]) hx hb dX10_center_10 rfl hl (by decide) rfl (fun ls hl => ?_)
  refine lv_iconst (v := (0 : Int32)) hx hb dX10_center_11 (by decide) ?_
  refine lv_istore_n (lv' := [(3, .int (0 : Int32)), (2, .int (-9 : Int32)), (1, .int (-9 : Int32)), (0, .ref Ta)]) hx hb dX10_center_12 rfl hl (by decide) rfl (fun ls hl => ?_)
  exact L13 o6.1 o6.2.1 o6.2.2 fuel (-9 : Int32) (-9 : Int32) (0 : Int32) _ _ _ hf hP hD hS (lv_sub hl [3, 2, 1, 0] rfl)
set_option maxRecDepth 100000 in
set_option maxHeartbeats 4000000 in
theorem kX10_newest (l : Launch) (D : va_G) (cI cC cS : ClassId) (Ta Ta_s Ta_past Ta_aside Ta_text Ta_known Ta_then Ta_trip Ta_sent Ta_learned Ta_chosen Ta_decided : Nat) (x1 : Int32) (T_s : Nat → Int32) (T_past : Nat → Int32) (T_aside : Nat → Int32) (T_pasts : Int32) (T_text : Nat → Int32) (T_typed : Int32) (T_at : Int32) (T_from : Int32) (T_token : Int32) (T_many : Int32) (T_letters : Int64) (T_number : Int32) (T_known : Nat → Int32) (T_then : Nat → Int32) (T_trip : Nat → Int32) (T_sent : Nat → Int32) (T_learned : Nat → Int32) (T_chosen : Nat → Int32) (T_decided : Nat → Int32) (o : Int32) (hf : fX10_newest x1 T_s T_known T_learned = some o) : CI l D yX10_newest wsX10_newest ({ frames := 0, cells := 0, slots := 0, locals := 0 } : Room) (tysK cI cC cS) [.ref Ta, .int x1] (sh_X10 Ta Ta_s Ta_past Ta_aside Ta_text Ta_known Ta_then Ta_trip Ta_sent Ta_learned Ta_chosen Ta_decided cI cC cS T_s T_past T_aside T_pasts T_text T_typed T_at T_from T_token T_many T_letters T_number T_known T_then T_trip T_sent T_learned T_chosen T_decided) o (sh_X10 Ta Ta_s Ta_past Ta_aside Ta_text Ta_known Ta_then Ta_trip Ta_sent Ta_learned Ta_chosen Ta_decided cI cC cS T_s T_past T_aside T_pasts T_text T_typed T_at T_from T_token T_many T_letters T_number T_known T_then T_trip T_sent T_learned T_chosen T_decided) := by
  refine met_i (cc := cX10_newest) (maxL := 5) (ret := (some .int)) (by decide) rfl (Nat.le_of_ble_eq_true rfl) ?_
  intro p e s m args below meth c R Q A F hR hQ hP hK hD hA hS ls hl
  obtain ⟨hx, hb, hr, hts, hml, hlocks, hown⟩ := F
  have hown : s.vm.findClass RX10 = some m.cls := hown
  have hi_X10 : ∀ w ∈ u_ws RX10 TX10 19, w ∈ wsX10_newest := fun w h => List.mem_cons_of_mem _ (List.mem_append_right _ h)
  have q7 := hts (.fieldLink RX10 7 "ChangingRoundsModel" "s" "[I") (by decide +kernel)
  have q22 := hts (.fieldLink RX10 22 "ChangingRoundsModel" "known" "[I") (by decide +kernel)
  have q34 := hts (.fieldLink RX10 34 "ChangingRoundsModel" "learned" "[I") (by decide +kernel)
  have hl : lv_has ls 5 [(0, .ref Ta), (1, .int x1)] := hl
  unfold fX10_newest at hf
  have L4 : ∀ (n4 : Nat) (x2 : Int32) (x3 : Int32) (H : Heap) (locs : List Loc) (ls : Array Slot), fX10_newest_l4 x1 T_s T_known T_learned n4 x2 x3 = some o → va_P D vwCl (sh_X10 Ta Ta_s Ta_past Ta_aside Ta_text Ta_known Ta_then Ta_trip Ta_sent Ta_learned Ta_chosen Ta_decided cI cC cS T_s T_past T_aside T_pasts T_text T_typed T_at T_from T_token T_many T_letters T_number T_known T_then T_trip T_sent T_learned T_chosen T_decided) H → va_D A (sh_X10 Ta Ta_s Ta_past Ta_aside Ta_text Ta_known Ta_then Ta_trip Ta_sent Ta_learned Ta_chosen Ta_decided cI cC cS T_s T_past T_aside T_pasts T_text T_typed T_at T_from T_token T_many T_letters T_number T_known T_then T_trip T_sent T_learned T_chosen T_decided) → va_S A s.heap H locs → lv_has ls 5 [(0, .ref Ta), (1, .int x1), (2, .int x2), (3, .int x3)] → W p l e R s m args below meth c H locs 0 0 Q (F0 m 4 ls []) := by
    intro n4
    induction n4 with
    | zero => intro x2 x3 H locs ls hf; cases (show (none : Option _) = some _ from hf)
    | succ n4 ih4 =>
      have J33 : ∀ (x2 : Int32) (x3 : Int32) (y0 : Int32) (H : Heap) (locs : List Loc) (ls : Array Slot), fX10_newest_b33 (fX10_newest_l4 x1 T_s T_known T_learned n4) x1 x2 x3 y0 T_s T_known T_learned = some o → va_P D vwCl (sh_X10 Ta Ta_s Ta_past Ta_aside Ta_text Ta_known Ta_then Ta_trip Ta_sent Ta_learned Ta_chosen Ta_decided cI cC cS T_s T_past T_aside T_pasts T_text T_typed T_at T_from T_token T_many T_letters T_number T_known T_then T_trip T_sent T_learned T_chosen T_decided) H → va_D A (sh_X10 Ta Ta_s Ta_past Ta_aside Ta_text Ta_known Ta_then Ta_trip Ta_sent Ta_learned Ta_chosen Ta_decided cI cC cS T_s T_past T_aside T_pasts T_text T_typed T_at T_from T_token T_many T_letters T_number T_known T_then T_trip T_sent T_learned T_chosen T_decided) → va_S A s.heap H locs → lv_has ls 5 [(0, .ref Ta), (1, .int x1), (2, .int x2), (3, .int x3)] → W p l e R s m args below meth c H locs 0 0 Q (F0 m 33 ls [.int y0]) := by
        intro x2 x3 y0 H locs ls hf hP hD hS hl
        unfold fX10_newest_b33 at hf
        refine lv_istore (lv' := [(4, .int y0), (0, .ref Ta), (1, .int x1), (2, .int x2), (3, .int x3)]) hx hb dX10_newest_33 hl (by decide) rfl (fun ls hl => ?_)
        refine lv_iload hx hb dX10_newest_35 (lv_at hl 0 rfl) ?_
        refine lv_if_eq (tgt := 99) hx hb dX10_newest_37 (by decide) (fun c1 => ?_) (fun c1 => ?_)
        · have hf := if_t c1 hf
          refine lv_iload_n hx hb dX10_newest_99 rfl (lv_at hl 3 rfl) ?_
          refine lv_istore_n (lv' := [(2, .int x2), (4, .int y0), (0, .ref Ta), (1, .int x1), (3, .int x3)]) hx hb dX10_newest_100 rfl hl (by decide) rfl (fun ls hl => ?_)
          refine lv_iinc (v := (x3 + 1)) (lv' := [(3, .int (x3 + 1)), (2, .int x2), (4, .int y0), (0, .ref Ta), (1, .int x1)]) hx hb dX10_newest_101 hl (k := 4) rfl rfl (by decide) rfl (fun ls hl => ?_)
          refine lv_goto (tgt := 4) hx hb dX10_newest_104 (by decide) ?_
          exact ih4 x2 (x3 + 1) _ _ _ hf hP hD hS (lv_sub hl [3, 4, 1, 0] rfl)
        · have hf := if_f c1 hf
          refine lv_aload_n hx hb dX10_newest_40 rfl (lv_at hl 1 rfl) ?_
          refine va_get (D := D) (ci := 7) (v := .ref Ta_learned) (C := RX10) (T := TX10) (N := 19) hx hb hts hi_X10 hown hK hP 0 rfl rfl 16 (by decide) q34 (fun _ h9 => h9) rfl dX10_newest_41 ?_
          refine lv_bipush (v := (8 : Int32)) hx hb dX10_newest_44 (by decide) ?_
          refine lv_iload_n hx hb dX10_newest_46 rfl (lv_at hl 2 rfl) ?_
          refine lv_imul hx hb dX10_newest_47 ?_
          refine lv_iload_n hx hb dX10_newest_48 rfl (lv_at hl 4 rfl) ?_
          refine lv_iadd hx hb dX10_newest_49 ?_
          obtain ⟨hz, hf⟩ := ck_some hf
          refine sx_iald (j := (((8 : Int32) * x1) + x3).toNatClampNeg) hx hb hK hP 9 0 rfl rfl (inb_vp hz) rfl dX10_newest_50 ?_
          refine lv_aload_n hx hb dX10_newest_51 rfl (lv_at hl 1 rfl) ?_
          refine va_get (D := D) (ci := 7) (v := .ref Ta_learned) (C := RX10) (T := TX10) (N := 19) hx hb hts hi_X10 hown hK hP 0 rfl rfl 16 (by decide) q34 (fun _ h9 => h9) rfl dX10_newest_52 ?_
          refine lv_bipush (v := (8 : Int32)) hx hb dX10_newest_55 (by decide) ?_
          refine lv_iload_n hx hb dX10_newest_57 rfl (lv_at hl 2 rfl) ?_
          refine lv_imul hx hb dX10_newest_58 ?_
          refine lv_iload_n hx hb dX10_newest_59 rfl (lv_at hl 3 rfl) ?_
          refine lv_iadd hx hb dX10_newest_60 ?_
          obtain ⟨hz, hf⟩ := ck_some hf
          refine sx_iald (j := (((8 : Int32) * x1) + x2).toNatClampNeg) hx hb hK hP 9 0 rfl rfl (inb_vp hz) rfl dX10_newest_61 ?_
          refine lv_icmp_gt (tgt := 95) hx hb dX10_newest_62 (by decide) (fun c2 => ?_) (fun c2 => ?_)
          · have hf := if_t c2 hf
            refine lv_iload_n hx hb dX10_newest_95 rfl (lv_at hl 4 rfl) ?_
            refine lv_goto (tgt := 100) hx hb dX10_newest_96 (by decide) ?_
            refine lv_istore_n (lv' := [(2, .int x3), (4, .int y0), (0, .ref Ta), (1, .int x1), (3, .int x3)]) hx hb dX10_newest_100 rfl hl (by decide) rfl (fun ls hl => ?_)
            refine lv_iinc (v := (x3 + 1)) (lv' := [(3, .int (x3 + 1)), (2, .int x3), (4, .int y0), (0, .ref Ta), (1, .int x1)]) hx hb dX10_newest_101 hl (k := 4) rfl rfl (by decide) rfl (fun ls hl => ?_)
            refine lv_goto (tgt := 4) hx hb dX10_newest_104 (by decide) ?_
            exact ih4 x3 (x3 + 1) _ _ _ hf hP hD hS (lv_sub hl [3, 4, 1, 0] rfl)
          · have hf := if_f c2 hf
            refine lv_aload_n hx hb dX10_newest_65 rfl (lv_at hl 1 rfl) ?_
            refine va_get (D := D) (ci := 7) (v := .ref Ta_learned) (C := RX10) (T := TX10) (N := 19) hx hb hts hi_X10 hown hK hP 0 rfl rfl 16 (by decide) q34 (fun _ h9 => h9) rfl dX10_newest_66 ?_
            refine lv_bipush (v := (8 : Int32)) hx hb dX10_newest_69 (by decide) ?_
            refine lv_iload_n hx hb dX10_newest_71 rfl (lv_at hl 2 rfl) ?_
            refine lv_imul hx hb dX10_newest_72 ?_
            refine lv_iload_n hx hb dX10_newest_73 rfl (lv_at hl 4 rfl) ?_
            refine lv_iadd hx hb dX10_newest_74 ?_
            obtain ⟨hz, hf⟩ := ck_some hf
            refine sx_iald (j := (((8 : Int32) * x1) + x3).toNatClampNeg) hx hb hK hP 9 0 rfl rfl (inb_vp hz) rfl dX10_newest_75 ?_
            refine lv_aload_n hx hb dX10_newest_76 rfl (lv_at hl 1 rfl) ?_
            refine va_get (D := D) (ci := 7) (v := .ref Ta_learned) (C := RX10) (T := TX10) (N := 19) hx hb hts hi_X10 hown hK hP 0 rfl rfl 16 (by decide) q34 (fun _ h9 => h9) rfl dX10_newest_77 ?_
            refine lv_bipush (v := (8 : Int32)) hx hb dX10_newest_80 (by decide) ?_
            refine lv_iload_n hx hb dX10_newest_82 rfl (lv_at hl 2 rfl) ?_
            refine lv_imul hx hb dX10_newest_83 ?_
            refine lv_iload_n hx hb dX10_newest_84 rfl (lv_at hl 3 rfl) ?_
            refine lv_iadd hx hb dX10_newest_85 ?_
            obtain ⟨hz, hf⟩ := ck_some hf
            refine sx_iald (j := (((8 : Int32) * x1) + x2).toNatClampNeg) hx hb hK hP 9 0 rfl rfl (inb_vp hz) rfl dX10_newest_86 ?_
            refine lv_icmp_ne (tgt := 99) hx hb dX10_newest_87 (by decide) (fun c3 => ?_) (fun c3 => ?_)
            · have hf := if_f c3 hf
              refine lv_iload_n hx hb dX10_newest_99 rfl (lv_at hl 3 rfl) ?_
              refine lv_istore_n (lv' := [(2, .int x2), (4, .int y0), (0, .ref Ta), (1, .int x1), (3, .int x3)]) hx hb dX10_newest_100 rfl hl (by decide) rfl (fun ls hl => ?_)
              refine lv_iinc (v := (x3 + 1)) (lv' := [(3, .int (x3 + 1)), (2, .int x2), (4, .int y0), (0, .ref Ta), (1, .int x1)]) hx hb dX10_newest_101 hl (k := 4) rfl rfl (by decide) rfl (fun ls hl => ?_)
              refine lv_goto (tgt := 4) hx hb dX10_newest_104 (by decide) ?_
              exact ih4 x2 (x3 + 1) _ _ _ hf hP hD hS (lv_sub hl [3, 4, 1, 0] rfl)
            · have hf := if_t c3 hf
              refine lv_iload_n hx hb dX10_newest_90 rfl (lv_at hl 4 rfl) ?_
              refine lv_iload_n hx hb dX10_newest_91 rfl (lv_at hl 3 rfl) ?_
              refine lv_icmp_le (tgt := 99) hx hb dX10_newest_92 (by decide) (fun c4 => ?_) (fun c4 => ?_)
              · have hf := if_t c4 hf
                refine lv_iload_n hx hb dX10_newest_99 rfl (lv_at hl 3 rfl) ?_
                refine lv_istore_n (lv' := [(2, .int x2), (4, .int y0), (0, .ref Ta), (1, .int x1), (3, .int x3)]) hx hb dX10_newest_100 rfl hl (by decide) rfl (fun ls hl => ?_)
                refine lv_iinc (v := (x3 + 1)) (lv' := [(3, .int (x3 + 1)), (2, .int x2), (4, .int y0), (0, .ref Ta), (1, .int x1)]) hx hb dX10_newest_101 hl (k := 4) rfl rfl (by decide) rfl (fun ls hl => ?_)
                refine lv_goto (tgt := 4) hx hb dX10_newest_104 (by decide) ?_
                exact ih4 x2 (x3 + 1) _ _ _ hf hP hD hS (lv_sub hl [3, 4, 1, 0] rfl)
              · have hf := if_f c4 hf
                refine lv_iload_n hx hb dX10_newest_95 rfl (lv_at hl 4 rfl) ?_
                refine lv_goto (tgt := 100) hx hb dX10_newest_96 (by decide) ?_
                refine lv_istore_n (lv' := [(2, .int x3), (4, .int y0), (0, .ref Ta), (1, .int x1), (3, .int x3)]) hx hb dX10_newest_100 rfl hl (by decide) rfl (fun ls hl => ?_)
                refine lv_iinc (v := (x3 + 1)) (lv' := [(3, .int (x3 + 1)), (2, .int x3), (4, .int y0), (0, .ref Ta), (1, .int x1)]) hx hb dX10_newest_101 hl (k := 4) rfl rfl (by decide) rfl (fun ls hl => ?_)
                refine lv_goto (tgt := 4) hx hb dX10_newest_104 (by decide) ?_
                exact ih4 x3 (x3 + 1) _ _ _ hf hP hD hS (lv_sub hl [3, 4, 1, 0] rfl)
      intro x2 x3 H locs ls hf hP hD hS hl
      rw [fX10_newest_l4] at hf
      refine lv_iload_n hx hb dX10_newest_4 rfl (lv_at hl 3 rfl) ?_
      refine lv_aload_n hx hb dX10_newest_5 rfl (lv_at hl 0 rfl) ?_
      refine va_get (D := D) (ci := 7) (v := .ref Ta_s) (C := RX10) (T := TX10) (N := 19) hx hb hts hi_X10 hown hK hP 0 rfl rfl 0 (by decide) q7 (fun _ h9 => h9) rfl dX10_newest_6 ?_
      refine lv_iconst (v := (0 : Int32)) hx hb dX10_newest_9 (by decide) ?_
      refine sx_iald (j := 0) hx hb hK hP 1 0 rfl rfl (inb_vp (by decide)) (by decide) dX10_newest_10 ?_
      refine lv_icmp_ge (tgt := 107) hx hb dX10_newest_11 (by decide) (fun c5 => ?_) (fun c5 => ?_)
      · have hf := if_t c5 hf
        refine lv_iload_n hx hb dX10_newest_107 rfl (lv_at hl 2 rfl) ?_
        have hf := Option.some.inj hf
        subst hf
        exact rt_i hx hb hr hlocks hQ hK hP hD hS rfl dX10_newest_108
      · have hf := if_f c5 hf
        refine lv_aload_n hx hb dX10_newest_14 rfl (lv_at hl 0 rfl) ?_
        refine va_get (D := D) (ci := 7) (v := .ref Ta_known) (C := RX10) (T := TX10) (N := 19) hx hb hts hi_X10 hown hK hP 0 rfl rfl 12 (by decide) q22 (fun _ h9 => h9) rfl dX10_newest_15 ?_
        refine lv_iload_n hx hb dX10_newest_18 rfl (lv_at hl 1 rfl) ?_
        obtain ⟨hz, hf⟩ := ck_some hf
        refine sx_iald (j := x1.toNatClampNeg) hx hb hK hP 5 0 rfl rfl (inb_vp hz) rfl dX10_newest_19 ?_
        refine lv_iload_n hx hb dX10_newest_20 rfl (lv_at hl 3 rfl) ?_
        refine lv_ishr hx hb dX10_newest_21 ?_
        refine lv_iconst (v := (1 : Int32)) hx hb dX10_newest_22 (by decide) ?_
        refine lv_iand hx hb dX10_newest_23 ?_
        refine lv_iconst (v := (1 : Int32)) hx hb dX10_newest_24 (by decide) ?_
        refine lv_icmp_ne (tgt := 32) hx hb dX10_newest_25 (by decide) (fun c6 => ?_) (fun c6 => ?_)
        · have hf := if_f c6 hf
          refine lv_iconst (v := (0 : Int32)) hx hb dX10_newest_32 (by decide) ?_
          exact J33 x2 x3 (0 : Int32) _ _ _ hf hP hD hS (lv_sub hl [0, 1, 2, 3] rfl)
        · have hf := if_t c6 hf
          refine lv_iconst (v := (1 : Int32)) hx hb dX10_newest_28 (by decide) ?_
          refine lv_goto (tgt := 33) hx hb dX10_newest_29 (by decide) ?_
          exact J33 x2 x3 (1 : Int32) _ _ _ hf hP hD hS (lv_sub hl [0, 1, 2, 3] rfl)
  refine lv_iload_n hx hb dX10_newest_0 rfl (lv_at hl 1 rfl) ?_
  refine lv_istore_n (lv' := [(2, .int x1), (0, .ref Ta), (1, .int x1)]) hx hb dX10_newest_1 rfl hl (by decide) rfl (fun ls hl => ?_)
  refine lv_iconst (v := (0 : Int32)) hx hb dX10_newest_2 (by decide) ?_
  refine lv_istore_n (lv' := [(3, .int (0 : Int32)), (2, .int x1), (0, .ref Ta), (1, .int x1)]) hx hb dX10_newest_3 rfl hl (by decide) rfl (fun ls hl => ?_)
  exact L4  fuel x1 (0 : Int32) _ _ _ hf hP hD hS (lv_sub hl [2, 3, 1, 0] rfl)
set_option maxRecDepth 100000 in
set_option maxHeartbeats 4000000 in
theorem kX10_choice (l : Launch) (D : va_G) (cI cC cS : ClassId) (Ta Ta_s Ta_past Ta_aside Ta_text Ta_known Ta_then Ta_trip Ta_sent Ta_learned Ta_chosen Ta_decided : Nat) (x1 : Int32) (x2 : Int32) (x3 : Int32) (T_s : Nat → Int32) (T_past : Nat → Int32) (T_aside : Nat → Int32) (T_pasts : Int32) (T_text : Nat → Int32) (T_typed : Int32) (T_at : Int32) (T_from : Int32) (T_token : Int32) (T_many : Int32) (T_letters : Int64) (T_number : Int32) (T_known : Nat → Int32) (T_then : Nat → Int32) (T_trip : Nat → Int32) (T_sent : Nat → Int32) (T_learned : Nat → Int32) (T_chosen : Nat → Int32) (T_decided : Nat → Int32) (o : Int32) (hf : fX10_choice x1 x2 x3 T_s T_known T_sent T_learned = some o) : CI l D yX10_choice wsX10_choice ({ frames := 1, cells := 0, slots := 0, locals := 24 } : Room) (tysK cI cC cS) [.ref Ta, .int x1, .int x2, .int x3] (sh_X10 Ta Ta_s Ta_past Ta_aside Ta_text Ta_known Ta_then Ta_trip Ta_sent Ta_learned Ta_chosen Ta_decided cI cC cS T_s T_past T_aside T_pasts T_text T_typed T_at T_from T_token T_many T_letters T_number T_known T_then T_trip T_sent T_learned T_chosen T_decided) o (sh_X10 Ta Ta_s Ta_past Ta_aside Ta_text Ta_known Ta_then Ta_trip Ta_sent Ta_learned Ta_chosen Ta_decided cI cC cS T_s T_past T_aside T_pasts T_text T_typed T_at T_from T_token T_many T_letters T_number T_known T_then T_trip T_sent T_learned T_chosen T_decided) := by
  refine met_i (cc := cX10_choice) (maxL := 5) (ret := (some .int)) (by decide) rfl (Nat.le_of_ble_eq_true rfl) ?_
  intro p e s m args below meth c R Q A F hR hQ hP hK hD hA hS ls hl
  obtain ⟨hx, hb, hr, hts, hml, hlocks, hown⟩ := F
  have hown : s.vm.findClass RX10 = some m.cls := hown
  have hi_X10 : ∀ w ∈ u_ws RX10 TX10 19, w ∈ wsX10_choice := fun w h => List.mem_cons_of_mem _ (List.mem_append_right _ h)
  have q22 := hts (.fieldLink RX10 22 "ChangingRoundsModel" "known" "[I") (by decide +kernel)
  have q31 := hts (.fieldLink RX10 31 "ChangingRoundsModel" "sent" "[I") (by decide +kernel)
  have q7 := hts (.fieldLink RX10 7 "ChangingRoundsModel" "s" "[I") (by decide +kernel)
  have hl : lv_has ls 5 [(0, .ref Ta), (1, .int x1), (2, .int x2), (3, .int x3)] := hl
  unfold fX10_choice at hf
  have J37 : ∀ (y0 : Int32) (H : Heap) (locs : List Loc) (ls : Array Slot), fX10_choice_b37 y0 = some o → va_P D vwCl (sh_X10 Ta Ta_s Ta_past Ta_aside Ta_text Ta_known Ta_then Ta_trip Ta_sent Ta_learned Ta_chosen Ta_decided cI cC cS T_s T_past T_aside T_pasts T_text T_typed T_at T_from T_token T_many T_letters T_number T_known T_then T_trip T_sent T_learned T_chosen T_decided) H → va_D A (sh_X10 Ta Ta_s Ta_past Ta_aside Ta_text Ta_known Ta_then Ta_trip Ta_sent Ta_learned Ta_chosen Ta_decided cI cC cS T_s T_past T_aside T_pasts T_text T_typed T_at T_from T_token T_many T_letters T_number T_known T_then T_trip T_sent T_learned T_chosen T_decided) → va_S A s.heap H locs → lv_has ls 5 [] → W p l e R s m args below meth c H locs 0 0 Q (F0 m 37 ls [.int y0]) := by
    intro y0 H locs ls hf hP hD hS hl
    unfold fX10_choice_b37 at hf
    obtain ⟨o1, ho1, hf⟩ := bd_some hf
    refine cs_i (As := [.int y0]) (rest := []) hx hb hml hown hts hK hP hD hA hS (kX10_lowest l D cI cC cS  y0  o1 ho1) (va_cwS 1 hts gX10_choice_X10_lowest rfl rfl rfl (by decide +kernel) (by subst hR; exact ⟨Nat.le_of_ble_eq_true rfl, Nat.le_of_ble_eq_true rfl⟩)) rfl hl.1 rfl (Nat.le_of_ble_eq_true rfl) ⟨Nat.zero_le _, Nat.zero_le _⟩ dX10_choice_37 (fun H locs hP hD hS => ?_)
    have hf := Option.some.inj hf
    subst hf
    exact rt_i hx hb hr hlocks hQ hK hP hD hS rfl dX10_choice_40
  refine lv_iload_n hx hb dX10_choice_0 rfl (lv_at hl 1 rfl) ?_
  refine lv_if_ne (tgt := 41) hx hb dX10_choice_1 (by decide) (fun c2 => ?_) (fun c2 => ?_)
  · have hf := if_f c2 hf
    refine lv_iload_n hx hb dX10_choice_41 rfl (lv_at hl 1 rfl) ?_
    refine lv_iconst (v := (1 : Int32)) hx hb dX10_choice_42 (by decide) ?_
    refine lv_icmp_ne (tgt := 52) hx hb dX10_choice_43 (by decide) (fun c3 => ?_) (fun c3 => ?_)
    · have hf := if_f c3 hf
      refine lv_iload_n hx hb dX10_choice_52 rfl (lv_at hl 3 rfl) ?_
      refine lv_aload_n hx hb dX10_choice_53 rfl (lv_at hl 0 rfl) ?_
      refine va_get (D := D) (ci := 7) (v := .ref Ta_s) (C := RX10) (T := TX10) (N := 19) hx hb hts hi_X10 hown hK hP 0 rfl rfl 0 (by decide) q7 (fun _ h9 => h9) rfl dX10_choice_54 ?_
      refine lv_iconst (v := (0 : Int32)) hx hb dX10_choice_57 (by decide) ?_
      refine sx_iald (j := 0) hx hb hK hP 1 0 rfl rfl (inb_vp (by decide)) (by decide) dX10_choice_58 ?_
      obtain ⟨hz, hf⟩ := ck_some hf
      refine lv_irem hx hb dX10_choice_59 (nz_ne hz) ?_
      refine lv_istore (lv' := [(4, .int (x3 - x3 / (T_s 0) * (T_s 0))), (0, .ref Ta), (1, .int x1), (2, .int x2), (3, .int x3)]) hx hb dX10_choice_60 hl (by decide) rfl (fun ls hl => ?_)
      refine lv_aload_n hx hb dX10_choice_62 rfl (lv_at hl 1 rfl) ?_
      refine va_get (D := D) (ci := 7) (v := .ref Ta_known) (C := RX10) (T := TX10) (N := 19) hx hb hts hi_X10 hown hK hP 0 rfl rfl 12 (by decide) q22 (fun _ h9 => h9) rfl dX10_choice_63 ?_
      refine lv_iload_n hx hb dX10_choice_66 rfl (lv_at hl 3 rfl) ?_
      obtain ⟨hz, hf⟩ := ck_some hf
      refine sx_iald (j := x2.toNatClampNeg) hx hb hK hP 5 0 rfl rfl (inb_vp hz) rfl dX10_choice_67 ?_
      refine lv_iload hx hb dX10_choice_68 (lv_at hl 0 rfl) ?_
      refine lv_ishr hx hb dX10_choice_70 ?_
      refine lv_iconst (v := (1 : Int32)) hx hb dX10_choice_71 (by decide) ?_
      refine lv_iand hx hb dX10_choice_72 ?_
      refine lv_iconst (v := (1 : Int32)) hx hb dX10_choice_73 (by decide) ?_
      refine lv_icmp_ne (tgt := 82) hx hb dX10_choice_74 (by decide) (fun c4 => ?_) (fun c4 => ?_)
      · have hf := if_f c4 hf
        refine lv_iload_n hx hb dX10_choice_82 rfl (lv_at hl 3 rfl) ?_
        have hf := Option.some.inj hf
        subst hf
        exact rt_i hx hb hr hlocks hQ hK hP hD hS rfl dX10_choice_83
      · have hf := if_t c4 hf
        refine lv_iload hx hb dX10_choice_77 (lv_at hl 0 rfl) ?_
        refine lv_goto (tgt := 83) hx hb dX10_choice_79 (by decide) ?_
        have hf := Option.some.inj hf
        subst hf
        exact rt_i hx hb hr hlocks hQ hK hP hD hS rfl dX10_choice_83
    · have hf := if_t c3 hf
      refine lv_aload_n hx hb dX10_choice_46 rfl (lv_at hl 0 rfl) ?_
      refine lv_iload_n hx hb dX10_choice_47 rfl (lv_at hl 2 rfl) ?_
      obtain ⟨o5, ho5, hf⟩ := bd_some hf
      refine cv_i (ci := 7) (q := (RX10, TX10, 19)) (As := [.int x2]) (rest := []) hx hb hml hown hts hK hP hD hA hS (kX10_newest l D cI cC cS Ta Ta_s Ta_past Ta_aside Ta_text Ta_known Ta_then Ta_trip Ta_sent Ta_learned Ta_chosen Ta_decided x2 T_s T_past T_aside T_pasts T_text T_typed T_at T_from T_token T_many T_letters T_number T_known T_then T_trip T_sent T_learned T_chosen T_decided o5 ho5) (cwV 1 hts gX10_choice_X10_newest rfl rfl rfl (by decide +kernel) (by subst hR; exact ⟨Nat.le_of_ble_eq_true rfl, Nat.le_of_ble_eq_true rfl⟩)) [0, 1, 2, 3, 4, 5, 6, 7, 8, 9, 10, 11] [] [0, 1, 2, 3, 4, 5, 6, 7, 8, 9, 10, 11] [] (sh_X10 Ta Ta_s Ta_past Ta_aside Ta_text Ta_known Ta_then Ta_trip Ta_sent Ta_learned Ta_chosen Ta_decided cI cC cS T_s T_past T_aside T_pasts T_text T_typed T_at T_from T_token T_many T_letters T_number T_known T_then T_trip T_sent T_learned T_chosen T_decided) rfl rfl rfl rfl (by decide) rfl rfl rfl rfl rfl rfl hl.1 rfl (Nat.le_of_ble_eq_true rfl) ⟨Nat.zero_le _, Nat.zero_le _⟩ dX10_choice_48 (fun H locs hP hD hS => ?_)
      have hf := Option.some.inj hf
      subst hf
      exact rt_i hx hb hr hlocks hQ hK hP hD hS rfl dX10_choice_51
  · have hf := if_t c2 hf
    refine lv_aload_n hx hb dX10_choice_4 rfl (lv_at hl 0 rfl) ?_
    refine va_get (D := D) (ci := 7) (v := .ref Ta_known) (C := RX10) (T := TX10) (N := 19) hx hb hts hi_X10 hown hK hP 0 rfl rfl 12 (by decide) q22 (fun _ h9 => h9) rfl dX10_choice_5 ?_
    refine lv_iload_n hx hb dX10_choice_8 rfl (lv_at hl 2 rfl) ?_
    obtain ⟨hz, hf⟩ := ck_some hf
    refine sx_iald (j := x2.toNatClampNeg) hx hb hK hP 5 0 rfl rfl (inb_vp hz) rfl dX10_choice_9 ?_
    refine lv_aload_n hx hb dX10_choice_10 rfl (lv_at hl 0 rfl) ?_
    refine va_get (D := D) (ci := 7) (v := .ref Ta_sent) (C := RX10) (T := TX10) (N := 19) hx hb hts hi_X10 hown hK hP 0 rfl rfl 15 (by decide) q31 (fun _ h9 => h9) rfl dX10_choice_11 ?_
    refine lv_iload_n hx hb dX10_choice_14 rfl (lv_at hl 2 rfl) ?_
    obtain ⟨hz, hf⟩ := ck_some hf
    refine sx_iald (j := x2.toNatClampNeg) hx hb hK hP 8 0 rfl rfl (inb_vp hz) rfl dX10_choice_15 ?_
    refine lv_iconst (v := (-1 : Int32)) hx hb dX10_choice_16 (by decide) ?_
    refine lv_ixor hx hb dX10_choice_17 ?_
    refine lv_iand hx hb dX10_choice_18 ?_
    refine lv_istore (lv' := [(4, .int ((T_known x2.toNatClampNeg) &&& ((T_sent x2.toNatClampNeg) ^^^ (-1 : Int32)))), (0, .ref Ta), (1, .int x1), (2, .int x2), (3, .int x3)]) hx hb dX10_choice_19 hl (by decide) rfl (fun ls hl => ?_)
    refine lv_iload hx hb dX10_choice_21 (lv_at hl 0 rfl) ?_
    refine lv_if_ne (tgt := 35) hx hb dX10_choice_23 (by decide) (fun c6 => ?_) (fun c6 => ?_)
    · have hf := if_f c6 hf
      refine lv_iload hx hb dX10_choice_35 (lv_at hl 0 rfl) ?_
      exact J37 ((T_known x2.toNatClampNeg) &&& ((T_sent x2.toNatClampNeg) ^^^ (-1 : Int32))) _ _ _ hf hP hD hS (lv_sub hl [] rfl)
    · have hf := if_t c6 hf
      refine lv_aload_n hx hb dX10_choice_26 rfl (lv_at hl 1 rfl) ?_
      refine va_get (D := D) (ci := 7) (v := .ref Ta_known) (C := RX10) (T := TX10) (N := 19) hx hb hts hi_X10 hown hK hP 0 rfl rfl 12 (by decide) q22 (fun _ h9 => h9) rfl dX10_choice_27 ?_
      refine lv_iload_n hx hb dX10_choice_30 rfl (lv_at hl 3 rfl) ?_
      obtain ⟨hz, hf⟩ := ck_some hf
      refine sx_iald (j := x2.toNatClampNeg) hx hb hK hP 5 0 rfl rfl (inb_vp hz) rfl dX10_choice_31 ?_
      refine lv_goto (tgt := 37) hx hb dX10_choice_32 (by decide) ?_
      exact J37 (T_known x2.toNatClampNeg) _ _ _ hf hP hD hS (lv_sub hl [] rfl)
