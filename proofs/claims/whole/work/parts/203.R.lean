set_option maxRecDepth 100000 in
set_option maxHeartbeats 4000000 in
theorem kX10_clique (l : Launch) (D : va_G) (cI cC cS : ClassId) (Ta Ta_s Ta_past Ta_aside Ta_text Ta_known Ta_then Ta_trip Ta_sent Ta_learned Ta_chosen Ta_decided : Nat) (x1 : Int32) (T_s : Nat → Int32) (T_past : Nat → Int32) (T_aside : Nat → Int32) (T_pasts : Int32) (T_text : Nat → Int32) (T_typed : Int32) (T_at : Int32) (T_from : Int32) (T_token : Int32) (T_many : Int32) (T_letters : Int64) (T_number : Int32) (T_known : Nat → Int32) (T_then : Nat → Int32) (T_trip : Nat → Int32) (T_sent : Nat → Int32) (T_learned : Nat → Int32) (T_chosen : Nat → Int32) (T_decided : Nat → Int32) (o : Int32) (hf : fX10_clique x1 T_s = some o) : CI l D yX10_clique wsX10_clique ({ frames := 1, cells := 0, slots := 0, locals := 21 } : Room) (tysK cI cC cS) [.ref Ta, .int x1] (sh_X10 Ta Ta_s Ta_past Ta_aside Ta_text Ta_known Ta_then Ta_trip Ta_sent Ta_learned Ta_chosen Ta_decided cI cC cS T_s T_past T_aside T_pasts T_text T_typed T_at T_from T_token T_many T_letters T_number T_known T_then T_trip T_sent T_learned T_chosen T_decided) o (sh_X10 Ta Ta_s Ta_past Ta_aside Ta_text Ta_known Ta_then Ta_trip Ta_sent Ta_learned Ta_chosen Ta_decided cI cC cS T_s T_past T_aside T_pasts T_text T_typed T_at T_from T_token T_many T_letters T_number T_known T_then T_trip T_sent T_learned T_chosen T_decided) := by
  refine met_i (cc := cX10_clique) (maxL := 5) (ret := (some .int)) (by decide) rfl (Nat.le_of_ble_eq_true rfl) ?_
  intro p e s m args below meth c R Q A F hR hQ hP hK hD hA hS ls hl
  obtain ⟨hx, hb, hr, hts, hml, hlocks, hown⟩ := F
  have hown : s.vm.findClass RX10 = some m.cls := hown
  have hi_X10 : ∀ w ∈ u_ws RX10 TX10 19, w ∈ wsX10_clique := fun w h => List.mem_cons_of_mem _ (List.mem_append_right _ h)
  have q7 := hts (.fieldLink RX10 7 "ChangingRoundsModel" "s" "[I") (by decide +kernel)
  have hl : lv_has ls 5 [(0, .ref Ta), (1, .int x1)] := hl
  unfold fX10_clique at hf
  have L4 : ∀ (n4 : Nat) (x2 : Int32) (x3 : Int32) (H : Heap) (locs : List Loc) (ls : Array Slot), fX10_clique_l4 x1 T_s n4 x2 x3 = some o → va_P D vwCl (sh_X10 Ta Ta_s Ta_past Ta_aside Ta_text Ta_known Ta_then Ta_trip Ta_sent Ta_learned Ta_chosen Ta_decided cI cC cS T_s T_past T_aside T_pasts T_text T_typed T_at T_from T_token T_many T_letters T_number T_known T_then T_trip T_sent T_learned T_chosen T_decided) H → va_D A (sh_X10 Ta Ta_s Ta_past Ta_aside Ta_text Ta_known Ta_then Ta_trip Ta_sent Ta_learned Ta_chosen Ta_decided cI cC cS T_s T_past T_aside T_pasts T_text T_typed T_at T_from T_token T_many T_letters T_number T_known T_then T_trip T_sent T_learned T_chosen T_decided) → va_S A s.heap H locs → lv_has ls 5 [(0, .ref Ta), (1, .int x1), (2, .int x2), (3, .int x3)] → W p l e R s m args below meth c H locs 0 0 Q (F0 m 4 ls []) := by
    intro n4
    induction n4 with
    | zero => intro x2 x3 H locs ls hf; cases (show (none : Option _) = some _ from hf)
    | succ n4 ih4 =>
      have L17 : ∀ (x3 : Int32) (n17 : Nat) (x2 : Int32) (x4 : Int32) (H : Heap) (locs : List Loc) (ls : Array Slot), fX10_clique_l17 (fX10_clique_l4 x1 T_s n4) x1 x3 T_s n17 x2 x4 = some o → va_P D vwCl (sh_X10 Ta Ta_s Ta_past Ta_aside Ta_text Ta_known Ta_then Ta_trip Ta_sent Ta_learned Ta_chosen Ta_decided cI cC cS T_s T_past T_aside T_pasts T_text T_typed T_at T_from T_token T_many T_letters T_number T_known T_then T_trip T_sent T_learned T_chosen T_decided) H → va_D A (sh_X10 Ta Ta_s Ta_past Ta_aside Ta_text Ta_known Ta_then Ta_trip Ta_sent Ta_learned Ta_chosen Ta_decided cI cC cS T_s T_past T_aside T_pasts T_text T_typed T_at T_from T_token T_many T_letters T_number T_known T_then T_trip T_sent T_learned T_chosen T_decided) → va_S A s.heap H locs → lv_has ls 5 [(0, .ref Ta), (1, .int x1), (2, .int x2), (3, .int x3), (4, .int x4)] → W p l e R s m args below meth c H locs 0 0 Q (F0 m 17 ls []) := by
        intro x3 n17
        induction n17 with
        | zero => intro x2 x4 H locs ls hf; cases (show (none : Option _) = some _ from hf)
        | succ n17 ih17 =>
          intro x2 x4 H locs ls hf hP hD hS hl
          rw [fX10_clique_l17] at hf
          refine lv_iload hx hb dX10_clique_17 (lv_at hl 4 rfl) ?_
          refine lv_iload_n hx hb dX10_clique_19 rfl (lv_at hl 3 rfl) ?_
          refine lv_icmp_ge (tgt := 56) hx hb dX10_clique_20 (by decide) (fun c1 => ?_) (fun c1 => ?_)
          · have hf := if_t c1 hf
            refine lv_iinc (v := (x3 + 1)) (lv' := [(3, .int (x3 + 1)), (0, .ref Ta), (1, .int x1), (2, .int x2), (4, .int x4)]) hx hb dX10_clique_56 hl (k := 3) rfl rfl (by decide) rfl (fun ls hl => ?_)
            refine lv_goto (tgt := 4) hx hb dX10_clique_59 (by decide) ?_
            exact ih4 x2 (x3 + 1) _ _ _ hf hP hD hS (lv_sub hl [1, 2, 3, 0] rfl)
          · have hf := if_f c1 hf
            refine lv_iload_n hx hb dX10_clique_23 rfl (lv_at hl 2 rfl) ?_
            refine lv_iload_n hx hb dX10_clique_24 rfl (lv_at hl 1 rfl) ?_
            refine lv_iload hx hb dX10_clique_25 (lv_at hl 4 rfl) ?_
            refine lv_ishr hx hb dX10_clique_27 ?_
            refine lv_iload_n hx hb dX10_clique_28 rfl (lv_at hl 1 rfl) ?_
            refine lv_iload_n hx hb dX10_clique_29 rfl (lv_at hl 3 rfl) ?_
            refine lv_ishr hx hb dX10_clique_30 ?_
            refine lv_iand hx hb dX10_clique_31 ?_
            refine lv_iconst (v := (1 : Int32)) hx hb dX10_clique_32 (by decide) ?_
            refine lv_iand hx hb dX10_clique_33 ?_
            refine lv_iconst (v := (1 : Int32)) hx hb dX10_clique_34 (by decide) ?_
            refine lv_icmp_ne (tgt := 47) hx hb dX10_clique_35 (by decide) (fun c2 => ?_) (fun c2 => ?_)
            · have hf := if_f c2 hf
              refine lv_iconst (v := (0 : Int32)) hx hb dX10_clique_47 (by decide) ?_
              refine lv_ior hx hb dX10_clique_48 ?_
              refine lv_istore_n (lv' := [(2, .int (x2 ||| (0 : Int32))), (0, .ref Ta), (1, .int x1), (3, .int x3), (4, .int x4)]) hx hb dX10_clique_49 rfl hl (by decide) rfl (fun ls hl => ?_)
              refine lv_iinc (v := (x4 + 1)) (lv' := [(4, .int (x4 + 1)), (2, .int (x2 ||| (0 : Int32))), (0, .ref Ta), (1, .int x1), (3, .int x3)]) hx hb dX10_clique_50 hl (k := 4) rfl rfl (by decide) rfl (fun ls hl => ?_)
              refine lv_goto (tgt := 17) hx hb dX10_clique_53 (by decide) ?_
              exact ih17 (x2 ||| (0 : Int32)) (x4 + 1) _ _ _ hf hP hD hS (lv_sub hl [2, 3, 1, 4, 0] rfl)
            · have hf := if_t c2 hf
              refine lv_iload hx hb dX10_clique_38 (lv_at hl 4 rfl) ?_
              refine lv_iload_n hx hb dX10_clique_40 rfl (lv_at hl 3 rfl) ?_
              refine cs_i (As := [.int x4, .int x3]) (rest := [.int x2]) hx hb hml hown hts hK hP hD hA hS (kX10_pair l D cI cC cS  x4 x3  (fX10_pair x4 x3) rfl) (va_cwS 2 hts gX10_clique_X10_pair rfl rfl rfl (by decide +kernel) (by subst hR; exact ⟨Nat.le_of_ble_eq_true rfl, Nat.le_of_ble_eq_true rfl⟩)) rfl hl.1 rfl (Nat.le_of_ble_eq_true rfl) ⟨Nat.zero_le _, Nat.zero_le _⟩ dX10_clique_41 (fun H locs hP hD hS => ?_)
              refine lv_goto (tgt := 48) hx hb dX10_clique_44 (by decide) ?_
              refine lv_ior hx hb dX10_clique_48 ?_
              refine lv_istore_n (lv' := [(2, .int (x2 ||| (fX10_pair x4 x3))), (0, .ref Ta), (1, .int x1), (3, .int x3), (4, .int x4)]) hx hb dX10_clique_49 rfl hl (by decide) rfl (fun ls hl => ?_)
              refine lv_iinc (v := (x4 + 1)) (lv' := [(4, .int (x4 + 1)), (2, .int (x2 ||| (fX10_pair x4 x3))), (0, .ref Ta), (1, .int x1), (3, .int x3)]) hx hb dX10_clique_50 hl (k := 4) rfl rfl (by decide) rfl (fun ls hl => ?_)
              refine lv_goto (tgt := 17) hx hb dX10_clique_53 (by decide) ?_
              exact ih17 (x2 ||| (fX10_pair x4 x3)) (x4 + 1) _ _ _ hf hP hD hS (lv_sub hl [2, 3, 1, 4, 0] rfl)
      intro x2 x3 H locs ls hf hP hD hS hl
      rw [fX10_clique_l4] at hf
      refine lv_iload_n hx hb dX10_clique_4 rfl (lv_at hl 3 rfl) ?_
      refine lv_aload_n hx hb dX10_clique_5 rfl (lv_at hl 0 rfl) ?_
      refine va_get (D := D) (ci := 7) (v := .ref Ta_s) (C := RX10) (T := TX10) (N := 19) hx hb hts hi_X10 hown hK hP 0 rfl rfl 0 (by decide) q7 (fun _ h9 => h9) rfl dX10_clique_6 ?_
      refine lv_iconst (v := (0 : Int32)) hx hb dX10_clique_9 (by decide) ?_
      refine sx_iald (j := 0) hx hb hK hP 1 0 rfl rfl (inb_vp (by decide)) (by decide) dX10_clique_10 ?_
      refine lv_icmp_ge (tgt := 62) hx hb dX10_clique_11 (by decide) (fun c3 => ?_) (fun c3 => ?_)
      · have hf := if_t c3 hf
        refine lv_iload_n hx hb dX10_clique_62 rfl (lv_at hl 2 rfl) ?_
        have hf := Option.some.inj hf
        subst hf
        exact rt_i hx hb hr hlocks hQ hK hP hD hS rfl dX10_clique_63
      · have hf := if_f c3 hf
        refine lv_iconst (v := (0 : Int32)) hx hb dX10_clique_14 (by decide) ?_
        refine lv_istore (lv' := [(4, .int (0 : Int32)), (0, .ref Ta), (1, .int x1), (2, .int x2), (3, .int x3)]) hx hb dX10_clique_15 hl (by decide) rfl (fun ls hl => ?_)
        exact L17 x3 fuel x2 (0 : Int32) _ _ _ hf hP hD hS (lv_sub hl [1, 2, 3, 4, 0] rfl)
  refine lv_iconst (v := (0 : Int32)) hx hb dX10_clique_0 (by decide) ?_
  refine lv_istore_n (lv' := [(2, .int (0 : Int32)), (0, .ref Ta), (1, .int x1)]) hx hb dX10_clique_1 rfl hl (by decide) rfl (fun ls hl => ?_)
  refine lv_iconst (v := (0 : Int32)) hx hb dX10_clique_2 (by decide) ?_
  refine lv_istore_n (lv' := [(3, .int (0 : Int32)), (2, .int (0 : Int32)), (0, .ref Ta), (1, .int x1)]) hx hb dX10_clique_3 rfl hl (by decide) rfl (fun ls hl => ?_)
  exact L4  fuel (0 : Int32) (0 : Int32) _ _ _ hf hP hD hS (lv_sub hl [2, 3, 1, 0] rfl)
set_option maxRecDepth 100000 in
set_option maxHeartbeats 4000000 in
theorem kX10_star (l : Launch) (D : va_G) (cI cC cS : ClassId) (Ta Ta_s Ta_past Ta_aside Ta_text Ta_known Ta_then Ta_trip Ta_sent Ta_learned Ta_chosen Ta_decided : Nat) (x1 : Int32) (T_s : Nat → Int32) (T_past : Nat → Int32) (T_aside : Nat → Int32) (T_pasts : Int32) (T_text : Nat → Int32) (T_typed : Int32) (T_at : Int32) (T_from : Int32) (T_token : Int32) (T_many : Int32) (T_letters : Int64) (T_number : Int32) (T_known : Nat → Int32) (T_then : Nat → Int32) (T_trip : Nat → Int32) (T_sent : Nat → Int32) (T_learned : Nat → Int32) (T_chosen : Nat → Int32) (T_decided : Nat → Int32) (o : Int32) (hf : fX10_star x1 T_s = some o) : CI l D yX10_star wsX10_star ({ frames := 1, cells := 0, slots := 0, locals := 21 } : Room) (tysK cI cC cS) [.ref Ta, .int x1] (sh_X10 Ta Ta_s Ta_past Ta_aside Ta_text Ta_known Ta_then Ta_trip Ta_sent Ta_learned Ta_chosen Ta_decided cI cC cS T_s T_past T_aside T_pasts T_text T_typed T_at T_from T_token T_many T_letters T_number T_known T_then T_trip T_sent T_learned T_chosen T_decided) o (sh_X10 Ta Ta_s Ta_past Ta_aside Ta_text Ta_known Ta_then Ta_trip Ta_sent Ta_learned Ta_chosen Ta_decided cI cC cS T_s T_past T_aside T_pasts T_text T_typed T_at T_from T_token T_many T_letters T_number T_known T_then T_trip T_sent T_learned T_chosen T_decided) := by
  refine met_i (cc := cX10_star) (maxL := 4) (ret := (some .int)) (by decide) rfl (Nat.le_of_ble_eq_true rfl) ?_
  intro p e s m args below meth c R Q A F hR hQ hP hK hD hA hS ls hl
  obtain ⟨hx, hb, hr, hts, hml, hlocks, hown⟩ := F
  have hown : s.vm.findClass RX10 = some m.cls := hown
  have hi_X10 : ∀ w ∈ u_ws RX10 TX10 19, w ∈ wsX10_star := fun w h => List.mem_cons_of_mem _ (List.mem_append_right _ h)
  have q7 := hts (.fieldLink RX10 7 "ChangingRoundsModel" "s" "[I") (by decide +kernel)
  have hl : lv_has ls 4 [(0, .ref Ta), (1, .int x1)] := hl
  unfold fX10_star at hf
  have L4 : ∀ (n4 : Nat) (x2 : Int32) (x3 : Int32) (H : Heap) (locs : List Loc) (ls : Array Slot), fX10_star_l4 x1 T_s n4 x2 x3 = some o → va_P D vwCl (sh_X10 Ta Ta_s Ta_past Ta_aside Ta_text Ta_known Ta_then Ta_trip Ta_sent Ta_learned Ta_chosen Ta_decided cI cC cS T_s T_past T_aside T_pasts T_text T_typed T_at T_from T_token T_many T_letters T_number T_known T_then T_trip T_sent T_learned T_chosen T_decided) H → va_D A (sh_X10 Ta Ta_s Ta_past Ta_aside Ta_text Ta_known Ta_then Ta_trip Ta_sent Ta_learned Ta_chosen Ta_decided cI cC cS T_s T_past T_aside T_pasts T_text T_typed T_at T_from T_token T_many T_letters T_number T_known T_then T_trip T_sent T_learned T_chosen T_decided) → va_S A s.heap H locs → lv_has ls 4 [(0, .ref Ta), (1, .int x1), (2, .int x2), (3, .int x3)] → W p l e R s m args below meth c H locs 0 0 Q (F0 m 4 ls []) := by
    intro n4
    induction n4 with
    | zero => intro x2 x3 H locs ls hf; cases (show (none : Option _) = some _ from hf)
    | succ n4 ih4 =>
      intro x2 x3 H locs ls hf hP hD hS hl
      rw [fX10_star_l4] at hf
      refine lv_iload_n hx hb dX10_star_4 rfl (lv_at hl 3 rfl) ?_
      refine lv_aload_n hx hb dX10_star_5 rfl (lv_at hl 0 rfl) ?_
      refine va_get (D := D) (ci := 7) (v := .ref Ta_s) (C := RX10) (T := TX10) (N := 19) hx hb hts hi_X10 hown hK hP 0 rfl rfl 0 (by decide) q7 (fun _ h9 => h9) rfl dX10_star_6 ?_
      refine lv_iconst (v := (0 : Int32)) hx hb dX10_star_9 (by decide) ?_
      refine sx_iald (j := 0) hx hb hK hP 1 0 rfl rfl (inb_vp (by decide)) (by decide) dX10_star_10 ?_
      refine lv_icmp_ge (tgt := 37) hx hb dX10_star_11 (by decide) (fun c1 => ?_) (fun c1 => ?_)
      · have hf := if_t c1 hf
        refine lv_iload_n hx hb dX10_star_37 rfl (lv_at hl 2 rfl) ?_
        have hf := Option.some.inj hf
        subst hf
        exact rt_i hx hb hr hlocks hQ hK hP hD hS rfl dX10_star_38
      · have hf := if_f c1 hf
        refine lv_iload_n hx hb dX10_star_14 rfl (lv_at hl 2 rfl) ?_
        refine lv_iload_n hx hb dX10_star_15 rfl (lv_at hl 3 rfl) ?_
        refine lv_iload_n hx hb dX10_star_16 rfl (lv_at hl 1 rfl) ?_
        refine lv_icmp_ne (tgt := 24) hx hb dX10_star_17 (by decide) (fun c2 => ?_) (fun c2 => ?_)
        · have hf := if_f c2 hf
          refine lv_iload_n hx hb dX10_star_24 rfl (lv_at hl 3 rfl) ?_
          refine lv_iload_n hx hb dX10_star_25 rfl (lv_at hl 1 rfl) ?_
          refine cs_i (As := [.int x3, .int x1]) (rest := [.int x2]) hx hb hml hown hts hK hP hD hA hS (kX10_pair l D cI cC cS  x3 x1  (fX10_pair x3 x1) rfl) (va_cwS 2 hts gX10_star_X10_pair rfl rfl rfl (by decide +kernel) (by subst hR; exact ⟨Nat.le_of_ble_eq_true rfl, Nat.le_of_ble_eq_true rfl⟩)) rfl hl.1 rfl (Nat.le_of_ble_eq_true rfl) ⟨Nat.zero_le _, Nat.zero_le _⟩ dX10_star_26 (fun H locs hP hD hS => ?_)
          refine lv_ior hx hb dX10_star_29 ?_
          refine lv_istore_n (lv' := [(2, .int (x2 ||| (fX10_pair x3 x1))), (0, .ref Ta), (1, .int x1), (3, .int x3)]) hx hb dX10_star_30 rfl hl (by decide) rfl (fun ls hl => ?_)
          refine lv_iinc (v := (x3 + 1)) (lv' := [(3, .int (x3 + 1)), (2, .int (x2 ||| (fX10_pair x3 x1))), (0, .ref Ta), (1, .int x1)]) hx hb dX10_star_31 hl (k := 3) rfl rfl (by decide) rfl (fun ls hl => ?_)
          refine lv_goto (tgt := 4) hx hb dX10_star_34 (by decide) ?_
          exact ih4 (x2 ||| (fX10_pair x3 x1)) (x3 + 1) _ _ _ hf hP hD hS (lv_sub hl [2, 3, 1, 0] rfl)
        · have hf := if_t c2 hf
          refine lv_iconst (v := (0 : Int32)) hx hb dX10_star_20 (by decide) ?_
          refine lv_goto (tgt := 29) hx hb dX10_star_21 (by decide) ?_
          refine lv_ior hx hb dX10_star_29 ?_
          refine lv_istore_n (lv' := [(2, .int (x2 ||| (0 : Int32))), (0, .ref Ta), (1, .int x1), (3, .int x3)]) hx hb dX10_star_30 rfl hl (by decide) rfl (fun ls hl => ?_)
          refine lv_iinc (v := (x3 + 1)) (lv' := [(3, .int (x3 + 1)), (2, .int (x2 ||| (0 : Int32))), (0, .ref Ta), (1, .int x1)]) hx hb dX10_star_31 hl (k := 3) rfl rfl (by decide) rfl (fun ls hl => ?_)
          refine lv_goto (tgt := 4) hx hb dX10_star_34 (by decide) ?_
          exact ih4 (x2 ||| (0 : Int32)) (x3 + 1) _ _ _ hf hP hD hS (lv_sub hl [2, 3, 1, 0] rfl)
  refine lv_iconst (v := (0 : Int32)) hx hb dX10_star_0 (by decide) ?_
  refine lv_istore_n (lv' := [(2, .int (0 : Int32)), (0, .ref Ta), (1, .int x1)]) hx hb dX10_star_1 rfl hl (by decide) rfl (fun ls hl => ?_)
  refine lv_iconst (v := (0 : Int32)) hx hb dX10_star_2 (by decide) ?_
  refine lv_istore_n (lv' := [(3, .int (0 : Int32)), (2, .int (0 : Int32)), (0, .ref Ta), (1, .int x1)]) hx hb dX10_star_3 rfl hl (by decide) rfl (fun ls hl => ?_)
  exact L4  fuel (0 : Int32) (0 : Int32) _ _ _ hf hP hD hS (lv_sub hl [2, 3, 1, 0] rfl)
set_option maxRecDepth 100000 in
set_option maxHeartbeats 4000000 in
theorem kX10_lowest (l : Launch) (D : va_G) (cI cC cS : ClassId) (x0 : Int32) (o : Int32) (hf : fX10_lowest x0 = some o) : CI l D yX10_lowest wsX10_lowest ({ frames := 0, cells := 0, slots := 0, locals := 0 } : Room) (tysK cI cC cS) [.int x0] [] o [] := by
  refine met_i (cc := cX10_lowest) (maxL := 2) (ret := (some .int)) (by decide) rfl (Nat.le_of_ble_eq_true rfl) ?_
  intro p e s m args below meth c R Q A F hR hQ hP hK hD hA hS ls hl
  obtain ⟨hx, hb, hr, hts, hml, hlocks, hown⟩ := F
  have hown : s.vm.findClass RX10 = some m.cls := hown
  have hl : lv_has ls 2 [(0, .int x0)] := hl
  unfold fX10_lowest at hf
  have L2 : ∀ (n2 : Nat) (x1 : Int32) (H : Heap) (locs : List Loc) (ls : Array Slot), fX10_lowest_l2 x0 n2 x1 = some o → va_P D vwCl [] H → va_D A [] → va_S A s.heap H locs → lv_has ls 2 [(0, .int x0), (1, .int x1)] → W p l e R s m args below meth c H locs 0 0 Q (F0 m 2 ls []) := by
    intro n2
    induction n2 with
    | zero => intro x1 H locs ls hf; cases (show (none : Option _) = some _ from hf)
    | succ n2 ih2 =>
      intro x1 H locs ls hf hP hD hS hl
      rw [fX10_lowest_l2] at hf
      refine lv_iload_n hx hb dX10_lowest_2 rfl (lv_at hl 0 rfl) ?_
      refine lv_iload_n hx hb dX10_lowest_3 rfl (lv_at hl 1 rfl) ?_
      refine lv_ishr hx hb dX10_lowest_4 ?_
      refine lv_iconst (v := (1 : Int32)) hx hb dX10_lowest_5 (by decide) ?_
      refine lv_iand hx hb dX10_lowest_6 ?_
      refine lv_if_ne (tgt := 16) hx hb dX10_lowest_7 (by decide) (fun c1 => ?_) (fun c1 => ?_)
      · have hf := if_f c1 hf
        refine lv_iload_n hx hb dX10_lowest_16 rfl (lv_at hl 1 rfl) ?_
        have hf := Option.some.inj hf
        subst hf
        exact rt_i hx hb hr hlocks hQ hK hP hD hS rfl dX10_lowest_17
      · have hf := if_t c1 hf
        refine lv_iinc (v := (x1 + 1)) (lv' := [(1, .int (x1 + 1)), (0, .int x0)]) hx hb dX10_lowest_10 hl (k := 1) rfl rfl (by decide) rfl (fun ls hl => ?_)
        refine lv_goto (tgt := 2) hx hb dX10_lowest_13 (by decide) ?_
        exact ih2 (x1 + 1) _ _ _ hf hP hD hS (lv_sub hl [1, 0] rfl)
  refine lv_iconst (v := (0 : Int32)) hx hb dX10_lowest_0 (by decide) ?_
  refine lv_istore_n (lv' := [(1, .int (0 : Int32)), (0, .int x0)]) hx hb dX10_lowest_1 rfl hl (by decide) rfl (fun ls hl => ?_)
  exact L2  fuel (0 : Int32) _ _ _ hf hP hD hS (lv_sub hl [1, 0] rfl)
set_option maxRecDepth 100000 in
set_option maxHeartbeats 4000000 in
theorem kX10_highest (l : Launch) (D : va_G) (cI cC cS : ClassId) (x0 : Int32) (o : Int32) (hf : fX10_highest x0 = some o) : CI l D yX10_highest wsX10_highest ({ frames := 0, cells := 0, slots := 0, locals := 0 } : Room) (tysK cI cC cS) [.int x0] [] o [] := by
  refine met_i (cc := cX10_highest) (maxL := 2) (ret := (some .int)) (by decide) rfl (Nat.le_of_ble_eq_true rfl) ?_
  intro p e s m args below meth c R Q A F hR hQ hP hK hD hA hS ls hl
  obtain ⟨hx, hb, hr, hts, hml, hlocks, hown⟩ := F
  have hown : s.vm.findClass RX10 = some m.cls := hown
  have hl : lv_has ls 2 [(0, .int x0)] := hl
  unfold fX10_highest at hf
  have L3 : ∀ (n3 : Nat) (x1 : Int32) (H : Heap) (locs : List Loc) (ls : Array Slot), fX10_highest_l3 x0 n3 x1 = some o → va_P D vwCl [] H → va_D A [] → va_S A s.heap H locs → lv_has ls 2 [(0, .int x0), (1, .int x1)] → W p l e R s m args below meth c H locs 0 0 Q (F0 m 3 ls []) := by
    intro n3
    induction n3 with
    | zero => intro x1 H locs ls hf; cases (show (none : Option _) = some _ from hf)
    | succ n3 ih3 =>
      intro x1 H locs ls hf hP hD hS hl
      rw [fX10_highest_l3] at hf
      refine lv_iload_n hx hb dX10_highest_3 rfl (lv_at hl 0 rfl) ?_
      refine lv_iload_n hx hb dX10_highest_4 rfl (lv_at hl 1 rfl) ?_
      refine lv_ishr hx hb dX10_highest_5 ?_
      refine lv_iconst (v := (1 : Int32)) hx hb dX10_highest_6 (by decide) ?_
      refine lv_iand hx hb dX10_highest_7 ?_
      refine lv_if_ne (tgt := 17) hx hb dX10_highest_8 (by decide) (fun c1 => ?_) (fun c1 => ?_)
      · have hf := if_f c1 hf
        refine lv_iload_n hx hb dX10_highest_17 rfl (lv_at hl 1 rfl) ?_
        have hf := Option.some.inj hf
        subst hf
        exact rt_i hx hb hr hlocks hQ hK hP hD hS rfl dX10_highest_18
      · have hf := if_t c1 hf
        refine lv_iinc (v := (x1 + (-1))) (lv' := [(1, .int (x1 + (-1))), (0, .int x0)]) hx hb dX10_highest_11 hl (k := 1) rfl rfl (by decide) rfl (fun ls hl => ?_)
        refine lv_goto (tgt := 3) hx hb dX10_highest_14 (by decide) ?_
        exact ih3 (x1 + (-1)) _ _ _ hf hP hD hS (lv_sub hl [1, 0] rfl)
  refine lv_bipush (v := (7 : Int32)) hx hb dX10_highest_0 (by decide) ?_
  refine lv_istore_n (lv' := [(1, .int (7 : Int32)), (0, .int x0)]) hx hb dX10_highest_2 rfl hl (by decide) rfl (fun ls hl => ?_)
  exact L3  fuel (7 : Int32) _ _ _ hf hP hD hS (lv_sub hl [1, 0] rfl)
set_option maxRecDepth 100000 in
set_option maxHeartbeats 4000000 in
theorem kX10_pathOf (l : Launch) (D : va_G) (cI cC cS : ClassId) (Ta Ta_s Ta_past Ta_aside Ta_text Ta_known Ta_then Ta_trip Ta_sent Ta_learned Ta_chosen Ta_decided : Nat) (x1 : Int32) (T_s : Nat → Int32) (T_past : Nat → Int32) (T_aside : Nat → Int32) (T_pasts : Int32) (T_text : Nat → Int32) (T_typed : Int32) (T_at : Int32) (T_from : Int32) (T_token : Int32) (T_many : Int32) (T_letters : Int64) (T_number : Int32) (T_known : Nat → Int32) (T_then : Nat → Int32) (T_trip : Nat → Int32) (T_sent : Nat → Int32) (T_learned : Nat → Int32) (T_chosen : Nat → Int32) (T_decided : Nat → Int32) (o : Int32) (hf : fX10_pathOf x1 T_s = some o) : CI l D yX10_pathOf wsX10_pathOf ({ frames := 1, cells := 0, slots := 0, locals := 21 } : Room) (tysK cI cC cS) [.ref Ta, .int x1] (sh_X10 Ta Ta_s Ta_past Ta_aside Ta_text Ta_known Ta_then Ta_trip Ta_sent Ta_learned Ta_chosen Ta_decided cI cC cS T_s T_past T_aside T_pasts T_text T_typed T_at T_from T_token T_many T_letters T_number T_known T_then T_trip T_sent T_learned T_chosen T_decided) o (sh_X10 Ta Ta_s Ta_past Ta_aside Ta_text Ta_known Ta_then Ta_trip Ta_sent Ta_learned Ta_chosen Ta_decided cI cC cS T_s T_past T_aside T_pasts T_text T_typed T_at T_from T_token T_many T_letters T_number T_known T_then T_trip T_sent T_learned T_chosen T_decided) := by
  refine met_i (cc := cX10_pathOf) (maxL := 5) (ret := (some .int)) (by decide) rfl (Nat.le_of_ble_eq_true rfl) ?_
  intro p e s m args below meth c R Q A F hR hQ hP hK hD hA hS ls hl
  obtain ⟨hx, hb, hr, hts, hml, hlocks, hown⟩ := F
  have hown : s.vm.findClass RX10 = some m.cls := hown
  have hi_X10 : ∀ w ∈ u_ws RX10 TX10 19, w ∈ wsX10_pathOf := fun w h => List.mem_cons_of_mem _ (List.mem_append_right _ h)
  have q7 := hts (.fieldLink RX10 7 "ChangingRoundsModel" "s" "[I") (by decide +kernel)
  have hl : lv_has ls 5 [(0, .ref Ta), (1, .int x1)] := hl
  unfold fX10_pathOf at hf
  have L8 : ∀ (n8 : Nat) (x2 : Int32) (x3 : Int32) (x4 : Int32) (H : Heap) (locs : List Loc) (ls : Array Slot), fX10_pathOf_l8 x1 T_s n8 x2 x3 x4 = some o → va_P D vwCl (sh_X10 Ta Ta_s Ta_past Ta_aside Ta_text Ta_known Ta_then Ta_trip Ta_sent Ta_learned Ta_chosen Ta_decided cI cC cS T_s T_past T_aside T_pasts T_text T_typed T_at T_from T_token T_many T_letters T_number T_known T_then T_trip T_sent T_learned T_chosen T_decided) H → va_D A (sh_X10 Ta Ta_s Ta_past Ta_aside Ta_text Ta_known Ta_then Ta_trip Ta_sent Ta_learned Ta_chosen Ta_decided cI cC cS T_s T_past T_aside T_pasts T_text T_typed T_at T_from T_token T_many T_letters T_number T_known T_then T_trip T_sent T_learned T_chosen T_decided) → va_S A s.heap H locs → lv_has ls 5 [(0, .ref Ta), (1, .int x1), (2, .int x2), (3, .int x3), (4, .int x4)] → W p l e R s m args below meth c H locs 0 0 Q (F0 m 8 ls []) := by
    intro n8
    induction n8 with
    | zero => intro x2 x3 x4 H locs ls hf; cases (show (none : Option _) = some _ from hf)
    | succ n8 ih8 =>
      intro x2 x3 x4 H locs ls hf hP hD hS hl
      rw [fX10_pathOf_l8] at hf
      refine lv_iload hx hb dX10_pathOf_8 (lv_at hl 4 rfl) ?_
      refine lv_aload_n hx hb dX10_pathOf_10 rfl (lv_at hl 0 rfl) ?_
      refine va_get (D := D) (ci := 7) (v := .ref Ta_s) (C := RX10) (T := TX10) (N := 19) hx hb hts hi_X10 hown hK hP 0 rfl rfl 0 (by decide) q7 (fun _ h9 => h9) rfl dX10_pathOf_11 ?_
      refine lv_iconst (v := (0 : Int32)) hx hb dX10_pathOf_14 (by decide) ?_
      refine sx_iald (j := 0) hx hb hK hP 1 0 rfl rfl (inb_vp (by decide)) (by decide) dX10_pathOf_15 ?_
      refine lv_icmp_ge (tgt := 57) hx hb dX10_pathOf_16 (by decide) (fun c1 => ?_) (fun c1 => ?_)
      · have hf := if_t c1 hf
        refine lv_iload_n hx hb dX10_pathOf_57 rfl (lv_at hl 2 rfl) ?_
        have hf := Option.some.inj hf
        subst hf
        exact rt_i hx hb hr hlocks hQ hK hP hD hS rfl dX10_pathOf_58
      · have hf := if_f c1 hf
        refine lv_iload_n hx hb dX10_pathOf_19 rfl (lv_at hl 1 rfl) ?_
        refine lv_iload hx hb dX10_pathOf_20 (lv_at hl 4 rfl) ?_
        refine lv_ishr hx hb dX10_pathOf_22 ?_
        refine lv_iconst (v := (1 : Int32)) hx hb dX10_pathOf_23 (by decide) ?_
        refine lv_iand hx hb dX10_pathOf_24 ?_
        refine lv_iconst (v := (1 : Int32)) hx hb dX10_pathOf_25 (by decide) ?_
        refine lv_icmp_ne (tgt := 51) hx hb dX10_pathOf_26 (by decide) (fun c2 => ?_) (fun c2 => ?_)
        · have hf := if_f c2 hf
          refine lv_iinc (v := (x4 + 1)) (lv' := [(4, .int (x4 + 1)), (0, .ref Ta), (1, .int x1), (2, .int x2), (3, .int x3)]) hx hb dX10_pathOf_51 hl (k := 4) rfl rfl (by decide) rfl (fun ls hl => ?_)
          refine lv_goto (tgt := 8) hx hb dX10_pathOf_54 (by decide) ?_
          exact ih8 x2 x3 (x4 + 1) _ _ _ hf hP hD hS (lv_sub hl [1, 2, 3, 4, 0] rfl)
        · have hf := if_t c2 hf
          refine lv_iload_n hx hb dX10_pathOf_29 rfl (lv_at hl 2 rfl) ?_
          refine lv_iload_n hx hb dX10_pathOf_30 rfl (lv_at hl 3 rfl) ?_
          refine lv_bipush (v := (-9 : Int32)) hx hb dX10_pathOf_31 (by decide) ?_
          refine lv_icmp_ne (tgt := 40) hx hb dX10_pathOf_33 (by decide) (fun c3 => ?_) (fun c3 => ?_)
          · have hf := if_f c3 hf
            refine lv_iload_n hx hb dX10_pathOf_40 rfl (lv_at hl 3 rfl) ?_
            refine lv_iload hx hb dX10_pathOf_41 (lv_at hl 4 rfl) ?_
            refine cs_i (As := [.int x3, .int x4]) (rest := [.int x2]) hx hb hml hown hts hK hP hD hA hS (kX10_pair l D cI cC cS  x3 x4  (fX10_pair x3 x4) rfl) (va_cwS 2 hts gX10_pathOf_X10_pair rfl rfl rfl (by decide +kernel) (by subst hR; exact ⟨Nat.le_of_ble_eq_true rfl, Nat.le_of_ble_eq_true rfl⟩)) rfl hl.1 rfl (Nat.le_of_ble_eq_true rfl) ⟨Nat.zero_le _, Nat.zero_le _⟩ dX10_pathOf_43 (fun H locs hP hD hS => ?_)
            refine lv_ior hx hb dX10_pathOf_46 ?_
            refine lv_istore_n (lv' := [(2, .int (x2 ||| (fX10_pair x3 x4))), (0, .ref Ta), (1, .int x1), (3, .int x3), (4, .int x4)]) hx hb dX10_pathOf_47 rfl hl (by decide) rfl (fun ls hl => ?_)
            refine lv_iload hx hb dX10_pathOf_48 (lv_at hl 4 rfl) ?_
            refine lv_istore_n (lv' := [(3, .int x4), (2, .int (x2 ||| (fX10_pair x3 x4))), (0, .ref Ta), (1, .int x1), (4, .int x4)]) hx hb dX10_pathOf_50 rfl hl (by decide) rfl (fun ls hl => ?_)
            refine lv_iinc (v := (x4 + 1)) (lv' := [(4, .int (x4 + 1)), (3, .int x4), (2, .int (x2 ||| (fX10_pair x3 x4))), (0, .ref Ta), (1, .int x1)]) hx hb dX10_pathOf_51 hl (k := 4) rfl rfl (by decide) rfl (fun ls hl => ?_)
            refine lv_goto (tgt := 8) hx hb dX10_pathOf_54 (by decide) ?_
            exact ih8 (x2 ||| (fX10_pair x3 x4)) x4 (x4 + 1) _ _ _ hf hP hD hS (lv_sub hl [3, 4, 2, 1, 0] rfl)
          · have hf := if_t c3 hf
            refine lv_iconst (v := (0 : Int32)) hx hb dX10_pathOf_36 (by decide) ?_
            refine lv_goto (tgt := 46) hx hb dX10_pathOf_37 (by decide) ?_
            refine lv_ior hx hb dX10_pathOf_46 ?_
            refine lv_istore_n (lv' := [(2, .int (x2 ||| (0 : Int32))), (0, .ref Ta), (1, .int x1), (3, .int x3), (4, .int x4)]) hx hb dX10_pathOf_47 rfl hl (by decide) rfl (fun ls hl => ?_)
            refine lv_iload hx hb dX10_pathOf_48 (lv_at hl 4 rfl) ?_
            refine lv_istore_n (lv' := [(3, .int x4), (2, .int (x2 ||| (0 : Int32))), (0, .ref Ta), (1, .int x1), (4, .int x4)]) hx hb dX10_pathOf_50 rfl hl (by decide) rfl (fun ls hl => ?_)
            refine lv_iinc (v := (x4 + 1)) (lv' := [(4, .int (x4 + 1)), (3, .int x4), (2, .int (x2 ||| (0 : Int32))), (0, .ref Ta), (1, .int x1)]) hx hb dX10_pathOf_51 hl (k := 4) rfl rfl (by decide) rfl (fun ls hl => ?_)
            refine lv_goto (tgt := 8) hx hb dX10_pathOf_54 (by decide) ?_
            exact ih8 (x2 ||| (0 : Int32)) x4 (x4 + 1) _ _ _ hf hP hD hS (lv_sub hl [3, 4, 2, 1, 0] rfl)
  refine lv_iconst (v := (0 : Int32)) hx hb dX10_pathOf_0 (by decide) ?_
  refine lv_istore_n (lv' := [(2, .int (0 : Int32)), (0, .ref Ta), (1, .int x1)]) hx hb dX10_pathOf_1 rfl hl (by decide) rfl (fun ls hl => ?_)
  refine lv_bipush (v := (-9 : Int32)) hx hb dX10_pathOf_2 (by decide) ?_
  refine lv_istore_n (lv' := [(3, .int (-9 : Int32)), (2, .int (0 : Int32)), (0, .ref Ta), (1, .int x1)]) hx hb dX10_pathOf_4 rfl hl (by decide) rfl (fun ls hl => ?_)
  refine lv_iconst (v := (0 : Int32)) hx hb dX10_pathOf_5 (by decide) ?_
  refine lv_istore (lv' := [(4, .int (0 : Int32)), (3, .int (-9 : Int32)), (2, .int (0 : Int32)), (0, .ref Ta), (1, .int x1)]) hx hb dX10_pathOf_6 hl (by decide) rfl (fun ls hl => ?_)
  exact L8  fuel (0 : Int32) (-9 : Int32) (0 : Int32) _ _ _ hf hP hD hS (lv_sub hl [3, 4, 2, 1, 0] rfl)
set_option maxRecDepth 100000 in
set_option maxHeartbeats 4000000 in
theorem kX10_alone (l : Launch) (D : va_G) (cI cC cS : ClassId) (Ta Ta_s Ta_past Ta_aside Ta_text Ta_known Ta_then Ta_trip Ta_sent Ta_learned Ta_chosen Ta_decided : Nat) (T_s : Nat → Int32) (T_past : Nat → Int32) (T_aside : Nat → Int32) (T_pasts : Int32) (T_text : Nat → Int32) (T_typed : Int32) (T_at : Int32) (T_from : Int32) (T_token : Int32) (T_many : Int32) (T_letters : Int64) (T_number : Int32) (T_known : Nat → Int32) (T_then : Nat → Int32) (T_trip : Nat → Int32) (T_sent : Nat → Int32) (T_learned : Nat → Int32) (T_chosen : Nat → Int32) (T_decided : Nat → Int32) (o : (Nat → Int32)) (hf : fX10_alone T_known = some o) : CV l D yX10_alone wsX10_alone ({ frames := 0, cells := 0, slots := 0, locals := 0 } : Room) (tysK cI cC cS) [.ref Ta] (sh_X10 Ta Ta_s Ta_past Ta_aside Ta_text Ta_known Ta_then Ta_trip Ta_sent Ta_learned Ta_chosen Ta_decided cI cC cS T_s T_past T_aside T_pasts T_text T_typed T_at T_from T_token T_many T_letters T_number T_known T_then T_trip T_sent T_learned T_chosen T_decided) (sh_X10 Ta Ta_s Ta_past Ta_aside Ta_text Ta_known Ta_then Ta_trip Ta_sent Ta_learned Ta_chosen Ta_decided cI cC cS T_s T_past T_aside T_pasts T_text T_typed T_at T_from T_token T_many T_letters T_number o T_then T_trip T_sent T_learned T_chosen T_decided) := by
  refine met_v (cc := cX10_alone) (maxL := 2) (ret := none) (by decide) rfl (Nat.le_of_ble_eq_true rfl) ?_
  intro p e s m args below meth c R Q A F hR hQ hP hK hD hA hS ls hl
  obtain ⟨hx, hb, hr, hts, hml, hlocks, hown⟩ := F
  have hown : s.vm.findClass RX10 = some m.cls := hown
  have hi_X10 : ∀ w ∈ u_ws RX10 TX10 19, w ∈ wsX10_alone := fun w h => List.mem_cons_of_mem _ (List.mem_append_right _ h)
  have q22 := hts (.fieldLink RX10 22 "ChangingRoundsModel" "known" "[I") (by decide +kernel)
  have hl : lv_has ls 2 [(0, .ref Ta)] := hl
  unfold fX10_alone at hf
  have L2 : ∀ (n2 : Nat) (x1 : Int32) (T_known : Nat → Int32) (H : Heap) (locs : List Loc) (ls : Array Slot), fX10_alone_l2 n2 x1 T_known = some o → va_P D vwCl (sh_X10 Ta Ta_s Ta_past Ta_aside Ta_text Ta_known Ta_then Ta_trip Ta_sent Ta_learned Ta_chosen Ta_decided cI cC cS T_s T_past T_aside T_pasts T_text T_typed T_at T_from T_token T_many T_letters T_number T_known T_then T_trip T_sent T_learned T_chosen T_decided) H → va_D A (sh_X10 Ta Ta_s Ta_past Ta_aside Ta_text Ta_known Ta_then Ta_trip Ta_sent Ta_learned Ta_chosen Ta_decided cI cC cS T_s T_past T_aside T_pasts T_text T_typed T_at T_from T_token T_many T_letters T_number T_known T_then T_trip T_sent T_learned T_chosen T_decided) → va_S A s.heap H locs → lv_has ls 2 [(0, .ref Ta), (1, .int x1)] → W p l e R s m args below meth c H locs 0 0 Q (F0 m 2 ls []) := by
    intro n2
    induction n2 with
    | zero => intro x1 T_known H locs ls hf; cases (show (none : Option _) = some _ from hf)
    | succ n2 ih2 =>
      intro x1 T_known H locs ls hf hP hD hS hl
      rw [fX10_alone_l2] at hf
      refine lv_iload_n hx hb dX10_alone_2 rfl (lv_at hl 1 rfl) ?_
      refine lv_bipush (v := (8 : Int32)) hx hb dX10_alone_3 (by decide) ?_
      refine lv_icmp_ge (tgt := 23) hx hb dX10_alone_5 (by decide) (fun c1 => ?_) (fun c1 => ?_)
      · have hf := if_t c1 hf
        have hf := Option.some.inj hf
        subst hf
        exact rt_v hx hb hr hlocks hQ hK hP hD hS dX10_alone_23
      · have hf := if_f c1 hf
        refine lv_aload_n hx hb dX10_alone_8 rfl (lv_at hl 0 rfl) ?_
        refine va_get (D := D) (ci := 7) (v := .ref Ta_known) (C := RX10) (T := TX10) (N := 19) hx hb hts hi_X10 hown hK hP 0 rfl rfl 12 (by decide) q22 (fun _ h9 => h9) rfl dX10_alone_9 ?_
        refine lv_iload_n hx hb dX10_alone_12 rfl (lv_at hl 1 rfl) ?_
        refine lv_iconst (v := (1 : Int32)) hx hb dX10_alone_13 (by decide) ?_
        refine lv_iload_n hx hb dX10_alone_14 rfl (lv_at hl 1 rfl) ?_
        refine lv_ishl hx hb dX10_alone_15 ?_
        obtain ⟨hz, hf⟩ := ck_some hf
        refine sx_iast (j := x1.toNatClampNeg) hx hb hK hP hD hS 5 0 rfl rfl (inb_vp hz) rfl dX10_alone_16 (sh_X10 Ta Ta_s Ta_past Ta_aside Ta_text Ta_known Ta_then Ta_trip Ta_sent Ta_learned Ta_chosen Ta_decided cI cC cS T_s T_past T_aside T_pasts T_text T_typed T_at T_from T_token T_many T_letters T_number (upd T_known x1.toNatClampNeg ((1 : Int32) <<< (x1 &&& 31))) T_then T_trip T_sent T_learned T_chosen T_decided) rfl (fun H locs hP hD hS => ?_)
        refine lv_iinc (v := (x1 + 1)) (lv' := [(1, .int (x1 + 1)), (0, .ref Ta)]) hx hb dX10_alone_17 hl (k := 1) rfl rfl (by decide) rfl (fun ls hl => ?_)
        refine lv_goto (tgt := 2) hx hb dX10_alone_20 (by decide) ?_
        exact ih2 (x1 + 1) (upd T_known x1.toNatClampNeg ((1 : Int32) <<< (x1 &&& 31))) _ _ _ hf hP hD hS (lv_sub hl [1, 0] rfl)
  refine lv_iconst (v := (0 : Int32)) hx hb dX10_alone_0 (by decide) ?_
  refine lv_istore_n (lv' := [(1, .int (0 : Int32)), (0, .ref Ta)]) hx hb dX10_alone_1 rfl hl (by decide) rfl (fun ls hl => ?_)
  exact L2  fuel (0 : Int32) T_known _ _ _ hf hP hD hS (lv_sub hl [1, 0] rfl)
set_option maxRecDepth 100000 in
set_option maxHeartbeats 4000000 in
theorem kX10_edgesAt (l : Launch) (D : va_G) (cI cC cS : ClassId) (Ta Ta_s Ta_past Ta_aside Ta_text Ta_known Ta_then Ta_trip Ta_sent Ta_learned Ta_chosen Ta_decided : Nat) (x1 : Int32) (T_s : Nat → Int32) (T_past : Nat → Int32) (T_aside : Nat → Int32) (T_pasts : Int32) (T_text : Nat → Int32) (T_typed : Int32) (T_at : Int32) (T_from : Int32) (T_token : Int32) (T_many : Int32) (T_letters : Int64) (T_number : Int32) (T_known : Nat → Int32) (T_then : Nat → Int32) (T_trip : Nat → Int32) (T_sent : Nat → Int32) (T_learned : Nat → Int32) (T_chosen : Nat → Int32) (T_decided : Nat → Int32) (o : Int32) (hf : fX10_edgesAt x1 T_s = some o) : CI l D yX10_edgesAt wsX10_edgesAt ({ frames := 0, cells := 0, slots := 0, locals := 0 } : Room) (tysK cI cC cS) [.ref Ta, .int x1] (sh_X10 Ta Ta_s Ta_past Ta_aside Ta_text Ta_known Ta_then Ta_trip Ta_sent Ta_learned Ta_chosen Ta_decided cI cC cS T_s T_past T_aside T_pasts T_text T_typed T_at T_from T_token T_many T_letters T_number T_known T_then T_trip T_sent T_learned T_chosen T_decided) o (sh_X10 Ta Ta_s Ta_past Ta_aside Ta_text Ta_known Ta_then Ta_trip Ta_sent Ta_learned Ta_chosen Ta_decided cI cC cS T_s T_past T_aside T_pasts T_text T_typed T_at T_from T_token T_many T_letters T_number T_known T_then T_trip T_sent T_learned T_chosen T_decided) := by
  refine met_i (cc := cX10_edgesAt) (maxL := 2) (ret := (some .int)) (by decide) rfl (Nat.le_of_ble_eq_true rfl) ?_
  intro p e s m args below meth c R Q A F hR hQ hP hK hD hA hS ls hl
  obtain ⟨hx, hb, hr, hts, hml, hlocks, hown⟩ := F
  have hown : s.vm.findClass RX10 = some m.cls := hown
  have hi_X10 : ∀ w ∈ u_ws RX10 TX10 19, w ∈ wsX10_edgesAt := fun w h => List.mem_cons_of_mem _ (List.mem_append_right _ h)
  have q7 := hts (.fieldLink RX10 7 "ChangingRoundsModel" "s" "[I") (by decide +kernel)
  have hl : lv_has ls 2 [(0, .ref Ta), (1, .int x1)] := hl
  unfold fX10_edgesAt at hf
  refine lv_aload_n hx hb dX10_edgesAt_0 rfl (lv_at hl 0 rfl) ?_
  refine va_get (D := D) (ci := 7) (v := .ref Ta_s) (C := RX10) (T := TX10) (N := 19) hx hb hts hi_X10 hown hK hP 0 rfl rfl 0 (by decide) q7 (fun _ h9 => h9) rfl dX10_edgesAt_1 ?_
  refine lv_iconst (v := (1 : Int32)) hx hb dX10_edgesAt_4 (by decide) ?_
  refine sx_iald (j := 1) hx hb hK hP 1 0 rfl rfl (inb_vp (by decide)) (by decide) dX10_edgesAt_5 ?_
  refine lv_if_ne (tgt := 13) hx hb dX10_edgesAt_6 (by decide) (fun c1 => ?_) (fun c1 => ?_)
  · have hf := if_f c1 hf
    refine lv_aload_n hx hb dX10_edgesAt_13 rfl (lv_at hl 0 rfl) ?_
    refine va_get (D := D) (ci := 7) (v := .ref Ta_s) (C := RX10) (T := TX10) (N := 19) hx hb hts hi_X10 hown hK hP 0 rfl rfl 0 (by decide) q7 (fun _ h9 => h9) rfl dX10_edgesAt_14 ?_
    refine lv_iconst (v := (2 : Int32)) hx hb dX10_edgesAt_17 (by decide) ?_
    refine lv_iload_n hx hb dX10_edgesAt_18 rfl (lv_at hl 1 rfl) ?_
    refine lv_aload_n hx hb dX10_edgesAt_19 rfl (lv_at hl 0 rfl) ?_
    refine va_get (D := D) (ci := 7) (v := .ref Ta_s) (C := RX10) (T := TX10) (N := 19) hx hb hts hi_X10 hown hK hP 0 rfl rfl 0 (by decide) q7 (fun _ h9 => h9) rfl dX10_edgesAt_20 ?_
    refine lv_iconst (v := (1 : Int32)) hx hb dX10_edgesAt_23 (by decide) ?_
    refine sx_iald (j := 1) hx hb hK hP 1 0 rfl rfl (inb_vp (by decide)) (by decide) dX10_edgesAt_24 ?_
    obtain ⟨hz, hf⟩ := ck_some hf
    refine lv_irem hx hb dX10_edgesAt_25 (nz_ne hz) ?_
    refine lv_iadd hx hb dX10_edgesAt_26 ?_
    obtain ⟨hz, hf⟩ := ck_some hf
    refine sx_iald (j := ((2 : Int32) + (x1 - x1 / (T_s 1) * (T_s 1))).toNatClampNeg) hx hb hK hP 1 0 rfl rfl (inb_vp hz) rfl dX10_edgesAt_27 ?_
    have hf := Option.some.inj hf
    subst hf
    exact rt_i hx hb hr hlocks hQ hK hP hD hS rfl dX10_edgesAt_28
  · have hf := if_t c1 hf
    refine lv_iconst (v := (0 : Int32)) hx hb dX10_edgesAt_9 (by decide) ?_
    refine lv_goto (tgt := 28) hx hb dX10_edgesAt_10 (by decide) ?_
    have hf := Option.some.inj hf
    subst hf
    exact rt_i hx hb hr hlocks hQ hK hP hD hS rfl dX10_edgesAt_28
