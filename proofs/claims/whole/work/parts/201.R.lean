set_option maxRecDepth 100000 in
set_option maxHeartbeats 4000000 in
theorem kX10_in (l : Launch) (D : va_G) (cI cC cS : ClassId) (x0 : Int32) (x1 : Int32) (x2 : Int32) (o : Bool) (hf : fX10_in x0 x1 x2 = o) : CI l D yX10_in wsX10_in ({ frames := 0, cells := 0, slots := 0, locals := 0 } : Room) (tysK cI cC cS) [.int x0, .int x1, .int x2] [] (b2i o) [] := by
  refine met_i (cc := cX10_in) (maxL := 3) (ret := (some .boolean)) (by decide) rfl (Nat.le_of_ble_eq_true rfl) ?_
  intro p e s m args below meth c R Q A F hR hQ hP hK hD hA hS ls hl
  obtain ⟨hx, hb, hr, hts, hml, hlocks, hown⟩ := F
  have hown : s.vm.findClass RX10 = some m.cls := hown
  have hl : lv_has ls 3 [(0, .int x0), (1, .int x1), (2, .int x2)] := hl
  unfold fX10_in at hf
  refine lv_iload_n hx hb dX10_in_0 rfl (lv_at hl 0 rfl) ?_
  refine lv_iload_n hx hb dX10_in_1 rfl (lv_at hl 1 rfl) ?_
  refine lv_icmp_lt (tgt := 14) hx hb dX10_in_2 (by decide) (fun c1 => ?_) (fun c1 => ?_)
  · have hf := if_t c1 hf
    refine lv_iconst (v := (0 : Int32)) hx hb dX10_in_14 (by decide) ?_
    subst hf
    exact rt_z (ty := .boolean) hx hb hr rfl hlocks hQ hK hP hD hS rfl dX10_in_15
  · have hf := if_f c1 hf
    refine lv_iload_n hx hb dX10_in_5 rfl (lv_at hl 0 rfl) ?_
    refine lv_iload_n hx hb dX10_in_6 rfl (lv_at hl 2 rfl) ?_
    refine lv_icmp_gt (tgt := 14) hx hb dX10_in_7 (by decide) (fun c2 => ?_) (fun c2 => ?_)
    · have hf := if_t c2 hf
      refine lv_iconst (v := (0 : Int32)) hx hb dX10_in_14 (by decide) ?_
      subst hf
      exact rt_z (ty := .boolean) hx hb hr rfl hlocks hQ hK hP hD hS rfl dX10_in_15
    · have hf := if_f c2 hf
      refine lv_iconst (v := (1 : Int32)) hx hb dX10_in_10 (by decide) ?_
      refine lv_goto (tgt := 15) hx hb dX10_in_11 (by decide) ?_
      subst hf
      exact rt_z (ty := .boolean) hx hb hr rfl hlocks hQ hK hP hD hS rfl dX10_in_15
set_option maxRecDepth 100000 in
set_option maxHeartbeats 4000000 in
theorem kX10_begins (l : Launch) (D : va_G) (cI cC cS : ClassId) (Ta Ta_s Ta_past Ta_aside Ta_text Ta_known Ta_then Ta_trip Ta_sent Ta_learned Ta_chosen Ta_decided : Nat) (x1 : Int32) (T_s : Nat → Int32) (T_past : Nat → Int32) (T_aside : Nat → Int32) (T_pasts : Int32) (T_text : Nat → Int32) (T_typed : Int32) (T_at : Int32) (T_from : Int32) (T_token : Int32) (T_many : Int32) (T_letters : Int64) (T_number : Int32) (T_known : Nat → Int32) (T_then : Nat → Int32) (T_trip : Nat → Int32) (T_sent : Nat → Int32) (T_learned : Nat → Int32) (T_chosen : Nat → Int32) (T_decided : Nat → Int32) (o : (Nat → Int32)) (hf : fX10_begins x1 T_s = some o) : CV l D yX10_begins wsX10_begins ({ frames := 0, cells := 0, slots := 0, locals := 0 } : Room) (tysK cI cC cS) [.ref Ta, .int x1] (sh_X10 Ta Ta_s Ta_past Ta_aside Ta_text Ta_known Ta_then Ta_trip Ta_sent Ta_learned Ta_chosen Ta_decided cI cC cS T_s T_past T_aside T_pasts T_text T_typed T_at T_from T_token T_many T_letters T_number T_known T_then T_trip T_sent T_learned T_chosen T_decided) (sh_X10 Ta Ta_s Ta_past Ta_aside Ta_text Ta_known Ta_then Ta_trip Ta_sent Ta_learned Ta_chosen Ta_decided cI cC cS o T_past T_aside T_pasts T_text T_typed T_at T_from T_token T_many T_letters T_number T_known T_then T_trip T_sent T_learned T_chosen T_decided) := by
  refine met_v (cc := cX10_begins) (maxL := 3) (ret := none) (by decide) rfl (Nat.le_of_ble_eq_true rfl) ?_
  intro p e s m args below meth c R Q A F hR hQ hP hK hD hA hS ls hl
  obtain ⟨hx, hb, hr, hts, hml, hlocks, hown⟩ := F
  have hown : s.vm.findClass RX10 = some m.cls := hown
  have hi_X10 : ∀ w ∈ u_ws RX10 TX10 19, w ∈ wsX10_begins := fun w h => List.mem_cons_of_mem _ (List.mem_append_right _ h)
  have q7 := hts (.fieldLink RX10 7 "ChangingRoundsModel" "s" "[I") (by decide +kernel)
  have hl : lv_has ls 3 [(0, .ref Ta), (1, .int x1)] := hl
  unfold fX10_begins at hf
  have L16 : ∀ (n16 : Nat) (x2 : Int32) (T_s : Nat → Int32) (H : Heap) (locs : List Loc) (ls : Array Slot), fX10_begins_l16 n16 x2 T_s = some o → va_P D vwCl (sh_X10 Ta Ta_s Ta_past Ta_aside Ta_text Ta_known Ta_then Ta_trip Ta_sent Ta_learned Ta_chosen Ta_decided cI cC cS T_s T_past T_aside T_pasts T_text T_typed T_at T_from T_token T_many T_letters T_number T_known T_then T_trip T_sent T_learned T_chosen T_decided) H → va_D A (sh_X10 Ta Ta_s Ta_past Ta_aside Ta_text Ta_known Ta_then Ta_trip Ta_sent Ta_learned Ta_chosen Ta_decided cI cC cS T_s T_past T_aside T_pasts T_text T_typed T_at T_from T_token T_many T_letters T_number T_known T_then T_trip T_sent T_learned T_chosen T_decided) → va_S A s.heap H locs → lv_has ls 3 [(0, .ref Ta), (2, .int x2)] → W p l e R s m args below meth c H locs 0 0 Q (F0 m 16 ls []) := by
    intro n16
    induction n16 with
    | zero => intro x2 T_s H locs ls hf; cases (show (none : Option _) = some _ from hf)
    | succ n16 ih16 =>
      intro x2 T_s H locs ls hf hP hD hS hl
      rw [fX10_begins_l16] at hf
      refine lv_iload_n hx hb dX10_begins_16 rfl (lv_at hl 1 rfl) ?_
      refine lv_bipush (v := (8 : Int32)) hx hb dX10_begins_17 (by decide) ?_
      refine lv_icmp_ge (tgt := 38) hx hb dX10_begins_19 (by decide) (fun c1 => ?_) (fun c1 => ?_)
      · have hf := if_t c1 hf
        have hf := Option.some.inj hf
        subst hf
        exact rt_v hx hb hr hlocks hQ hK hP hD hS dX10_begins_38
      · have hf := if_f c1 hf
        refine lv_aload_n hx hb dX10_begins_22 rfl (lv_at hl 0 rfl) ?_
        refine va_get (D := D) (ci := 7) (v := .ref Ta_s) (C := RX10) (T := TX10) (N := 19) hx hb hts hi_X10 hown hK hP 0 rfl rfl 0 (by decide) q7 (fun _ h9 => h9) rfl dX10_begins_23 ?_
        refine lv_bipush (v := (18 : Int32)) hx hb dX10_begins_26 (by decide) ?_
        refine lv_iload_n hx hb dX10_begins_28 rfl (lv_at hl 1 rfl) ?_
        refine lv_iadd hx hb dX10_begins_29 ?_
        refine lv_iload_n hx hb dX10_begins_30 rfl (lv_at hl 1 rfl) ?_
        obtain ⟨hz, hf⟩ := ck_some hf
        refine sx_iast (j := ((18 : Int32) + x2).toNatClampNeg) hx hb hK hP hD hS 1 0 rfl rfl (inb_vp hz) rfl dX10_begins_31 (sh_X10 Ta Ta_s Ta_past Ta_aside Ta_text Ta_known Ta_then Ta_trip Ta_sent Ta_learned Ta_chosen Ta_decided cI cC cS (upd T_s (((18 : Int32) + x2).toNatClampNeg) x2) T_past T_aside T_pasts T_text T_typed T_at T_from T_token T_many T_letters T_number T_known T_then T_trip T_sent T_learned T_chosen T_decided) rfl (fun H locs hP hD hS => ?_)
        refine lv_iinc (v := (x2 + 1)) (lv' := [(2, .int (x2 + 1)), (0, .ref Ta)]) hx hb dX10_begins_32 hl (k := 1) rfl rfl (by decide) rfl (fun ls hl => ?_)
        refine lv_goto (tgt := 16) hx hb dX10_begins_35 (by decide) ?_
        exact ih16 (x2 + 1) (upd T_s (((18 : Int32) + x2).toNatClampNeg) x2) _ _ _ hf hP hD hS (lv_sub hl [1, 0] rfl)
  refine lv_aload_n hx hb dX10_begins_0 rfl (lv_at hl 0 rfl) ?_
  refine va_get (D := D) (ci := 7) (v := .ref Ta_s) (C := RX10) (T := TX10) (N := 19) hx hb hts hi_X10 hown hK hP 0 rfl rfl 0 (by decide) q7 (fun _ h9 => h9) rfl dX10_begins_1 ?_
  refine lv_iconst (v := (0 : Int32)) hx hb dX10_begins_4 (by decide) ?_
  refine lv_iload_n hx hb dX10_begins_5 rfl (lv_at hl 1 rfl) ?_
  refine sx_iast (j := 0) hx hb hK hP hD hS 1 0 rfl rfl (inb_vp (by decide)) (by decide) dX10_begins_6 (sh_X10 Ta Ta_s Ta_past Ta_aside Ta_text Ta_known Ta_then Ta_trip Ta_sent Ta_learned Ta_chosen Ta_decided cI cC cS (upd T_s 0 x1) T_past T_aside T_pasts T_text T_typed T_at T_from T_token T_many T_letters T_number T_known T_then T_trip T_sent T_learned T_chosen T_decided) rfl (fun H locs hP hD hS => ?_)
  refine lv_aload_n hx hb dX10_begins_7 rfl (lv_at hl 0 rfl) ?_
  refine va_get (D := D) (ci := 7) (v := .ref Ta_s) (C := RX10) (T := TX10) (N := 19) hx hb hts hi_X10 hown hK hP 0 rfl rfl 0 (by decide) q7 (fun _ h9 => h9) rfl dX10_begins_8 ?_
  refine lv_iconst (v := (1 : Int32)) hx hb dX10_begins_11 (by decide) ?_
  refine lv_iconst (v := (0 : Int32)) hx hb dX10_begins_12 (by decide) ?_
  refine sx_iast (j := 1) hx hb hK hP hD hS 1 0 rfl rfl (inb_vp (by decide)) (by decide) dX10_begins_13 (sh_X10 Ta Ta_s Ta_past Ta_aside Ta_text Ta_known Ta_then Ta_trip Ta_sent Ta_learned Ta_chosen Ta_decided cI cC cS (upd (upd T_s 0 x1) 1 (0 : Int32)) T_past T_aside T_pasts T_text T_typed T_at T_from T_token T_many T_letters T_number T_known T_then T_trip T_sent T_learned T_chosen T_decided) rfl (fun H locs hP hD hS => ?_)
  refine lv_iconst (v := (0 : Int32)) hx hb dX10_begins_14 (by decide) ?_
  refine lv_istore_n (lv' := [(2, .int (0 : Int32)), (0, .ref Ta), (1, .int x1)]) hx hb dX10_begins_15 rfl hl (by decide) rfl (fun ls hl => ?_)
  exact L16  fuel (0 : Int32) (upd (upd T_s 0 x1) 1 (0 : Int32)) _ _ _ hf hP hD hS (lv_sub hl [1, 0] rfl)
set_option maxRecDepth 100000 in
set_option maxHeartbeats 4000000 in
theorem kX10_hold (l : Launch) (D : va_G) (cI cC cS : ClassId) (Ta Ta_s Ta_past Ta_aside Ta_text Ta_known Ta_then Ta_trip Ta_sent Ta_learned Ta_chosen Ta_decided : Nat) (T_s : Nat → Int32) (T_past : Nat → Int32) (T_aside : Nat → Int32) (T_pasts : Int32) (T_text : Nat → Int32) (T_typed : Int32) (T_at : Int32) (T_from : Int32) (T_token : Int32) (T_many : Int32) (T_letters : Int64) (T_number : Int32) (T_known : Nat → Int32) (T_then : Nat → Int32) (T_trip : Nat → Int32) (T_sent : Nat → Int32) (T_learned : Nat → Int32) (T_chosen : Nat → Int32) (T_decided : Nat → Int32) (o : (Nat → Int32)) (hf : fX10_hold T_s T_aside = some o) : CV l D yX10_hold wsX10_hold ({ frames := 0, cells := 0, slots := 0, locals := 0 } : Room) (tysK cI cC cS) [.ref Ta] (sh_X10 Ta Ta_s Ta_past Ta_aside Ta_text Ta_known Ta_then Ta_trip Ta_sent Ta_learned Ta_chosen Ta_decided cI cC cS T_s T_past T_aside T_pasts T_text T_typed T_at T_from T_token T_many T_letters T_number T_known T_then T_trip T_sent T_learned T_chosen T_decided) (sh_X10 Ta Ta_s Ta_past Ta_aside Ta_text Ta_known Ta_then Ta_trip Ta_sent Ta_learned Ta_chosen Ta_decided cI cC cS T_s T_past o T_pasts T_text T_typed T_at T_from T_token T_many T_letters T_number T_known T_then T_trip T_sent T_learned T_chosen T_decided) := by
  refine met_v (cc := cX10_hold) (maxL := 2) (ret := none) (by decide) rfl (Nat.le_of_ble_eq_true rfl) ?_
  intro p e s m args below meth c R Q A F hR hQ hP hK hD hA hS ls hl
  obtain ⟨hx, hb, hr, hts, hml, hlocks, hown⟩ := F
  have hown : s.vm.findClass RX10 = some m.cls := hown
  have hi_X10 : ∀ w ∈ u_ws RX10 TX10 19, w ∈ wsX10_hold := fun w h => List.mem_cons_of_mem _ (List.mem_append_right _ h)
  have q16 := hts (.fieldLink RX10 16 "ChangingRoundsModel" "aside" "[I") (by decide +kernel)
  have q7 := hts (.fieldLink RX10 7 "ChangingRoundsModel" "s" "[I") (by decide +kernel)
  have hl : lv_has ls 2 [(0, .ref Ta)] := hl
  unfold fX10_hold at hf
  have L2 : ∀ (n2 : Nat) (x1 : Int32) (T_aside : Nat → Int32) (H : Heap) (locs : List Loc) (ls : Array Slot), fX10_hold_l2 T_s n2 x1 T_aside = some o → va_P D vwCl (sh_X10 Ta Ta_s Ta_past Ta_aside Ta_text Ta_known Ta_then Ta_trip Ta_sent Ta_learned Ta_chosen Ta_decided cI cC cS T_s T_past T_aside T_pasts T_text T_typed T_at T_from T_token T_many T_letters T_number T_known T_then T_trip T_sent T_learned T_chosen T_decided) H → va_D A (sh_X10 Ta Ta_s Ta_past Ta_aside Ta_text Ta_known Ta_then Ta_trip Ta_sent Ta_learned Ta_chosen Ta_decided cI cC cS T_s T_past T_aside T_pasts T_text T_typed T_at T_from T_token T_many T_letters T_number T_known T_then T_trip T_sent T_learned T_chosen T_decided) → va_S A s.heap H locs → lv_has ls 2 [(0, .ref Ta), (1, .int x1)] → W p l e R s m args below meth c H locs 0 0 Q (F0 m 2 ls []) := by
    intro n2
    induction n2 with
    | zero => intro x1 T_aside H locs ls hf; cases (show (none : Option _) = some _ from hf)
    | succ n2 ih2 =>
      intro x1 T_aside H locs ls hf hP hD hS hl
      rw [fX10_hold_l2] at hf
      refine lv_iload_n hx hb dX10_hold_2 rfl (lv_at hl 1 rfl) ?_
      refine lv_bipush (v := (26 : Int32)) hx hb dX10_hold_3 (by decide) ?_
      refine lv_icmp_ge (tgt := 26) hx hb dX10_hold_5 (by decide) (fun c1 => ?_) (fun c1 => ?_)
      · have hf := if_t c1 hf
        have hf := Option.some.inj hf
        subst hf
        exact rt_v hx hb hr hlocks hQ hK hP hD hS dX10_hold_26
      · have hf := if_f c1 hf
        refine lv_aload_n hx hb dX10_hold_8 rfl (lv_at hl 0 rfl) ?_
        refine va_get (D := D) (ci := 7) (v := .ref Ta_aside) (C := RX10) (T := TX10) (N := 19) hx hb hts hi_X10 hown hK hP 0 rfl rfl 2 (by decide) q16 (fun _ h9 => h9) rfl dX10_hold_9 ?_
        refine lv_iload_n hx hb dX10_hold_12 rfl (lv_at hl 1 rfl) ?_
        refine lv_aload_n hx hb dX10_hold_13 rfl (lv_at hl 0 rfl) ?_
        refine va_get (D := D) (ci := 7) (v := .ref Ta_s) (C := RX10) (T := TX10) (N := 19) hx hb hts hi_X10 hown hK hP 0 rfl rfl 0 (by decide) q7 (fun _ h9 => h9) rfl dX10_hold_14 ?_
        refine lv_iload_n hx hb dX10_hold_17 rfl (lv_at hl 1 rfl) ?_
        obtain ⟨hz, hf⟩ := ck_some hf
        refine sx_iald (j := x1.toNatClampNeg) hx hb hK hP 1 0 rfl rfl (inb_vp hz) rfl dX10_hold_18 ?_
        obtain ⟨hz, hf⟩ := ck_some hf
        refine sx_iast (j := x1.toNatClampNeg) hx hb hK hP hD hS 3 0 rfl rfl (inb_vp hz) rfl dX10_hold_19 (sh_X10 Ta Ta_s Ta_past Ta_aside Ta_text Ta_known Ta_then Ta_trip Ta_sent Ta_learned Ta_chosen Ta_decided cI cC cS T_s T_past (upd T_aside x1.toNatClampNeg (T_s x1.toNatClampNeg)) T_pasts T_text T_typed T_at T_from T_token T_many T_letters T_number T_known T_then T_trip T_sent T_learned T_chosen T_decided) rfl (fun H locs hP hD hS => ?_)
        refine lv_iinc (v := (x1 + 1)) (lv' := [(1, .int (x1 + 1)), (0, .ref Ta)]) hx hb dX10_hold_20 hl (k := 1) rfl rfl (by decide) rfl (fun ls hl => ?_)
        refine lv_goto (tgt := 2) hx hb dX10_hold_23 (by decide) ?_
        exact ih2 (x1 + 1) (upd T_aside x1.toNatClampNeg (T_s x1.toNatClampNeg)) _ _ _ hf hP hD hS (lv_sub hl [1, 0] rfl)
  refine lv_iconst (v := (0 : Int32)) hx hb dX10_hold_0 (by decide) ?_
  refine lv_istore_n (lv' := [(1, .int (0 : Int32)), (0, .ref Ta)]) hx hb dX10_hold_1 rfl hl (by decide) rfl (fun ls hl => ?_)
  exact L2  fuel (0 : Int32) T_aside _ _ _ hf hP hD hS (lv_sub hl [1, 0] rfl)
set_option maxRecDepth 100000 in
set_option maxHeartbeats 4000000 in
theorem kX10_restore (l : Launch) (D : va_G) (cI cC cS : ClassId) (Ta Ta_s Ta_past Ta_aside Ta_text Ta_known Ta_then Ta_trip Ta_sent Ta_learned Ta_chosen Ta_decided : Nat) (T_s : Nat → Int32) (T_past : Nat → Int32) (T_aside : Nat → Int32) (T_pasts : Int32) (T_text : Nat → Int32) (T_typed : Int32) (T_at : Int32) (T_from : Int32) (T_token : Int32) (T_many : Int32) (T_letters : Int64) (T_number : Int32) (T_known : Nat → Int32) (T_then : Nat → Int32) (T_trip : Nat → Int32) (T_sent : Nat → Int32) (T_learned : Nat → Int32) (T_chosen : Nat → Int32) (T_decided : Nat → Int32) (o : (Nat → Int32)) (hf : fX10_restore T_s T_aside = some o) : CV l D yX10_restore wsX10_restore ({ frames := 0, cells := 0, slots := 0, locals := 0 } : Room) (tysK cI cC cS) [.ref Ta] (sh_X10 Ta Ta_s Ta_past Ta_aside Ta_text Ta_known Ta_then Ta_trip Ta_sent Ta_learned Ta_chosen Ta_decided cI cC cS T_s T_past T_aside T_pasts T_text T_typed T_at T_from T_token T_many T_letters T_number T_known T_then T_trip T_sent T_learned T_chosen T_decided) (sh_X10 Ta Ta_s Ta_past Ta_aside Ta_text Ta_known Ta_then Ta_trip Ta_sent Ta_learned Ta_chosen Ta_decided cI cC cS o T_past T_aside T_pasts T_text T_typed T_at T_from T_token T_many T_letters T_number T_known T_then T_trip T_sent T_learned T_chosen T_decided) := by
  refine met_v (cc := cX10_restore) (maxL := 2) (ret := none) (by decide) rfl (Nat.le_of_ble_eq_true rfl) ?_
  intro p e s m args below meth c R Q A F hR hQ hP hK hD hA hS ls hl
  obtain ⟨hx, hb, hr, hts, hml, hlocks, hown⟩ := F
  have hown : s.vm.findClass RX10 = some m.cls := hown
  have hi_X10 : ∀ w ∈ u_ws RX10 TX10 19, w ∈ wsX10_restore := fun w h => List.mem_cons_of_mem _ (List.mem_append_right _ h)
  have q7 := hts (.fieldLink RX10 7 "ChangingRoundsModel" "s" "[I") (by decide +kernel)
  have q16 := hts (.fieldLink RX10 16 "ChangingRoundsModel" "aside" "[I") (by decide +kernel)
  have hl : lv_has ls 2 [(0, .ref Ta)] := hl
  unfold fX10_restore at hf
  have L2 : ∀ (n2 : Nat) (x1 : Int32) (T_s : Nat → Int32) (H : Heap) (locs : List Loc) (ls : Array Slot), fX10_restore_l2 T_aside n2 x1 T_s = some o → va_P D vwCl (sh_X10 Ta Ta_s Ta_past Ta_aside Ta_text Ta_known Ta_then Ta_trip Ta_sent Ta_learned Ta_chosen Ta_decided cI cC cS T_s T_past T_aside T_pasts T_text T_typed T_at T_from T_token T_many T_letters T_number T_known T_then T_trip T_sent T_learned T_chosen T_decided) H → va_D A (sh_X10 Ta Ta_s Ta_past Ta_aside Ta_text Ta_known Ta_then Ta_trip Ta_sent Ta_learned Ta_chosen Ta_decided cI cC cS T_s T_past T_aside T_pasts T_text T_typed T_at T_from T_token T_many T_letters T_number T_known T_then T_trip T_sent T_learned T_chosen T_decided) → va_S A s.heap H locs → lv_has ls 2 [(0, .ref Ta), (1, .int x1)] → W p l e R s m args below meth c H locs 0 0 Q (F0 m 2 ls []) := by
    intro n2
    induction n2 with
    | zero => intro x1 T_s H locs ls hf; cases (show (none : Option _) = some _ from hf)
    | succ n2 ih2 =>
      intro x1 T_s H locs ls hf hP hD hS hl
      rw [fX10_restore_l2] at hf
      refine lv_iload_n hx hb dX10_restore_2 rfl (lv_at hl 1 rfl) ?_
      refine lv_bipush (v := (26 : Int32)) hx hb dX10_restore_3 (by decide) ?_
      refine lv_icmp_ge (tgt := 26) hx hb dX10_restore_5 (by decide) (fun c1 => ?_) (fun c1 => ?_)
      · have hf := if_t c1 hf
        have hf := Option.some.inj hf
        subst hf
        exact rt_v hx hb hr hlocks hQ hK hP hD hS dX10_restore_26
      · have hf := if_f c1 hf
        refine lv_aload_n hx hb dX10_restore_8 rfl (lv_at hl 0 rfl) ?_
        refine va_get (D := D) (ci := 7) (v := .ref Ta_s) (C := RX10) (T := TX10) (N := 19) hx hb hts hi_X10 hown hK hP 0 rfl rfl 0 (by decide) q7 (fun _ h9 => h9) rfl dX10_restore_9 ?_
        refine lv_iload_n hx hb dX10_restore_12 rfl (lv_at hl 1 rfl) ?_
        refine lv_aload_n hx hb dX10_restore_13 rfl (lv_at hl 0 rfl) ?_
        refine va_get (D := D) (ci := 7) (v := .ref Ta_aside) (C := RX10) (T := TX10) (N := 19) hx hb hts hi_X10 hown hK hP 0 rfl rfl 2 (by decide) q16 (fun _ h9 => h9) rfl dX10_restore_14 ?_
        refine lv_iload_n hx hb dX10_restore_17 rfl (lv_at hl 1 rfl) ?_
        obtain ⟨hz, hf⟩ := ck_some hf
        refine sx_iald (j := x1.toNatClampNeg) hx hb hK hP 3 0 rfl rfl (inb_vp hz) rfl dX10_restore_18 ?_
        obtain ⟨hz, hf⟩ := ck_some hf
        refine sx_iast (j := x1.toNatClampNeg) hx hb hK hP hD hS 1 0 rfl rfl (inb_vp hz) rfl dX10_restore_19 (sh_X10 Ta Ta_s Ta_past Ta_aside Ta_text Ta_known Ta_then Ta_trip Ta_sent Ta_learned Ta_chosen Ta_decided cI cC cS (upd T_s x1.toNatClampNeg (T_aside x1.toNatClampNeg)) T_past T_aside T_pasts T_text T_typed T_at T_from T_token T_many T_letters T_number T_known T_then T_trip T_sent T_learned T_chosen T_decided) rfl (fun H locs hP hD hS => ?_)
        refine lv_iinc (v := (x1 + 1)) (lv' := [(1, .int (x1 + 1)), (0, .ref Ta)]) hx hb dX10_restore_20 hl (k := 1) rfl rfl (by decide) rfl (fun ls hl => ?_)
        refine lv_goto (tgt := 2) hx hb dX10_restore_23 (by decide) ?_
        exact ih2 (x1 + 1) (upd T_s x1.toNatClampNeg (T_aside x1.toNatClampNeg)) _ _ _ hf hP hD hS (lv_sub hl [1, 0] rfl)
  refine lv_iconst (v := (0 : Int32)) hx hb dX10_restore_0 (by decide) ?_
  refine lv_istore_n (lv' := [(1, .int (0 : Int32)), (0, .ref Ta)]) hx hb dX10_restore_1 rfl hl (by decide) rfl (fun ls hl => ?_)
  exact L2  fuel (0 : Int32) T_s _ _ _ hf hP hD hS (lv_sub hl [1, 0] rfl)
set_option maxRecDepth 100000 in
set_option maxHeartbeats 4000000 in
theorem kX10_ends (l : Launch) (D : va_G) (cI cC cS : ClassId) (Ta Ta_s Ta_past Ta_aside Ta_text Ta_known Ta_then Ta_trip Ta_sent Ta_learned Ta_chosen Ta_decided : Nat) (x1 : Int32) (T_s : Nat → Int32) (T_past : Nat → Int32) (T_aside : Nat → Int32) (T_pasts : Int32) (T_text : Nat → Int32) (T_typed : Int32) (T_at : Int32) (T_from : Int32) (T_token : Int32) (T_many : Int32) (T_letters : Int64) (T_number : Int32) (T_known : Nat → Int32) (T_then : Nat → Int32) (T_trip : Nat → Int32) (T_sent : Nat → Int32) (T_learned : Nat → Int32) (T_chosen : Nat → Int32) (T_decided : Nat → Int32) (o : Int32 × (Nat → Int32) × Int32) (hf : fX10_ends x1 T_past T_aside T_pasts = some o) : CI l D yX10_ends wsX10_ends ({ frames := 0, cells := 0, slots := 0, locals := 0 } : Room) (tysK cI cC cS) [.ref Ta, .int x1] (sh_X10 Ta Ta_s Ta_past Ta_aside Ta_text Ta_known Ta_then Ta_trip Ta_sent Ta_learned Ta_chosen Ta_decided cI cC cS T_s T_past T_aside T_pasts T_text T_typed T_at T_from T_token T_many T_letters T_number T_known T_then T_trip T_sent T_learned T_chosen T_decided) o.1 (sh_X10 Ta Ta_s Ta_past Ta_aside Ta_text Ta_known Ta_then Ta_trip Ta_sent Ta_learned Ta_chosen Ta_decided cI cC cS T_s o.2.1 T_aside o.2.2 T_text T_typed T_at T_from T_token T_many T_letters T_number T_known T_then T_trip T_sent T_learned T_chosen T_decided) := by
  refine met_i (cc := cX10_ends) (maxL := 3) (ret := (some .int)) (by decide) rfl (Nat.le_of_ble_eq_true rfl) ?_
  intro p e s m args below meth c R Q A F hR hQ hP hK hD hA hS ls hl
  obtain ⟨hx, hb, hr, hts, hml, hlocks, hown⟩ := F
  have hown : s.vm.findClass RX10 = some m.cls := hown
  have hi_X10 : ∀ w ∈ u_ws RX10 TX10 19, w ∈ wsX10_ends := fun w h => List.mem_cons_of_mem _ (List.mem_append_right _ h)
  have q47 := hts (.fieldLink RX10 47 "ChangingRoundsModel" "pasts" "I") (by decide +kernel)
  have q13 := hts (.fieldLink RX10 13 "ChangingRoundsModel" "past" "[I") (by decide +kernel)
  have q16 := hts (.fieldLink RX10 16 "ChangingRoundsModel" "aside" "[I") (by decide +kernel)
  have hl : lv_has ls 3 [(0, .ref Ta), (1, .int x1)] := hl
  unfold fX10_ends at hf
  have L51 : ∀ (T_pasts : Int32) (n51 : Nat) (x2 : Int32) (T_past : Nat → Int32) (H : Heap) (locs : List Loc) (ls : Array Slot), fX10_ends_l51 x1 T_aside T_pasts n51 x2 T_past = some o → va_P D vwCl (sh_X10 Ta Ta_s Ta_past Ta_aside Ta_text Ta_known Ta_then Ta_trip Ta_sent Ta_learned Ta_chosen Ta_decided cI cC cS T_s T_past T_aside T_pasts T_text T_typed T_at T_from T_token T_many T_letters T_number T_known T_then T_trip T_sent T_learned T_chosen T_decided) H → va_D A (sh_X10 Ta Ta_s Ta_past Ta_aside Ta_text Ta_known Ta_then Ta_trip Ta_sent Ta_learned Ta_chosen Ta_decided cI cC cS T_s T_past T_aside T_pasts T_text T_typed T_at T_from T_token T_many T_letters T_number T_known T_then T_trip T_sent T_learned T_chosen T_decided) → va_S A s.heap H locs → lv_has ls 3 [(0, .ref Ta), (1, .int x1), (2, .int x2)] → W p l e R s m args below meth c H locs 0 0 Q (F0 m 51 ls []) := by
    intro T_pasts n51
    induction n51 with
    | zero => intro x2 T_past H locs ls hf; cases (show (none : Option _) = some _ from hf)
    | succ n51 ih51 =>
      intro x2 T_past H locs ls hf hP hD hS hl
      rw [fX10_ends_l51] at hf
      refine lv_iload_n hx hb dX10_ends_51 rfl (lv_at hl 2 rfl) ?_
      refine lv_bipush (v := (26 : Int32)) hx hb dX10_ends_52 (by decide) ?_
      refine lv_icmp_ge (tgt := 83) hx hb dX10_ends_54 (by decide) (fun c1 => ?_) (fun c1 => ?_)
      · have hf := if_t c1 hf
        refine lv_aload_n hx hb dX10_ends_83 rfl (lv_at hl 0 rfl) ?_
        refine lv_dup hx hb dX10_ends_84 rfl ?_
        refine va_get (D := D) (ci := 7) (v := .int T_pasts) (C := RX10) (T := TX10) (N := 19) hx hb hts hi_X10 hown hK hP 0 rfl rfl 3 (by decide) q47 (fun _ h9 => h9) rfl dX10_ends_85 ?_
        refine lv_iconst (v := (1 : Int32)) hx hb dX10_ends_88 (by decide) ?_
        refine lv_iadd hx hb dX10_ends_89 ?_
        refine sx_put (D := D) (ci := 7) (v := .int (T_pasts + (1 : Int32))) (ty := .int) (C := RX10) (T := TX10) (N := 19) hx hb hts hi_X10 tyX10 tyX10_ok nmX10 hown hK hP hD hS 0 rfl rfl 3 (by decide) q47 (fun _ h9 => h9) rfl (by decide +kernel) rfl rfl (Nat.le_of_ble_eq_true rfl) dX10_ends_90 (sh_X10 Ta Ta_s Ta_past Ta_aside Ta_text Ta_known Ta_then Ta_trip Ta_sent Ta_learned Ta_chosen Ta_decided cI cC cS T_s T_past T_aside (T_pasts + (1 : Int32)) T_text T_typed T_at T_from T_token T_many T_letters T_number T_known T_then T_trip T_sent T_learned T_chosen T_decided) rfl (fun H locs hP hD hS => ?_)
        refine lv_iload_n hx hb dX10_ends_93 rfl (lv_at hl 1 rfl) ?_
        have hf := Option.some.inj hf
        subst hf
        exact rt_i hx hb hr hlocks hQ hK hP hD hS rfl dX10_ends_94
      · have hf := if_f c1 hf
        refine lv_aload_n hx hb dX10_ends_57 rfl (lv_at hl 0 rfl) ?_
        refine va_get (D := D) (ci := 7) (v := .ref Ta_past) (C := RX10) (T := TX10) (N := 19) hx hb hts hi_X10 hown hK hP 0 rfl rfl 1 (by decide) q13 (fun _ h9 => h9) rfl dX10_ends_58 ?_
        refine lv_bipush (v := (26 : Int32)) hx hb dX10_ends_61 (by decide) ?_
        refine lv_aload_n hx hb dX10_ends_63 rfl (lv_at hl 0 rfl) ?_
        refine va_get (D := D) (ci := 7) (v := .int T_pasts) (C := RX10) (T := TX10) (N := 19) hx hb hts hi_X10 hown hK hP 0 rfl rfl 3 (by decide) q47 (fun _ h9 => h9) rfl dX10_ends_64 ?_
        refine lv_imul hx hb dX10_ends_67 ?_
        refine lv_iload_n hx hb dX10_ends_68 rfl (lv_at hl 2 rfl) ?_
        refine lv_iadd hx hb dX10_ends_69 ?_
        refine lv_aload_n hx hb dX10_ends_70 rfl (lv_at hl 0 rfl) ?_
        refine va_get (D := D) (ci := 7) (v := .ref Ta_aside) (C := RX10) (T := TX10) (N := 19) hx hb hts hi_X10 hown hK hP 0 rfl rfl 2 (by decide) q16 (fun _ h9 => h9) rfl dX10_ends_71 ?_
        refine lv_iload_n hx hb dX10_ends_74 rfl (lv_at hl 2 rfl) ?_
        obtain ⟨hz, hf⟩ := ck_some hf
        refine sx_iald (j := x2.toNatClampNeg) hx hb hK hP 3 0 rfl rfl (inb_vp hz) rfl dX10_ends_75 ?_
        obtain ⟨hz, hf⟩ := ck_some hf
        refine sx_iast (j := (((26 : Int32) * T_pasts) + x2).toNatClampNeg) hx hb hK hP hD hS 2 0 rfl rfl (inb_vp hz) rfl dX10_ends_76 (sh_X10 Ta Ta_s Ta_past Ta_aside Ta_text Ta_known Ta_then Ta_trip Ta_sent Ta_learned Ta_chosen Ta_decided cI cC cS T_s (upd T_past ((((26 : Int32) * T_pasts) + x2).toNatClampNeg) (T_aside x2.toNatClampNeg)) T_aside T_pasts T_text T_typed T_at T_from T_token T_many T_letters T_number T_known T_then T_trip T_sent T_learned T_chosen T_decided) rfl (fun H locs hP hD hS => ?_)
        refine lv_iinc (v := (x2 + 1)) (lv' := [(2, .int (x2 + 1)), (0, .ref Ta), (1, .int x1)]) hx hb dX10_ends_77 hl (k := 2) rfl rfl (by decide) rfl (fun ls hl => ?_)
        refine lv_goto (tgt := 51) hx hb dX10_ends_80 (by decide) ?_
        exact ih51 (x2 + 1) (upd T_past ((((26 : Int32) * T_pasts) + x2).toNatClampNeg) (T_aside x2.toNatClampNeg)) _ _ _ hf hP hD hS (lv_sub hl [1, 2, 0] rfl)
  have L11 : ∀ (T_pasts : Int32) (n11 : Nat) (x2 : Int32) (T_past : Nat → Int32) (H : Heap) (locs : List Loc) (ls : Array Slot), fX10_ends_l11 x1 T_aside T_pasts n11 x2 T_past = some o → va_P D vwCl (sh_X10 Ta Ta_s Ta_past Ta_aside Ta_text Ta_known Ta_then Ta_trip Ta_sent Ta_learned Ta_chosen Ta_decided cI cC cS T_s T_past T_aside T_pasts T_text T_typed T_at T_from T_token T_many T_letters T_number T_known T_then T_trip T_sent T_learned T_chosen T_decided) H → va_D A (sh_X10 Ta Ta_s Ta_past Ta_aside Ta_text Ta_known Ta_then Ta_trip Ta_sent Ta_learned Ta_chosen Ta_decided cI cC cS T_s T_past T_aside T_pasts T_text T_typed T_at T_from T_token T_many T_letters T_number T_known T_then T_trip T_sent T_learned T_chosen T_decided) → va_S A s.heap H locs → lv_has ls 3 [(0, .ref Ta), (1, .int x1), (2, .int x2)] → W p l e R s m args below meth c H locs 0 0 Q (F0 m 11 ls []) := by
    intro T_pasts n11
    induction n11 with
    | zero => intro x2 T_past H locs ls hf; cases (show (none : Option _) = some _ from hf)
    | succ n11 ih11 =>
      intro x2 T_past H locs ls hf hP hD hS hl
      rw [fX10_ends_l11] at hf
      refine lv_iload_n hx hb dX10_ends_11 rfl (lv_at hl 2 rfl) ?_
      refine lv_sipush (v := (130 : Int32)) hx hb dX10_ends_12 (by decide) ?_
      refine lv_icmp_ge (tgt := 39) hx hb dX10_ends_15 (by decide) (fun c2 => ?_) (fun c2 => ?_)
      · have hf := if_t c2 hf
        refine lv_aload_n hx hb dX10_ends_39 rfl (lv_at hl 0 rfl) ?_
        refine lv_dup hx hb dX10_ends_40 rfl ?_
        refine va_get (D := D) (ci := 7) (v := .int T_pasts) (C := RX10) (T := TX10) (N := 19) hx hb hts hi_X10 hown hK hP 0 rfl rfl 3 (by decide) q47 (fun _ h9 => h9) rfl dX10_ends_41 ?_
        refine lv_iconst (v := (1 : Int32)) hx hb dX10_ends_44 (by decide) ?_
        refine lv_isub hx hb dX10_ends_45 ?_
        refine sx_put (D := D) (ci := 7) (v := .int (T_pasts - (1 : Int32))) (ty := .int) (C := RX10) (T := TX10) (N := 19) hx hb hts hi_X10 tyX10 tyX10_ok nmX10 hown hK hP hD hS 0 rfl rfl 3 (by decide) q47 (fun _ h9 => h9) rfl (by decide +kernel) rfl rfl (Nat.le_of_ble_eq_true rfl) dX10_ends_46 (sh_X10 Ta Ta_s Ta_past Ta_aside Ta_text Ta_known Ta_then Ta_trip Ta_sent Ta_learned Ta_chosen Ta_decided cI cC cS T_s T_past T_aside (T_pasts - (1 : Int32)) T_text T_typed T_at T_from T_token T_many T_letters T_number T_known T_then T_trip T_sent T_learned T_chosen T_decided) rfl (fun H locs hP hD hS => ?_)
        refine lv_iconst (v := (0 : Int32)) hx hb dX10_ends_49 (by decide) ?_
        refine lv_istore_n (lv' := [(2, .int (0 : Int32)), (0, .ref Ta), (1, .int x1)]) hx hb dX10_ends_50 rfl hl (by decide) rfl (fun ls hl => ?_)
        exact L51 (T_pasts - (1 : Int32)) fuel (0 : Int32) T_past _ _ _ hf hP hD hS (lv_sub hl [1, 2, 0] rfl)
      · have hf := if_f c2 hf
        refine lv_aload_n hx hb dX10_ends_18 rfl (lv_at hl 0 rfl) ?_
        refine va_get (D := D) (ci := 7) (v := .ref Ta_past) (C := RX10) (T := TX10) (N := 19) hx hb hts hi_X10 hown hK hP 0 rfl rfl 1 (by decide) q13 (fun _ h9 => h9) rfl dX10_ends_19 ?_
        refine lv_iload_n hx hb dX10_ends_22 rfl (lv_at hl 2 rfl) ?_
        refine lv_aload_n hx hb dX10_ends_23 rfl (lv_at hl 0 rfl) ?_
        refine va_get (D := D) (ci := 7) (v := .ref Ta_past) (C := RX10) (T := TX10) (N := 19) hx hb hts hi_X10 hown hK hP 0 rfl rfl 1 (by decide) q13 (fun _ h9 => h9) rfl dX10_ends_24 ?_
        refine lv_iload_n hx hb dX10_ends_27 rfl (lv_at hl 2 rfl) ?_
        refine lv_bipush (v := (26 : Int32)) hx hb dX10_ends_28 (by decide) ?_
        refine lv_iadd hx hb dX10_ends_30 ?_
        obtain ⟨hz, hf⟩ := ck_some hf
        refine sx_iald (j := (x2 + (26 : Int32)).toNatClampNeg) hx hb hK hP 2 0 rfl rfl (inb_vp hz) rfl dX10_ends_31 ?_
        obtain ⟨hz, hf⟩ := ck_some hf
        refine sx_iast (j := x2.toNatClampNeg) hx hb hK hP hD hS 2 0 rfl rfl (inb_vp hz) rfl dX10_ends_32 (sh_X10 Ta Ta_s Ta_past Ta_aside Ta_text Ta_known Ta_then Ta_trip Ta_sent Ta_learned Ta_chosen Ta_decided cI cC cS T_s (upd T_past x2.toNatClampNeg (T_past ((x2 + (26 : Int32)).toNatClampNeg))) T_aside T_pasts T_text T_typed T_at T_from T_token T_many T_letters T_number T_known T_then T_trip T_sent T_learned T_chosen T_decided) rfl (fun H locs hP hD hS => ?_)
        refine lv_iinc (v := (x2 + 1)) (lv' := [(2, .int (x2 + 1)), (0, .ref Ta), (1, .int x1)]) hx hb dX10_ends_33 hl (k := 2) rfl rfl (by decide) rfl (fun ls hl => ?_)
        refine lv_goto (tgt := 11) hx hb dX10_ends_36 (by decide) ?_
        exact ih11 (x2 + 1) (upd T_past x2.toNatClampNeg (T_past ((x2 + (26 : Int32)).toNatClampNeg))) _ _ _ hf hP hD hS (lv_sub hl [1, 2, 0] rfl)
  refine lv_aload_n hx hb dX10_ends_0 rfl (lv_at hl 0 rfl) ?_
  refine va_get (D := D) (ci := 7) (v := .int T_pasts) (C := RX10) (T := TX10) (N := 19) hx hb hts hi_X10 hown hK hP 0 rfl rfl 3 (by decide) q47 (fun _ h9 => h9) rfl dX10_ends_1 ?_
  refine lv_bipush (v := (6 : Int32)) hx hb dX10_ends_4 (by decide) ?_
  refine lv_icmp_ne (tgt := 49) hx hb dX10_ends_6 (by decide) (fun c3 => ?_) (fun c3 => ?_)
  · have hf := if_f c3 hf
    refine lv_iconst (v := (0 : Int32)) hx hb dX10_ends_49 (by decide) ?_
    refine lv_istore_n (lv' := [(2, .int (0 : Int32)), (0, .ref Ta), (1, .int x1)]) hx hb dX10_ends_50 rfl hl (by decide) rfl (fun ls hl => ?_)
    exact L51 T_pasts fuel (0 : Int32) T_past _ _ _ hf hP hD hS (lv_sub hl [1, 2, 0] rfl)
  · have hf := if_t c3 hf
    refine lv_iconst (v := (0 : Int32)) hx hb dX10_ends_9 (by decide) ?_
    refine lv_istore_n (lv' := [(2, .int (0 : Int32)), (0, .ref Ta), (1, .int x1)]) hx hb dX10_ends_10 rfl hl (by decide) rfl (fun ls hl => ?_)
    exact L11 T_pasts fuel (0 : Int32) T_past _ _ _ hf hP hD hS (lv_sub hl [1, 2, 0] rfl)
set_option maxRecDepth 100000 in
set_option maxHeartbeats 4000000 in
theorem kX10_isNode (l : Launch) (D : va_G) (cI cC cS : ClassId) (Ta Ta_s Ta_past Ta_aside Ta_text Ta_known Ta_then Ta_trip Ta_sent Ta_learned Ta_chosen Ta_decided : Nat) (x1 : Int32) (T_s : Nat → Int32) (T_past : Nat → Int32) (T_aside : Nat → Int32) (T_pasts : Int32) (T_text : Nat → Int32) (T_typed : Int32) (T_at : Int32) (T_from : Int32) (T_token : Int32) (T_many : Int32) (T_letters : Int64) (T_number : Int32) (T_known : Nat → Int32) (T_then : Nat → Int32) (T_trip : Nat → Int32) (T_sent : Nat → Int32) (T_learned : Nat → Int32) (T_chosen : Nat → Int32) (T_decided : Nat → Int32) (o : Bool) (hf : fX10_isNode x1 T_s = o) : CI l D yX10_isNode wsX10_isNode ({ frames := 1, cells := 0, slots := 0, locals := 22 } : Room) (tysK cI cC cS) [.ref Ta, .int x1] (sh_X10 Ta Ta_s Ta_past Ta_aside Ta_text Ta_known Ta_then Ta_trip Ta_sent Ta_learned Ta_chosen Ta_decided cI cC cS T_s T_past T_aside T_pasts T_text T_typed T_at T_from T_token T_many T_letters T_number T_known T_then T_trip T_sent T_learned T_chosen T_decided) (b2i o) (sh_X10 Ta Ta_s Ta_past Ta_aside Ta_text Ta_known Ta_then Ta_trip Ta_sent Ta_learned Ta_chosen Ta_decided cI cC cS T_s T_past T_aside T_pasts T_text T_typed T_at T_from T_token T_many T_letters T_number T_known T_then T_trip T_sent T_learned T_chosen T_decided) := by
  refine met_i (cc := cX10_isNode) (maxL := 2) (ret := (some .boolean)) (by decide) rfl (Nat.le_of_ble_eq_true rfl) ?_
  intro p e s m args below meth c R Q A F hR hQ hP hK hD hA hS ls hl
  obtain ⟨hx, hb, hr, hts, hml, hlocks, hown⟩ := F
  have hown : s.vm.findClass RX10 = some m.cls := hown
  have hi_X10 : ∀ w ∈ u_ws RX10 TX10 19, w ∈ wsX10_isNode := fun w h => List.mem_cons_of_mem _ (List.mem_append_right _ h)
  have q7 := hts (.fieldLink RX10 7 "ChangingRoundsModel" "s" "[I") (by decide +kernel)
  have hl : lv_has ls 2 [(0, .ref Ta), (1, .int x1)] := hl
  unfold fX10_isNode at hf
  refine lv_iload_n hx hb dX10_isNode_0 rfl (lv_at hl 1 rfl) ?_
  refine lv_iconst (v := (0 : Int32)) hx hb dX10_isNode_1 (by decide) ?_
  refine lv_aload_n hx hb dX10_isNode_2 rfl (lv_at hl 0 rfl) ?_
  refine va_get (D := D) (ci := 7) (v := .ref Ta_s) (C := RX10) (T := TX10) (N := 19) hx hb hts hi_X10 hown hK hP 0 rfl rfl 0 (by decide) q7 (fun _ h9 => h9) rfl dX10_isNode_3 ?_
  refine lv_iconst (v := (0 : Int32)) hx hb dX10_isNode_6 (by decide) ?_
  refine sx_iald (j := 0) hx hb hK hP 1 0 rfl rfl (inb_vp (by decide)) (by decide) dX10_isNode_7 ?_
  refine lv_iconst (v := (1 : Int32)) hx hb dX10_isNode_8 (by decide) ?_
  refine lv_isub hx hb dX10_isNode_9 ?_
  refine cs_i (As := [.int x1, .int (0 : Int32), .int ((T_s 0) - (1 : Int32))]) (rest := []) hx hb hml hown hts hK hP hD hA hS (kX10_in l D cI cC cS  x1 (0 : Int32) ((T_s 0) - (1 : Int32))  (fX10_in x1 (0 : Int32) ((T_s 0) - (1 : Int32))) rfl) (va_cwS 3 hts gX10_isNode_X10_in rfl rfl rfl (by decide +kernel) (by subst hR; exact ⟨Nat.le_of_ble_eq_true rfl, Nat.le_of_ble_eq_true rfl⟩)) rfl hl.1 rfl (Nat.le_of_ble_eq_true rfl) ⟨Nat.zero_le _, Nat.zero_le _⟩ dX10_isNode_10 (fun H locs hP hD hS => ?_)
  subst hf
  exact rt_z (ty := .boolean) hx hb hr (b2i_nar _) hlocks hQ hK hP hD hS rfl dX10_isNode_13
set_option maxRecDepth 100000 in
set_option maxHeartbeats 4000000 in
theorem kX10_isRound (l : Launch) (D : va_G) (cI cC cS : ClassId) (Ta Ta_s Ta_past Ta_aside Ta_text Ta_known Ta_then Ta_trip Ta_sent Ta_learned Ta_chosen Ta_decided : Nat) (x1 : Int32) (T_s : Nat → Int32) (T_past : Nat → Int32) (T_aside : Nat → Int32) (T_pasts : Int32) (T_text : Nat → Int32) (T_typed : Int32) (T_at : Int32) (T_from : Int32) (T_token : Int32) (T_many : Int32) (T_letters : Int64) (T_number : Int32) (T_known : Nat → Int32) (T_then : Nat → Int32) (T_trip : Nat → Int32) (T_sent : Nat → Int32) (T_learned : Nat → Int32) (T_chosen : Nat → Int32) (T_decided : Nat → Int32) (o : Bool) (hf : fX10_isRound x1 T_s = o) : CI l D yX10_isRound wsX10_isRound ({ frames := 1, cells := 0, slots := 0, locals := 22 } : Room) (tysK cI cC cS) [.ref Ta, .int x1] (sh_X10 Ta Ta_s Ta_past Ta_aside Ta_text Ta_known Ta_then Ta_trip Ta_sent Ta_learned Ta_chosen Ta_decided cI cC cS T_s T_past T_aside T_pasts T_text T_typed T_at T_from T_token T_many T_letters T_number T_known T_then T_trip T_sent T_learned T_chosen T_decided) (b2i o) (sh_X10 Ta Ta_s Ta_past Ta_aside Ta_text Ta_known Ta_then Ta_trip Ta_sent Ta_learned Ta_chosen Ta_decided cI cC cS T_s T_past T_aside T_pasts T_text T_typed T_at T_from T_token T_many T_letters T_number T_known T_then T_trip T_sent T_learned T_chosen T_decided) := by
  refine met_i (cc := cX10_isRound) (maxL := 2) (ret := (some .boolean)) (by decide) rfl (Nat.le_of_ble_eq_true rfl) ?_
  intro p e s m args below meth c R Q A F hR hQ hP hK hD hA hS ls hl
  obtain ⟨hx, hb, hr, hts, hml, hlocks, hown⟩ := F
  have hown : s.vm.findClass RX10 = some m.cls := hown
  have hi_X10 : ∀ w ∈ u_ws RX10 TX10 19, w ∈ wsX10_isRound := fun w h => List.mem_cons_of_mem _ (List.mem_append_right _ h)
  have q7 := hts (.fieldLink RX10 7 "ChangingRoundsModel" "s" "[I") (by decide +kernel)
  have hl : lv_has ls 2 [(0, .ref Ta), (1, .int x1)] := hl
  unfold fX10_isRound at hf
  refine lv_iload_n hx hb dX10_isRound_0 rfl (lv_at hl 1 rfl) ?_
  refine lv_iconst (v := (0 : Int32)) hx hb dX10_isRound_1 (by decide) ?_
  refine lv_aload_n hx hb dX10_isRound_2 rfl (lv_at hl 0 rfl) ?_
  refine va_get (D := D) (ci := 7) (v := .ref Ta_s) (C := RX10) (T := TX10) (N := 19) hx hb hts hi_X10 hown hK hP 0 rfl rfl 0 (by decide) q7 (fun _ h9 => h9) rfl dX10_isRound_3 ?_
  refine lv_iconst (v := (1 : Int32)) hx hb dX10_isRound_6 (by decide) ?_
  refine sx_iald (j := 1) hx hb hK hP 1 0 rfl rfl (inb_vp (by decide)) (by decide) dX10_isRound_7 ?_
  refine lv_iconst (v := (1 : Int32)) hx hb dX10_isRound_8 (by decide) ?_
  refine lv_isub hx hb dX10_isRound_9 ?_
  refine cs_i (As := [.int x1, .int (0 : Int32), .int ((T_s 1) - (1 : Int32))]) (rest := []) hx hb hml hown hts hK hP hD hA hS (kX10_in l D cI cC cS  x1 (0 : Int32) ((T_s 1) - (1 : Int32))  (fX10_in x1 (0 : Int32) ((T_s 1) - (1 : Int32))) rfl) (va_cwS 3 hts gX10_isRound_X10_in rfl rfl rfl (by decide +kernel) (by subst hR; exact ⟨Nat.le_of_ble_eq_true rfl, Nat.le_of_ble_eq_true rfl⟩)) rfl hl.1 rfl (Nat.le_of_ble_eq_true rfl) ⟨Nat.zero_le _, Nat.zero_le _⟩ dX10_isRound_10 (fun H locs hP hD hS => ?_)
  subst hf
  exact rt_z (ty := .boolean) hx hb hr (b2i_nar _) hlocks hQ hK hP hD hS rfl dX10_isRound_13
set_option maxRecDepth 100000 in
set_option maxHeartbeats 4000000 in
theorem kX10_pair (l : Launch) (D : va_G) (cI cC cS : ClassId) (x0 : Int32) (x1 : Int32) (o : Int32) (hf : fX10_pair x0 x1 = o) : CI l D yX10_pair wsX10_pair ({ frames := 0, cells := 0, slots := 0, locals := 0 } : Room) (tysK cI cC cS) [.int x0, .int x1] [] o [] := by
  refine met_i (cc := cX10_pair) (maxL := 2) (ret := (some .int)) (by decide) rfl (Nat.le_of_ble_eq_true rfl) ?_
  intro p e s m args below meth c R Q A F hR hQ hP hK hD hA hS ls hl
  obtain ⟨hx, hb, hr, hts, hml, hlocks, hown⟩ := F
  have hown : s.vm.findClass RX10 = some m.cls := hown
  have hl : lv_has ls 2 [(0, .int x0), (1, .int x1)] := hl
  unfold fX10_pair at hf
  refine lv_iload_n hx hb dX10_pair_0 rfl (lv_at hl 0 rfl) ?_
  refine lv_iload_n hx hb dX10_pair_1 rfl (lv_at hl 1 rfl) ?_
  refine lv_icmp_ge (tgt := 19) hx hb dX10_pair_2 (by decide) (fun c1 => ?_) (fun c1 => ?_)
  · have hf := if_t c1 hf
    refine lv_iconst (v := (1 : Int32)) hx hb dX10_pair_19 (by decide) ?_
    refine lv_iload_n hx hb dX10_pair_20 rfl (lv_at hl 0 rfl) ?_
    refine lv_iload_n hx hb dX10_pair_21 rfl (lv_at hl 0 rfl) ?_
    refine lv_iconst (v := (1 : Int32)) hx hb dX10_pair_22 (by decide) ?_
    refine lv_isub hx hb dX10_pair_23 ?_
    refine lv_imul hx hb dX10_pair_24 ?_
    refine lv_iconst (v := (2 : Int32)) hx hb dX10_pair_25 (by decide) ?_
    refine lv_idiv hx hb dX10_pair_26 (by decide) ?_
    refine lv_iload_n hx hb dX10_pair_27 rfl (lv_at hl 1 rfl) ?_
    refine lv_iadd hx hb dX10_pair_28 ?_
    refine lv_ishl hx hb dX10_pair_29 ?_
    subst hf
    exact rt_i hx hb hr hlocks hQ hK hP hD hS rfl dX10_pair_30
  · have hf := if_f c1 hf
    refine lv_iconst (v := (1 : Int32)) hx hb dX10_pair_5 (by decide) ?_
    refine lv_iload_n hx hb dX10_pair_6 rfl (lv_at hl 1 rfl) ?_
    refine lv_iload_n hx hb dX10_pair_7 rfl (lv_at hl 1 rfl) ?_
    refine lv_iconst (v := (1 : Int32)) hx hb dX10_pair_8 (by decide) ?_
    refine lv_isub hx hb dX10_pair_9 ?_
    refine lv_imul hx hb dX10_pair_10 ?_
    refine lv_iconst (v := (2 : Int32)) hx hb dX10_pair_11 (by decide) ?_
    refine lv_idiv hx hb dX10_pair_12 (by decide) ?_
    refine lv_iload_n hx hb dX10_pair_13 rfl (lv_at hl 0 rfl) ?_
    refine lv_iadd hx hb dX10_pair_14 ?_
    refine lv_ishl hx hb dX10_pair_15 ?_
    refine lv_goto (tgt := 30) hx hb dX10_pair_16 (by decide) ?_
    subst hf
    exact rt_i hx hb hr hlocks hQ hK hP hD hS rfl dX10_pair_30
set_option maxRecDepth 100000 in
set_option maxHeartbeats 4000000 in
theorem kX10_isPair (l : Launch) (D : va_G) (cI cC cS : ClassId) (Ta Ta_s Ta_past Ta_aside Ta_text Ta_known Ta_then Ta_trip Ta_sent Ta_learned Ta_chosen Ta_decided : Nat) (x1 : Int32) (x2 : Int32) (T_s : Nat → Int32) (T_past : Nat → Int32) (T_aside : Nat → Int32) (T_pasts : Int32) (T_text : Nat → Int32) (T_typed : Int32) (T_at : Int32) (T_from : Int32) (T_token : Int32) (T_many : Int32) (T_letters : Int64) (T_number : Int32) (T_known : Nat → Int32) (T_then : Nat → Int32) (T_trip : Nat → Int32) (T_sent : Nat → Int32) (T_learned : Nat → Int32) (T_chosen : Nat → Int32) (T_decided : Nat → Int32) (o : Bool) (hf : fX10_isPair x1 x2 T_s = o) : CI l D yX10_isPair wsX10_isPair ({ frames := 2, cells := 0, slots := 0, locals := 43 } : Room) (tysK cI cC cS) [.ref Ta, .int x1, .int x2] (sh_X10 Ta Ta_s Ta_past Ta_aside Ta_text Ta_known Ta_then Ta_trip Ta_sent Ta_learned Ta_chosen Ta_decided cI cC cS T_s T_past T_aside T_pasts T_text T_typed T_at T_from T_token T_many T_letters T_number T_known T_then T_trip T_sent T_learned T_chosen T_decided) (b2i o) (sh_X10 Ta Ta_s Ta_past Ta_aside Ta_text Ta_known Ta_then Ta_trip Ta_sent Ta_learned Ta_chosen Ta_decided cI cC cS T_s T_past T_aside T_pasts T_text T_typed T_at T_from T_token T_many T_letters T_number T_known T_then T_trip T_sent T_learned T_chosen T_decided) := by
  refine met_i (cc := cX10_isPair) (maxL := 3) (ret := (some .boolean)) (by decide) rfl (Nat.le_of_ble_eq_true rfl) ?_
  intro p e s m args below meth c R Q A F hR hQ hP hK hD hA hS ls hl
  obtain ⟨hx, hb, hr, hts, hml, hlocks, hown⟩ := F
  have hown : s.vm.findClass RX10 = some m.cls := hown
  have hl : lv_has ls 3 [(0, .ref Ta), (1, .int x1), (2, .int x2)] := hl
  unfold fX10_isPair at hf
  refine lv_aload_n hx hb dX10_isPair_0 rfl (lv_at hl 0 rfl) ?_
  refine lv_iload_n hx hb dX10_isPair_1 rfl (lv_at hl 1 rfl) ?_
  refine cv_i (ci := 7) (q := (RX10, TX10, 19)) (As := [.int x1]) (rest := []) hx hb hml hown hts hK hP hD hA hS (kX10_isNode l D cI cC cS Ta Ta_s Ta_past Ta_aside Ta_text Ta_known Ta_then Ta_trip Ta_sent Ta_learned Ta_chosen Ta_decided x1 T_s T_past T_aside T_pasts T_text T_typed T_at T_from T_token T_many T_letters T_number T_known T_then T_trip T_sent T_learned T_chosen T_decided (fX10_isNode x1 T_s) rfl) (cwV 1 hts gX10_isPair_X10_isNode rfl rfl rfl (by decide +kernel) (by subst hR; exact ⟨Nat.le_of_ble_eq_true rfl, Nat.le_of_ble_eq_true rfl⟩)) [0, 1, 2, 3, 4, 5, 6, 7, 8, 9, 10, 11] [] [0, 1, 2, 3, 4, 5, 6, 7, 8, 9, 10, 11] [] (sh_X10 Ta Ta_s Ta_past Ta_aside Ta_text Ta_known Ta_then Ta_trip Ta_sent Ta_learned Ta_chosen Ta_decided cI cC cS T_s T_past T_aside T_pasts T_text T_typed T_at T_from T_token T_many T_letters T_number T_known T_then T_trip T_sent T_learned T_chosen T_decided) rfl rfl rfl rfl (by decide) rfl rfl rfl rfl rfl rfl hl.1 rfl (Nat.le_of_ble_eq_true rfl) ⟨Nat.zero_le _, Nat.zero_le _⟩ dX10_isPair_2 (fun H locs hP hD hS => ?_)
  refine lv_if_eq (tgt := 25) hx hb dX10_isPair_5 (by decide) (fun c1 => ?_) (fun c1 => ?_)
  · have hf := if_t c1 hf
    refine lv_iconst (v := (0 : Int32)) hx hb dX10_isPair_25 (by decide) ?_
    subst hf
    exact rt_z (ty := .boolean) hx hb hr rfl hlocks hQ hK hP hD hS rfl dX10_isPair_26
  · have hf := if_f c1 hf
    refine lv_aload_n hx hb dX10_isPair_8 rfl (lv_at hl 0 rfl) ?_
    refine lv_iload_n hx hb dX10_isPair_9 rfl (lv_at hl 2 rfl) ?_
    refine cv_i (ci := 7) (q := (RX10, TX10, 19)) (As := [.int x2]) (rest := []) hx hb hml hown hts hK hP hD hA hS (kX10_isNode l D cI cC cS Ta Ta_s Ta_past Ta_aside Ta_text Ta_known Ta_then Ta_trip Ta_sent Ta_learned Ta_chosen Ta_decided x2 T_s T_past T_aside T_pasts T_text T_typed T_at T_from T_token T_many T_letters T_number T_known T_then T_trip T_sent T_learned T_chosen T_decided (fX10_isNode x2 T_s) rfl) (cwV 1 hts gX10_isPair_X10_isNode rfl rfl rfl (by decide +kernel) (by subst hR; exact ⟨Nat.le_of_ble_eq_true rfl, Nat.le_of_ble_eq_true rfl⟩)) [0, 1, 2, 3, 4, 5, 6, 7, 8, 9, 10, 11] [] [0, 1, 2, 3, 4, 5, 6, 7, 8, 9, 10, 11] [] (sh_X10 Ta Ta_s Ta_past Ta_aside Ta_text Ta_known Ta_then Ta_trip Ta_sent Ta_learned Ta_chosen Ta_decided cI cC cS T_s T_past T_aside T_pasts T_text T_typed T_at T_from T_token T_many T_letters T_number T_known T_then T_trip T_sent T_learned T_chosen T_decided) rfl rfl rfl rfl (by decide) rfl rfl rfl rfl rfl rfl hl.1 rfl (Nat.le_of_ble_eq_true rfl) ⟨Nat.zero_le _, Nat.zero_le _⟩ dX10_isPair_10 (fun H locs hP hD hS => ?_)
    refine lv_if_eq (tgt := 25) hx hb dX10_isPair_13 (by decide) (fun c2 => ?_) (fun c2 => ?_)
    · have hf := if_t c2 hf
      refine lv_iconst (v := (0 : Int32)) hx hb dX10_isPair_25 (by decide) ?_
      subst hf
      exact rt_z (ty := .boolean) hx hb hr rfl hlocks hQ hK hP hD hS rfl dX10_isPair_26
    · have hf := if_f c2 hf
      refine lv_iload_n hx hb dX10_isPair_16 rfl (lv_at hl 1 rfl) ?_
      refine lv_iload_n hx hb dX10_isPair_17 rfl (lv_at hl 2 rfl) ?_
      refine lv_icmp_eq (tgt := 25) hx hb dX10_isPair_18 (by decide) (fun c3 => ?_) (fun c3 => ?_)
      · have hf := if_t c3 hf
        refine lv_iconst (v := (0 : Int32)) hx hb dX10_isPair_25 (by decide) ?_
        subst hf
        exact rt_z (ty := .boolean) hx hb hr rfl hlocks hQ hK hP hD hS rfl dX10_isPair_26
      · have hf := if_f c3 hf
        refine lv_iconst (v := (1 : Int32)) hx hb dX10_isPair_21 (by decide) ?_
        refine lv_goto (tgt := 26) hx hb dX10_isPair_22 (by decide) ?_
        subst hf
        exact rt_z (ty := .boolean) hx hb hr rfl hlocks hQ hK hP hD hS rfl dX10_isPair_26
set_option maxRecDepth 100000 in
set_option maxHeartbeats 4000000 in
theorem kX10_size (l : Launch) (D : va_G) (cI cC cS : ClassId) (x0 : Int32) (o : Int32) (hf : fX10_size x0 = some o) : CI l D yX10_size wsX10_size ({ frames := 0, cells := 0, slots := 0, locals := 0 } : Room) (tysK cI cC cS) [.int x0] [] o [] := by
  refine met_i (cc := cX10_size) (maxL := 3) (ret := (some .int)) (by decide) rfl (Nat.le_of_ble_eq_true rfl) ?_
  intro p e s m args below meth c R Q A F hR hQ hP hK hD hA hS ls hl
  obtain ⟨hx, hb, hr, hts, hml, hlocks, hown⟩ := F
  have hown : s.vm.findClass RX10 = some m.cls := hown
  have hl : lv_has ls 3 [(0, .int x0)] := hl
  unfold fX10_size at hf
  have L4 : ∀ (n4 : Nat) (x1 : Int32) (x2 : Int32) (H : Heap) (locs : List Loc) (ls : Array Slot), fX10_size_l4 x0 n4 x1 x2 = some o → va_P D vwCl [] H → va_D A [] → va_S A s.heap H locs → lv_has ls 3 [(0, .int x0), (1, .int x1), (2, .int x2)] → W p l e R s m args below meth c H locs 0 0 Q (F0 m 4 ls []) := by
    intro n4
    induction n4 with
    | zero => intro x1 x2 H locs ls hf; cases (show (none : Option _) = some _ from hf)
    | succ n4 ih4 =>
      intro x1 x2 H locs ls hf hP hD hS hl
      rw [fX10_size_l4] at hf
      refine lv_iload_n hx hb dX10_size_4 rfl (lv_at hl 2 rfl) ?_
      refine lv_bipush (v := (28 : Int32)) hx hb dX10_size_5 (by decide) ?_
      refine lv_icmp_ge (tgt := 24) hx hb dX10_size_7 (by decide) (fun c1 => ?_) (fun c1 => ?_)
      · have hf := if_t c1 hf
        refine lv_iload_n hx hb dX10_size_24 rfl (lv_at hl 1 rfl) ?_
        have hf := Option.some.inj hf
        subst hf
        exact rt_i hx hb hr hlocks hQ hK hP hD hS rfl dX10_size_25
      · have hf := if_f c1 hf
        refine lv_iload_n hx hb dX10_size_10 rfl (lv_at hl 1 rfl) ?_
        refine lv_iload_n hx hb dX10_size_11 rfl (lv_at hl 0 rfl) ?_
        refine lv_iload_n hx hb dX10_size_12 rfl (lv_at hl 2 rfl) ?_
        refine lv_ishr hx hb dX10_size_13 ?_
        refine lv_iconst (v := (1 : Int32)) hx hb dX10_size_14 (by decide) ?_
        refine lv_iand hx hb dX10_size_15 ?_
        refine lv_iadd hx hb dX10_size_16 ?_
        refine lv_istore_n (lv' := [(1, .int (x1 + ((x0 >>> (x2 &&& 31)) &&& (1 : Int32)))), (0, .int x0), (2, .int x2)]) hx hb dX10_size_17 rfl hl (by decide) rfl (fun ls hl => ?_)
        refine lv_iinc (v := (x2 + 1)) (lv' := [(2, .int (x2 + 1)), (1, .int (x1 + ((x0 >>> (x2 &&& 31)) &&& (1 : Int32)))), (0, .int x0)]) hx hb dX10_size_18 hl (k := 2) rfl rfl (by decide) rfl (fun ls hl => ?_)
        refine lv_goto (tgt := 4) hx hb dX10_size_21 (by decide) ?_
        exact ih4 (x1 + ((x0 >>> (x2 &&& 31)) &&& (1 : Int32))) (x2 + 1) _ _ _ hf hP hD hS (lv_sub hl [2, 1, 0] rfl)
  refine lv_iconst (v := (0 : Int32)) hx hb dX10_size_0 (by decide) ?_
  refine lv_istore_n (lv' := [(1, .int (0 : Int32)), (0, .int x0)]) hx hb dX10_size_1 rfl hl (by decide) rfl (fun ls hl => ?_)
  refine lv_iconst (v := (0 : Int32)) hx hb dX10_size_2 (by decide) ?_
  refine lv_istore_n (lv' := [(2, .int (0 : Int32)), (1, .int (0 : Int32)), (0, .int x0)]) hx hb dX10_size_3 rfl hl (by decide) rfl (fun ls hl => ?_)
  exact L4  fuel (0 : Int32) (0 : Int32) _ _ _ hf hP hD hS (lv_sub hl [2, 1, 0] rfl)
