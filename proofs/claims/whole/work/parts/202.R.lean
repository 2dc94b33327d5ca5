set_option maxRecDepth 100000 in
set_option maxHeartbeats 4000000 in
theorem kX10_all (l : Launch) (D : va_G) (cI cC cS : ClassId) (Ta Ta_s Ta_past Ta_aside Ta_text Ta_known Ta_then Ta_trip Ta_sent Ta_learned Ta_chosen Ta_decided : Nat) (T_s : Nat → Int32) (T_past : Nat → Int32) (T_aside : Nat → Int32) (T_pasts : Int32) (T_text : Nat → Int32) (T_typed : Int32) (T_at : Int32) (T_from : Int32) (T_token : Int32) (T_many : Int32) (T_letters : Int64) (T_number : Int32) (T_known : Nat → Int32) (T_then : Nat → Int32) (T_trip : Nat → Int32) (T_sent : Nat → Int32) (T_learned : Nat → Int32) (T_chosen : Nat → Int32) (T_decided : Nat → Int32) (o : Int32) (hf : fX10_all T_s = o) : CI l D yX10_all wsX10_all ({ frames := 0, cells := 0, slots := 0, locals := 0 } : Room) (tysK cI cC cS) [.ref Ta] (sh_X10 Ta Ta_s Ta_past Ta_aside Ta_text Ta_known Ta_then Ta_trip Ta_sent Ta_learned Ta_chosen Ta_decided cI cC cS T_s T_past T_aside T_pasts T_text T_typed T_at T_from T_token T_many T_letters T_number T_known T_then T_trip T_sent T_learned T_chosen T_decided) o (sh_X10 Ta Ta_s Ta_past Ta_aside Ta_text Ta_known Ta_then Ta_trip Ta_sent Ta_learned Ta_chosen Ta_decided cI cC cS T_s T_past T_aside T_pasts T_text T_typed T_at T_from T_token T_many T_letters T_number T_known T_then T_trip T_sent T_learned T_chosen T_decided) := by
  refine met_i (cc := cX10_all) (maxL := 1) (ret := (some .int)) (by decide) rfl (Nat.le_of_ble_eq_true rfl) ?_
  intro p e s m args below meth c R Q A F hR hQ hP hK hD hA hS ls hl
  obtain ⟨hx, hb, hr, hts, hml, hlocks, hown⟩ := F
  have hown : s.vm.findClass RX10 = some m.cls := hown
  have hi_X10 : ∀ w ∈ u_ws RX10 TX10 19, w ∈ wsX10_all := fun w h => List.mem_cons_of_mem _ (List.mem_append_right _ h)
  have q7 := hts (.fieldLink RX10 7 "ChangingRoundsModel" "s" "[I") (by decide +kernel)
  have hl : lv_has ls 1 [(0, .ref Ta)] := hl
  unfold fX10_all at hf
  refine lv_iconst (v := (1 : Int32)) hx hb dX10_all_0 (by decide) ?_
  refine lv_aload_n hx hb dX10_all_1 rfl (lv_at hl 0 rfl) ?_
  refine va_get (D := D) (ci := 7) (v := .ref Ta_s) (C := RX10) (T := TX10) (N := 19) hx hb hts hi_X10 hown hK hP 0 rfl rfl 0 (by decide) q7 (fun _ h9 => h9) rfl dX10_all_2 ?_
  refine lv_iconst (v := (0 : Int32)) hx hb dX10_all_5 (by decide) ?_
  refine sx_iald (j := 0) hx hb hK hP 1 0 rfl rfl (inb_vp (by decide)) (by decide) dX10_all_6 ?_
  refine lv_ishl hx hb dX10_all_7 ?_
  refine lv_iconst (v := (1 : Int32)) hx hb dX10_all_8 (by decide) ?_
  refine lv_isub hx hb dX10_all_9 ?_
  subst hf
  exact rt_i hx hb hr hlocks hQ hK hP hD hS rfl dX10_all_10
set_option maxRecDepth 100000 in
set_option maxHeartbeats 4000000 in
theorem kX10_setNodes (l : Launch) (D : va_G) (cI cC cS : ClassId) (Ta Ta_s Ta_past Ta_aside Ta_text Ta_known Ta_then Ta_trip Ta_sent Ta_learned Ta_chosen Ta_decided : Nat) (x1 : Int32) (T_s : Nat → Int32) (T_past : Nat → Int32) (T_aside : Nat → Int32) (T_pasts : Int32) (T_text : Nat → Int32) (T_typed : Int32) (T_at : Int32) (T_from : Int32) (T_token : Int32) (T_many : Int32) (T_letters : Int64) (T_number : Int32) (T_known : Nat → Int32) (T_then : Nat → Int32) (T_trip : Nat → Int32) (T_sent : Nat → Int32) (T_learned : Nat → Int32) (T_chosen : Nat → Int32) (T_decided : Nat → Int32) (o : Int32 × (Nat → Int32) × (Nat → Int32) × (Nat → Int32) × Int32) (hf : fX10_setNodes x1 T_s T_past T_aside T_pasts = some o) : CI l D yX10_setNodes wsX10_setNodes ({ frames := 1, cells := 0, slots := 0, locals := 22 } : Room) (tysK cI cC cS) [.ref Ta, .int x1] (sh_X10 Ta Ta_s Ta_past Ta_aside Ta_text Ta_known Ta_then Ta_trip Ta_sent Ta_learned Ta_chosen Ta_decided cI cC cS T_s T_past T_aside T_pasts T_text T_typed T_at T_from T_token T_many T_letters T_number T_known T_then T_trip T_sent T_learned T_chosen T_decided) o.1 (sh_X10 Ta Ta_s Ta_past Ta_aside Ta_text Ta_known Ta_then Ta_trip Ta_sent Ta_learned Ta_chosen Ta_decided cI cC cS o.2.1 o.2.2.1 o.2.2.2.1 o.2.2.2.2 T_text T_typed T_at T_from T_token T_many T_letters T_number T_known T_then T_trip T_sent T_learned T_chosen T_decided) := by
  refine met_i (cc := cX10_setNodes) (maxL := 3) (ret := (some .int)) (by decide) rfl (Nat.le_of_ble_eq_true rfl) ?_
  intro p e s m args below meth c R Q A F hR hQ hP hK hD hA hS ls hl
  obtain ⟨hx, hb, hr, hts, hml, hlocks, hown⟩ := F
  have hown : s.vm.findClass RX10 = some m.cls := hown
  have hi_X10 : ∀ w ∈ u_ws RX10 TX10 19, w ∈ wsX10_setNodes := fun w h => List.mem_cons_of_mem _ (List.mem_append_right _ h)
  have q7 := hts (.fieldLink RX10 7 "ChangingRoundsModel" "s" "[I") (by decide +kernel)
  have hl : lv_has ls 3 [(0, .ref Ta), (1, .int x1)] := hl
  unfold fX10_setNodes at hf
  refine lv_iload_n hx hb dX10_setNodes_0 rfl (lv_at hl 1 rfl) ?_
  refine lv_iconst (v := (2 : Int32)) hx hb dX10_setNodes_1 (by decide) ?_
  refine lv_bipush (v := (8 : Int32)) hx hb dX10_setNodes_2 (by decide) ?_
  refine cs_i (As := [.int x1, .int (2 : Int32), .int (8 : Int32)]) (rest := []) hx hb hml hown hts hK hP hD hA hS (kX10_in l D cI cC cS  x1 (2 : Int32) (8 : Int32)  (fX10_in x1 (2 : Int32) (8 : Int32)) rfl) (va_cwS 3 hts gX10_setNodes_X10_in rfl rfl rfl (by decide +kernel) (by subst hR; exact ⟨Nat.le_of_ble_eq_true rfl, Nat.le_of_ble_eq_true rfl⟩)) rfl hl.1 rfl (Nat.le_of_ble_eq_true rfl) ⟨Nat.zero_le _, Nat.zero_le _⟩ dX10_setNodes_4 (fun H locs hP hD hS => ?_)
  refine lv_if_ne (tgt := 12) hx hb dX10_setNodes_7 (by decide) (fun c1 => ?_) (fun c1 => ?_)
  · have hf := if_f c1 hf
    refine lv_aload_n hx hb dX10_setNodes_12 rfl (lv_at hl 0 rfl) ?_
    obtain ⟨o2, ho2, hf⟩ := bd_some hf
    refine cv_v (ci := 7) (q := (RX10, TX10, 19)) (As := []) (rest := []) hx hb hml hown hts hK hP hD hA hS (kX10_hold l D cI cC cS Ta Ta_s Ta_past Ta_aside Ta_text Ta_known Ta_then Ta_trip Ta_sent Ta_learned Ta_chosen Ta_decided  T_s T_past T_aside T_pasts T_text T_typed T_at T_from T_token T_many T_letters T_number T_known T_then T_trip T_sent T_learned T_chosen T_decided o2 ho2) (cwV 0 hts gX10_setNodes_X10_hold rfl rfl rfl (by decide +kernel) (by subst hR; exact ⟨Nat.le_of_ble_eq_true rfl, Nat.le_of_ble_eq_true rfl⟩)) [0, 1, 2, 3, 4, 5, 6, 7, 8, 9, 10, 11] [] [0, 1, 2, 3, 4, 5, 6, 7, 8, 9, 10, 11] [] (sh_X10 Ta Ta_s Ta_past Ta_aside Ta_text Ta_known Ta_then Ta_trip Ta_sent Ta_learned Ta_chosen Ta_decided cI cC cS T_s T_past o2 T_pasts T_text T_typed T_at T_from T_token T_many T_letters T_number T_known T_then T_trip T_sent T_learned T_chosen T_decided) rfl rfl rfl rfl (by decide) rfl rfl rfl rfl rfl rfl hl.1 rfl (Nat.le_of_ble_eq_true rfl) ⟨Nat.zero_le _, Nat.zero_le _⟩ dX10_setNodes_13 (fun H locs hP hD hS => ?_)
    refine lv_aload_n hx hb dX10_setNodes_16 rfl (lv_at hl 0 rfl) ?_
    refine va_get (D := D) (ci := 7) (v := .ref Ta_s) (C := RX10) (T := TX10) (N := 19) hx hb hts hi_X10 hown hK hP 0 rfl rfl 0 (by decide) q7 (fun _ h9 => h9) rfl dX10_setNodes_17 ?_
    refine lv_iconst (v := (0 : Int32)) hx hb dX10_setNodes_20 (by decide) ?_
    refine sx_iald (j := 0) hx hb hK hP 1 0 rfl rfl (inb_vp (by decide)) (by decide) dX10_setNodes_21 ?_
    refine lv_istore_n (lv' := [(2, .int (T_s 0)), (0, .ref Ta), (1, .int x1)]) hx hb dX10_setNodes_22 rfl hl (by decide) rfl (fun ls hl => ?_)
    refine lv_aload_n hx hb dX10_setNodes_23 rfl (lv_at hl 1 rfl) ?_
    refine lv_iload_n hx hb dX10_setNodes_24 rfl (lv_at hl 2 rfl) ?_
    obtain ⟨o3, ho3, hf⟩ := bd_some hf
    refine cv_v (ci := 7) (q := (RX10, TX10, 19)) (As := [.int x1]) (rest := []) hx hb hml hown hts hK hP hD hA hS (kX10_begins l D cI cC cS Ta Ta_s Ta_past Ta_aside Ta_text Ta_known Ta_then Ta_trip Ta_sent Ta_learned Ta_chosen Ta_decided x1 T_s T_past o2 T_pasts T_text T_typed T_at T_from T_token T_many T_letters T_number T_known T_then T_trip T_sent T_learned T_chosen T_decided o3 ho3) (cwV 1 hts gX10_setNodes_X10_begins rfl rfl rfl (by decide +kernel) (by subst hR; exact ⟨Nat.le_of_ble_eq_true rfl, Nat.le_of_ble_eq_true rfl⟩)) [0, 1, 2, 3, 4, 5, 6, 7, 8, 9, 10, 11] [] [0, 1, 2, 3, 4, 5, 6, 7, 8, 9, 10, 11] [] (sh_X10 Ta Ta_s Ta_past Ta_aside Ta_text Ta_known Ta_then Ta_trip Ta_sent Ta_learned Ta_chosen Ta_decided cI cC cS o3 T_past o2 T_pasts T_text T_typed T_at T_from T_token T_many T_letters T_number T_known T_then T_trip T_sent T_learned T_chosen T_decided) rfl rfl rfl rfl (by decide) rfl rfl rfl rfl rfl rfl hl.1 rfl (Nat.le_of_ble_eq_true rfl) ⟨Nat.zero_le _, Nat.zero_le _⟩ dX10_setNodes_25 (fun H locs hP hD hS => ?_)
    refine lv_aload_n hx hb dX10_setNodes_28 rfl (lv_at hl 1 rfl) ?_
    refine lv_iload_n hx hb dX10_setNodes_29 rfl (lv_at hl 0 rfl) ?_
    obtain ⟨o4, ho4, hf⟩ := bd_some hf
    refine cv_i (ci := 7) (q := (RX10, TX10, 19)) (As := [.int (T_s 0)]) (rest := []) hx hb hml hown hts hK hP hD hA hS (kX10_ends l D cI cC cS Ta Ta_s Ta_past Ta_aside Ta_text Ta_known Ta_then Ta_trip Ta_sent Ta_learned Ta_chosen Ta_decided (T_s 0) o3 T_past o2 T_pasts T_text T_typed T_at T_from T_token T_many T_letters T_number T_known T_then T_trip T_sent T_learned T_chosen T_decided o4 ho4) (cwV 1 hts gX10_setNodes_X10_ends rfl rfl rfl (by decide +kernel) (by subst hR; exact ⟨Nat.le_of_ble_eq_true rfl, Nat.le_of_ble_eq_true rfl⟩)) [0, 1, 2, 3, 4, 5, 6, 7, 8, 9, 10, 11] [] [0, 1, 2, 3, 4, 5, 6, 7, 8, 9, 10, 11] [] (sh_X10 Ta Ta_s Ta_past Ta_aside Ta_text Ta_known Ta_then Ta_trip Ta_sent Ta_learned Ta_chosen Ta_decided cI cC cS o3 o4.2.1 o2 o4.2.2 T_text T_typed T_at T_from T_token T_many T_letters T_number T_known T_then T_trip T_sent T_learned T_chosen T_decided) rfl rfl rfl rfl (by decide) rfl rfl rfl rfl rfl rfl hl.1 rfl (Nat.le_of_ble_eq_true rfl) ⟨Nat.zero_le _, Nat.zero_le _⟩ dX10_setNodes_30 (fun H locs hP hD hS => ?_)
    have hf := Option.some.inj hf
    subst hf
    exact rt_i hx hb hr hlocks hQ hK hP hD hS rfl dX10_setNodes_33
  · have hf := if_t c1 hf
    refine lv_iconst (v := (-1 : Int32)) hx hb dX10_setNodes_10 (by decide) ?_
    have hf := Option.some.inj hf
    subst hf
    exact rt_i hx hb hr hlocks hQ hK hP hD hS rfl dX10_setNodes_11
set_option maxRecDepth 100000 in
set_option maxHeartbeats 4000000 in
theorem kX10_adds (l : Launch) (D : va_G) (cI cC cS : ClassId) (Ta Ta_s Ta_past Ta_aside Ta_text Ta_known Ta_then Ta_trip Ta_sent Ta_learned Ta_chosen Ta_decided : Nat) (x1 : Int32) (T_s : Nat → Int32) (T_past : Nat → Int32) (T_aside : Nat → Int32) (T_pasts : Int32) (T_text : Nat → Int32) (T_typed : Int32) (T_at : Int32) (T_from : Int32) (T_token : Int32) (T_many : Int32) (T_letters : Int64) (T_number : Int32) (T_known : Nat → Int32) (T_then : Nat → Int32) (T_trip : Nat → Int32) (T_sent : Nat → Int32) (T_learned : Nat → Int32) (T_chosen : Nat → Int32) (T_decided : Nat → Int32) (o : (Nat → Int32)) (hf : fX10_adds x1 T_s = some o) : CV l D yX10_adds wsX10_adds ({ frames := 0, cells := 0, slots := 0, locals := 0 } : Room) (tysK cI cC cS) [.ref Ta, .int x1] (sh_X10 Ta Ta_s Ta_past Ta_aside Ta_text Ta_known Ta_then Ta_trip Ta_sent Ta_learned Ta_chosen Ta_decided cI cC cS T_s T_past T_aside T_pasts T_text T_typed T_at T_from T_token T_many T_letters T_number T_known T_then T_trip T_sent T_learned T_chosen T_decided) (sh_X10 Ta Ta_s Ta_past Ta_aside Ta_text Ta_known Ta_then Ta_trip Ta_sent Ta_learned Ta_chosen Ta_decided cI cC cS o T_past T_aside T_pasts T_text T_typed T_at T_from T_token T_many T_letters T_number T_known T_then T_trip T_sent T_learned T_chosen T_decided) := by
  refine met_v (cc := cX10_adds) (maxL := 2) (ret := none) (by decide) rfl (Nat.le_of_ble_eq_true rfl) ?_
  intro p e s m args below meth c R Q A F hR hQ hP hK hD hA hS ls hl
  obtain ⟨hx, hb, hr, hts, hml, hlocks, hown⟩ := F
  have hown : s.vm.findClass RX10 = some m.cls := hown
  have hi_X10 : ∀ w ∈ u_ws RX10 TX10 19, w ∈ wsX10_adds := fun w h => List.mem_cons_of_mem _ (List.mem_append_right _ h)
  have q7 := hts (.fieldLink RX10 7 "ChangingRoundsModel" "s" "[I") (by decide +kernel)
  have hl : lv_has ls 2 [(0, .ref Ta), (1, .int x1)] := hl
  unfold fX10_adds at hf
  refine lv_aload_n hx hb dX10_adds_0 rfl (lv_at hl 0 rfl) ?_
  refine va_get (D := D) (ci := 7) (v := .ref Ta_s) (C := RX10) (T := TX10) (N := 19) hx hb hts hi_X10 hown hK hP 0 rfl rfl 0 (by decide) q7 (fun _ h9 => h9) rfl dX10_adds_1 ?_
  refine lv_iconst (v := (2 : Int32)) hx hb dX10_adds_4 (by decide) ?_
  refine lv_aload_n hx hb dX10_adds_5 rfl (lv_at hl 0 rfl) ?_
  refine va_get (D := D) (ci := 7) (v := .ref Ta_s) (C := RX10) (T := TX10) (N := 19) hx hb hts hi_X10 hown hK hP 0 rfl rfl 0 (by decide) q7 (fun _ h9 => h9) rfl dX10_adds_6 ?_
  refine lv_iconst (v := (1 : Int32)) hx hb dX10_adds_9 (by decide) ?_
  refine sx_iald (j := 1) hx hb hK hP 1 0 rfl rfl (inb_vp (by decide)) (by decide) dX10_adds_10 ?_
  refine lv_iadd hx hb dX10_adds_11 ?_
  refine lv_iload_n hx hb dX10_adds_12 rfl (lv_at hl 1 rfl) ?_
  obtain ⟨hz, hf⟩ := ck_some hf
  refine sx_iast (j := ((2 : Int32) + (T_s 1)).toNatClampNeg) hx hb hK hP hD hS 1 0 rfl rfl (inb_vp hz) rfl dX10_adds_13 (sh_X10 Ta Ta_s Ta_past Ta_aside Ta_text Ta_known Ta_then Ta_trip Ta_sent Ta_learned Ta_chosen Ta_decided cI cC cS (upd T_s (((2 : Int32) + (T_s 1)).toNatClampNeg) x1) T_past T_aside T_pasts T_text T_typed T_at T_from T_token T_many T_letters T_number T_known T_then T_trip T_sent T_learned T_chosen T_decided) rfl (fun H locs hP hD hS => ?_)
  refine lv_aload_n hx hb dX10_adds_14 rfl (lv_at hl 0 rfl) ?_
  refine va_get (D := D) (ci := 7) (v := .ref Ta_s) (C := RX10) (T := TX10) (N := 19) hx hb hts hi_X10 hown hK hP 0 rfl rfl 0 (by decide) q7 (fun _ h9 => h9) rfl dX10_adds_15 ?_
  refine lv_iconst (v := (1 : Int32)) hx hb dX10_adds_18 (by decide) ?_
  refine lv_dup2_11 hx hb dX10_adds_19 rfl rfl ?_
  refine sx_iald (j := 1) hx hb hK hP 1 0 rfl rfl (inb_vp (by decide)) (by decide) dX10_adds_20 ?_
  refine lv_iconst (v := (1 : Int32)) hx hb dX10_adds_21 (by decide) ?_
  refine lv_iadd hx hb dX10_adds_22 ?_
  refine sx_iast (j := 1) hx hb hK hP hD hS 1 0 rfl rfl (inb_vp (by decide)) (by decide) dX10_adds_23 (sh_X10 Ta Ta_s Ta_past Ta_aside Ta_text Ta_known Ta_then Ta_trip Ta_sent Ta_learned Ta_chosen Ta_decided cI cC cS (upd (upd T_s (((2 : Int32) + (T_s 1)).toNatClampNeg) x1) 1 (((upd T_s (((2 : Int32) + (T_s 1)).toNatClampNeg) x1) 1) + (1 : Int32))) T_past T_aside T_pasts T_text T_typed T_at T_from T_token T_many T_letters T_number T_known T_then T_trip T_sent T_learned T_chosen T_decided) rfl (fun H locs hP hD hS => ?_)
  have hf := Option.some.inj hf
  subst hf
  exact rt_v hx hb hr hlocks hQ hK hP hD hS dX10_adds_24
set_option maxRecDepth 100000 in
set_option maxHeartbeats 4000000 in
theorem kX10_addRound (l : Launch) (D : va_G) (cI cC cS : ClassId) (Ta Ta_s Ta_past Ta_aside Ta_text Ta_known Ta_then Ta_trip Ta_sent Ta_learned Ta_chosen Ta_decided : Nat) (T_s : Nat → Int32) (T_past : Nat → Int32) (T_aside : Nat → Int32) (T_pasts : Int32) (T_text : Nat → Int32) (T_typed : Int32) (T_at : Int32) (T_from : Int32) (T_token : Int32) (T_many : Int32) (T_letters : Int64) (T_number : Int32) (T_known : Nat → Int32) (T_then : Nat → Int32) (T_trip : Nat → Int32) (T_sent : Nat → Int32) (T_learned : Nat → Int32) (T_chosen : Nat → Int32) (T_decided : Nat → Int32) (o : Int32 × (Nat → Int32) × (Nat → Int32) × (Nat → Int32) × Int32) (hf : fX10_addRound T_s T_past T_aside T_pasts = some o) : CI l D yX10_addRound wsX10_addRound ({ frames := 1, cells := 0, slots := 0, locals := 22 } : Room) (tysK cI cC cS) [.ref Ta] (sh_X10 Ta Ta_s Ta_past Ta_aside Ta_text Ta_known Ta_then Ta_trip Ta_sent Ta_learned Ta_chosen Ta_decided cI cC cS T_s T_past T_aside T_pasts T_text T_typed T_at T_from T_token T_many T_letters T_number T_known T_then T_trip T_sent T_learned T_chosen T_decided) o.1 (sh_X10 Ta Ta_s Ta_past Ta_aside Ta_text Ta_known Ta_then Ta_trip Ta_sent Ta_learned Ta_chosen Ta_decided cI cC cS o.2.1 o.2.2.1 o.2.2.2.1 o.2.2.2.2 T_text T_typed T_at T_from T_token T_many T_letters T_number T_known T_then T_trip T_sent T_learned T_chosen T_decided) := by
  refine met_i (cc := cX10_addRound) (maxL := 1) (ret := (some .int)) (by decide) rfl (Nat.le_of_ble_eq_true rfl) ?_
  intro p e s m args below meth c R Q A F hR hQ hP hK hD hA hS ls hl
  obtain ⟨hx, hb, hr, hts, hml, hlocks, hown⟩ := F
  have hown : s.vm.findClass RX10 = some m.cls := hown
  have hi_X10 : ∀ w ∈ u_ws RX10 TX10 19, w ∈ wsX10_addRound := fun w h => List.mem_cons_of_mem _ (List.mem_append_right _ h)
  have q7 := hts (.fieldLink RX10 7 "ChangingRoundsModel" "s" "[I") (by decide +kernel)
  have hl : lv_has ls 1 [(0, .ref Ta)] := hl
  unfold fX10_addRound at hf
  refine lv_aload_n hx hb dX10_addRound_0 rfl (lv_at hl 0 rfl) ?_
  refine va_get (D := D) (ci := 7) (v := .ref Ta_s) (C := RX10) (T := TX10) (N := 19) hx hb hts hi_X10 hown hK hP 0 rfl rfl 0 (by decide) q7 (fun _ h9 => h9) rfl dX10_addRound_1 ?_
  refine lv_iconst (v := (1 : Int32)) hx hb dX10_addRound_4 (by decide) ?_
  refine sx_iald (j := 1) hx hb hK hP 1 0 rfl rfl (inb_vp (by decide)) (by decide) dX10_addRound_5 ?_
  refine lv_bipush (v := (16 : Int32)) hx hb dX10_addRound_6 (by decide) ?_
  refine lv_icmp_ne (tgt := 14) hx hb dX10_addRound_8 (by decide) (fun c1 => ?_) (fun c1 => ?_)
  · have hf := if_f c1 hf
    refine lv_aload_n hx hb dX10_addRound_14 rfl (lv_at hl 0 rfl) ?_
    obtain ⟨o2, ho2, hf⟩ := bd_some hf
    refine cv_v (ci := 7) (q := (RX10, TX10, 19)) (As := []) (rest := []) hx hb hml hown hts hK hP hD hA hS (kX10_hold l D cI cC cS Ta Ta_s Ta_past Ta_aside Ta_text Ta_known Ta_then Ta_trip Ta_sent Ta_learned Ta_chosen Ta_decided  T_s T_past T_aside T_pasts T_text T_typed T_at T_from T_token T_many T_letters T_number T_known T_then T_trip T_sent T_learned T_chosen T_decided o2 ho2) (cwV 0 hts gX10_addRound_X10_hold rfl rfl rfl (by decide +kernel) (by subst hR; exact ⟨Nat.le_of_ble_eq_true rfl, Nat.le_of_ble_eq_true rfl⟩)) [0, 1, 2, 3, 4, 5, 6, 7, 8, 9, 10, 11] [] [0, 1, 2, 3, 4, 5, 6, 7, 8, 9, 10, 11] [] (sh_X10 Ta Ta_s Ta_past Ta_aside Ta_text Ta_known Ta_then Ta_trip Ta_sent Ta_learned Ta_chosen Ta_decided cI cC cS T_s T_past o2 T_pasts T_text T_typed T_at T_from T_token T_many T_letters T_number T_known T_then T_trip T_sent T_learned T_chosen T_decided) rfl rfl rfl rfl (by decide) rfl rfl rfl rfl rfl rfl hl.1 rfl (Nat.le_of_ble_eq_true rfl) ⟨Nat.zero_le _, Nat.zero_le _⟩ dX10_addRound_15 (fun H locs hP hD hS => ?_)
    refine lv_aload_n hx hb dX10_addRound_18 rfl (lv_at hl 0 rfl) ?_
    refine lv_iconst (v := (0 : Int32)) hx hb dX10_addRound_19 (by decide) ?_
    obtain ⟨o3, ho3, hf⟩ := bd_some hf
    refine cv_v (ci := 7) (q := (RX10, TX10, 19)) (As := [.int (0 : Int32)]) (rest := []) hx hb hml hown hts hK hP hD hA hS (kX10_adds l D cI cC cS Ta Ta_s Ta_past Ta_aside Ta_text Ta_known Ta_then Ta_trip Ta_sent Ta_learned Ta_chosen Ta_decided (0 : Int32) T_s T_past o2 T_pasts T_text T_typed T_at T_from T_token T_many T_letters T_number T_known T_then T_trip T_sent T_learned T_chosen T_decided o3 ho3) (cwV 1 hts gX10_addRound_X10_adds rfl rfl rfl (by decide +kernel) (by subst hR; exact ⟨Nat.le_of_ble_eq_true rfl, Nat.le_of_ble_eq_true rfl⟩)) [0, 1, 2, 3, 4, 5, 6, 7, 8, 9, 10, 11] [] [0, 1, 2, 3, 4, 5, 6, 7, 8, 9, 10, 11] [] (sh_X10 Ta Ta_s Ta_past Ta_aside Ta_text Ta_known Ta_then Ta_trip Ta_sent Ta_learned Ta_chosen Ta_decided cI cC cS o3 T_past o2 T_pasts T_text T_typed T_at T_from T_token T_many T_letters T_number T_known T_then T_trip T_sent T_learned T_chosen T_decided) rfl rfl rfl rfl (by decide) rfl rfl rfl rfl rfl rfl hl.1 rfl (Nat.le_of_ble_eq_true rfl) ⟨Nat.zero_le _, Nat.zero_le _⟩ dX10_addRound_20 (fun H locs hP hD hS => ?_)
    refine lv_aload_n hx hb dX10_addRound_23 rfl (lv_at hl 0 rfl) ?_
    refine lv_aload_n hx hb dX10_addRound_24 rfl (lv_at hl 0 rfl) ?_
    refine va_get (D := D) (ci := 7) (v := .ref Ta_s) (C := RX10) (T := TX10) (N := 19) hx hb hts hi_X10 hown hK hP 0 rfl rfl 0 (by decide) q7 (fun _ h9 => h9) rfl dX10_addRound_25 ?_
    refine lv_iconst (v := (1 : Int32)) hx hb dX10_addRound_28 (by decide) ?_
    refine sx_iald (j := 1) hx hb hK hP 1 0 rfl rfl (inb_vp (by decide)) (by decide) dX10_addRound_29 ?_
    refine lv_iconst (v := (1 : Int32)) hx hb dX10_addRound_30 (by decide) ?_
    refine lv_isub hx hb dX10_addRound_31 ?_
    obtain ⟨o4, ho4, hf⟩ := bd_some hf
    refine cv_i (ci := 7) (q := (RX10, TX10, 19)) (As := [.int ((o3 1) - (1 : Int32))]) (rest := []) hx hb hml hown hts hK hP hD hA hS (kX10_ends l D cI cC cS Ta Ta_s Ta_past Ta_aside Ta_text Ta_known Ta_then Ta_trip Ta_sent Ta_learned Ta_chosen Ta_decided ((o3 1) - (1 : Int32)) o3 T_past o2 T_pasts T_text T_typed T_at T_from T_token T_many T_letters T_number T_known T_then T_trip T_sent T_learned T_chosen T_decided o4 ho4) (cwV 1 hts gX10_addRound_X10_ends rfl rfl rfl (by decide +kernel) (by subst hR; exact ⟨Nat.le_of_ble_eq_true rfl, Nat.le_of_ble_eq_true rfl⟩)) [0, 1, 2, 3, 4, 5, 6, 7, 8, 9, 10, 11] [] [0, 1, 2, 3, 4, 5, 6, 7, 8, 9, 10, 11] [] (sh_X10 Ta Ta_s Ta_past Ta_aside Ta_text Ta_known Ta_then Ta_trip Ta_sent Ta_learned Ta_chosen Ta_decided cI cC cS o3 o4.2.1 o2 o4.2.2 T_text T_typed T_at T_from T_token T_many T_letters T_number T_known T_then T_trip T_sent T_learned T_chosen T_decided) rfl rfl rfl rfl (by decide) rfl rfl rfl rfl rfl rfl hl.1 rfl (Nat.le_of_ble_eq_true rfl) ⟨Nat.zero_le _, Nat.zero_le _⟩ dX10_addRound_32 (fun H locs hP hD hS => ?_)
    have hf := Option.some.inj hf
    subst hf
    exact rt_i hx hb hr hlocks hQ hK hP hD hS rfl dX10_addRound_35
  · have hf := if_t c1 hf
    refine lv_bipush (v := (-3 : Int32)) hx hb dX10_addRound_11 (by decide) ?_
    have hf := Option.some.inj hf
    subst hf
    exact rt_i hx hb hr hlocks hQ hK hP hD hS rfl dX10_addRound_13
set_option maxRecDepth 100000 in
set_option maxHeartbeats 4000000 in
theorem kX10_setEdge (l : Launch) (D : va_G) (cI cC cS : ClassId) (Ta Ta_s Ta_past Ta_aside Ta_text Ta_known Ta_then Ta_trip Ta_sent Ta_learned Ta_chosen Ta_decided : Nat) (x1 : Int32) (x2 : Int32) (x3 : Int32) (x4 : Int32) (T_s : Nat → Int32) (T_past : Nat → Int32) (T_aside : Nat → Int32) (T_pasts : Int32) (T_text : Nat → Int32) (T_typed : Int32) (T_at : Int32) (T_from : Int32) (T_token : Int32) (T_many : Int32) (T_letters : Int64) (T_number : Int32) (T_known : Nat → Int32) (T_then : Nat → Int32) (T_trip : Nat → Int32) (T_sent : Nat → Int32) (T_learned : Nat → Int32) (T_chosen : Nat → Int32) (T_decided : Nat → Int32) (o : Int32 × (Nat → Int32) × (Nat → Int32) × (Nat → Int32) × Int32) (hf : fX10_setEdge x1 x2 x3 x4 T_s T_past T_aside T_pasts = some o) : CI l D yX10_setEdge wsX10_setEdge ({ frames := 3, cells := 0, slots := 0, locals := 65 } : Room) (tysK cI cC cS) [.ref Ta, .int x1, .int x2, .int x3, .int x4] (sh_X10 Ta Ta_s Ta_past Ta_aside Ta_text Ta_known Ta_then Ta_trip Ta_sent Ta_learned Ta_chosen Ta_decided cI cC cS T_s T_past T_aside T_pasts T_text T_typed T_at T_from T_token T_many T_letters T_number T_known T_then T_trip T_sent T_learned T_chosen T_decided) o.1 (sh_X10 Ta Ta_s Ta_past Ta_aside Ta_text Ta_known Ta_then Ta_trip Ta_sent Ta_learned Ta_chosen Ta_decided cI cC cS o.2.1 o.2.2.1 o.2.2.2.1 o.2.2.2.2 T_text T_typed T_at T_from T_token T_many T_letters T_number T_known T_then T_trip T_sent T_learned T_chosen T_decided) := by
  refine met_i (cc := cX10_setEdge) (maxL := 6) (ret := (some .int)) (by decide) rfl (Nat.le_of_ble_eq_true rfl) ?_
  intro p e s m args below meth c R Q A F hR hQ hP hK hD hA hS ls hl
  obtain ⟨hx, hb, hr, hts, hml, hlocks, hown⟩ := F
  have hown : s.vm.findClass RX10 = some m.cls := hown
  have hi_X10 : ∀ w ∈ u_ws RX10 TX10 19, w ∈ wsX10_setEdge := fun w h => List.mem_cons_of_mem _ (List.mem_append_right _ h)
  have q7 := hts (.fieldLink RX10 7 "ChangingRoundsModel" "s" "[I") (by decide +kernel)
  have hl : lv_has ls 6 [(0, .ref Ta), (1, .int x1), (2, .int x2), (3, .int x3), (4, .int x4)] := hl
  unfold fX10_setEdge at hf
  have J66 : ∀ (y0 : Int32) (y1 : Int32) (T_s : Nat → Int32) (T_past : Nat → Int32) (T_aside : Nat → Int32) (T_pasts : Int32) (H : Heap) (locs : List Loc) (ls : Array Slot), fX10_setEdge_b66 x1 x2 x3 y0 y1 T_s T_past T_aside T_pasts = some o → va_P D vwCl (sh_X10 Ta Ta_s Ta_past Ta_aside Ta_text Ta_known Ta_then Ta_trip Ta_sent Ta_learned Ta_chosen Ta_decided cI cC cS T_s T_past T_aside T_pasts T_text T_typed T_at T_from T_token T_many T_letters T_number T_known T_then T_trip T_sent T_learned T_chosen T_decided) H → va_D A (sh_X10 Ta Ta_s Ta_past Ta_aside Ta_text Ta_known Ta_then Ta_trip Ta_sent Ta_learned Ta_chosen Ta_decided cI cC cS T_s T_past T_aside T_pasts T_text T_typed T_at T_from T_token T_many T_letters T_number T_known T_then T_trip T_sent T_learned T_chosen T_decided) → va_S A s.heap H locs → lv_has ls 6 [(0, .ref Ta), (1, .int x1), (2, .int x2), (3, .int x3)] → W p l e R s m args below meth c H locs 0 0 Q (F0 m 66 ls [.int y1, .int y0]) := by
    intro y0 y1 T_s T_past T_aside T_pasts H locs ls hf hP hD hS hl
    unfold fX10_setEdge_b66 at hf
    refine lv_icmp_ne (tgt := 72) hx hb dX10_setEdge_66 (by decide) (fun c1 => ?_) (fun c1 => ?_)
    · have hf := if_f c1 hf
      refine lv_aload_n hx hb dX10_setEdge_72 rfl (lv_at hl 0 rfl) ?_
      obtain ⟨o2, ho2, hf⟩ := bd_some hf
      refine cv_v (ci := 7) (q := (RX10, TX10, 19)) (As := []) (rest := []) hx hb hml hown hts hK hP hD hA hS (kX10_hold l D cI cC cS Ta Ta_s Ta_past Ta_aside Ta_text Ta_known Ta_then Ta_trip Ta_sent Ta_learned Ta_chosen Ta_decided  T_s T_past T_aside T_pasts T_text T_typed T_at T_from T_token T_many T_letters T_number T_known T_then T_trip T_sent T_learned T_chosen T_decided o2 ho2) (cwV 0 hts gX10_setEdge_X10_hold rfl rfl rfl (by decide +kernel) (by subst hR; exact ⟨Nat.le_of_ble_eq_true rfl, Nat.le_of_ble_eq_true rfl⟩)) [0, 1, 2, 3, 4, 5, 6, 7, 8, 9, 10, 11] [] [0, 1, 2, 3, 4, 5, 6, 7, 8, 9, 10, 11] [] (sh_X10 Ta Ta_s Ta_past Ta_aside Ta_text Ta_known Ta_then Ta_trip Ta_sent Ta_learned Ta_chosen Ta_decided cI cC cS T_s T_past o2 T_pasts T_text T_typed T_at T_from T_token T_many T_letters T_number T_known T_then T_trip T_sent T_learned T_chosen T_decided) rfl rfl rfl rfl (by decide) rfl rfl rfl rfl rfl rfl hl.1 rfl (Nat.le_of_ble_eq_true rfl) ⟨Nat.zero_le _, Nat.zero_le _⟩ dX10_setEdge_73 (fun H locs hP hD hS => ?_)
      refine lv_aload_n hx hb dX10_setEdge_76 rfl (lv_at hl 0 rfl) ?_
      refine va_get (D := D) (ci := 7) (v := .ref Ta_s) (C := RX10) (T := TX10) (N := 19) hx hb hts hi_X10 hown hK hP 0 rfl rfl 0 (by decide) q7 (fun _ h9 => h9) rfl dX10_setEdge_77 ?_
      refine lv_iconst (v := (2 : Int32)) hx hb dX10_setEdge_80 (by decide) ?_
      refine lv_iload_n hx hb dX10_setEdge_81 rfl (lv_at hl 1 rfl) ?_
      refine lv_iadd hx hb dX10_setEdge_82 ?_
      refine lv_dup2_11 hx hb dX10_setEdge_83 rfl rfl ?_
      obtain ⟨hz, hf⟩ := ck_some hf
      refine sx_iald (j := ((2 : Int32) + x1).toNatClampNeg) hx hb hK hP 1 0 rfl rfl (inb_vp hz) rfl dX10_setEdge_84 ?_
      refine lv_iload_n hx hb dX10_setEdge_85 rfl (lv_at hl 2 rfl) ?_
      refine lv_iload_n hx hb dX10_setEdge_86 rfl (lv_at hl 3 rfl) ?_
      refine cs_i (As := [.int x2, .int x3]) (rest := [.int (T_s (((2 : Int32) + x1).toNatClampNeg)), .int ((2 : Int32) + x1), .ref Ta_s]) hx hb hml hown hts hK hP hD hA hS (kX10_pair l D cI cC cS  x2 x3  (fX10_pair x2 x3) rfl) (va_cwS 2 hts gX10_setEdge_X10_pair rfl rfl rfl (by decide +kernel) (by subst hR; exact ⟨Nat.le_of_ble_eq_true rfl, Nat.le_of_ble_eq_true rfl⟩)) rfl hl.1 rfl (Nat.le_of_ble_eq_true rfl) ⟨Nat.zero_le _, Nat.zero_le _⟩ dX10_setEdge_87 (fun H locs hP hD hS => ?_)
      refine lv_ixor hx hb dX10_setEdge_90 ?_
      obtain ⟨hz, hf⟩ := ck_some hf
      refine sx_iast (j := ((2 : Int32) + x1).toNatClampNeg) hx hb hK hP hD hS 1 0 rfl rfl (inb_vp hz) rfl dX10_setEdge_91 (sh_X10 Ta Ta_s Ta_past Ta_aside Ta_text Ta_known Ta_then Ta_trip Ta_sent Ta_learned Ta_chosen Ta_decided cI cC cS (upd T_s (((2 : Int32) + x1).toNatClampNeg) ((T_s (((2 : Int32) + x1).toNatClampNeg)) ^^^ (fX10_pair x2 x3))) T_past o2 T_pasts T_text T_typed T_at T_from T_token T_many T_letters T_number T_known T_then T_trip T_sent T_learned T_chosen T_decided) rfl (fun H locs hP hD hS => ?_)
      refine lv_aload_n hx hb dX10_setEdge_92 rfl (lv_at hl 0 rfl) ?_
      refine lv_aload_n hx hb dX10_setEdge_93 rfl (lv_at hl 0 rfl) ?_
      refine va_get (D := D) (ci := 7) (v := .ref Ta_s) (C := RX10) (T := TX10) (N := 19) hx hb hts hi_X10 hown hK hP 0 rfl rfl 0 (by decide) q7 (fun _ h9 => h9) rfl dX10_setEdge_94 ?_
      refine lv_iconst (v := (2 : Int32)) hx hb dX10_setEdge_97 (by decide) ?_
      refine lv_iload_n hx hb dX10_setEdge_98 rfl (lv_at hl 1 rfl) ?_
      refine lv_iadd hx hb dX10_setEdge_99 ?_
      obtain ⟨hz, hf⟩ := ck_some hf
      refine sx_iald (j := ((2 : Int32) + x1).toNatClampNeg) hx hb hK hP 1 0 rfl rfl (inb_vp hz) rfl dX10_setEdge_100 ?_
      obtain ⟨o3, ho3, hf⟩ := bd_some hf
      refine cs_i (As := [.int ((upd T_s (((2 : Int32) + x1).toNatClampNeg) ((T_s (((2 : Int32) + x1).toNatClampNeg)) ^^^ (fX10_pair x2 x3))) (((2 : Int32) + x1).toNatClampNeg))]) (rest := [.ref Ta]) hx hb hml hown hts hK hP hD hA hS (kX10_size l D cI cC cS  ((upd T_s (((2 : Int32) + x1).toNatClampNeg) ((T_s (((2 : Int32) + x1).toNatClampNeg)) ^^^ (fX10_pair x2 x3))) (((2 : Int32) + x1).toNatClampNeg))  o3 ho3) (va_cwS 1 hts gX10_setEdge_X10_size rfl rfl rfl (by decide +kernel) (by subst hR; exact ⟨Nat.le_of_ble_eq_true rfl, Nat.le_of_ble_eq_true rfl⟩)) rfl hl.1 rfl (Nat.le_of_ble_eq_true rfl) ⟨Nat.zero_le _, Nat.zero_le _⟩ dX10_setEdge_101 (fun H locs hP hD hS => ?_)
      obtain ⟨o4, ho4, hf⟩ := bd_some hf
      refine cv_i (ci := 7) (q := (RX10, TX10, 19)) (As := [.int o3]) (rest := []) hx hb hml hown hts hK hP hD hA hS (kX10_ends l D cI cC cS Ta Ta_s Ta_past Ta_aside Ta_text Ta_known Ta_then Ta_trip Ta_sent Ta_learned Ta_chosen Ta_decided o3 (upd T_s (((2 : Int32) + x1).toNatClampNeg) ((T_s (((2 : Int32) + x1).toNatClampNeg)) ^^^ (fX10_pair x2 x3))) T_past o2 T_pasts T_text T_typed T_at T_from T_token T_many T_letters T_number T_known T_then T_trip T_sent T_learned T_chosen T_decided o4 ho4) (cwV 1 hts gX10_setEdge_X10_ends rfl rfl rfl (by decide +kernel) (by subst hR; exact ⟨Nat.le_of_ble_eq_true rfl, Nat.le_of_ble_eq_true rfl⟩)) [0, 1, 2, 3, 4, 5, 6, 7, 8, 9, 10, 11] [] [0, 1, 2, 3, 4, 5, 6, 7, 8, 9, 10, 11] [] (sh_X10 Ta Ta_s Ta_past Ta_aside Ta_text Ta_known Ta_then Ta_trip Ta_sent Ta_learned Ta_chosen Ta_decided cI cC cS (upd T_s (((2 : Int32) + x1).toNatClampNeg) ((T_s (((2 : Int32) + x1).toNatClampNeg)) ^^^ (fX10_pair x2 x3))) o4.2.1 o2 o4.2.2 T_text T_typed T_at T_from T_token T_many T_letters T_number T_known T_then T_trip T_sent T_learned T_chosen T_decided) rfl rfl rfl rfl (by decide) rfl rfl rfl rfl rfl rfl hl.1 rfl (Nat.le_of_ble_eq_true rfl) ⟨Nat.zero_le _, Nat.zero_le _⟩ dX10_setEdge_104 (fun H locs hP hD hS => ?_)
      have hf := Option.some.inj hf
      subst hf
      exact rt_i hx hb hr hlocks hQ hK hP hD hS rfl dX10_setEdge_107
    · have hf := if_t c1 hf
      refine lv_bipush (v := (-2 : Int32)) hx hb dX10_setEdge_69 (by decide) ?_
      have hf := Option.some.inj hf
      subst hf
      exact rt_i hx hb hr hlocks hQ hK hP hD hS rfl dX10_setEdge_71
  have J51 : ∀ (y0 : Int32) (T_s : Nat → Int32) (T_past : Nat → Int32) (T_aside : Nat → Int32) (T_pasts : Int32) (H : Heap) (locs : List Loc) (ls : Array Slot), fX10_setEdge_b51 x1 x2 x3 x4 y0 T_s T_past T_aside T_pasts = some o → va_P D vwCl (sh_X10 Ta Ta_s Ta_past Ta_aside Ta_text Ta_known Ta_then Ta_trip Ta_sent Ta_learned Ta_chosen Ta_decided cI cC cS T_s T_past T_aside T_pasts T_text T_typed T_at T_from T_token T_many T_letters T_number T_known T_then T_trip T_sent T_learned T_chosen T_decided) H → va_D A (sh_X10 Ta Ta_s Ta_past Ta_aside Ta_text Ta_known Ta_then Ta_trip Ta_sent Ta_learned Ta_chosen Ta_decided cI cC cS T_s T_past T_aside T_pasts T_text T_typed T_at T_from T_token T_many T_letters T_number T_known T_then T_trip T_sent T_learned T_chosen T_decided) → va_S A s.heap H locs → lv_has ls 6 [(0, .ref Ta), (1, .int x1), (2, .int x2), (3, .int x3), (4, .int x4)] → W p l e R s m args below meth c H locs 0 0 Q (F0 m 51 ls [.int y0]) := by
    intro y0 T_s T_past T_aside T_pasts H locs ls hf hP hD hS hl
    unfold fX10_setEdge_b51 at hf
    refine lv_istore (lv' := [(5, .int y0), (0, .ref Ta), (1, .int x1), (2, .int x2), (3, .int x3), (4, .int x4)]) hx hb dX10_setEdge_51 hl (by decide) rfl (fun ls hl => ?_)
    refine lv_iload hx hb dX10_setEdge_53 (lv_at hl 0 rfl) ?_
    refine lv_iload hx hb dX10_setEdge_55 (lv_at hl 5 rfl) ?_
    refine lv_iconst (v := (1 : Int32)) hx hb dX10_setEdge_57 (by decide) ?_
    refine lv_icmp_ne (tgt := 65) hx hb dX10_setEdge_58 (by decide) (fun c5 => ?_) (fun c5 => ?_)
    · have hf := if_f c5 hf
      refine lv_iconst (v := (0 : Int32)) hx hb dX10_setEdge_65 (by decide) ?_
      exact J66 y0 (0 : Int32) T_s T_past T_aside T_pasts _ _ _ hf hP hD hS (lv_sub hl [1, 2, 3, 4] rfl)
    · have hf := if_t c5 hf
      refine lv_iconst (v := (1 : Int32)) hx hb dX10_setEdge_61 (by decide) ?_
      refine lv_goto (tgt := 66) hx hb dX10_setEdge_62 (by decide) ?_
      exact J66 y0 (1 : Int32) T_s T_past T_aside T_pasts _ _ _ hf hP hD hS (lv_sub hl [1, 2, 3, 4] rfl)
  refine lv_aload_n hx hb dX10_setEdge_0 rfl (lv_at hl 0 rfl) ?_
  refine lv_iload_n hx hb dX10_setEdge_1 rfl (lv_at hl 1 rfl) ?_
  refine cv_i (ci := 7) (q := (RX10, TX10, 19)) (As := [.int x1]) (rest := []) hx hb hml hown hts hK hP hD hA hS (kX10_isRound l D cI cC cS Ta Ta_s Ta_past Ta_aside Ta_text Ta_known Ta_then Ta_trip Ta_sent Ta_learned Ta_chosen Ta_decided x1 T_s T_past T_aside T_pasts T_text T_typed T_at T_from T_token T_many T_letters T_number T_known T_then T_trip T_sent T_learned T_chosen T_decided (fX10_isRound x1 T_s) rfl) (cwV 1 hts gX10_setEdge_X10_isRound rfl rfl rfl (by decide +kernel) (by subst hR; exact ⟨Nat.le_of_ble_eq_true rfl, Nat.le_of_ble_eq_true rfl⟩)) [0, 1, 2, 3, 4, 5, 6, 7, 8, 9, 10, 11] [] [0, 1, 2, 3, 4, 5, 6, 7, 8, 9, 10, 11] [] (sh_X10 Ta Ta_s Ta_past Ta_aside Ta_text Ta_known Ta_then Ta_trip Ta_sent Ta_learned Ta_chosen Ta_decided cI cC cS T_s T_past T_aside T_pasts T_text T_typed T_at T_from T_token T_many T_letters T_number T_known T_then T_trip T_sent T_learned T_chosen T_decided) rfl rfl rfl rfl (by decide) rfl rfl rfl rfl rfl rfl hl.1 rfl (Nat.le_of_ble_eq_true rfl) ⟨Nat.zero_le _, Nat.zero_le _⟩ dX10_setEdge_2 (fun H locs hP hD hS => ?_)
  refine lv_if_eq (tgt := 27) hx hb dX10_setEdge_5 (by decide) (fun c6 => ?_) (fun c6 => ?_)
  · have hf := if_t c6 hf
    refine lv_iconst (v := (-1 : Int32)) hx hb dX10_setEdge_27 (by decide) ?_
    have hf := Option.some.inj hf
    subst hf
    exact rt_i hx hb hr hlocks hQ hK hP hD hS rfl dX10_setEdge_28
  · have hf := if_f c6 hf
    refine lv_aload_n hx hb dX10_setEdge_8 rfl (lv_at hl 0 rfl) ?_
    refine lv_iload_n hx hb dX10_setEdge_9 rfl (lv_at hl 2 rfl) ?_
    refine lv_iload_n hx hb dX10_setEdge_10 rfl (lv_at hl 3 rfl) ?_
    refine cv_i (ci := 7) (q := (RX10, TX10, 19)) (As := [.int x2, .int x3]) (rest := []) hx hb hml hown hts hK hP hD hA hS (kX10_isPair l D cI cC cS Ta Ta_s Ta_past Ta_aside Ta_text Ta_known Ta_then Ta_trip Ta_sent Ta_learned Ta_chosen Ta_decided x2 x3 T_s T_past T_aside T_pasts T_text T_typed T_at T_from T_token T_many T_letters T_number T_known T_then T_trip T_sent T_learned T_chosen T_decided (fX10_isPair x2 x3 T_s) rfl) (cwV 2 hts gX10_setEdge_X10_isPair rfl rfl rfl (by decide +kernel) (by subst hR; exact ⟨Nat.le_of_ble_eq_true rfl, Nat.le_of_ble_eq_true rfl⟩)) [0, 1, 2, 3, 4, 5, 6, 7, 8, 9, 10, 11] [] [0, 1, 2, 3, 4, 5, 6, 7, 8, 9, 10, 11] [] (sh_X10 Ta Ta_s Ta_past Ta_aside Ta_text Ta_known Ta_then Ta_trip Ta_sent Ta_learned Ta_chosen Ta_decided cI cC cS T_s T_past T_aside T_pasts T_text T_typed T_at T_from T_token T_many T_letters T_number T_known T_then T_trip T_sent T_learned T_chosen T_decided) rfl rfl rfl rfl (by decide) rfl rfl rfl rfl rfl rfl hl.1 rfl (Nat.le_of_ble_eq_true rfl) ⟨Nat.zero_le _, Nat.zero_le _⟩ dX10_setEdge_11 (fun H locs hP hD hS => ?_)
    refine lv_if_eq (tgt := 27) hx hb dX10_setEdge_14 (by decide) (fun c7 => ?_) (fun c7 => ?_)
    · have hf := if_t c7 hf
      refine lv_iconst (v := (-1 : Int32)) hx hb dX10_setEdge_27 (by decide) ?_
      have hf := Option.some.inj hf
      subst hf
      exact rt_i hx hb hr hlocks hQ hK hP hD hS rfl dX10_setEdge_28
    · have hf := if_f c7 hf
      refine lv_iload hx hb dX10_setEdge_17 (lv_at hl 4 rfl) ?_
      refine lv_iconst (v := (0 : Int32)) hx hb dX10_setEdge_19 (by decide) ?_
      refine lv_iconst (v := (1 : Int32)) hx hb dX10_setEdge_20 (by decide) ?_
      refine cs_i (As := [.int x4, .int (0 : Int32), .int (1 : Int32)]) (rest := []) hx hb hml hown hts hK hP hD hA hS (kX10_in l D cI cC cS  x4 (0 : Int32) (1 : Int32)  (fX10_in x4 (0 : Int32) (1 : Int32)) rfl) (va_cwS 3 hts gX10_setEdge_X10_in rfl rfl rfl (by decide +kernel) (by subst hR; exact ⟨Nat.le_of_ble_eq_true rfl, Nat.le_of_ble_eq_true rfl⟩)) rfl hl.1 rfl (Nat.le_of_ble_eq_true rfl) ⟨Nat.zero_le _, Nat.zero_le _⟩ dX10_setEdge_21 (fun H locs hP hD hS => ?_)
      refine lv_if_ne (tgt := 29) hx hb dX10_setEdge_24 (by decide) (fun c8 => ?_) (fun c8 => ?_)
      · have hf := if_f c8 hf
        refine lv_aload_n hx hb dX10_setEdge_29 rfl (lv_at hl 0 rfl) ?_
        refine va_get (D := D) (ci := 7) (v := .ref Ta_s) (C := RX10) (T := TX10) (N := 19) hx hb hts hi_X10 hown hK hP 0 rfl rfl 0 (by decide) q7 (fun _ h9 => h9) rfl dX10_setEdge_30 ?_
        refine lv_iconst (v := (2 : Int32)) hx hb dX10_setEdge_33 (by decide) ?_
        refine lv_iload_n hx hb dX10_setEdge_34 rfl (lv_at hl 1 rfl) ?_
        refine lv_iadd hx hb dX10_setEdge_35 ?_
        obtain ⟨hz, hf⟩ := ck_some hf
        refine sx_iald (j := ((2 : Int32) + x1).toNatClampNeg) hx hb hK hP 1 0 rfl rfl (inb_vp hz) rfl dX10_setEdge_36 ?_
        refine lv_iload_n hx hb dX10_setEdge_37 rfl (lv_at hl 2 rfl) ?_
        refine lv_iload_n hx hb dX10_setEdge_38 rfl (lv_at hl 3 rfl) ?_
        refine cs_i (As := [.int x2, .int x3]) (rest := [.int (T_s (((2 : Int32) + x1).toNatClampNeg))]) hx hb hml hown hts hK hP hD hA hS (kX10_pair l D cI cC cS  x2 x3  (fX10_pair x2 x3) rfl) (va_cwS 2 hts gX10_setEdge_X10_pair rfl rfl rfl (by decide +kernel) (by subst hR; exact ⟨Nat.le_of_ble_eq_true rfl, Nat.le_of_ble_eq_true rfl⟩)) rfl hl.1 rfl (Nat.le_of_ble_eq_true rfl) ⟨Nat.zero_le _, Nat.zero_le _⟩ dX10_setEdge_39 (fun H locs hP hD hS => ?_)
        refine lv_iand hx hb dX10_setEdge_42 ?_
        refine lv_if_eq (tgt := 50) hx hb dX10_setEdge_43 (by decide) (fun c9 => ?_) (fun c9 => ?_)
        · have hf := if_t c9 hf
          refine lv_iconst (v := (0 : Int32)) hx hb dX10_setEdge_50 (by decide) ?_
          exact J51 (0 : Int32) T_s T_past T_aside T_pasts _ _ _ hf hP hD hS (lv_sub hl [0, 1, 2, 3, 4] rfl)
        · have hf := if_f c9 hf
          refine lv_iconst (v := (1 : Int32)) hx hb dX10_setEdge_46 (by decide) ?_
          refine lv_goto (tgt := 51) hx hb dX10_setEdge_47 (by decide) ?_
          exact J51 (1 : Int32) T_s T_past T_aside T_pasts _ _ _ hf hP hD hS (lv_sub hl [0, 1, 2, 3, 4] rfl)
      · have hf := if_t c8 hf
        refine lv_iconst (v := (-1 : Int32)) hx hb dX10_setEdge_27 (by decide) ?_
        have hf := Option.some.inj hf
        subst hf
        exact rt_i hx hb hr hlocks hQ hK hP hD hS rfl dX10_setEdge_28
set_option maxRecDepth 100000 in
set_option maxHeartbeats 4000000 in
theorem kX10_removeRound (l : Launch) (D : va_G) (cI cC cS : ClassId) (Ta Ta_s Ta_past Ta_aside Ta_text Ta_known Ta_then Ta_trip Ta_sent Ta_learned Ta_chosen Ta_decided : Nat) (x1 : Int32) (T_s : Nat → Int32) (T_past : Nat → Int32) (T_aside : Nat → Int32) (T_pasts : Int32) (T_text : Nat → Int32) (T_typed : Int32) (T_at : Int32) (T_from : Int32) (T_token : Int32) (T_many : Int32) (T_letters : Int64) (T_number : Int32) (T_known : Nat → Int32) (T_then : Nat → Int32) (T_trip : Nat → Int32) (T_sent : Nat → Int32) (T_learned : Nat → Int32) (T_chosen : Nat → Int32) (T_decided : Nat → Int32) (o : Int32 × (Nat → Int32) × (Nat → Int32) × (Nat → Int32) × Int32) (hf : fX10_removeRound x1 T_s T_past T_aside T_pasts = some o) : CI l D yX10_removeRound wsX10_removeRound ({ frames := 2, cells := 0, slots := 0, locals := 43 } : Room) (tysK cI cC cS) [.ref Ta, .int x1] (sh_X10 Ta Ta_s Ta_past Ta_aside Ta_text Ta_known Ta_then Ta_trip Ta_sent Ta_learned Ta_chosen Ta_decided cI cC cS T_s T_past T_aside T_pasts T_text T_typed T_at T_from T_token T_many T_letters T_number T_known T_then T_trip T_sent T_learned T_chosen T_decided) o.1 (sh_X10 Ta Ta_s Ta_past Ta_aside Ta_text Ta_known Ta_then Ta_trip Ta_sent Ta_learned Ta_chosen Ta_decided cI cC cS o.2.1 o.2.2.1 o.2.2.2.1 o.2.2.2.2 T_text T_typed T_at T_from T_token T_many T_letters T_number T_known T_then T_trip T_sent T_learned T_chosen T_decided) := by
  refine met_i (cc := cX10_removeRound) (maxL := 3) (ret := (some .int)) (by decide) rfl (Nat.le_of_ble_eq_true rfl) ?_
  intro p e s m args below meth c R Q A F hR hQ hP hK hD hA hS ls hl
  obtain ⟨hx, hb, hr, hts, hml, hlocks, hown⟩ := F
  have hown : s.vm.findClass RX10 = some m.cls := hown
  have hi_X10 : ∀ w ∈ u_ws RX10 TX10 19, w ∈ wsX10_removeRound := fun w h => List.mem_cons_of_mem _ (List.mem_append_right _ h)
  have q7 := hts (.fieldLink RX10 7 "ChangingRoundsModel" "s" "[I") (by decide +kernel)
  have hl : lv_has ls 3 [(0, .ref Ta), (1, .int x1)] := hl
  unfold fX10_removeRound at hf
  have L26 : ∀ (T_past : Nat → Int32) (T_aside : Nat → Int32) (T_pasts : Int32) (n26 : Nat) (x2 : Int32) (T_s : Nat → Int32) (H : Heap) (locs : List Loc) (ls : Array Slot), fX10_removeRound_l26 T_past T_aside T_pasts n26 x2 T_s = some o → va_P D vwCl (sh_X10 Ta Ta_s Ta_past Ta_aside Ta_text Ta_known Ta_then Ta_trip Ta_sent Ta_learned Ta_chosen Ta_decided cI cC cS T_s T_past T_aside T_pasts T_text T_typed T_at T_from T_token T_many T_letters T_number T_known T_then T_trip T_sent T_learned T_chosen T_decided) H → va_D A (sh_X10 Ta Ta_s Ta_past Ta_aside Ta_text Ta_known Ta_then Ta_trip Ta_sent Ta_learned Ta_chosen Ta_decided cI cC cS T_s T_past T_aside T_pasts T_text T_typed T_at T_from T_token T_many T_letters T_number T_known T_then T_trip T_sent T_learned T_chosen T_decided) → va_S A s.heap H locs → lv_has ls 3 [(0, .ref Ta), (2, .int x2)] → W p l e R s m args below meth c H locs 0 0 Q (F0 m 26 ls []) := by
    intro T_past T_aside T_pasts n26
    induction n26 with
    | zero => intro x2 T_s H locs ls hf; cases (show (none : Option _) = some _ from hf)
    | succ n26 ih26 =>
      intro x2 T_s H locs ls hf hP hD hS hl
      rw [fX10_removeRound_l26] at hf
      refine lv_iload_n hx hb dX10_removeRound_26 rfl (lv_at hl 1 rfl) ?_
      refine lv_aload_n hx hb dX10_removeRound_27 rfl (lv_at hl 0 rfl) ?_
      refine va_get (D := D) (ci := 7) (v := .ref Ta_s) (C := RX10) (T := TX10) (N := 19) hx hb hts hi_X10 hown hK hP 0 rfl rfl 0 (by decide) q7 (fun _ h9 => h9) rfl dX10_removeRound_28 ?_
      refine lv_iconst (v := (1 : Int32)) hx hb dX10_removeRound_31 (by decide) ?_
      refine sx_iald (j := 1) hx hb hK hP 1 0 rfl rfl (inb_vp (by decide)) (by decide) dX10_removeRound_32 ?_
      refine lv_icmp_ge (tgt := 60) hx hb dX10_removeRound_33 (by decide) (fun c1 => ?_) (fun c1 => ?_)
      · have hf := if_t c1 hf
        refine lv_aload_n hx hb dX10_removeRound_60 rfl (lv_at hl 0 rfl) ?_
        refine lv_aload_n hx hb dX10_removeRound_61 rfl (lv_at hl 0 rfl) ?_
        refine va_get (D := D) (ci := 7) (v := .ref Ta_s) (C := RX10) (T := TX10) (N := 19) hx hb hts hi_X10 hown hK hP 0 rfl rfl 0 (by decide) q7 (fun _ h9 => h9) rfl dX10_removeRound_62 ?_
        refine lv_iconst (v := (1 : Int32)) hx hb dX10_removeRound_65 (by decide) ?_
        refine sx_iald (j := 1) hx hb hK hP 1 0 rfl rfl (inb_vp (by decide)) (by decide) dX10_removeRound_66 ?_
        obtain ⟨o2, ho2, hf⟩ := bd_some hf
        refine cv_i (ci := 7) (q := (RX10, TX10, 19)) (As := [.int (T_s 1)]) (rest := []) hx hb hml hown hts hK hP hD hA hS (kX10_ends l D cI cC cS Ta Ta_s Ta_past Ta_aside Ta_text Ta_known Ta_then Ta_trip Ta_sent Ta_learned Ta_chosen Ta_decided (T_s 1) T_s T_past T_aside T_pasts T_text T_typed T_at T_from T_token T_many T_letters T_number T_known T_then T_trip T_sent T_learned T_chosen T_decided o2 ho2) (cwV 1 hts gX10_removeRound_X10_ends rfl rfl rfl (by decide +kernel) (by subst hR; exact ⟨Nat.le_of_ble_eq_true rfl, Nat.le_of_ble_eq_true rfl⟩)) [0, 1, 2, 3, 4, 5, 6, 7, 8, 9, 10, 11] [] [0, 1, 2, 3, 4, 5, 6, 7, 8, 9, 10, 11] [] (sh_X10 Ta Ta_s Ta_past Ta_aside Ta_text Ta_known Ta_then Ta_trip Ta_sent Ta_learned Ta_chosen Ta_decided cI cC cS T_s o2.2.1 T_aside o2.2.2 T_text T_typed T_at T_from T_token T_many T_letters T_number T_known T_then T_trip T_sent T_learned T_chosen T_decided) rfl rfl rfl rfl (by decide) rfl rfl rfl rfl rfl rfl hl.1 rfl (Nat.le_of_ble_eq_true rfl) ⟨Nat.zero_le _, Nat.zero_le _⟩ dX10_removeRound_67 (fun H locs hP hD hS => ?_)
        have hf := Option.some.inj hf
        subst hf
        exact rt_i hx hb hr hlocks hQ hK hP hD hS rfl dX10_removeRound_70
      · have hf := if_f c1 hf
        refine lv_aload_n hx hb dX10_removeRound_36 rfl (lv_at hl 0 rfl) ?_
        refine va_get (D := D) (ci := 7) (v := .ref Ta_s) (C := RX10) (T := TX10) (N := 19) hx hb hts hi_X10 hown hK hP 0 rfl rfl 0 (by decide) q7 (fun _ h9 => h9) rfl dX10_removeRound_37 ?_
        refine lv_iconst (v := (2 : Int32)) hx hb dX10_removeRound_40 (by decide) ?_
        refine lv_iload_n hx hb dX10_removeRound_41 rfl (lv_at hl 1 rfl) ?_
        refine lv_iadd hx hb dX10_removeRound_42 ?_
        refine lv_aload_n hx hb dX10_removeRound_43 rfl (lv_at hl 0 rfl) ?_
        refine va_get (D := D) (ci := 7) (v := .ref Ta_s) (C := RX10) (T := TX10) (N := 19) hx hb hts hi_X10 hown hK hP 0 rfl rfl 0 (by decide) q7 (fun _ h9 => h9) rfl dX10_removeRound_44 ?_
        refine lv_iconst (v := (2 : Int32)) hx hb dX10_removeRound_47 (by decide) ?_
        refine lv_iload_n hx hb dX10_removeRound_48 rfl (lv_at hl 1 rfl) ?_
        refine lv_iadd hx hb dX10_removeRound_49 ?_
        refine lv_iconst (v := (1 : Int32)) hx hb dX10_removeRound_50 (by decide) ?_
        refine lv_iadd hx hb dX10_removeRound_51 ?_
        obtain ⟨hz, hf⟩ := ck_some hf
        refine sx_iald (j := (((2 : Int32) + x2) + (1 : Int32)).toNatClampNeg) hx hb hK hP 1 0 rfl rfl (inb_vp hz) rfl dX10_removeRound_52 ?_
        obtain ⟨hz, hf⟩ := ck_some hf
        refine sx_iast (j := ((2 : Int32) + x2).toNatClampNeg) hx hb hK hP hD hS 1 0 rfl rfl (inb_vp hz) rfl dX10_removeRound_53 (sh_X10 Ta Ta_s Ta_past Ta_aside Ta_text Ta_known Ta_then Ta_trip Ta_sent Ta_learned Ta_chosen Ta_decided cI cC cS (upd T_s (((2 : Int32) + x2).toNatClampNeg) (T_s ((((2 : Int32) + x2) + (1 : Int32)).toNatClampNeg))) T_past T_aside T_pasts T_text T_typed T_at T_from T_token T_many T_letters T_number T_known T_then T_trip T_sent T_learned T_chosen T_decided) rfl (fun H locs hP hD hS => ?_)
        refine lv_iinc (v := (x2 + 1)) (lv' := [(2, .int (x2 + 1)), (0, .ref Ta)]) hx hb dX10_removeRound_54 hl (k := 1) rfl rfl (by decide) rfl (fun ls hl => ?_)
        refine lv_goto (tgt := 26) hx hb dX10_removeRound_57 (by decide) ?_
        exact ih26 (x2 + 1) (upd T_s (((2 : Int32) + x2).toNatClampNeg) (T_s ((((2 : Int32) + x2) + (1 : Int32)).toNatClampNeg))) _ _ _ hf hP hD hS (lv_sub hl [1, 0] rfl)
  refine lv_aload_n hx hb dX10_removeRound_0 rfl (lv_at hl 0 rfl) ?_
  refine lv_iload_n hx hb dX10_removeRound_1 rfl (lv_at hl 1 rfl) ?_
  refine cv_i (ci := 7) (q := (RX10, TX10, 19)) (As := [.int x1]) (rest := []) hx hb hml hown hts hK hP hD hA hS (kX10_isRound l D cI cC cS Ta Ta_s Ta_past Ta_aside Ta_text Ta_known Ta_then Ta_trip Ta_sent Ta_learned Ta_chosen Ta_decided x1 T_s T_past T_aside T_pasts T_text T_typed T_at T_from T_token T_many T_letters T_number T_known T_then T_trip T_sent T_learned T_chosen T_decided (fX10_isRound x1 T_s) rfl) (cwV 1 hts gX10_removeRound_X10_isRound rfl rfl rfl (by decide +kernel) (by subst hR; exact ⟨Nat.le_of_ble_eq_true rfl, Nat.le_of_ble_eq_true rfl⟩)) [0, 1, 2, 3, 4, 5, 6, 7, 8, 9, 10, 11] [] [0, 1, 2, 3, 4, 5, 6, 7, 8, 9, 10, 11] [] (sh_X10 Ta Ta_s Ta_past Ta_aside Ta_text Ta_known Ta_then Ta_trip Ta_sent Ta_learned Ta_chosen Ta_decided cI cC cS T_s T_past T_aside T_pasts T_text T_typed T_at T_from T_token T_many T_letters T_number T_known T_then T_trip T_sent T_learned T_chosen T_decided) rfl rfl rfl rfl (by decide) rfl rfl rfl rfl rfl rfl hl.1 rfl (Nat.le_of_ble_eq_true rfl) ⟨Nat.zero_le _, Nat.zero_le _⟩ dX10_removeRound_2 (fun H locs hP hD hS => ?_)
  refine lv_if_ne (tgt := 10) hx hb dX10_removeRound_5 (by decide) (fun c3 => ?_) (fun c3 => ?_)
  · have hf := if_f c3 hf
    refine lv_aload_n hx hb dX10_removeRound_10 rfl (lv_at hl 0 rfl) ?_
    obtain ⟨o4, ho4, hf⟩ := bd_some hf
    refine cv_v (ci := 7) (q := (RX10, TX10, 19)) (As := []) (rest := []) hx hb hml hown hts hK hP hD hA hS (kX10_hold l D cI cC cS Ta Ta_s Ta_past Ta_aside Ta_text Ta_known Ta_then Ta_trip Ta_sent Ta_learned Ta_chosen Ta_decided  T_s T_past T_aside T_pasts T_text T_typed T_at T_from T_token T_many T_letters T_number T_known T_then T_trip T_sent T_learned T_chosen T_decided o4 ho4) (cwV 0 hts gX10_removeRound_X10_hold rfl rfl rfl (by decide +kernel) (by subst hR; exact ⟨Nat.le_of_ble_eq_true rfl, Nat.le_of_ble_eq_true rfl⟩)) [0, 1, 2, 3, 4, 5, 6, 7, 8, 9, 10, 11] [] [0, 1, 2, 3, 4, 5, 6, 7, 8, 9, 10, 11] [] (sh_X10 Ta Ta_s Ta_past Ta_aside Ta_text Ta_known Ta_then Ta_trip Ta_sent Ta_learned Ta_chosen Ta_decided cI cC cS T_s T_past o4 T_pasts T_text T_typed T_at T_from T_token T_many T_letters T_number T_known T_then T_trip T_sent T_learned T_chosen T_decided) rfl rfl rfl rfl (by decide) rfl rfl rfl rfl rfl rfl hl.1 rfl (Nat.le_of_ble_eq_true rfl) ⟨Nat.zero_le _, Nat.zero_le _⟩ dX10_removeRound_11 (fun H locs hP hD hS => ?_)
    refine lv_aload_n hx hb dX10_removeRound_14 rfl (lv_at hl 0 rfl) ?_
    refine va_get (D := D) (ci := 7) (v := .ref Ta_s) (C := RX10) (T := TX10) (N := 19) hx hb hts hi_X10 hown hK hP 0 rfl rfl 0 (by decide) q7 (fun _ h9 => h9) rfl dX10_removeRound_15 ?_
    refine lv_iconst (v := (1 : Int32)) hx hb dX10_removeRound_18 (by decide) ?_
    refine lv_dup2_11 hx hb dX10_removeRound_19 rfl rfl ?_
    refine sx_iald (j := 1) hx hb hK hP 1 0 rfl rfl (inb_vp (by decide)) (by decide) dX10_removeRound_20 ?_
    refine lv_iconst (v := (1 : Int32)) hx hb dX10_removeRound_21 (by decide) ?_
    refine lv_isub hx hb dX10_removeRound_22 ?_
    refine sx_iast (j := 1) hx hb hK hP hD hS 1 0 rfl rfl (inb_vp (by decide)) (by decide) dX10_removeRound_23 (sh_X10 Ta Ta_s Ta_past Ta_aside Ta_text Ta_known Ta_then Ta_trip Ta_sent Ta_learned Ta_chosen Ta_decided cI cC cS (upd T_s 1 ((T_s 1) - (1 : Int32))) T_past o4 T_pasts T_text T_typed T_at T_from T_token T_many T_letters T_number T_known T_then T_trip T_sent T_learned T_chosen T_decided) rfl (fun H locs hP hD hS => ?_)
    refine lv_iload_n hx hb dX10_removeRound_24 rfl (lv_at hl 1 rfl) ?_
    refine lv_istore_n (lv' := [(2, .int x1), (0, .ref Ta), (1, .int x1)]) hx hb dX10_removeRound_25 rfl hl (by decide) rfl (fun ls hl => ?_)
    exact L26 T_past o4 T_pasts fuel x1 (upd T_s 1 ((T_s 1) - (1 : Int32))) _ _ _ hf hP hD hS (lv_sub hl [1, 0] rfl)
  · have hf := if_t c3 hf
    refine lv_iconst (v := (-1 : Int32)) hx hb dX10_removeRound_8 (by decide) ?_
    have hf := Option.some.inj hf
    subst hf
    exact rt_i hx hb hr hlocks hQ hK hP hD hS rfl dX10_removeRound_9
set_option maxRecDepth 100000 in
set_option maxHeartbeats 4000000 in
theorem kX10_swapRounds (l : Launch) (D : va_G) (cI cC cS : ClassId) (Ta Ta_s Ta_past Ta_aside Ta_text Ta_known Ta_then Ta_trip Ta_sent Ta_learned Ta_chosen Ta_decided : Nat) (x1 : Int32) (x2 : Int32) (T_s : Nat → Int32) (T_past : Nat → Int32) (T_aside : Nat → Int32) (T_pasts : Int32) (T_text : Nat → Int32) (T_typed : Int32) (T_at : Int32) (T_from : Int32) (T_token : Int32) (T_many : Int32) (T_letters : Int64) (T_number : Int32) (T_known : Nat → Int32) (T_then : Nat → Int32) (T_trip : Nat → Int32) (T_sent : Nat → Int32) (T_learned : Nat → Int32) (T_chosen : Nat → Int32) (T_decided : Nat → Int32) (o : Int32 × (Nat → Int32) × (Nat → Int32) × (Nat → Int32) × Int32) (hf : fX10_swapRounds x1 x2 T_s T_past T_aside T_pasts = some o) : CI l D yX10_swapRounds wsX10_swapRounds ({ frames := 2, cells := 0, slots := 0, locals := 43 } : Room) (tysK cI cC cS) [.ref Ta, .int x1, .int x2] (sh_X10 Ta Ta_s Ta_past Ta_aside Ta_text Ta_known Ta_then Ta_trip Ta_sent Ta_learned Ta_chosen Ta_decided cI cC cS T_s T_past T_aside T_pasts T_text T_typed T_at T_from T_token T_many T_letters T_number T_known T_then T_trip T_sent T_learned T_chosen T_decided) o.1 (sh_X10 Ta Ta_s Ta_past Ta_aside Ta_text Ta_known Ta_then Ta_trip Ta_sent Ta_learned Ta_chosen Ta_decided cI cC cS o.2.1 o.2.2.1 o.2.2.2.1 o.2.2.2.2 T_text T_typed T_at T_from T_token T_many T_letters T_number T_known T_then T_trip T_sent T_learned T_chosen T_decided) := by
  refine met_i (cc := cX10_swapRounds) (maxL := 4) (ret := (some .int)) (by decide) rfl (Nat.le_of_ble_eq_true rfl) ?_
  intro p e s m args below meth c R Q A F hR hQ hP hK hD hA hS ls hl
  obtain ⟨hx, hb, hr, hts, hml, hlocks, hown⟩ := F
  have hown : s.vm.findClass RX10 = some m.cls := hown
  have hi_X10 : ∀ w ∈ u_ws RX10 TX10 19, w ∈ wsX10_swapRounds := fun w h => List.mem_cons_of_mem _ (List.mem_append_right _ h)
  have q7 := hts (.fieldLink RX10 7 "ChangingRoundsModel" "s" "[I") (by decide +kernel)
  have hl : lv_has ls 4 [(0, .ref Ta), (1, .int x1), (2, .int x2)] := hl
  unfold fX10_swapRounds at hf
  refine lv_aload_n hx hb dX10_swapRounds_0 rfl (lv_at hl 0 rfl) ?_
  refine lv_iload_n hx hb dX10_swapRounds_1 rfl (lv_at hl 1 rfl) ?_
  refine cv_i (ci := 7) (q := (RX10, TX10, 19)) (As := [.int x1]) (rest := []) hx hb hml hown hts hK hP hD hA hS (kX10_isRound l D cI cC cS Ta Ta_s Ta_past Ta_aside Ta_text Ta_known Ta_then Ta_trip Ta_sent Ta_learned Ta_chosen Ta_decided x1 T_s T_past T_aside T_pasts T_text T_typed T_at T_from T_token T_many T_letters T_number T_known T_then T_trip T_sent T_learned T_chosen T_decided (fX10_isRound x1 T_s) rfl) (cwV 1 hts gX10_swapRounds_X10_isRound rfl rfl rfl (by decide +kernel) (by subst hR; exact ⟨Nat.le_of_ble_eq_true rfl, Nat.le_of_ble_eq_true rfl⟩)) [0, 1, 2, 3, 4, 5, 6, 7, 8, 9, 10, 11] [] [0, 1, 2, 3, 4, 5, 6, 7, 8, 9, 10, 11] [] (sh_X10 Ta Ta_s Ta_past Ta_aside Ta_text Ta_known Ta_then Ta_trip Ta_sent Ta_learned Ta_chosen Ta_decided cI cC cS T_s T_past T_aside T_pasts T_text T_typed T_at T_from T_token T_many T_letters T_number T_known T_then T_trip T_sent T_learned T_chosen T_decided) rfl rfl rfl rfl (by decide) rfl rfl rfl rfl rfl rfl hl.1 rfl (Nat.le_of_ble_eq_true rfl) ⟨Nat.zero_le _, Nat.zero_le _⟩ dX10_swapRounds_2 (fun H locs hP hD hS => ?_)
  refine lv_if_eq (tgt := 16) hx hb dX10_swapRounds_5 (by decide) (fun c1 => ?_) (fun c1 => ?_)
  · have hf := if_t c1 hf
    refine lv_iconst (v := (-1 : Int32)) hx hb dX10_swapRounds_16 (by decide) ?_
    have hf := Option.some.inj hf
    subst hf
    exact rt_i hx hb hr hlocks hQ hK hP hD hS rfl dX10_swapRounds_17
  · have hf := if_f c1 hf
    refine lv_aload_n hx hb dX10_swapRounds_8 rfl (lv_at hl 0 rfl) ?_
    refine lv_iload_n hx hb dX10_swapRounds_9 rfl (lv_at hl 2 rfl) ?_
    refine cv_i (ci := 7) (q := (RX10, TX10, 19)) (As := [.int x2]) (rest := []) hx hb hml hown hts hK hP hD hA hS (kX10_isRound l D cI cC cS Ta Ta_s Ta_past Ta_aside Ta_text Ta_known Ta_then Ta_trip Ta_sent Ta_learned Ta_chosen Ta_decided x2 T_s T_past T_aside T_pasts T_text T_typed T_at T_from T_token T_many T_letters T_number T_known T_then T_trip T_sent T_learned T_chosen T_decided (fX10_isRound x2 T_s) rfl) (cwV 1 hts gX10_swapRounds_X10_isRound rfl rfl rfl (by decide +kernel) (by subst hR; exact ⟨Nat.le_of_ble_eq_true rfl, Nat.le_of_ble_eq_true rfl⟩)) [0, 1, 2, 3, 4, 5, 6, 7, 8, 9, 10, 11] [] [0, 1, 2, 3, 4, 5, 6, 7, 8, 9, 10, 11] [] (sh_X10 Ta Ta_s Ta_past Ta_aside Ta_text Ta_known Ta_then Ta_trip Ta_sent Ta_learned Ta_chosen Ta_decided cI cC cS T_s T_past T_aside T_pasts T_text T_typed T_at T_from T_token T_many T_letters T_number T_known T_then T_trip T_sent T_learned T_chosen T_decided) rfl rfl rfl rfl (by decide) rfl rfl rfl rfl rfl rfl hl.1 rfl (Nat.le_of_ble_eq_true rfl) ⟨Nat.zero_le _, Nat.zero_le _⟩ dX10_swapRounds_10 (fun H locs hP hD hS => ?_)
    refine lv_if_ne (tgt := 18) hx hb dX10_swapRounds_13 (by decide) (fun c2 => ?_) (fun c2 => ?_)
    · have hf := if_f c2 hf
      refine lv_aload_n hx hb dX10_swapRounds_18 rfl (lv_at hl 0 rfl) ?_
      obtain ⟨o3, ho3, hf⟩ := bd_some hf
      refine cv_v (ci := 7) (q := (RX10, TX10, 19)) (As := []) (rest := []) hx hb hml hown hts hK hP hD hA hS (kX10_hold l D cI cC cS Ta Ta_s Ta_past Ta_aside Ta_text Ta_known Ta_then Ta_trip Ta_sent Ta_learned Ta_chosen Ta_decided  T_s T_past T_aside T_pasts T_text T_typed T_at T_from T_token T_many T_letters T_number T_known T_then T_trip T_sent T_learned T_chosen T_decided o3 ho3) (cwV 0 hts gX10_swapRounds_X10_hold rfl rfl rfl (by decide +kernel) (by subst hR; exact ⟨Nat.le_of_ble_eq_true rfl, Nat.le_of_ble_eq_true rfl⟩)) [0, 1, 2, 3, 4, 5, 6, 7, 8, 9, 10, 11] [] [0, 1, 2, 3, 4, 5, 6, 7, 8, 9, 10, 11] [] (sh_X10 Ta Ta_s Ta_past Ta_aside Ta_text Ta_known Ta_then Ta_trip Ta_sent Ta_learned Ta_chosen Ta_decided cI cC cS T_s T_past o3 T_pasts T_text T_typed T_at T_from T_token T_many T_letters T_number T_known T_then T_trip T_sent T_learned T_chosen T_decided) rfl rfl rfl rfl (by decide) rfl rfl rfl rfl rfl rfl hl.1 rfl (Nat.le_of_ble_eq_true rfl) ⟨Nat.zero_le _, Nat.zero_le _⟩ dX10_swapRounds_19 (fun H locs hP hD hS => ?_)
      refine lv_aload_n hx hb dX10_swapRounds_22 rfl (lv_at hl 0 rfl) ?_
      refine va_get (D := D) (ci := 7) (v := .ref Ta_s) (C := RX10) (T := TX10) (N := 19) hx hb hts hi_X10 hown hK hP 0 rfl rfl 0 (by decide) q7 (fun _ h9 => h9) rfl dX10_swapRounds_23 ?_
      refine lv_iconst (v := (2 : Int32)) hx hb dX10_swapRounds_26 (by decide) ?_
      refine lv_iload_n hx hb dX10_swapRounds_27 rfl (lv_at hl 1 rfl) ?_
      refine lv_iadd hx hb dX10_swapRounds_28 ?_
      obtain ⟨hz, hf⟩ := ck_some hf
      refine sx_iald (j := ((2 : Int32) + x1).toNatClampNeg) hx hb hK hP 1 0 rfl rfl (inb_vp hz) rfl dX10_swapRounds_29 ?_
      refine lv_istore_n (lv' := [(3, .int (T_s (((2 : Int32) + x1).toNatClampNeg))), (0, .ref Ta), (1, .int x1), (2, .int x2)]) hx hb dX10_swapRounds_30 rfl hl (by decide) rfl (fun ls hl => ?_)
      refine lv_aload_n hx hb dX10_swapRounds_31 rfl (lv_at hl 1 rfl) ?_
      refine va_get (D := D) (ci := 7) (v := .ref Ta_s) (C := RX10) (T := TX10) (N := 19) hx hb hts hi_X10 hown hK hP 0 rfl rfl 0 (by decide) q7 (fun _ h9 => h9) rfl dX10_swapRounds_32 ?_
      refine lv_iconst (v := (2 : Int32)) hx hb dX10_swapRounds_35 (by decide) ?_
      refine lv_iload_n hx hb dX10_swapRounds_36 rfl (lv_at hl 2 rfl) ?_
      refine lv_iadd hx hb dX10_swapRounds_37 ?_
      refine lv_aload_n hx hb dX10_swapRounds_38 rfl (lv_at hl 1 rfl) ?_
      refine va_get (D := D) (ci := 7) (v := .ref Ta_s) (C := RX10) (T := TX10) (N := 19) hx hb hts hi_X10 hown hK hP 0 rfl rfl 0 (by decide) q7 (fun _ h9 => h9) rfl dX10_swapRounds_39 ?_
      refine lv_iconst (v := (2 : Int32)) hx hb dX10_swapRounds_42 (by decide) ?_
      refine lv_iload_n hx hb dX10_swapRounds_43 rfl (lv_at hl 3 rfl) ?_
      refine lv_iadd hx hb dX10_swapRounds_44 ?_
      obtain ⟨hz, hf⟩ := ck_some hf
      refine sx_iald (j := ((2 : Int32) + x2).toNatClampNeg) hx hb hK hP 1 0 rfl rfl (inb_vp hz) rfl dX10_swapRounds_45 ?_
      obtain ⟨hz, hf⟩ := ck_some hf
      refine sx_iast (j := ((2 : Int32) + x1).toNatClampNeg) hx hb hK hP hD hS 1 0 rfl rfl (inb_vp hz) rfl dX10_swapRounds_46 (sh_X10 Ta Ta_s Ta_past Ta_aside Ta_text Ta_known Ta_then Ta_trip Ta_sent Ta_learned Ta_chosen Ta_decided cI cC cS (upd T_s (((2 : Int32) + x1).toNatClampNeg) (T_s (((2 : Int32) + x2).toNatClampNeg))) T_past o3 T_pasts T_text T_typed T_at T_from T_token T_many T_letters T_number T_known T_then T_trip T_sent T_learned T_chosen T_decided) rfl (fun H locs hP hD hS => ?_)
      refine lv_aload_n hx hb dX10_swapRounds_47 rfl (lv_at hl 1 rfl) ?_
      refine va_get (D := D) (ci := 7) (v := .ref Ta_s) (C := RX10) (T := TX10) (N := 19) hx hb hts hi_X10 hown hK hP 0 rfl rfl 0 (by decide) q7 (fun _ h9 => h9) rfl dX10_swapRounds_48 ?_
      refine lv_iconst (v := (2 : Int32)) hx hb dX10_swapRounds_51 (by decide) ?_
      refine lv_iload_n hx hb dX10_swapRounds_52 rfl (lv_at hl 3 rfl) ?_
      refine lv_iadd hx hb dX10_swapRounds_53 ?_
      refine lv_iload_n hx hb dX10_swapRounds_54 rfl (lv_at hl 0 rfl) ?_
      obtain ⟨hz, hf⟩ := ck_some hf
      refine sx_iast (j := ((2 : Int32) + x2).toNatClampNeg) hx hb hK hP hD hS 1 0 rfl rfl (inb_vp hz) rfl dX10_swapRounds_55 (sh_X10 Ta Ta_s Ta_past Ta_aside Ta_text Ta_known Ta_then Ta_trip Ta_sent Ta_learned Ta_chosen Ta_decided cI cC cS (upd (upd T_s (((2 : Int32) + x1).toNatClampNeg) (T_s (((2 : Int32) + x2).toNatClampNeg))) (((2 : Int32) + x2).toNatClampNeg) (T_s (((2 : Int32) + x1).toNatClampNeg))) T_past o3 T_pasts T_text T_typed T_at T_from T_token T_many T_letters T_number T_known T_then T_trip T_sent T_learned T_chosen T_decided) rfl (fun H locs hP hD hS => ?_)
      refine lv_aload_n hx hb dX10_swapRounds_56 rfl (lv_at hl 1 rfl) ?_
      refine lv_iload_n hx hb dX10_swapRounds_57 rfl (lv_at hl 0 rfl) ?_
      refine lv_aload_n hx hb dX10_swapRounds_58 rfl (lv_at hl 1 rfl) ?_
      refine va_get (D := D) (ci := 7) (v := .ref Ta_s) (C := RX10) (T := TX10) (N := 19) hx hb hts hi_X10 hown hK hP 0 rfl rfl 0 (by decide) q7 (fun _ h9 => h9) rfl dX10_swapRounds_59 ?_
      refine lv_iconst (v := (2 : Int32)) hx hb dX10_swapRounds_62 (by decide) ?_
      refine lv_iload_n hx hb dX10_swapRounds_63 rfl (lv_at hl 2 rfl) ?_
      refine lv_iadd hx hb dX10_swapRounds_64 ?_
      obtain ⟨hz, hf⟩ := ck_some hf
      refine sx_iald (j := ((2 : Int32) + x1).toNatClampNeg) hx hb hK hP 1 0 rfl rfl (inb_vp hz) rfl dX10_swapRounds_65 ?_
      refine lv_ixor hx hb dX10_swapRounds_66 ?_
      obtain ⟨o4, ho4, hf⟩ := bd_some hf
      refine cs_i (As := [.int ((T_s (((2 : Int32) + x1).toNatClampNeg)) ^^^ ((upd (upd T_s (((2 : Int32) + x1).toNatClampNeg) (T_s (((2 : Int32) + x2).toNatClampNeg))) (((2 : Int32) + x2).toNatClampNeg) (T_s (((2 : Int32) + x1).toNatClampNeg))) (((2 : Int32) + x1).toNatClampNeg)))]) (rest := [.ref Ta]) hx hb hml hown hts hK hP hD hA hS (kX10_size l D cI cC cS  ((T_s (((2 : Int32) + x1).toNatClampNeg)) ^^^ ((upd (upd T_s (((2 : Int32) + x1).toNatClampNeg) (T_s (((2 : Int32) + x2).toNatClampNeg))) (((2 : Int32) + x2).toNatClampNeg) (T_s (((2 : Int32) + x1).toNatClampNeg))) (((2 : Int32) + x1).toNatClampNeg)))  o4 ho4) (va_cwS 1 hts gX10_swapRounds_X10_size rfl rfl rfl (by decide +kernel) (by subst hR; exact ⟨Nat.le_of_ble_eq_true rfl, Nat.le_of_ble_eq_true rfl⟩)) rfl hl.1 rfl (Nat.le_of_ble_eq_true rfl) ⟨Nat.zero_le _, Nat.zero_le _⟩ dX10_swapRounds_67 (fun H locs hP hD hS => ?_)
      obtain ⟨o5, ho5, hf⟩ := bd_some hf
      refine cv_i (ci := 7) (q := (RX10, TX10, 19)) (As := [.int o4]) (rest := []) hx hb hml hown hts hK hP hD hA hS (kX10_ends l D cI cC cS Ta Ta_s Ta_past Ta_aside Ta_text Ta_known Ta_then Ta_trip Ta_sent Ta_learned Ta_chosen Ta_decided o4 (upd (upd T_s (((2 : Int32) + x1).toNatClampNeg) (T_s (((2 : Int32) + x2).toNatClampNeg))) (((2 : Int32) + x2).toNatClampNeg) (T_s (((2 : Int32) + x1).toNatClampNeg))) T_past o3 T_pasts T_text T_typed T_at T_from T_token T_many T_letters T_number T_known T_then T_trip T_sent T_learned T_chosen T_decided o5 ho5) (cwV 1 hts gX10_swapRounds_X10_ends rfl rfl rfl (by decide +kernel) (by subst hR; exact ⟨Nat.le_of_ble_eq_true rfl, Nat.le_of_ble_eq_true rfl⟩)) [0, 1, 2, 3, 4, 5, 6, 7, 8, 9, 10, 11] [] [0, 1, 2, 3, 4, 5, 6, 7, 8, 9, 10, 11] [] (sh_X10 Ta Ta_s Ta_past Ta_aside Ta_text Ta_known Ta_then Ta_trip Ta_sent Ta_learned Ta_chosen Ta_decided cI cC cS (upd (upd T_s (((2 : Int32) + x1).toNatClampNeg) (T_s (((2 : Int32) + x2).toNatClampNeg))) (((2 : Int32) + x2).toNatClampNeg) (T_s (((2 : Int32) + x1).toNatClampNeg))) o5.2.1 o3 o5.2.2 T_text T_typed T_at T_from T_token T_many T_letters T_number T_known T_then T_trip T_sent T_learned T_chosen T_decided) rfl rfl rfl rfl (by decide) rfl rfl rfl rfl rfl rfl hl.1 rfl (Nat.le_of_ble_eq_true rfl) ⟨Nat.zero_le _, Nat.zero_le _⟩ dX10_swapRounds_70 (fun H locs hP hD hS => ?_)
      have hf := Option.some.inj hf
      subst hf
      exact rt_i hx hb hr hlocks hQ hK hP hD hS rfl dX10_swapRounds_73
    · have hf := if_t c2 hf
      refine lv_iconst (v := (-1 : Int32)) hx hb dX10_swapRounds_16 (by decide) ?_
      have hf := Option.some.inj hf
      subst hf
      exact rt_i hx hb hr hlocks hQ hK hP hD hS rfl dX10_swapRounds_17
