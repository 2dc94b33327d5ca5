set_option maxRecDepth 100000 in
set_option maxHeartbeats 4000000 in
theorem kX10_appendCharacter (l : Launch) (D : va_G) (cI cC cS : ClassId) (Ta Ta_s Ta_past Ta_aside Ta_text Ta_known Ta_then Ta_trip Ta_sent Ta_learned Ta_chosen Ta_decided : Nat) (x1 : Int32) (T_s : Nat → Int32) (T_past : Nat → Int32) (T_aside : Nat → Int32) (T_pasts : Int32) (T_text : Nat → Int32) (T_typed : Int32) (T_at : Int32) (T_from : Int32) (T_token : Int32) (T_many : Int32) (T_letters : Int64) (T_number : Int32) (T_known : Nat → Int32) (T_then : Nat → Int32) (T_trip : Nat → Int32) (T_sent : Nat → Int32) (T_learned : Nat → Int32) (T_chosen : Nat → Int32) (T_decided : Nat → Int32) (o : Int32 × (Nat → Int32) × Int32) (hf : fX10_appendCharacter x1 T_text T_typed = some o) : CI l D yX10_appendCharacter wsX10_appendCharacter ({ frames := 1, cells := 0, slots := 0, locals := 22 } : Room) (tysK cI cC cS) [.ref Ta, .int x1] (sh_X10 Ta Ta_s Ta_past Ta_aside Ta_text Ta_known Ta_then Ta_trip Ta_sent Ta_learned Ta_chosen Ta_decided cI cC cS T_s T_past T_aside T_pasts T_text T_typed T_at T_from T_token T_many T_letters T_number T_known T_then T_trip T_sent T_learned T_chosen T_decided) o.1 (sh_X10 Ta Ta_s Ta_past Ta_aside Ta_text Ta_known Ta_then Ta_trip Ta_sent Ta_learned Ta_chosen Ta_decided cI cC cS T_s T_past T_aside T_pasts o.2.1 o.2.2 T_at T_from T_token T_many T_letters T_number T_known T_then T_trip T_sent T_learned T_chosen T_decided) := by
  refine met_i (cc := cX10_appendCharacter) (maxL := 2) (ret := (some .int)) (by decide) rfl (Nat.le_of_ble_eq_true rfl) ?_
  intro p e s m args below meth c R Q A F hR hQ hP hK hD hA hS ls hl
  obtain ⟨hx, hb, hr, hts, hml, hlocks, hown⟩ := F
  have hown : s.vm.findClass RX10 = some m.cls := hown
  have hi_X10 : ∀ w ∈ u_ws RX10 TX10 19, w ∈ wsX10_appendCharacter := fun w h => List.mem_cons_of_mem _ (List.mem_append_right _ h)
  have q115 := hts (.fieldLink RX10 115 "ChangingRoundsModel" "typed" "I") (by decide +kernel)
  have q19 := hts (.fieldLink RX10 19 "ChangingRoundsModel" "text" "[I") (by decide +kernel)
  have hl : lv_has ls 2 [(0, .ref Ta), (1, .int x1)] := hl
  unfold fX10_appendCharacter at hf
  refine lv_iload_n hx hb dX10_appendCharacter_0 rfl (lv_at hl 1 rfl) ?_
  refine lv_iconst (v := (0 : Int32)) hx hb dX10_appendCharacter_1 (by decide) ?_
  refine lv_sipush (v := (255 : Int32)) hx hb dX10_appendCharacter_2 (by decide) ?_
  refine cs_i (As := [.int x1, .int (0 : Int32), .int (255 : Int32)]) (rest := []) hx hb hml hown hts hK hP hD hA hS (kX10_in l D cI cC cS  x1 (0 : Int32) (255 : Int32)  (fX10_in x1 (0 : Int32) (255 : Int32)) rfl) (va_cwS 3 hts gX10_appendCharacter_X10_in rfl rfl rfl (by decide +kernel) (by subst hR; exact ⟨Nat.le_of_ble_eq_true rfl, Nat.le_of_ble_eq_true rfl⟩)) rfl hl.1 rfl (Nat.le_of_ble_eq_true rfl) ⟨Nat.zero_le _, Nat.zero_le _⟩ dX10_appendCharacter_5 (fun H locs hP hD hS => ?_)
  refine lv_if_ne (tgt := 13) hx hb dX10_appendCharacter_8 (by decide) (fun c1 => ?_) (fun c1 => ?_)
  · have hf := if_f c1 hf
    refine lv_aload_n hx hb dX10_appendCharacter_13 rfl (lv_at hl 0 rfl) ?_
    refine va_get (D := D) (ci := 7) (v := .int T_typed) (C := RX10) (T := TX10) (N := 19) hx hb hts hi_X10 hown hK hP 0 rfl rfl 5 (by decide) q115 (fun _ h9 => h9) rfl dX10_appendCharacter_14 ?_
    refine lv_bipush (v := (120 : Int32)) hx hb dX10_appendCharacter_17 (by decide) ?_
    refine lv_icmp_ne (tgt := 25) hx hb dX10_appendCharacter_19 (by decide) (fun c2 => ?_) (fun c2 => ?_)
    · have hf := if_f c2 hf
      refine lv_aload_n hx hb dX10_appendCharacter_25 rfl (lv_at hl 0 rfl) ?_
      refine va_get (D := D) (ci := 7) (v := .ref Ta_text) (C := RX10) (T := TX10) (N := 19) hx hb hts hi_X10 hown hK hP 0 rfl rfl 4 (by decide) q19 (fun _ h9 => h9) rfl dX10_appendCharacter_26 ?_
      refine lv_aload_n hx hb dX10_appendCharacter_29 rfl (lv_at hl 0 rfl) ?_
      refine va_get (D := D) (ci := 7) (v := .int T_typed) (C := RX10) (T := TX10) (N := 19) hx hb hts hi_X10 hown hK hP 0 rfl rfl 5 (by decide) q115 (fun _ h9 => h9) rfl dX10_appendCharacter_30 ?_
      refine lv_iload_n hx hb dX10_appendCharacter_33 rfl (lv_at hl 1 rfl) ?_
      obtain ⟨hz, hf⟩ := ck_some hf
      refine sx_iast (j := T_typed.toNatClampNeg) hx hb hK hP hD hS 4 0 rfl rfl (inb_vp hz) rfl dX10_appendCharacter_34 (sh_X10 Ta Ta_s Ta_past Ta_aside Ta_text Ta_known Ta_then Ta_trip Ta_sent Ta_learned Ta_chosen Ta_decided cI cC cS T_s T_past T_aside T_pasts (upd T_text T_typed.toNatClampNeg x1) T_typed T_at T_from T_token T_many T_letters T_number T_known T_then T_trip T_sent T_learned T_chosen T_decided) rfl (fun H locs hP hD hS => ?_)
      refine lv_aload_n hx hb dX10_appendCharacter_35 rfl (lv_at hl 0 rfl) ?_
      refine lv_dup hx hb dX10_appendCharacter_36 rfl ?_
      refine va_get (D := D) (ci := 7) (v := .int T_typed) (C := RX10) (T := TX10) (N := 19) hx hb hts hi_X10 hown hK hP 0 rfl rfl 5 (by decide) q115 (fun _ h9 => h9) rfl dX10_appendCharacter_37 ?_
      refine lv_iconst (v := (1 : Int32)) hx hb dX10_appendCharacter_40 (by decide) ?_
      refine lv_iadd hx hb dX10_appendCharacter_41 ?_
      refine sx_put (D := D) (ci := 7) (v := .int (T_typed + (1 : Int32))) (ty := .int) (C := RX10) (T := TX10) (N := 19) hx hb hts hi_X10 tyX10 tyX10_ok nmX10 hown hK hP hD hS 0 rfl rfl 5 (by decide) q115 (fun _ h9 => h9) rfl (by decide +kernel) rfl rfl (Nat.le_of_ble_eq_true rfl) dX10_appendCharacter_42 (sh_X10 Ta Ta_s Ta_past Ta_aside Ta_text Ta_known Ta_then Ta_trip Ta_sent Ta_learned Ta_chosen Ta_decided cI cC cS T_s T_past T_aside T_pasts (upd T_text T_typed.toNatClampNeg x1) (T_typed + (1 : Int32)) T_at T_from T_token T_many T_letters T_number T_known T_then T_trip T_sent T_learned T_chosen T_decided) rfl (fun H locs hP hD hS => ?_)
      refine lv_aload_n hx hb dX10_appendCharacter_45 rfl (lv_at hl 0 rfl) ?_
      refine va_get (D := D) (ci := 7) (v := .int (T_typed + (1 : Int32))) (C := RX10) (T := TX10) (N := 19) hx hb hts hi_X10 hown hK hP 0 rfl rfl 5 (by decide) q115 (fun _ h9 => h9) rfl dX10_appendCharacter_46 ?_
      have hf := Option.some.inj hf
      subst hf
      exact rt_i hx hb hr hlocks hQ hK hP hD hS rfl dX10_appendCharacter_49
    · have hf := if_t c2 hf
      refine lv_bipush (v := (-3 : Int32)) hx hb dX10_appendCharacter_22 (by decide) ?_
      have hf := Option.some.inj hf
      subst hf
      exact rt_i hx hb hr hlocks hQ hK hP hD hS rfl dX10_appendCharacter_24
  · have hf := if_t c1 hf
    refine lv_iconst (v := (-1 : Int32)) hx hb dX10_appendCharacter_11 (by decide) ?_
    have hf := Option.some.inj hf
    subst hf
    exact rt_i hx hb hr hlocks hQ hK hP hD hS rfl dX10_appendCharacter_12
set_option maxRecDepth 100000 in
set_option maxHeartbeats 4000000 in
theorem kX10_clearText (l : Launch) (D : va_G) (cI cC cS : ClassId) (Ta Ta_s Ta_past Ta_aside Ta_text Ta_known Ta_then Ta_trip Ta_sent Ta_learned Ta_chosen Ta_decided : Nat) (T_s : Nat → Int32) (T_past : Nat → Int32) (T_aside : Nat → Int32) (T_pasts : Int32) (T_text : Nat → Int32) (T_typed : Int32) (T_at : Int32) (T_from : Int32) (T_token : Int32) (T_many : Int32) (T_letters : Int64) (T_number : Int32) (T_known : Nat → Int32) (T_then : Nat → Int32) (T_trip : Nat → Int32) (T_sent : Nat → Int32) (T_learned : Nat → Int32) (T_chosen : Nat → Int32) (T_decided : Nat → Int32) (o : Int32 × Int32) (hf : fX10_clearText T_typed = o) : CI l D yX10_clearText wsX10_clearText ({ frames := 0, cells := 0, slots := 0, locals := 0 } : Room) (tysK cI cC cS) [.ref Ta] (sh_X10 Ta Ta_s Ta_past Ta_aside Ta_text Ta_known Ta_then Ta_trip Ta_sent Ta_learned Ta_chosen Ta_decided cI cC cS T_s T_past T_aside T_pasts T_text T_typed T_at T_from T_token T_many T_letters T_number T_known T_then T_trip T_sent T_learned T_chosen T_decided) o.1 (sh_X10 Ta Ta_s Ta_past Ta_aside Ta_text Ta_known Ta_then Ta_trip Ta_sent Ta_learned Ta_chosen Ta_decided cI cC cS T_s T_past T_aside T_pasts T_text o.2 T_at T_from T_token T_many T_letters T_number T_known T_then T_trip T_sent T_learned T_chosen T_decided) := by
  refine met_i (cc := cX10_clearText) (maxL := 2) (ret := (some .int)) (by decide) rfl (Nat.le_of_ble_eq_true rfl) ?_
  intro p e s m args below meth c R Q A F hR hQ hP hK hD hA hS ls hl
  obtain ⟨hx, hb, hr, hts, hml, hlocks, hown⟩ := F
  have hown : s.vm.findClass RX10 = some m.cls := hown
  have hi_X10 : ∀ w ∈ u_ws RX10 TX10 19, w ∈ wsX10_clearText := fun w h => List.mem_cons_of_mem _ (List.mem_append_right _ h)
  have q115 := hts (.fieldLink RX10 115 "ChangingRoundsModel" "typed" "I") (by decide +kernel)
  have hl : lv_has ls 2 [(0, .ref Ta)] := hl
  unfold fX10_clearText at hf
  refine lv_aload_n hx hb dX10_clearText_0 rfl (lv_at hl 0 rfl) ?_
  refine va_get (D := D) (ci := 7) (v := .int T_typed) (C := RX10) (T := TX10) (N := 19) hx hb hts hi_X10 hown hK hP 0 rfl rfl 5 (by decide) q115 (fun _ h9 => h9) rfl dX10_clearText_1 ?_
  refine lv_istore_n (lv' := [(1, .int T_typed), (0, .ref Ta)]) hx hb dX10_clearText_4 rfl hl (by decide) rfl (fun ls hl => ?_)
  refine lv_aload_n hx hb dX10_clearText_5 rfl (lv_at hl 1 rfl) ?_
  refine lv_iconst (v := (0 : Int32)) hx hb dX10_clearText_6 (by decide) ?_
  refine sx_put (D := D) (ci := 7) (v := .int (0 : Int32)) (ty := .int) (C := RX10) (T := TX10) (N := 19) hx hb hts hi_X10 tyX10 tyX10_ok nmX10 hown hK hP hD hS 0 rfl rfl 5 (by decide) q115 (fun _ h9 => h9) rfl (by decide +kernel) rfl rfl (Nat.le_of_ble_eq_true rfl) dX10_clearText_7 (sh_X10 Ta Ta_s Ta_past Ta_aside Ta_text Ta_known Ta_then Ta_trip Ta_sent Ta_learned Ta_chosen Ta_decided cI cC cS T_s T_past T_aside T_pasts T_text (0 : Int32) T_at T_from T_token T_many T_letters T_number T_known T_then T_trip T_sent T_learned T_chosen T_decided) rfl (fun H locs hP hD hS => ?_)
  refine lv_iload_n hx hb dX10_clearText_10 rfl (lv_at hl 0 rfl) ?_
  subst hf
  exact rt_i hx hb hr hlocks hQ hK hP hD hS rfl dX10_clearText_11
set_option maxRecDepth 100000 in
set_option maxHeartbeats 4000000 in
theorem kX10_isHere (l : Launch) (D : va_G) (cI cC cS : ClassId) (Ta Ta_s Ta_past Ta_aside Ta_text Ta_known Ta_then Ta_trip Ta_sent Ta_learned Ta_chosen Ta_decided : Nat) (x1 : Int32) (x2 : Int32) (T_s : Nat → Int32) (T_past : Nat → Int32) (T_aside : Nat → Int32) (T_pasts : Int32) (T_text : Nat → Int32) (T_typed : Int32) (T_at : Int32) (T_from : Int32) (T_token : Int32) (T_many : Int32) (T_letters : Int64) (T_number : Int32) (T_known : Nat → Int32) (T_then : Nat → Int32) (T_trip : Nat → Int32) (T_sent : Nat → Int32) (T_learned : Nat → Int32) (T_chosen : Nat → Int32) (T_decided : Nat → Int32) (o : Bool) (hf : fX10_isHere x1 x2 T_text T_typed T_at = some o) : CI l D yX10_isHere wsX10_isHere ({ frames := 1, cells := 0, slots := 0, locals := 22 } : Room) (tysK cI cC cS) [.ref Ta, .int x1, .int x2] (sh_X10 Ta Ta_s Ta_past Ta_aside Ta_text Ta_known Ta_then Ta_trip Ta_sent Ta_learned Ta_chosen Ta_decided cI cC cS T_s T_past T_aside T_pasts T_text T_typed T_at T_from T_token T_many T_letters T_number T_known T_then T_trip T_sent T_learned T_chosen T_decided) (b2i o) (sh_X10 Ta Ta_s Ta_past Ta_aside Ta_text Ta_known Ta_then Ta_trip Ta_sent Ta_learned Ta_chosen Ta_decided cI cC cS T_s T_past T_aside T_pasts T_text T_typed T_at T_from T_token T_many T_letters T_number T_known T_then T_trip T_sent T_learned T_chosen T_decided) := by
  refine met_i (cc := cX10_isHere) (maxL := 3) (ret := (some .boolean)) (by decide) rfl (Nat.le_of_ble_eq_true rfl) ?_
  intro p e s m args below meth c R Q A F hR hQ hP hK hD hA hS ls hl
  obtain ⟨hx, hb, hr, hts, hml, hlocks, hown⟩ := F
  have hown : s.vm.findClass RX10 = some m.cls := hown
  have hi_X10 : ∀ w ∈ u_ws RX10 TX10 19, w ∈ wsX10_isHere := fun w h => List.mem_cons_of_mem _ (List.mem_append_right _ h)
  have q118 := hts (.fieldLink RX10 118 "ChangingRoundsModel" "at" "I") (by decide +kernel)
  have q115 := hts (.fieldLink RX10 115 "ChangingRoundsModel" "typed" "I") (by decide +kernel)
  have q19 := hts (.fieldLink RX10 19 "ChangingRoundsModel" "text" "[I") (by decide +kernel)
  have hl : lv_has ls 3 [(0, .ref Ta), (1, .int x1), (2, .int x2)] := hl
  unfold fX10_isHere at hf
  refine lv_aload_n hx hb dX10_isHere_0 rfl (lv_at hl 0 rfl) ?_
  refine va_get (D := D) (ci := 7) (v := .int T_at) (C := RX10) (T := TX10) (N := 19) hx hb hts hi_X10 hown hK hP 0 rfl rfl 6 (by decide) q118 (fun _ h9 => h9) rfl dX10_isHere_1 ?_
  refine lv_aload_n hx hb dX10_isHere_4 rfl (lv_at hl 0 rfl) ?_
  refine va_get (D := D) (ci := 7) (v := .int T_typed) (C := RX10) (T := TX10) (N := 19) hx hb hts hi_X10 hown hK hP 0 rfl rfl 5 (by decide) q115 (fun _ h9 => h9) rfl dX10_isHere_5 ?_
  refine lv_icmp_ge (tgt := 32) hx hb dX10_isHere_8 (by decide) (fun c1 => ?_) (fun c1 => ?_)
  · have hf := if_t c1 hf
    refine lv_iconst (v := (0 : Int32)) hx hb dX10_isHere_32 (by decide) ?_
    have hf := Option.some.inj hf
    subst hf
    exact rt_z (ty := .boolean) hx hb hr rfl hlocks hQ hK hP hD hS rfl dX10_isHere_33
  · have hf := if_f c1 hf
    refine lv_aload_n hx hb dX10_isHere_11 rfl (lv_at hl 0 rfl) ?_
    refine va_get (D := D) (ci := 7) (v := .ref Ta_text) (C := RX10) (T := TX10) (N := 19) hx hb hts hi_X10 hown hK hP 0 rfl rfl 4 (by decide) q19 (fun _ h9 => h9) rfl dX10_isHere_12 ?_
    refine lv_aload_n hx hb dX10_isHere_15 rfl (lv_at hl 0 rfl) ?_
    refine va_get (D := D) (ci := 7) (v := .int T_at) (C := RX10) (T := TX10) (N := 19) hx hb hts hi_X10 hown hK hP 0 rfl rfl 6 (by decide) q118 (fun _ h9 => h9) rfl dX10_isHere_16 ?_
    obtain ⟨hz, hf⟩ := ck_some hf
    refine sx_iald (j := T_at.toNatClampNeg) hx hb hK hP 4 0 rfl rfl (inb_vp hz) rfl dX10_isHere_19 ?_
    refine lv_iload_n hx hb dX10_isHere_20 rfl (lv_at hl 1 rfl) ?_
    refine lv_iload_n hx hb dX10_isHere_21 rfl (lv_at hl 2 rfl) ?_
    refine cs_i (As := [.int (T_text T_at.toNatClampNeg), .int x1, .int x2]) (rest := []) hx hb hml hown hts hK hP hD hA hS (kX10_in l D cI cC cS  (T_text T_at.toNatClampNeg) x1 x2  (fX10_in (T_text T_at.toNatClampNeg) x1 x2) rfl) (va_cwS 3 hts gX10_isHere_X10_in rfl rfl rfl (by decide +kernel) (by subst hR; exact ⟨Nat.le_of_ble_eq_true rfl, Nat.le_of_ble_eq_true rfl⟩)) rfl hl.1 rfl (Nat.le_of_ble_eq_true rfl) ⟨Nat.zero_le _, Nat.zero_le _⟩ dX10_isHere_22 (fun H locs hP hD hS => ?_)
    refine lv_if_eq (tgt := 32) hx hb dX10_isHere_25 (by decide) (fun c2 => ?_) (fun c2 => ?_)
    · have hf := if_t c2 hf
      refine lv_iconst (v := (0 : Int32)) hx hb dX10_isHere_32 (by decide) ?_
      have hf := Option.some.inj hf
      subst hf
      exact rt_z (ty := .boolean) hx hb hr rfl hlocks hQ hK hP hD hS rfl dX10_isHere_33
    · have hf := if_f c2 hf
      refine lv_iconst (v := (1 : Int32)) hx hb dX10_isHere_28 (by decide) ?_
      refine lv_goto (tgt := 33) hx hb dX10_isHere_29 (by decide) ?_
      have hf := Option.some.inj hf
      subst hf
      exact rt_z (ty := .boolean) hx hb hr rfl hlocks hQ hK hP hD hS rfl dX10_isHere_33
set_option maxRecDepth 100000 in
set_option maxHeartbeats 4000000 in
theorem kX10_reads (l : Launch) (D : va_G) (cI cC cS : ClassId) (Ta Ta_s Ta_past Ta_aside Ta_text Ta_known Ta_then Ta_trip Ta_sent Ta_learned Ta_chosen Ta_decided : Nat) (T_s : Nat → Int32) (T_past : Nat → Int32) (T_aside : Nat → Int32) (T_pasts : Int32) (T_text : Nat → Int32) (T_typed : Int32) (T_at : Int32) (T_from : Int32) (T_token : Int32) (T_many : Int32) (T_letters : Int64) (T_number : Int32) (T_known : Nat → Int32) (T_then : Nat → Int32) (T_trip : Nat → Int32) (T_sent : Nat → Int32) (T_learned : Nat → Int32) (T_chosen : Nat → Int32) (T_decided : Nat → Int32) (o : Int32 × Int32 × Int32 × Int32 × Int64 × Int32) (hf : fX10_reads T_text T_typed T_at T_from T_token T_many T_letters T_number = some o) : CV l D yX10_reads wsX10_reads ({ frames := 2, cells := 0, slots := 0, locals := 44 } : Room) (tysK cI cC cS) [.ref Ta] (sh_X10 Ta Ta_s Ta_past Ta_aside Ta_text Ta_known Ta_then Ta_trip Ta_sent Ta_learned Ta_chosen Ta_decided cI cC cS T_s T_past T_aside T_pasts T_text T_typed T_at T_from T_token T_many T_letters T_number T_known T_then T_trip T_sent T_learned T_chosen T_decided) (sh_X10 Ta Ta_s Ta_past Ta_aside Ta_text Ta_known Ta_then Ta_trip Ta_sent Ta_learned Ta_chosen Ta_decided cI cC cS T_s T_past T_aside T_pasts T_text T_typed o.1 o.2.1 o.2.2.1 o.2.2.2.1 o.2.2.2.2.1 o.2.2.2.2.2 T_known T_then T_trip T_sent T_learned T_chosen T_decided) := by
  refine met_v (cc := cX10_reads) (maxL := 1) (ret := none) (by decide) rfl (Nat.le_of_ble_eq_true rfl) ?_
  intro p e s m args below meth c R Q A F hR hQ hP hK hD hA hS ls hl
  obtain ⟨hx, hb, hr, hts, hml, hlocks, hown⟩ := F
  have hown : s.vm.findClass RX10 = some m.cls := hown
  have hi_X10 : ∀ w ∈ u_ws RX10 TX10 19, w ∈ wsX10_reads := fun w h => List.mem_cons_of_mem _ (List.mem_append_right _ h)
  have q118 := hts (.fieldLink RX10 118 "ChangingRoundsModel" "at" "I") (by decide +kernel)
  have q124 := hts (.fieldLink RX10 124 "ChangingRoundsModel" "from" "I") (by decide +kernel)
  have q127 := hts (.fieldLink RX10 127 "ChangingRoundsModel" "letters" "J") (by decide +kernel)
  have q131 := hts (.fieldLink RX10 131 "ChangingRoundsModel" "number" "I") (by decide +kernel)
  have q115 := hts (.fieldLink RX10 115 "ChangingRoundsModel" "typed" "I") (by decide +kernel)
  have q134 := hts (.fieldLink RX10 134 "ChangingRoundsModel" "token" "I") (by decide +kernel)
  have q19 := hts (.fieldLink RX10 19 "ChangingRoundsModel" "text" "[I") (by decide +kernel)
  have qc137 := hts (.constant RX10 137 (1000000)) (by decide +kernel)
  have q138 := hts (.fieldLink RX10 138 "ChangingRoundsModel" "many" "I") (by decide +kernel)
  have hl : lv_has ls 1 [(0, .ref Ta)] := hl
  unfold fX10_reads at hf
  have J238 : ∀ (y1 : Int32) (y2 : Int32) (T_at : Int32) (T_from : Int32) (T_token : Int32) (T_many : Int32) (T_letters : Int64) (T_number : Int32) (H : Heap) (locs : List Loc) (ls : Array Slot), fX10_reads_b238 y1 y2 T_at T_from T_token T_many T_letters T_number = some o → va_P D vwCl (sh_X10 Ta Ta_s Ta_past Ta_aside Ta_text Ta_known Ta_then Ta_trip Ta_sent Ta_learned Ta_chosen Ta_decided cI cC cS T_s T_past T_aside T_pasts T_text T_typed T_at T_from T_token T_many T_letters T_number T_known T_then T_trip T_sent T_learned T_chosen T_decided) H → va_D A (sh_X10 Ta Ta_s Ta_past Ta_aside Ta_text Ta_known Ta_then Ta_trip Ta_sent Ta_learned Ta_chosen Ta_decided cI cC cS T_s T_past T_aside T_pasts T_text T_typed T_at T_from T_token T_many T_letters T_number T_known T_then T_trip T_sent T_learned T_chosen T_decided) → va_S A s.heap H locs → lv_has ls 1 [(0, .ref Ta)] → W p l e R s m args below meth c H locs 0 0 Q (F0 m 238 ls [.int y2, .int y1, .ref Ta]) := by
    intro y1 y2 T_at T_from T_token T_many T_letters T_number H locs ls hf hP hD hS hl
    unfold fX10_reads_b238 at hf
    refine lv_iadd hx hb dX10_reads_238 ?_
    refine sx_put (D := D) (ci := 7) (v := .int (y1 + y2)) (ty := .int) (C := RX10) (T := TX10) (N := 19) hx hb hts hi_X10 tyX10 tyX10_ok nmX10 hown hK hP hD hS 0 rfl rfl 6 (by decide) q118 (fun _ h9 => h9) rfl (by decide +kernel) rfl rfl (Nat.le_of_ble_eq_true rfl) dX10_reads_239 (sh_X10 Ta Ta_s Ta_past Ta_aside Ta_text Ta_known Ta_then Ta_trip Ta_sent Ta_learned Ta_chosen Ta_decided cI cC cS T_s T_past T_aside T_pasts T_text T_typed (y1 + y2) T_from T_token T_many T_letters T_number T_known T_then T_trip T_sent T_learned T_chosen T_decided) rfl (fun H locs hP hD hS => ?_)
    refine lv_aload_n hx hb dX10_reads_242 rfl (lv_at hl 0 rfl) ?_
    refine lv_aload_n hx hb dX10_reads_243 rfl (lv_at hl 0 rfl) ?_
    refine va_get (D := D) (ci := 7) (v := .int (y1 + y2)) (C := RX10) (T := TX10) (N := 19) hx hb hts hi_X10 hown hK hP 0 rfl rfl 6 (by decide) q118 (fun _ h9 => h9) rfl dX10_reads_244 ?_
    refine lv_aload_n hx hb dX10_reads_247 rfl (lv_at hl 0 rfl) ?_
    refine va_get (D := D) (ci := 7) (v := .int T_from) (C := RX10) (T := TX10) (N := 19) hx hb hts hi_X10 hown hK hP 0 rfl rfl 7 (by decide) q124 (fun _ h9 => h9) rfl dX10_reads_248 ?_
    refine lv_isub hx hb dX10_reads_251 ?_
    refine sx_put (D := D) (ci := 7) (v := .int ((y1 + y2) - T_from)) (ty := .int) (C := RX10) (T := TX10) (N := 19) hx hb hts hi_X10 tyX10 tyX10_ok nmX10 hown hK hP hD hS 0 rfl rfl 9 (by decide) q138 (fun _ h9 => h9) rfl (by decide +kernel) rfl rfl (Nat.le_of_ble_eq_true rfl) dX10_reads_252 (sh_X10 Ta Ta_s Ta_past Ta_aside Ta_text Ta_known Ta_then Ta_trip Ta_sent Ta_learned Ta_chosen Ta_decided cI cC cS T_s T_past T_aside T_pasts T_text T_typed (y1 + y2) T_from T_token ((y1 + y2) - T_from) T_letters T_number T_known T_then T_trip T_sent T_learned T_chosen T_decided) rfl (fun H locs hP hD hS => ?_)
    have hf := Option.some.inj hf
    subst hf
    exact rt_v hx hb hr hlocks hQ hK hP hD hS dX10_reads_255
  have J220 : ∀ (T_at : Int32) (T_from : Int32) (T_token : Int32) (T_many : Int32) (T_letters : Int64) (T_number : Int32) (H : Heap) (locs : List Loc) (ls : Array Slot), fX10_reads_b220 T_at T_from T_token T_many T_letters T_number = some o → va_P D vwCl (sh_X10 Ta Ta_s Ta_past Ta_aside Ta_text Ta_known Ta_then Ta_trip Ta_sent Ta_learned Ta_chosen Ta_decided cI cC cS T_s T_past T_aside T_pasts T_text T_typed T_at T_from T_token T_many T_letters T_number T_known T_then T_trip T_sent T_learned T_chosen T_decided) H → va_D A (sh_X10 Ta Ta_s Ta_past Ta_aside Ta_text Ta_known Ta_then Ta_trip Ta_sent Ta_learned Ta_chosen Ta_decided cI cC cS T_s T_past T_aside T_pasts T_text T_typed T_at T_from T_token T_many T_letters T_number T_known T_then T_trip T_sent T_learned T_chosen T_decided) → va_S A s.heap H locs → lv_has ls 1 [(0, .ref Ta)] → W p l e R s m args below meth c H locs 0 0 Q (F0 m 220 ls []) := by
    intro T_at T_from T_token T_many T_letters T_number H locs ls hf hP hD hS hl
    unfold fX10_reads_b220 at hf
    refine lv_aload_n hx hb dX10_reads_220 rfl (lv_at hl 0 rfl) ?_
    refine lv_dup hx hb dX10_reads_221 rfl ?_
    refine va_get (D := D) (ci := 7) (v := .int T_at) (C := RX10) (T := TX10) (N := 19) hx hb hts hi_X10 hown hK hP 0 rfl rfl 6 (by decide) q118 (fun _ h9 => h9) rfl dX10_reads_222 ?_
    refine lv_aload_n hx hb dX10_reads_225 rfl (lv_at hl 0 rfl) ?_
    refine va_get (D := D) (ci := 7) (v := .int T_token) (C := RX10) (T := TX10) (N := 19) hx hb hts hi_X10 hown hK hP 0 rfl rfl 8 (by decide) q134 (fun _ h9 => h9) rfl dX10_reads_226 ?_
    refine lv_iconst (v := (2 : Int32)) hx hb dX10_reads_229 (by decide) ?_
    refine lv_icmp_le (tgt := 237) hx hb dX10_reads_230 (by decide) (fun c1 => ?_) (fun c1 => ?_)
    · have hf := if_t c1 hf
      refine lv_iconst (v := (0 : Int32)) hx hb dX10_reads_237 (by decide) ?_
      exact J238 T_at (0 : Int32) T_at T_from T_token T_many T_letters T_number _ _ _ hf hP hD hS (lv_sub hl [0] rfl)
    · have hf := if_f c1 hf
      refine lv_iconst (v := (1 : Int32)) hx hb dX10_reads_233 (by decide) ?_
      refine lv_goto (tgt := 238) hx hb dX10_reads_234 (by decide) ?_
      exact J238 T_at (1 : Int32) T_at T_from T_token T_many T_letters T_number _ _ _ hf hP hD hS (lv_sub hl [0] rfl)
  have L161 : ∀ (T_from : Int32) (T_token : Int32) (T_many : Int32) (T_letters : Int64) (n161 : Nat) (T_at : Int32) (T_number : Int32) (H : Heap) (locs : List Loc) (ls : Array Slot), fX10_reads_l161 T_text T_typed T_from T_token T_many T_letters n161 T_at T_number = some o → va_P D vwCl (sh_X10 Ta Ta_s Ta_past Ta_aside Ta_text Ta_known Ta_then Ta_trip Ta_sent Ta_learned Ta_chosen Ta_decided cI cC cS T_s T_past T_aside T_pasts T_text T_typed T_at T_from T_token T_many T_letters T_number T_known T_then T_trip T_sent T_learned T_chosen T_decided) H → va_D A (sh_X10 Ta Ta_s Ta_past Ta_aside Ta_text Ta_known Ta_then Ta_trip Ta_sent Ta_learned Ta_chosen Ta_decided cI cC cS T_s T_past T_aside T_pasts T_text T_typed T_at T_from T_token T_many T_letters T_number T_known T_then T_trip T_sent T_learned T_chosen T_decided) → va_S A s.heap H locs → lv_has ls 1 [(0, .ref Ta)] → W p l e R s m args below meth c H locs 0 0 Q (F0 m 161 ls []) := by
    intro T_from T_token T_many T_letters n161
    induction n161 with
    | zero => intro T_at T_number H locs ls hf; cases (show (none : Option _) = some _ from hf)
    | succ n161 ih161 =>
      intro T_at T_number H locs ls hf hP hD hS hl
      rw [fX10_reads_l161] at hf
      refine lv_aload_n hx hb dX10_reads_161 rfl (lv_at hl 0 rfl) ?_
      refine va_get (D := D) (ci := 7) (v := .int T_token) (C := RX10) (T := TX10) (N := 19) hx hb hts hi_X10 hown hK hP 0 rfl rfl 8 (by decide) q134 (fun _ h9 => h9) rfl dX10_reads_162 ?_
      refine lv_iconst (v := (2 : Int32)) hx hb dX10_reads_165 (by decide) ?_
      refine lv_icmp_ne (tgt := 220) hx hb dX10_reads_166 (by decide) (fun c2 => ?_) (fun c2 => ?_)
      · have hf := if_f c2 hf
        exact J220 T_at T_from T_token T_many T_letters T_number _ _ _ hf hP hD hS (lv_sub hl [0] rfl)
      · have hf := if_t c2 hf
        refine lv_aload_n hx hb dX10_reads_169 rfl (lv_at hl 0 rfl) ?_
        refine lv_bipush (v := (48 : Int32)) hx hb dX10_reads_170 (by decide) ?_
        refine lv_bipush (v := (57 : Int32)) hx hb dX10_reads_172 (by decide) ?_
        obtain ⟨o3, ho3, hf⟩ := bd_some hf
        refine cv_i (ci := 7) (q := (RX10, TX10, 19)) (As := [.int (48 : Int32), .int (57 : Int32)]) (rest := []) hx hb hml hown hts hK hP hD hA hS (kX10_isHere l D cI cC cS Ta Ta_s Ta_past Ta_aside Ta_text Ta_known Ta_then Ta_trip Ta_sent Ta_learned Ta_chosen Ta_decided (48 : Int32) (57 : Int32) T_s T_past T_aside T_pasts T_text T_typed T_at T_from T_token T_many T_letters T_number T_known T_then T_trip T_sent T_learned T_chosen T_decided o3 ho3) (cwV 2 hts gX10_reads_X10_isHere rfl rfl rfl (by decide +kernel) (by subst hR; exact ⟨Nat.le_of_ble_eq_true rfl, Nat.le_of_ble_eq_true rfl⟩)) [0, 1, 2, 3, 4, 5, 6, 7, 8, 9, 10, 11] [] [0, 1, 2, 3, 4, 5, 6, 7, 8, 9, 10, 11] [] (sh_X10 Ta Ta_s Ta_past Ta_aside Ta_text Ta_known Ta_then Ta_trip Ta_sent Ta_learned Ta_chosen Ta_decided cI cC cS T_s T_past T_aside T_pasts T_text T_typed T_at T_from T_token T_many T_letters T_number T_known T_then T_trip T_sent T_learned T_chosen T_decided) rfl rfl rfl rfl (by decide) rfl rfl rfl rfl rfl rfl hl.1 rfl (Nat.le_of_ble_eq_true rfl) ⟨Nat.zero_le _, Nat.zero_le _⟩ dX10_reads_174 (fun H locs hP hD hS => ?_)
        refine lv_if_eq (tgt := 220) hx hb dX10_reads_177 (by decide) (fun c4 => ?_) (fun c4 => ?_)
        · have hf := if_t c4 hf
          exact J220 T_at T_from T_token T_many T_letters T_number _ _ _ hf hP hD hS (lv_sub hl [0] rfl)
        · have hf := if_f c4 hf
          refine lv_aload_n hx hb dX10_reads_180 rfl (lv_at hl 0 rfl) ?_
          refine lv_bipush (v := (10 : Int32)) hx hb dX10_reads_181 (by decide) ?_
          refine lv_aload_n hx hb dX10_reads_183 rfl (lv_at hl 0 rfl) ?_
          refine va_get (D := D) (ci := 7) (v := .int T_number) (C := RX10) (T := TX10) (N := 19) hx hb hts hi_X10 hown hK hP 0 rfl rfl 11 (by decide) q131 (fun _ h9 => h9) rfl dX10_reads_184 ?_
          refine lv_imul hx hb dX10_reads_187 ?_
          refine lv_aload_n hx hb dX10_reads_188 rfl (lv_at hl 0 rfl) ?_
          refine va_get (D := D) (ci := 7) (v := .ref Ta_text) (C := RX10) (T := TX10) (N := 19) hx hb hts hi_X10 hown hK hP 0 rfl rfl 4 (by decide) q19 (fun _ h9 => h9) rfl dX10_reads_189 ?_
          refine lv_aload_n hx hb dX10_reads_192 rfl (lv_at hl 0 rfl) ?_
          refine va_get (D := D) (ci := 7) (v := .int T_at) (C := RX10) (T := TX10) (N := 19) hx hb hts hi_X10 hown hK hP 0 rfl rfl 6 (by decide) q118 (fun _ h9 => h9) rfl dX10_reads_193 ?_
          obtain ⟨hz, hf⟩ := ck_some hf
          refine sx_iald (j := T_at.toNatClampNeg) hx hb hK hP 4 0 rfl rfl (inb_vp hz) rfl dX10_reads_196 ?_
          refine lv_iadd hx hb dX10_reads_197 ?_
          refine lv_bipush (v := (48 : Int32)) hx hb dX10_reads_198 (by decide) ?_
          refine lv_isub hx hb dX10_reads_200 ?_
          refine lv_ldc hx hb hown qc137 dX10_reads_201 ?_
          refine lv_irem hx hb dX10_reads_203 (by decide) ?_
          refine sx_put (D := D) (ci := 7) (v := .int (((((10 : Int32) * T_number) + (T_text T_at.toNatClampNeg)) - (48 : Int32)) - ((((10 : Int32) * T_number) + (T_text T_at.toNatClampNeg)) - (48 : Int32)) / (1000000 : Int32) * (1000000 : Int32))) (ty := .int) (C := RX10) (T := TX10) (N := 19) hx hb hts hi_X10 tyX10 tyX10_ok nmX10 hown hK hP hD hS 0 rfl rfl 11 (by decide) q131 (fun _ h9 => h9) rfl (by decide +kernel) rfl rfl (Nat.le_of_ble_eq_true rfl) dX10_reads_204 (sh_X10 Ta Ta_s Ta_past Ta_aside Ta_text Ta_known Ta_then Ta_trip Ta_sent Ta_learned Ta_chosen Ta_decided cI cC cS T_s T_past T_aside T_pasts T_text T_typed T_at T_from T_token T_many T_letters (((((10 : Int32) * T_number) + (T_text T_at.toNatClampNeg)) - (48 : Int32)) - ((((10 : Int32) * T_number) + (T_text T_at.toNatClampNeg)) - (48 : Int32)) / (1000000 : Int32) * (1000000 : Int32)) T_known T_then T_trip T_sent T_learned T_chosen T_decided) rfl (fun H locs hP hD hS => ?_)
          refine lv_aload_n hx hb dX10_reads_207 rfl (lv_at hl 0 rfl) ?_
          refine lv_dup hx hb dX10_reads_208 rfl ?_
          refine va_get (D := D) (ci := 7) (v := .int T_at) (C := RX10) (T := TX10) (N := 19) hx hb hts hi_X10 hown hK hP 0 rfl rfl 6 (by decide) q118 (fun _ h9 => h9) rfl dX10_reads_209 ?_
          refine lv_iconst (v := (1 : Int32)) hx hb dX10_reads_212 (by decide) ?_
          refine lv_iadd hx hb dX10_reads_213 ?_
          refine sx_put (D := D) (ci := 7) (v := .int (T_at + (1 : Int32))) (ty := .int) (C := RX10) (T := TX10) (N := 19) hx hb hts hi_X10 tyX10 tyX10_ok nmX10 hown hK hP hD hS 0 rfl rfl 6 (by decide) q118 (fun _ h9 => h9) rfl (by decide +kernel) rfl rfl (Nat.le_of_ble_eq_true rfl) dX10_reads_214 (sh_X10 Ta Ta_s Ta_past Ta_aside Ta_text Ta_known Ta_then Ta_trip Ta_sent Ta_learned Ta_chosen Ta_decided cI cC cS T_s T_past T_aside T_pasts T_text T_typed (T_at + (1 : Int32)) T_from T_token T_many T_letters (((((10 : Int32) * T_number) + (T_text T_at.toNatClampNeg)) - (48 : Int32)) - ((((10 : Int32) * T_number) + (T_text T_at.toNatClampNeg)) - (48 : Int32)) / (1000000 : Int32) * (1000000 : Int32)) T_known T_then T_trip T_sent T_learned T_chosen T_decided) rfl (fun H locs hP hD hS => ?_)
          refine lv_goto (tgt := 161) hx hb dX10_reads_217 (by decide) ?_
          exact ih161 (T_at + (1 : Int32)) (((((10 : Int32) * T_number) + (T_text T_at.toNatClampNeg)) - (48 : Int32)) - ((((10 : Int32) * T_number) + (T_text T_at.toNatClampNeg)) - (48 : Int32)) / (1000000 : Int32) * (1000000 : Int32)) _ _ _ hf hP hD hS (lv_sub hl [0] rfl)
  have L107 : ∀ (T_from : Int32) (T_token : Int32) (T_many : Int32) (T_number : Int32) (n107 : Nat) (T_at : Int32) (T_letters : Int64) (H : Heap) (locs : List Loc) (ls : Array Slot), fX10_reads_l107 T_text T_typed T_from T_token T_many T_number n107 T_at T_letters = some o → va_P D vwCl (sh_X10 Ta Ta_s Ta_past Ta_aside Ta_text Ta_known Ta_then Ta_trip Ta_sent Ta_learned Ta_chosen Ta_decided cI cC cS T_s T_past T_aside T_pasts T_text T_typed T_at T_from T_token T_many T_letters T_number T_known T_then T_trip T_sent T_learned T_chosen T_decided) H → va_D A (sh_X10 Ta Ta_s Ta_past Ta_aside Ta_text Ta_known Ta_then Ta_trip Ta_sent Ta_learned Ta_chosen Ta_decided cI cC cS T_s T_past T_aside T_pasts T_text T_typed T_at T_from T_token T_many T_letters T_number T_known T_then T_trip T_sent T_learned T_chosen T_decided) → va_S A s.heap H locs → lv_has ls 1 [(0, .ref Ta)] → W p l e R s m args below meth c H locs 0 0 Q (F0 m 107 ls []) := by
    intro T_from T_token T_many T_number n107
    induction n107 with
    | zero => intro T_at T_letters H locs ls hf; cases (show (none : Option _) = some _ from hf)
    | succ n107 ih107 =>
      intro T_at T_letters H locs ls hf hP hD hS hl
      rw [fX10_reads_l107] at hf
      refine lv_aload_n hx hb dX10_reads_107 rfl (lv_at hl 0 rfl) ?_
      refine va_get (D := D) (ci := 7) (v := .int T_token) (C := RX10) (T := TX10) (N := 19) hx hb hts hi_X10 hown hK hP 0 rfl rfl 8 (by decide) q134 (fun _ h9 => h9) rfl dX10_reads_108 ?_
      refine lv_iconst (v := (1 : Int32)) hx hb dX10_reads_111 (by decide) ?_
      refine lv_icmp_ne (tgt := 161) hx hb dX10_reads_112 (by decide) (fun c5 => ?_) (fun c5 => ?_)
      · have hf := if_f c5 hf
        exact L161 T_from T_token T_many T_letters fuel T_at T_number _ _ _ hf hP hD hS (lv_sub hl [0] rfl)
      · have hf := if_t c5 hf
        refine lv_aload_n hx hb dX10_reads_115 rfl (lv_at hl 0 rfl) ?_
        refine lv_bipush (v := (97 : Int32)) hx hb dX10_reads_116 (by decide) ?_
        refine lv_bipush (v := (122 : Int32)) hx hb dX10_reads_118 (by decide) ?_
        obtain ⟨o6, ho6, hf⟩ := bd_some hf
        refine cv_i (ci := 7) (q := (RX10, TX10, 19)) (As := [.int (97 : Int32), .int (122 : Int32)]) (rest := []) hx hb hml hown hts hK hP hD hA hS (kX10_isHere l D cI cC cS Ta Ta_s Ta_past Ta_aside Ta_text Ta_known Ta_then Ta_trip Ta_sent Ta_learned Ta_chosen Ta_decided (97 : Int32) (122 : Int32) T_s T_past T_aside T_pasts T_text T_typed T_at T_from T_token T_many T_letters T_number T_known T_then T_trip T_sent T_learned T_chosen T_decided o6 ho6) (cwV 2 hts gX10_reads_X10_isHere rfl rfl rfl (by decide +kernel) (by subst hR; exact ⟨Nat.le_of_ble_eq_true rfl, Nat.le_of_ble_eq_true rfl⟩)) [0, 1, 2, 3, 4, 5, 6, 7, 8, 9, 10, 11] [] [0, 1, 2, 3, 4, 5, 6, 7, 8, 9, 10, 11] [] (sh_X10 Ta Ta_s Ta_past Ta_aside Ta_text Ta_known Ta_then Ta_trip Ta_sent Ta_learned Ta_chosen Ta_decided cI cC cS T_s T_past T_aside T_pasts T_text T_typed T_at T_from T_token T_many T_letters T_number T_known T_then T_trip T_sent T_learned T_chosen T_decided) rfl rfl rfl rfl (by decide) rfl rfl rfl rfl rfl rfl hl.1 rfl (Nat.le_of_ble_eq_true rfl) ⟨Nat.zero_le _, Nat.zero_le _⟩ dX10_reads_120 (fun H locs hP hD hS => ?_)
        refine lv_if_eq (tgt := 161) hx hb dX10_reads_123 (by decide) (fun c7 => ?_) (fun c7 => ?_)
        · have hf := if_t c7 hf
          exact L161 T_from T_token T_many T_letters fuel T_at T_number _ _ _ hf hP hD hS (lv_sub hl [0] rfl)
        · have hf := if_f c7 hf
          refine lv_aload_n hx hb dX10_reads_126 rfl (lv_at hl 0 rfl) ?_
          refine lv_aload_n hx hb dX10_reads_127 rfl (lv_at hl 0 rfl) ?_
          refine va_get (D := D) (ci := 7) (v := .long T_letters) (C := RX10) (T := TX10) (N := 19) hx hb hts hi_X10 hown hK hP 0 rfl rfl 10 (by decide) q127 (fun _ h9 => h9) rfl dX10_reads_128 ?_
          refine lv_bipush (v := (8 : Int32)) hx hb dX10_reads_131 (by decide) ?_
          refine lv_lshl (v := (T_letters <<< ((8 : Int32).toInt64 &&& 63))) hx hb dX10_reads_133 rfl ?_
          refine lv_aload_n hx hb dX10_reads_134 rfl (lv_at hl 0 rfl) ?_
          refine va_get (D := D) (ci := 7) (v := .ref Ta_text) (C := RX10) (T := TX10) (N := 19) hx hb hts hi_X10 hown hK hP 0 rfl rfl 4 (by decide) q19 (fun _ h9 => h9) rfl dX10_reads_135 ?_
          refine lv_aload_n hx hb dX10_reads_138 rfl (lv_at hl 0 rfl) ?_
          refine va_get (D := D) (ci := 7) (v := .int T_at) (C := RX10) (T := TX10) (N := 19) hx hb hts hi_X10 hown hK hP 0 rfl rfl 6 (by decide) q118 (fun _ h9 => h9) rfl dX10_reads_139 ?_
          obtain ⟨hz, hf⟩ := ck_some hf
          refine sx_iald (j := T_at.toNatClampNeg) hx hb hK hP 4 0 rfl rfl (inb_vp hz) rfl dX10_reads_142 ?_
          refine lv_i2l (v := (T_text T_at.toNatClampNeg).toInt64) hx hb dX10_reads_143 rfl ?_
          refine lv_lor hx hb dX10_reads_144 ?_
          refine sx_put (D := D) (ci := 7) (v := .long ((T_letters <<< ((8 : Int32).toInt64 &&& 63)) ||| ((T_text T_at.toNatClampNeg).toInt64))) (ty := .long) (C := RX10) (T := TX10) (N := 19) hx hb hts hi_X10 tyX10 tyX10_ok nmX10 hown hK hP hD hS 0 rfl rfl 10 (by decide) q127 (fun _ h9 => h9) rfl (by decide +kernel) rfl rfl (Nat.le_of_ble_eq_true rfl) dX10_reads_145 (sh_X10 Ta Ta_s Ta_past Ta_aside Ta_text Ta_known Ta_then Ta_trip Ta_sent Ta_learned Ta_chosen Ta_decided cI cC cS T_s T_past T_aside T_pasts T_text T_typed T_at T_from T_token T_many ((T_letters <<< ((8 : Int32).toInt64 &&& 63)) ||| ((T_text T_at.toNatClampNeg).toInt64)) T_number T_known T_then T_trip T_sent T_learned T_chosen T_decided) rfl (fun H locs hP hD hS => ?_)
          refine lv_aload_n hx hb dX10_reads_148 rfl (lv_at hl 0 rfl) ?_
          refine lv_dup hx hb dX10_reads_149 rfl ?_
          refine va_get (D := D) (ci := 7) (v := .int T_at) (C := RX10) (T := TX10) (N := 19) hx hb hts hi_X10 hown hK hP 0 rfl rfl 6 (by decide) q118 (fun _ h9 => h9) rfl dX10_reads_150 ?_
          refine lv_iconst (v := (1 : Int32)) hx hb dX10_reads_153 (by decide) ?_
          refine lv_iadd hx hb dX10_reads_154 ?_
          refine sx_put (D := D) (ci := 7) (v := .int (T_at + (1 : Int32))) (ty := .int) (C := RX10) (T := TX10) (N := 19) hx hb hts hi_X10 tyX10 tyX10_ok nmX10 hown hK hP hD hS 0 rfl rfl 6 (by decide) q118 (fun _ h9 => h9) rfl (by decide +kernel) rfl rfl (Nat.le_of_ble_eq_true rfl) dX10_reads_155 (sh_X10 Ta Ta_s Ta_past Ta_aside Ta_text Ta_known Ta_then Ta_trip Ta_sent Ta_learned Ta_chosen Ta_decided cI cC cS T_s T_past T_aside T_pasts T_text T_typed (T_at + (1 : Int32)) T_from T_token T_many ((T_letters <<< ((8 : Int32).toInt64 &&& 63)) ||| ((T_text T_at.toNatClampNeg).toInt64)) T_number T_known T_then T_trip T_sent T_learned T_chosen T_decided) rfl (fun H locs hP hD hS => ?_)
          refine lv_goto (tgt := 107) hx hb dX10_reads_158 (by decide) ?_
          exact ih107 (T_at + (1 : Int32)) ((T_letters <<< ((8 : Int32).toInt64 &&& 63)) ||| ((T_text T_at.toNatClampNeg).toInt64)) _ _ _ hf hP hD hS (lv_sub hl [0] rfl)
  have L0 : ∀ (T_from : Int32) (T_token : Int32) (T_many : Int32) (T_letters : Int64) (T_number : Int32) (n0 : Nat) (T_at : Int32) (H : Heap) (locs : List Loc) (ls : Array Slot), fX10_reads_l0 T_text T_typed T_from T_token T_many T_letters T_number n0 T_at = some o → va_P D vwCl (sh_X10 Ta Ta_s Ta_past Ta_aside Ta_text Ta_known Ta_then Ta_trip Ta_sent Ta_learned Ta_chosen Ta_decided cI cC cS T_s T_past T_aside T_pasts T_text T_typed T_at T_from T_token T_many T_letters T_number T_known T_then T_trip T_sent T_learned T_chosen T_decided) H → va_D A (sh_X10 Ta Ta_s Ta_past Ta_aside Ta_text Ta_known Ta_then Ta_trip Ta_sent Ta_learned Ta_chosen Ta_decided cI cC cS T_s T_past T_aside T_pasts T_text T_typed T_at T_from T_token T_many T_letters T_number T_known T_then T_trip T_sent T_learned T_chosen T_decided) → va_S A s.heap H locs → lv_has ls 1 [(0, .ref Ta)] → W p l e R s m args below meth c H locs 0 0 Q (F0 m 0 ls []) := by
    intro T_from T_token T_many T_letters T_number n0
    induction n0 with
    | zero => intro T_at H locs ls hf; cases (show (none : Option _) = some _ from hf)
    | succ n0 ih0 =>
      intro T_at H locs ls hf hP hD hS hl
      rw [fX10_reads_l0] at hf
      refine lv_aload_n hx hb dX10_reads_0 rfl (lv_at hl 0 rfl) ?_
      refine lv_bipush (v := (32 : Int32)) hx hb dX10_reads_1 (by decide) ?_
      refine lv_bipush (v := (32 : Int32)) hx hb dX10_reads_3 (by decide) ?_
      obtain ⟨o8, ho8, hf⟩ := bd_some hf
      refine cv_i (ci := 7) (q := (RX10, TX10, 19)) (As := [.int (32 : Int32), .int (32 : Int32)]) (rest := []) hx hb hml hown hts hK hP hD hA hS (kX10_isHere l D cI cC cS Ta Ta_s Ta_past Ta_aside Ta_text Ta_known Ta_then Ta_trip Ta_sent Ta_learned Ta_chosen Ta_decided (32 : Int32) (32 : Int32) T_s T_past T_aside T_pasts T_text T_typed T_at T_from T_token T_many T_letters T_number T_known T_then T_trip T_sent T_learned T_chosen T_decided o8 ho8) (cwV 2 hts gX10_reads_X10_isHere rfl rfl rfl (by decide +kernel) (by subst hR; exact ⟨Nat.le_of_ble_eq_true rfl, Nat.le_of_ble_eq_true rfl⟩)) [0, 1, 2, 3, 4, 5, 6, 7, 8, 9, 10, 11] [] [0, 1, 2, 3, 4, 5, 6, 7, 8, 9, 10, 11] [] (sh_X10 Ta Ta_s Ta_past Ta_aside Ta_text Ta_known Ta_then Ta_trip Ta_sent Ta_learned Ta_chosen Ta_decided cI cC cS T_s T_past T_aside T_pasts T_text T_typed T_at T_from T_token T_many T_letters T_number T_known T_then T_trip T_sent T_learned T_chosen T_decided) rfl rfl rfl rfl (by decide) rfl rfl rfl rfl rfl rfl hl.1 rfl (Nat.le_of_ble_eq_true rfl) ⟨Nat.zero_le _, Nat.zero_le _⟩ dX10_reads_5 (fun H locs hP hD hS => ?_)
      refine lv_if_eq (tgt := 24) hx hb dX10_reads_8 (by decide) (fun c9 => ?_) (fun c9 => ?_)
      · have hf := if_t c9 hf
        refine lv_aload_n hx hb dX10_reads_24 rfl (lv_at hl 0 rfl) ?_
        refine lv_aload_n hx hb dX10_reads_25 rfl (lv_at hl 0 rfl) ?_
        refine va_get (D := D) (ci := 7) (v := .int T_at) (C := RX10) (T := TX10) (N := 19) hx hb hts hi_X10 hown hK hP 0 rfl rfl 6 (by decide) q118 (fun _ h9 => h9) rfl dX10_reads_26 ?_
        refine sx_put (D := D) (ci := 7) (v := .int T_at) (ty := .int) (C := RX10) (T := TX10) (N := 19) hx hb hts hi_X10 tyX10 tyX10_ok nmX10 hown hK hP hD hS 0 rfl rfl 7 (by decide) q124 (fun _ h9 => h9) rfl (by decide +kernel) rfl rfl (Nat.le_of_ble_eq_true rfl) dX10_reads_29 (sh_X10 Ta Ta_s Ta_past Ta_aside Ta_text Ta_known Ta_then Ta_trip Ta_sent Ta_learned Ta_chosen Ta_decided cI cC cS T_s T_past T_aside T_pasts T_text T_typed T_at T_at T_token T_many T_letters T_number T_known T_then T_trip T_sent T_learned T_chosen T_decided) rfl (fun H locs hP hD hS => ?_)
        refine lv_aload_n hx hb dX10_reads_32 rfl (lv_at hl 0 rfl) ?_
        refine lv_lconst (v := 0) hx hb dX10_reads_33 (by decide) ?_
        refine sx_put (D := D) (ci := 7) (v := .long (0 : Int64)) (ty := .long) (C := RX10) (T := TX10) (N := 19) hx hb hts hi_X10 tyX10 tyX10_ok nmX10 hown hK hP hD hS 0 rfl rfl 10 (by decide) q127 (fun _ h9 => h9) rfl (by decide +kernel) rfl rfl (Nat.le_of_ble_eq_true rfl) dX10_reads_34 (sh_X10 Ta Ta_s Ta_past Ta_aside Ta_text Ta_known Ta_then Ta_trip Ta_sent Ta_learned Ta_chosen Ta_decided cI cC cS T_s T_past T_aside T_pasts T_text T_typed T_at T_at T_token T_many (0 : Int64) T_number T_known T_then T_trip T_sent T_learned T_chosen T_decided) rfl (fun H locs hP hD hS => ?_)
        refine lv_aload_n hx hb dX10_reads_37 rfl (lv_at hl 0 rfl) ?_
        refine lv_iconst (v := (0 : Int32)) hx hb dX10_reads_38 (by decide) ?_
        refine sx_put (D := D) (ci := 7) (v := .int (0 : Int32)) (ty := .int) (C := RX10) (T := TX10) (N := 19) hx hb hts hi_X10 tyX10 tyX10_ok nmX10 hown hK hP hD hS 0 rfl rfl 11 (by decide) q131 (fun _ h9 => h9) rfl (by decide +kernel) rfl rfl (Nat.le_of_ble_eq_true rfl) dX10_reads_39 (sh_X10 Ta Ta_s Ta_past Ta_aside Ta_text Ta_known Ta_then Ta_trip Ta_sent Ta_learned Ta_chosen Ta_decided cI cC cS T_s T_past T_aside T_pasts T_text T_typed T_at T_at T_token T_many (0 : Int64) (0 : Int32) T_known T_then T_trip T_sent T_learned T_chosen T_decided) rfl (fun H locs hP hD hS => ?_)
        refine lv_aload_n hx hb dX10_reads_42 rfl (lv_at hl 0 rfl) ?_
        refine lv_aload_n hx hb dX10_reads_43 rfl (lv_at hl 0 rfl) ?_
        refine va_get (D := D) (ci := 7) (v := .int T_at) (C := RX10) (T := TX10) (N := 19) hx hb hts hi_X10 hown hK hP 0 rfl rfl 6 (by decide) q118 (fun _ h9 => h9) rfl dX10_reads_44 ?_
        refine lv_aload_n hx hb dX10_reads_47 rfl (lv_at hl 0 rfl) ?_
        refine va_get (D := D) (ci := 7) (v := .int T_typed) (C := RX10) (T := TX10) (N := 19) hx hb hts hi_X10 hown hK hP 0 rfl rfl 5 (by decide) q115 (fun _ h9 => h9) rfl dX10_reads_48 ?_
        refine lv_icmp_ne (tgt := 58) hx hb dX10_reads_51 (by decide) (fun c10 => ?_) (fun c10 => ?_)
        · have hf := if_f c10 hf
          refine lv_aload_n hx hb dX10_reads_58 rfl (lv_at hl 0 rfl) ?_
          refine lv_bipush (v := (97 : Int32)) hx hb dX10_reads_59 (by decide) ?_
          refine lv_bipush (v := (122 : Int32)) hx hb dX10_reads_61 (by decide) ?_
          obtain ⟨o11, ho11, hf⟩ := bd_some hf
          refine cv_i (ci := 7) (q := (RX10, TX10, 19)) (As := [.int (97 : Int32), .int (122 : Int32)]) (rest := [.ref Ta]) hx hb hml hown hts hK hP hD hA hS (kX10_isHere l D cI cC cS Ta Ta_s Ta_past Ta_aside Ta_text Ta_known Ta_then Ta_trip Ta_sent Ta_learned Ta_chosen Ta_decided (97 : Int32) (122 : Int32) T_s T_past T_aside T_pasts T_text T_typed T_at T_at T_token T_many (0 : Int64) (0 : Int32) T_known T_then T_trip T_sent T_learned T_chosen T_decided o11 ho11) (cwV 2 hts gX10_reads_X10_isHere rfl rfl rfl (by decide +kernel) (by subst hR; exact ⟨Nat.le_of_ble_eq_true rfl, Nat.le_of_ble_eq_true rfl⟩)) [0, 1, 2, 3, 4, 5, 6, 7, 8, 9, 10, 11] [] [0, 1, 2, 3, 4, 5, 6, 7, 8, 9, 10, 11] [] (sh_X10 Ta Ta_s Ta_past Ta_aside Ta_text Ta_known Ta_then Ta_trip Ta_sent Ta_learned Ta_chosen Ta_decided cI cC cS T_s T_past T_aside T_pasts T_text T_typed T_at T_at T_token T_many (0 : Int64) (0 : Int32) T_known T_then T_trip T_sent T_learned T_chosen T_decided) rfl rfl rfl rfl (by decide) rfl rfl rfl rfl rfl rfl hl.1 rfl (Nat.le_of_ble_eq_true rfl) ⟨Nat.zero_le _, Nat.zero_le _⟩ dX10_reads_63 (fun H locs hP hD hS => ?_)
          refine lv_if_eq (tgt := 73) hx hb dX10_reads_66 (by decide) (fun c12 => ?_) (fun c12 => ?_)
          · have hf := if_t c12 hf
            refine lv_aload_n hx hb dX10_reads_73 rfl (lv_at hl 0 rfl) ?_
            refine lv_bipush (v := (48 : Int32)) hx hb dX10_reads_74 (by decide) ?_
            refine lv_bipush (v := (57 : Int32)) hx hb dX10_reads_76 (by decide) ?_
            obtain ⟨o13, ho13, hf⟩ := bd_some hf
            refine cv_i (ci := 7) (q := (RX10, TX10, 19)) (As := [.int (48 : Int32), .int (57 : Int32)]) (rest := [.ref Ta]) hx hb hml hown hts hK hP hD hA hS (kX10_isHere l D cI cC cS Ta Ta_s Ta_past Ta_aside Ta_text Ta_known Ta_then Ta_trip Ta_sent Ta_learned Ta_chosen Ta_decided (48 : Int32) (57 : Int32) T_s T_past T_aside T_pasts T_text T_typed T_at T_at T_token T_many (0 : Int64) (0 : Int32) T_known T_then T_trip T_sent T_learned T_chosen T_decided o13 ho13) (cwV 2 hts gX10_reads_X10_isHere rfl rfl rfl (by decide +kernel) (by subst hR; exact ⟨Nat.le_of_ble_eq_true rfl, Nat.le_of_ble_eq_true rfl⟩)) [0, 1, 2, 3, 4, 5, 6, 7, 8, 9, 10, 11] [] [0, 1, 2, 3, 4, 5, 6, 7, 8, 9, 10, 11] [] (sh_X10 Ta Ta_s Ta_past Ta_aside Ta_text Ta_known Ta_then Ta_trip Ta_sent Ta_learned Ta_chosen Ta_decided cI cC cS T_s T_past T_aside T_pasts T_text T_typed T_at T_at T_token T_many (0 : Int64) (0 : Int32) T_known T_then T_trip T_sent T_learned T_chosen T_decided) rfl rfl rfl rfl (by decide) rfl rfl rfl rfl rfl rfl hl.1 rfl (Nat.le_of_ble_eq_true rfl) ⟨Nat.zero_le _, Nat.zero_le _⟩ dX10_reads_78 (fun H locs hP hD hS => ?_)
            refine lv_if_eq (tgt := 88) hx hb dX10_reads_81 (by decide) (fun c14 => ?_) (fun c14 => ?_)
            · have hf := if_t c14 hf
              refine lv_aload_n hx hb dX10_reads_88 rfl (lv_at hl 0 rfl) ?_
              refine lv_bipush (v := (59 : Int32)) hx hb dX10_reads_89 (by decide) ?_
              refine lv_bipush (v := (59 : Int32)) hx hb dX10_reads_91 (by decide) ?_
              obtain ⟨o15, ho15, hf⟩ := bd_some hf
              refine cv_i (ci := 7) (q := (RX10, TX10, 19)) (As := [.int (59 : Int32), .int (59 : Int32)]) (rest := [.ref Ta]) hx hb hml hown hts hK hP hD hA hS (kX10_isHere l D cI cC cS Ta Ta_s Ta_past Ta_aside Ta_text Ta_known Ta_then Ta_trip Ta_sent Ta_learned Ta_chosen Ta_decided (59 : Int32) (59 : Int32) T_s T_past T_aside T_pasts T_text T_typed T_at T_at T_token T_many (0 : Int64) (0 : Int32) T_known T_then T_trip T_sent T_learned T_chosen T_decided o15 ho15) (cwV 2 hts gX10_reads_X10_isHere rfl rfl rfl (by decide +kernel) (by subst hR; exact ⟨Nat.le_of_ble_eq_true rfl, Nat.le_of_ble_eq_true rfl⟩)) [0, 1, 2, 3, 4, 5, 6, 7, 8, 9, 10, 11] [] [0, 1, 2, 3, 4, 5, 6, 7, 8, 9, 10, 11] [] (sh_X10 Ta Ta_s Ta_past Ta_aside Ta_text Ta_known Ta_then Ta_trip Ta_sent Ta_learned Ta_chosen Ta_decided cI cC cS T_s T_past T_aside T_pasts T_text T_typed T_at T_at T_token T_many (0 : Int64) (0 : Int32) T_known T_then T_trip T_sent T_learned T_chosen T_decided) rfl rfl rfl rfl (by decide) rfl rfl rfl rfl rfl rfl hl.1 rfl (Nat.le_of_ble_eq_true rfl) ⟨Nat.zero_le _, Nat.zero_le _⟩ dX10_reads_93 (fun H locs hP hD hS => ?_)
              refine lv_if_eq (tgt := 103) hx hb dX10_reads_96 (by decide) (fun c16 => ?_) (fun c16 => ?_)
              · have hf := if_t c16 hf
                refine lv_iconst (v := (4 : Int32)) hx hb dX10_reads_103 (by decide) ?_
                refine sx_put (D := D) (ci := 7) (v := .int (4 : Int32)) (ty := .int) (C := RX10) (T := TX10) (N := 19) hx hb hts hi_X10 tyX10 tyX10_ok nmX10 hown hK hP hD hS 0 rfl rfl 8 (by decide) q134 (fun _ h9 => h9) rfl (by decide +kernel) rfl rfl (Nat.le_of_ble_eq_true rfl) dX10_reads_104 (sh_X10 Ta Ta_s Ta_past Ta_aside Ta_text Ta_known Ta_then Ta_trip Ta_sent Ta_learned Ta_chosen Ta_decided cI cC cS T_s T_past T_aside T_pasts T_text T_typed T_at T_at (4 : Int32) T_many (0 : Int64) (0 : Int32) T_known T_then T_trip T_sent T_learned T_chosen T_decided) rfl (fun H locs hP hD hS => ?_)
                exact L107 T_at (4 : Int32) T_many (0 : Int32) fuel T_at (0 : Int64) _ _ _ hf hP hD hS (lv_sub hl [0] rfl)
              · have hf := if_f c16 hf
                refine lv_iconst (v := (3 : Int32)) hx hb dX10_reads_99 (by decide) ?_
                refine lv_goto (tgt := 104) hx hb dX10_reads_100 (by decide) ?_
                refine sx_put (D := D) (ci := 7) (v := .int (3 : Int32)) (ty := .int) (C := RX10) (T := TX10) (N := 19) hx hb hts hi_X10 tyX10 tyX10_ok nmX10 hown hK hP hD hS 0 rfl rfl 8 (by decide) q134 (fun _ h9 => h9) rfl (by decide +kernel) rfl rfl (Nat.le_of_ble_eq_true rfl) dX10_reads_104 (sh_X10 Ta Ta_s Ta_past Ta_aside Ta_text Ta_known Ta_then Ta_trip Ta_sent Ta_learned Ta_chosen Ta_decided cI cC cS T_s T_past T_aside T_pasts T_text T_typed T_at T_at (3 : Int32) T_many (0 : Int64) (0 : Int32) T_known T_then T_trip T_sent T_learned T_chosen T_decided) rfl (fun H locs hP hD hS => ?_)
                exact L107 T_at (3 : Int32) T_many (0 : Int32) fuel T_at (0 : Int64) _ _ _ hf hP hD hS (lv_sub hl [0] rfl)
            · have hf := if_f c14 hf
              refine lv_iconst (v := (2 : Int32)) hx hb dX10_reads_84 (by decide) ?_
              refine lv_goto (tgt := 104) hx hb dX10_reads_85 (by decide) ?_
              refine sx_put (D := D) (ci := 7) (v := .int (2 : Int32)) (ty := .int) (C := RX10) (T := TX10) (N := 19) hx hb hts hi_X10 tyX10 tyX10_ok nmX10 hown hK hP hD hS 0 rfl rfl 8 (by decide) q134 (fun _ h9 => h9) rfl (by decide +kernel) rfl rfl (Nat.le_of_ble_eq_true rfl) dX10_reads_104 (sh_X10 Ta Ta_s Ta_past Ta_aside Ta_text Ta_known Ta_then Ta_trip Ta_sent Ta_learned Ta_chosen Ta_decided cI cC cS T_s T_past T_aside T_pasts T_text T_typed T_at T_at (2 : Int32) T_many (0 : Int64) (0 : Int32) T_known T_then T_trip T_sent T_learned T_chosen T_decided) rfl (fun H locs hP hD hS => ?_)
              exact L107 T_at (2 : Int32) T_many (0 : Int32) fuel T_at (0 : Int64) _ _ _ hf hP hD hS (lv_sub hl [0] rfl)
          · have hf := if_f c12 hf
            refine lv_iconst (v := (1 : Int32)) hx hb dX10_reads_69 (by decide) ?_
            refine lv_goto (tgt := 104) hx hb dX10_reads_70 (by decide) ?_
            refine sx_put (D := D) (ci := 7) (v := .int (1 : Int32)) (ty := .int) (C := RX10) (T := TX10) (N := 19) hx hb hts hi_X10 tyX10 tyX10_ok nmX10 hown hK hP hD hS 0 rfl rfl 8 (by decide) q134 (fun _ h9 => h9) rfl (by decide +kernel) rfl rfl (Nat.le_of_ble_eq_true rfl) dX10_reads_104 (sh_X10 Ta Ta_s Ta_past Ta_aside Ta_text Ta_known Ta_then Ta_trip Ta_sent Ta_learned Ta_chosen Ta_decided cI cC cS T_s T_past T_aside T_pasts T_text T_typed T_at T_at (1 : Int32) T_many (0 : Int64) (0 : Int32) T_known T_then T_trip T_sent T_learned T_chosen T_decided) rfl (fun H locs hP hD hS => ?_)
            exact L107 T_at (1 : Int32) T_many (0 : Int32) fuel T_at (0 : Int64) _ _ _ hf hP hD hS (lv_sub hl [0] rfl)
        · have hf := if_t c10 hf
          refine lv_iconst (v := (0 : Int32)) hx hb dX10_reads_54 (by decide) ?_
          refine lv_goto (tgt := 104) hx hb dX10_reads_55 (by decide) ?_
          refine sx_put (D := D) (ci := 7) (v := .int (0 : Int32)) (ty := .int) (C := RX10) (T := TX10) (N := 19) hx hb hts hi_X10 tyX10 tyX10_ok nmX10 hown hK hP hD hS 0 rfl rfl 8 (by decide) q134 (fun _ h9 => h9) rfl (by decide +kernel) rfl rfl (Nat.le_of_ble_eq_true rfl) dX10_reads_104 (sh_X10 Ta Ta_s Ta_past Ta_aside Ta_text Ta_known Ta_then Ta_trip Ta_sent Ta_learned Ta_chosen Ta_decided cI cC cS T_s T_past T_aside T_pasts T_text T_typed T_at T_at (0 : Int32) T_many (0 : Int64) (0 : Int32) T_known T_then T_trip T_sent T_learned T_chosen T_decided) rfl (fun H locs hP hD hS => ?_)
          exact L107 T_at (0 : Int32) T_many (0 : Int32) fuel T_at (0 : Int64) _ _ _ hf hP hD hS (lv_sub hl [0] rfl)
      · have hf := if_f c9 hf
        refine lv_aload_n hx hb dX10_reads_11 rfl (lv_at hl 0 rfl) ?_
        refine lv_dup hx hb dX10_reads_12 rfl ?_
        refine va_get (D := D) (ci := 7) (v := .int T_at) (C := RX10) (T := TX10) (N := 19) hx hb hts hi_X10 hown hK hP 0 rfl rfl 6 (by decide) q118 (fun _ h9 => h9) rfl dX10_reads_13 ?_
        refine lv_iconst (v := (1 : Int32)) hx hb dX10_reads_16 (by decide) ?_
        refine lv_iadd hx hb dX10_reads_17 ?_
        refine sx_put (D := D) (ci := 7) (v := .int (T_at + (1 : Int32))) (ty := .int) (C := RX10) (T := TX10) (N := 19) hx hb hts hi_X10 tyX10 tyX10_ok nmX10 hown hK hP hD hS 0 rfl rfl 6 (by decide) q118 (fun _ h9 => h9) rfl (by decide +kernel) rfl rfl (Nat.le_of_ble_eq_true rfl) dX10_reads_18 (sh_X10 Ta Ta_s Ta_past Ta_aside Ta_text Ta_known Ta_then Ta_trip Ta_sent Ta_learned Ta_chosen Ta_decided cI cC cS T_s T_past T_aside T_pasts T_text T_typed (T_at + (1 : Int32)) T_from T_token T_many T_letters T_number T_known T_then T_trip T_sent T_learned T_chosen T_decided) rfl (fun H locs hP hD hS => ?_)
        refine lv_goto (tgt := 0) hx hb dX10_reads_21 (by decide) ?_
        exact ih0 (T_at + (1 : Int32)) _ _ _ hf hP hD hS (lv_sub hl [0] rfl)
  exact L0 T_from T_token T_many T_letters T_number fuel T_at _ _ _ hf hP hD hS (lv_sub hl [0] rfl)
set_option maxRecDepth 100000 in
set_option maxHeartbeats 4000000 in
theorem kX10_isDigit (l : Launch) (D : va_G) (cI cC cS : ClassId) (Ta Ta_s Ta_past Ta_aside Ta_text Ta_known Ta_then Ta_trip Ta_sent Ta_learned Ta_chosen Ta_decided : Nat) (x1 : Int32) (x2 : Int32) (T_s : Nat → Int32) (T_past : Nat → Int32) (T_aside : Nat → Int32) (T_pasts : Int32) (T_text : Nat → Int32) (T_typed : Int32) (T_at : Int32) (T_from : Int32) (T_token : Int32) (T_many : Int32) (T_letters : Int64) (T_number : Int32) (T_known : Nat → Int32) (T_then : Nat → Int32) (T_trip : Nat → Int32) (T_sent : Nat → Int32) (T_learned : Nat → Int32) (T_chosen : Nat → Int32) (T_decided : Nat → Int32) (o : Bool) (hf : fX10_isDigit x1 x2 T_token T_many T_number = o) : CI l D yX10_isDigit wsX10_isDigit ({ frames := 1, cells := 0, slots := 0, locals := 22 } : Room) (tysK cI cC cS) [.ref Ta, .int x1, .int x2] (sh_X10 Ta Ta_s Ta_past Ta_aside Ta_text Ta_known Ta_then Ta_trip Ta_sent Ta_learned Ta_chosen Ta_decided cI cC cS T_s T_past T_aside T_pasts T_text T_typed T_at T_from T_token T_many T_letters T_number T_known T_then T_trip T_sent T_learned T_chosen T_decided) (b2i o) (sh_X10 Ta Ta_s Ta_past Ta_aside Ta_text Ta_known Ta_then Ta_trip Ta_sent Ta_learned Ta_chosen Ta_decided cI cC cS T_s T_past T_aside T_pasts T_text T_typed T_at T_from T_token T_many T_letters T_number T_known T_then T_trip T_sent T_learned T_chosen T_decided) := by
  refine met_i (cc := cX10_isDigit) (maxL := 3) (ret := (some .boolean)) (by decide) rfl (Nat.le_of_ble_eq_true rfl) ?_
  intro p e s m args below meth c R Q A F hR hQ hP hK hD hA hS ls hl
  obtain ⟨hx, hb, hr, hts, hml, hlocks, hown⟩ := F
  have hown : s.vm.findClass RX10 = some m.cls := hown
  have hi_X10 : ∀ w ∈ u_ws RX10 TX10 19, w ∈ wsX10_isDigit := fun w h => List.mem_cons_of_mem _ (List.mem_append_right _ h)
  have q134 := hts (.fieldLink RX10 134 "ChangingRoundsModel" "token" "I") (by decide +kernel)
  have q138 := hts (.fieldLink RX10 138 "ChangingRoundsModel" "many" "I") (by decide +kernel)
  have q131 := hts (.fieldLink RX10 131 "ChangingRoundsModel" "number" "I") (by decide +kernel)
  have hl : lv_has ls 3 [(0, .ref Ta), (1, .int x1), (2, .int x2)] := hl
  unfold fX10_isDigit at hf
  refine lv_aload_n hx hb dX10_isDigit_0 rfl (lv_at hl 0 rfl) ?_
  refine va_get (D := D) (ci := 7) (v := .int T_token) (C := RX10) (T := TX10) (N := 19) hx hb hts hi_X10 hown hK hP 0 rfl rfl 8 (by decide) q134 (fun _ h9 => h9) rfl dX10_isDigit_1 ?_
  refine lv_iconst (v := (2 : Int32)) hx hb dX10_isDigit_4 (by decide) ?_
  refine lv_icmp_ne (tgt := 32) hx hb dX10_isDigit_5 (by decide) (fun c1 => ?_) (fun c1 => ?_)
  · have hf := if_f c1 hf
    refine lv_iconst (v := (0 : Int32)) hx hb dX10_isDigit_32 (by decide) ?_
    subst hf
    exact rt_z (ty := .boolean) hx hb hr rfl hlocks hQ hK hP hD hS rfl dX10_isDigit_33
  · have hf := if_t c1 hf
    refine lv_aload_n hx hb dX10_isDigit_8 rfl (lv_at hl 0 rfl) ?_
    refine va_get (D := D) (ci := 7) (v := .int T_many) (C := RX10) (T := TX10) (N := 19) hx hb hts hi_X10 hown hK hP 0 rfl rfl 9 (by decide) q138 (fun _ h9 => h9) rfl dX10_isDigit_9 ?_
    refine lv_iconst (v := (1 : Int32)) hx hb dX10_isDigit_12 (by decide) ?_
    refine lv_icmp_ne (tgt := 32) hx hb dX10_isDigit_13 (by decide) (fun c2 => ?_) (fun c2 => ?_)
    · have hf := if_f c2 hf
      refine lv_iconst (v := (0 : Int32)) hx hb dX10_isDigit_32 (by decide) ?_
      subst hf
      exact rt_z (ty := .boolean) hx hb hr rfl hlocks hQ hK hP hD hS rfl dX10_isDigit_33
    · have hf := if_t c2 hf
      refine lv_aload_n hx hb dX10_isDigit_16 rfl (lv_at hl 0 rfl) ?_
      refine va_get (D := D) (ci := 7) (v := .int T_number) (C := RX10) (T := TX10) (N := 19) hx hb hts hi_X10 hown hK hP 0 rfl rfl 11 (by decide) q131 (fun _ h9 => h9) rfl dX10_isDigit_17 ?_
      refine lv_iload_n hx hb dX10_isDigit_20 rfl (lv_at hl 1 rfl) ?_
      refine lv_iload_n hx hb dX10_isDigit_21 rfl (lv_at hl 2 rfl) ?_
      refine cs_i (As := [.int T_number, .int x1, .int x2]) (rest := []) hx hb hml hown hts hK hP hD hA hS (kX10_in l D cI cC cS  T_number x1 x2  (fX10_in T_number x1 x2) rfl) (va_cwS 3 hts gX10_isDigit_X10_in rfl rfl rfl (by decide +kernel) (by subst hR; exact ⟨Nat.le_of_ble_eq_true rfl, Nat.le_of_ble_eq_true rfl⟩)) rfl hl.1 rfl (Nat.le_of_ble_eq_true rfl) ⟨Nat.zero_le _, Nat.zero_le _⟩ dX10_isDigit_22 (fun H locs hP hD hS => ?_)
      refine lv_if_eq (tgt := 32) hx hb dX10_isDigit_25 (by decide) (fun c3 => ?_) (fun c3 => ?_)
      · have hf := if_t c3 hf
        refine lv_iconst (v := (0 : Int32)) hx hb dX10_isDigit_32 (by decide) ?_
        subst hf
        exact rt_z (ty := .boolean) hx hb hr rfl hlocks hQ hK hP hD hS rfl dX10_isDigit_33
      · have hf := if_f c3 hf
        refine lv_iconst (v := (1 : Int32)) hx hb dX10_isDigit_28 (by decide) ?_
        refine lv_goto (tgt := 33) hx hb dX10_isDigit_29 (by decide) ?_
        subst hf
        exact rt_z (ty := .boolean) hx hb hr rfl hlocks hQ hK hP hD hS rfl dX10_isDigit_33
set_option maxRecDepth 100000 in
set_option maxHeartbeats 4000000 in
theorem kX10_isEdge (l : Launch) (D : va_G) (cI cC cS : ClassId) (Ta Ta_s Ta_past Ta_aside Ta_text Ta_known Ta_then Ta_trip Ta_sent Ta_learned Ta_chosen Ta_decided : Nat) (T_s : Nat → Int32) (T_past : Nat → Int32) (T_aside : Nat → Int32) (T_pasts : Int32) (T_text : Nat → Int32) (T_typed : Int32) (T_at : Int32) (T_from : Int32) (T_token : Int32) (T_many : Int32) (T_letters : Int64) (T_number : Int32) (T_known : Nat → Int32) (T_then : Nat → Int32) (T_trip : Nat → Int32) (T_sent : Nat → Int32) (T_learned : Nat → Int32) (T_chosen : Nat → Int32) (T_decided : Nat → Int32) (o : Bool) (hf : fX10_isEdge T_s T_token T_many T_number = o) : CI l D yX10_isEdge wsX10_isEdge ({ frames := 3, cells := 0, slots := 0, locals := 65 } : Room) (tysK cI cC cS) [.ref Ta] (sh_X10 Ta Ta_s Ta_past Ta_aside Ta_text Ta_known Ta_then Ta_trip Ta_sent Ta_learned Ta_chosen Ta_decided cI cC cS T_s T_past T_aside T_pasts T_text T_typed T_at T_from T_token T_many T_letters T_number T_known T_then T_trip T_sent T_learned T_chosen T_decided) (b2i o) (sh_X10 Ta Ta_s Ta_past Ta_aside Ta_text Ta_known Ta_then Ta_trip Ta_sent Ta_learned Ta_chosen Ta_decided cI cC cS T_s T_past T_aside T_pasts T_text T_typed T_at T_from T_token T_many T_letters T_number T_known T_then T_trip T_sent T_learned T_chosen T_decided) := by
  refine met_i (cc := cX10_isEdge) (maxL := 1) (ret := (some .boolean)) (by decide) rfl (Nat.le_of_ble_eq_true rfl) ?_
  intro p e s m args below meth c R Q A F hR hQ hP hK hD hA hS ls hl
  obtain ⟨hx, hb, hr, hts, hml, hlocks, hown⟩ := F
  have hown : s.vm.findClass RX10 = some m.cls := hown
  have hi_X10 : ∀ w ∈ u_ws RX10 TX10 19, w ∈ wsX10_isEdge := fun w h => List.mem_cons_of_mem _ (List.mem_append_right _ h)
  have q134 := hts (.fieldLink RX10 134 "ChangingRoundsModel" "token" "I") (by decide +kernel)
  have q138 := hts (.fieldLink RX10 138 "ChangingRoundsModel" "many" "I") (by decide +kernel)
  have q131 := hts (.fieldLink RX10 131 "ChangingRoundsModel" "number" "I") (by decide +kernel)
  have hl : lv_has ls 1 [(0, .ref Ta)] := hl
  unfold fX10_isEdge at hf
  refine lv_aload_n hx hb dX10_isEdge_0 rfl (lv_at hl 0 rfl) ?_
  refine va_get (D := D) (ci := 7) (v := .int T_token) (C := RX10) (T := TX10) (N := 19) hx hb hts hi_X10 hown hK hP 0 rfl rfl 8 (by decide) q134 (fun _ h9 => h9) rfl dX10_isEdge_1 ?_
  refine lv_iconst (v := (2 : Int32)) hx hb dX10_isEdge_4 (by decide) ?_
  refine lv_icmp_ne (tgt := 41) hx hb dX10_isEdge_5 (by decide) (fun c1 => ?_) (fun c1 => ?_)
  · have hf := if_f c1 hf
    refine lv_iconst (v := (0 : Int32)) hx hb dX10_isEdge_41 (by decide) ?_
    subst hf
    exact rt_z (ty := .boolean) hx hb hr rfl hlocks hQ hK hP hD hS rfl dX10_isEdge_42
  · have hf := if_t c1 hf
    refine lv_aload_n hx hb dX10_isEdge_8 rfl (lv_at hl 0 rfl) ?_
    refine va_get (D := D) (ci := 7) (v := .int T_many) (C := RX10) (T := TX10) (N := 19) hx hb hts hi_X10 hown hK hP 0 rfl rfl 9 (by decide) q138 (fun _ h9 => h9) rfl dX10_isEdge_9 ?_
    refine lv_iconst (v := (2 : Int32)) hx hb dX10_isEdge_12 (by decide) ?_
    refine lv_icmp_ne (tgt := 41) hx hb dX10_isEdge_13 (by decide) (fun c2 => ?_) (fun c2 => ?_)
    · have hf := if_f c2 hf
      refine lv_iconst (v := (0 : Int32)) hx hb dX10_isEdge_41 (by decide) ?_
      subst hf
      exact rt_z (ty := .boolean) hx hb hr rfl hlocks hQ hK hP hD hS rfl dX10_isEdge_42
    · have hf := if_t c2 hf
      refine lv_aload_n hx hb dX10_isEdge_16 rfl (lv_at hl 0 rfl) ?_
      refine lv_aload_n hx hb dX10_isEdge_17 rfl (lv_at hl 0 rfl) ?_
      refine va_get (D := D) (ci := 7) (v := .int T_number) (C := RX10) (T := TX10) (N := 19) hx hb hts hi_X10 hown hK hP 0 rfl rfl 11 (by decide) q131 (fun _ h9 => h9) rfl dX10_isEdge_18 ?_
      refine lv_bipush (v := (10 : Int32)) hx hb dX10_isEdge_21 (by decide) ?_
      refine lv_idiv hx hb dX10_isEdge_23 (by decide) ?_
      refine lv_aload_n hx hb dX10_isEdge_24 rfl (lv_at hl 0 rfl) ?_
      refine va_get (D := D) (ci := 7) (v := .int T_number) (C := RX10) (T := TX10) (N := 19) hx hb hts hi_X10 hown hK hP 0 rfl rfl 11 (by decide) q131 (fun _ h9 => h9) rfl dX10_isEdge_25 ?_
      refine lv_bipush (v := (10 : Int32)) hx hb dX10_isEdge_28 (by decide) ?_
      refine lv_irem hx hb dX10_isEdge_30 (by decide) ?_
      refine cv_i (ci := 7) (q := (RX10, TX10, 19)) (As := [.int (T_number / (10 : Int32)), .int (T_number - T_number / (10 : Int32) * (10 : Int32))]) (rest := []) hx hb hml hown hts hK hP hD hA hS (kX10_isPair l D cI cC cS Ta Ta_s Ta_past Ta_aside Ta_text Ta_known Ta_then Ta_trip Ta_sent Ta_learned Ta_chosen Ta_decided (T_number / (10 : Int32)) (T_number - T_number / (10 : Int32) * (10 : Int32)) T_s T_past T_aside T_pasts T_text T_typed T_at T_from T_token T_many T_letters T_number T_known T_then T_trip T_sent T_learned T_chosen T_decided (fX10_isPair (T_number / (10 : Int32)) (T_number - T_number / (10 : Int32) * (10 : Int32)) T_s) rfl) (cwV 2 hts gX10_isEdge_X10_isPair rfl rfl rfl (by decide +kernel) (by subst hR; exact ⟨Nat.le_of_ble_eq_true rfl, Nat.le_of_ble_eq_true rfl⟩)) [0, 1, 2, 3, 4, 5, 6, 7, 8, 9, 10, 11] [] [0, 1, 2, 3, 4, 5, 6, 7, 8, 9, 10, 11] [] (sh_X10 Ta Ta_s Ta_past Ta_aside Ta_text Ta_known Ta_then Ta_trip Ta_sent Ta_learned Ta_chosen Ta_decided cI cC cS T_s T_past T_aside T_pasts T_text T_typed T_at T_from T_token T_many T_letters T_number T_known T_then T_trip T_sent T_learned T_chosen T_decided) rfl rfl rfl rfl (by decide) rfl rfl rfl rfl rfl rfl hl.1 rfl (Nat.le_of_ble_eq_true rfl) ⟨Nat.zero_le _, Nat.zero_le _⟩ dX10_isEdge_31 (fun H locs hP hD hS => ?_)
      refine lv_if_eq (tgt := 41) hx hb dX10_isEdge_34 (by decide) (fun c3 => ?_) (fun c3 => ?_)
      · have hf := if_t c3 hf
        refine lv_iconst (v := (0 : Int32)) hx hb dX10_isEdge_41 (by decide) ?_
        subst hf
        exact rt_z (ty := .boolean) hx hb hr rfl hlocks hQ hK hP hD hS rfl dX10_isEdge_42
      · have hf := if_f c3 hf
        refine lv_iconst (v := (1 : Int32)) hx hb dX10_isEdge_37 (by decide) ?_
        refine lv_goto (tgt := 42) hx hb dX10_isEdge_38 (by decide) ?_
        subst hf
        exact rt_z (ty := .boolean) hx hb hr rfl hlocks hQ hK hP hD hS rfl dX10_isEdge_42
