set_option maxRecDepth 100000 in
set_option maxHeartbeats 4000000 in
theorem kX10_isWord (l : Launch) (D : va_G) (cI cC cS : ClassId) (Ta Ta_s Ta_past Ta_aside Ta_text Ta_known Ta_then Ta_trip Ta_sent Ta_learned Ta_chosen Ta_decided : Nat) (x1 : Int32) (x2 : Int64) (T_s : Nat → Int32) (T_past : Nat → Int32) (T_aside : Nat → Int32) (T_pasts : Int32) (T_text : Nat → Int32) (T_typed : Int32) (T_at : Int32) (T_from : Int32) (T_token : Int32) (T_many : Int32) (T_letters : Int64) (T_number : Int32) (T_known : Nat → Int32) (T_then : Nat → Int32) (T_trip : Nat → Int32) (T_sent : Nat → Int32) (T_learned : Nat → Int32) (T_chosen : Nat → Int32) (T_decided : Nat → Int32) (o : Bool) (hf : fX10_isWord x1 x2 T_token T_many T_letters = o) : CI l D yX10_isWord wsX10_isWord ({ frames := 0, cells := 0, slots := 0, locals := 0 } : Room) (tysK cI cC cS) [.ref Ta, .int x1, .long x2] (sh_X10 Ta Ta_s Ta_past Ta_aside Ta_text Ta_known Ta_then Ta_trip Ta_sent Ta_learned Ta_chosen Ta_decided cI cC cS T_s T_past T_aside T_pasts T_text T_typed T_at T_from T_token T_many T_letters T_number T_known T_then T_trip T_sent T_learned T_chosen T_decided) (b2i o) (sh_X10 Ta Ta_s Ta_past Ta_aside Ta_text Ta_known Ta_then Ta_trip Ta_sent Ta_learned Ta_chosen Ta_decided cI cC cS T_s T_past T_aside T_pasts T_text T_typed T_at T_from T_token T_many T_letters T_number T_known T_then T_trip T_sent T_learned T_chosen T_decided) := by
  refine met_i (cc := cX10_isWord) (maxL := 4) (ret := (some .boolean)) (by decide) rfl (Nat.le_of_ble_eq_true rfl) ?_
  intro p e s m args below meth c R Q A F hR hQ hP hK hD hA hS ls hl
  obtain ⟨hx, hb, hr, hts, hml, hlocks, hown⟩ := F
  have hown : s.vm.findClass RX10 = some m.cls := hown
  have hi_X10 : ∀ w ∈ u_ws RX10 TX10 19, w ∈ wsX10_isWord := fun w h => List.mem_cons_of_mem _ (List.mem_append_right _ h)
  have q134 := hts (.fieldLink RX10 134 "ChangingRoundsModel" "token" "I") (by decide +kernel)
  have q138 := hts (.fieldLink RX10 138 "ChangingRoundsModel" "many" "I") (by decide +kernel)
  have q127 := hts (.fieldLink RX10 127 "ChangingRoundsModel" "letters" "J") (by decide +kernel)
  have hl : lv_has ls 4 [(0, .ref Ta), (1, .int x1), (2, .long x2)] := hl
  unfold fX10_isWord at hf
  refine lv_aload_n hx hb dX10_isWord_0 rfl (lv_at hl 0 rfl) ?_
  refine va_get (D := D) (ci := 7) (v := .int T_token) (C := RX10) (T := TX10) (N := 19) hx hb hts hi_X10 hown hK hP 0 rfl rfl 8 (by decide) q134 (fun _ h9 => h9) rfl dX10_isWord_1 ?_
  refine lv_iconst (v := (1 : Int32)) hx hb dX10_isWord_4 (by decide) ?_
  refine lv_icmp_ne (tgt := 29) hx hb dX10_isWord_5 (by decide) (fun c1 => ?_) (fun c1 => ?_)
  · have hf := if_f c1 hf
    refine lv_iconst (v := (0 : Int32)) hx hb dX10_isWord_29 (by decide) ?_
    subst hf
    exact rt_z (ty := .boolean) hx hb hr rfl hlocks hQ hK hP hD hS rfl dX10_isWord_30
  · have hf := if_t c1 hf
    refine lv_aload_n hx hb dX10_isWord_8 rfl (lv_at hl 0 rfl) ?_
    refine va_get (D := D) (ci := 7) (v := .int T_many) (C := RX10) (T := TX10) (N := 19) hx hb hts hi_X10 hown hK hP 0 rfl rfl 9 (by decide) q138 (fun _ h9 => h9) rfl dX10_isWord_9 ?_
    refine lv_iload_n hx hb dX10_isWord_12 rfl (lv_at hl 1 rfl) ?_
    refine lv_icmp_ne (tgt := 29) hx hb dX10_isWord_13 (by decide) (fun c2 => ?_) (fun c2 => ?_)
    · have hf := if_f c2 hf
      refine lv_iconst (v := (0 : Int32)) hx hb dX10_isWord_29 (by decide) ?_
      subst hf
      exact rt_z (ty := .boolean) hx hb hr rfl hlocks hQ hK hP hD hS rfl dX10_isWord_30
    · have hf := if_t c2 hf
      refine lv_aload_n hx hb dX10_isWord_16 rfl (lv_at hl 0 rfl) ?_
      refine va_get (D := D) (ci := 7) (v := .long T_letters) (C := RX10) (T := TX10) (N := 19) hx hb hts hi_X10 hown hK hP 0 rfl rfl 10 (by decide) q127 (fun _ h9 => h9) rfl dX10_isWord_17 ?_
      refine lv_lload_n hx hb dX10_isWord_20 rfl (lv_at hl 2 rfl) ?_
      refine W.lcmp hx hb dX10_isWord_21 ?_
      refine lv_if_ne (tgt := 29) hx hb dX10_isWord_22 (by decide) (fun c3 => ?_) (fun c3 => ?_)
      · have hf := if_f c3 hf
        refine lv_iconst (v := (0 : Int32)) hx hb dX10_isWord_29 (by decide) ?_
        subst hf
        exact rt_z (ty := .boolean) hx hb hr rfl hlocks hQ hK hP hD hS rfl dX10_isWord_30
      · have hf := if_t c3 hf
        refine lv_iconst (v := (1 : Int32)) hx hb dX10_isWord_25 (by decide) ?_
        refine lv_goto (tgt := 30) hx hb dX10_isWord_26 (by decide) ?_
        subst hf
        exact rt_z (ty := .boolean) hx hb hr rfl hlocks hQ hK hP hD hS rfl dX10_isWord_30
set_option maxRecDepth 100000 in
set_option maxHeartbeats 4000000 in
theorem kX10_roundOf (l : Launch) (D : va_G) (cI cC cS : ClassId) (Ta Ta_s Ta_past Ta_aside Ta_text Ta_known Ta_then Ta_trip Ta_sent Ta_learned Ta_chosen Ta_decided : Nat) (T_s : Nat → Int32) (T_past : Nat → Int32) (T_aside : Nat → Int32) (T_pasts : Int32) (T_text : Nat → Int32) (T_typed : Int32) (T_at : Int32) (T_from : Int32) (T_token : Int32) (T_many : Int32) (T_letters : Int64) (T_number : Int32) (T_known : Nat → Int32) (T_then : Nat → Int32) (T_trip : Nat → Int32) (T_sent : Nat → Int32) (T_learned : Nat → Int32) (T_chosen : Nat → Int32) (T_decided : Nat → Int32) (o : Int32) (hf : fX10_roundOf T_s T_token T_many T_letters = some o) : CI l D yX10_roundOf wsX10_roundOf ({ frames := 2, cells := 0, slots := 0, locals := 45 } : Room) (tysK cI cC cS) [.ref Ta] (sh_X10 Ta Ta_s Ta_past Ta_aside Ta_text Ta_known Ta_then Ta_trip Ta_sent Ta_learned Ta_chosen Ta_decided cI cC cS T_s T_past T_aside T_pasts T_text T_typed T_at T_from T_token T_many T_letters T_number T_known T_then T_trip T_sent T_learned T_chosen T_decided) o (sh_X10 Ta Ta_s Ta_past Ta_aside Ta_text Ta_known Ta_then Ta_trip Ta_sent Ta_learned Ta_chosen Ta_decided cI cC cS T_s T_past T_aside T_pasts T_text T_typed T_at T_from T_token T_many T_letters T_number T_known T_then T_trip T_sent T_learned T_chosen T_decided) := by
  refine met_i (cc := cX10_roundOf) (maxL := 2) (ret := (some .int)) (by decide) rfl (Nat.le_of_ble_eq_true rfl) ?_
  intro p e s m args below meth c R Q A F hR hQ hP hK hD hA hS ls hl
  obtain ⟨hx, hb, hr, hts, hml, hlocks, hown⟩ := F
  have hown : s.vm.findClass RX10 = some m.cls := hown
  have hi_X10 : ∀ w ∈ u_ws RX10 TX10 19, w ∈ wsX10_roundOf := fun w h => List.mem_cons_of_mem _ (List.mem_append_right _ h)
  have qc141 := hts (.constantLong RX10 141 (1852796517)) (by decide +kernel)
  have qc147 := hts (.constantLong RX10 147 (1718971500)) (by decide +kernel)
  have qc149 := hts (.constantLong RX10 149 (1885434984)) (by decide +kernel)
  have qc151 := hts (.constantLong RX10 151 (1919512167)) (by decide +kernel)
  have q7 := hts (.fieldLink RX10 7 "ChangingRoundsModel" "s" "[I") (by decide +kernel)
  have hl : lv_has ls 2 [(0, .ref Ta)] := hl
  unfold fX10_roundOf at hf
  refine lv_aload_n hx hb dX10_roundOf_0 rfl (lv_at hl 0 rfl) ?_
  refine lv_aload_n hx hb dX10_roundOf_1 rfl (lv_at hl 0 rfl) ?_
  refine cv_i (ci := 7) (q := (RX10, TX10, 19)) (As := []) (rest := [.ref Ta]) hx hb hml hown hts hK hP hD hA hS (kX10_all l D cI cC cS Ta Ta_s Ta_past Ta_aside Ta_text Ta_known Ta_then Ta_trip Ta_sent Ta_learned Ta_chosen Ta_decided  T_s T_past T_aside T_pasts T_text T_typed T_at T_from T_token T_many T_letters T_number T_known T_then T_trip T_sent T_learned T_chosen T_decided (fX10_all T_s) rfl) (cwV 0 hts gX10_roundOf_X10_all rfl rfl rfl (by decide +kernel) (by subst hR; exact ⟨Nat.le_of_ble_eq_true rfl, Nat.le_of_ble_eq_true rfl⟩)) [0, 1, 2, 3, 4, 5, 6, 7, 8, 9, 10, 11] [] [0, 1, 2, 3, 4, 5, 6, 7, 8, 9, 10, 11] [] (sh_X10 Ta Ta_s Ta_past Ta_aside Ta_text Ta_known Ta_then Ta_trip Ta_sent Ta_learned Ta_chosen Ta_decided cI cC cS T_s T_past T_aside T_pasts T_text T_typed T_at T_from T_token T_many T_letters T_number T_known T_then T_trip T_sent T_learned T_chosen T_decided) rfl rfl rfl rfl (by decide) rfl rfl rfl rfl rfl rfl hl.1 rfl (Nat.le_of_ble_eq_true rfl) ⟨Nat.zero_le _, Nat.zero_le _⟩ dX10_roundOf_2 (fun H locs hP hD hS => ?_)
  obtain ⟨o1, ho1, hf⟩ := bd_some hf
  refine cv_i (ci := 7) (q := (RX10, TX10, 19)) (As := [.int (fX10_all T_s)]) (rest := []) hx hb hml hown hts hK hP hD hA hS (kX10_pathOf l D cI cC cS Ta Ta_s Ta_past Ta_aside Ta_text Ta_known Ta_then Ta_trip Ta_sent Ta_learned Ta_chosen Ta_decided (fX10_all T_s) T_s T_past T_aside T_pasts T_text T_typed T_at T_from T_token T_many T_letters T_number T_known T_then T_trip T_sent T_learned T_chosen T_decided o1 ho1) (cwV 1 hts gX10_roundOf_X10_pathOf rfl rfl rfl (by decide +kernel) (by subst hR; exact ⟨Nat.le_of_ble_eq_true rfl, Nat.le_of_ble_eq_true rfl⟩)) [0, 1, 2, 3, 4, 5, 6, 7, 8, 9, 10, 11] [] [0, 1, 2, 3, 4, 5, 6, 7, 8, 9, 10, 11] [] (sh_X10 Ta Ta_s Ta_past Ta_aside Ta_text Ta_known Ta_then Ta_trip Ta_sent Ta_learned Ta_chosen Ta_decided cI cC cS T_s T_past T_aside T_pasts T_text T_typed T_at T_from T_token T_many T_letters T_number T_known T_then T_trip T_sent T_learned T_chosen T_decided) rfl rfl rfl rfl (by decide) rfl rfl rfl rfl rfl rfl hl.1 rfl (Nat.le_of_ble_eq_true rfl) ⟨Nat.zero_le _, Nat.zero_le _⟩ dX10_roundOf_5 (fun H locs hP hD hS => ?_)
  refine lv_istore_n (lv' := [(1, .int o1), (0, .ref Ta)]) hx hb dX10_roundOf_8 rfl hl (by decide) rfl (fun ls hl => ?_)
  refine lv_aload_n hx hb dX10_roundOf_9 rfl (lv_at hl 1 rfl) ?_
  refine lv_iconst (v := (4 : Int32)) hx hb dX10_roundOf_10 (by decide) ?_
  refine lv_ldc2 hx hb hown qc141 dX10_roundOf_11 ?_
  refine cv_i (ci := 7) (q := (RX10, TX10, 19)) (As := [.int (4 : Int32), .long (1852796517 : Int64)]) (rest := []) hx hb hml hown hts hK hP hD hA hS (kX10_isWord l D cI cC cS Ta Ta_s Ta_past Ta_aside Ta_text Ta_known Ta_then Ta_trip Ta_sent Ta_learned Ta_chosen Ta_decided (4 : Int32) (1852796517 : Int64) T_s T_past T_aside T_pasts T_text T_typed T_at T_from T_token T_many T_letters T_number T_known T_then T_trip T_sent T_learned T_chosen T_decided (fX10_isWord (4 : Int32) (1852796517 : Int64) T_token T_many T_letters) rfl) (cwV 2 hts gX10_roundOf_X10_isWord rfl rfl rfl (by decide +kernel) (by subst hR; exact ⟨Nat.le_of_ble_eq_true rfl, Nat.le_of_ble_eq_true rfl⟩)) [0, 1, 2, 3, 4, 5, 6, 7, 8, 9, 10, 11] [] [0, 1, 2, 3, 4, 5, 6, 7, 8, 9, 10, 11] [] (sh_X10 Ta Ta_s Ta_past Ta_aside Ta_text Ta_known Ta_then Ta_trip Ta_sent Ta_learned Ta_chosen Ta_decided cI cC cS T_s T_past T_aside T_pasts T_text T_typed T_at T_from T_token T_many T_letters T_number T_known T_then T_trip T_sent T_learned T_chosen T_decided) rfl rfl rfl rfl (by decide) rfl rfl rfl rfl rfl rfl hl.1 rfl (Nat.le_of_ble_eq_true rfl) ⟨Nat.zero_le _, Nat.zero_le _⟩ dX10_roundOf_14 (fun H locs hP hD hS => ?_)
  refine lv_if_eq (tgt := 22) hx hb dX10_roundOf_17 (by decide) (fun c2 => ?_) (fun c2 => ?_)
  · have hf := if_t c2 hf
    refine lv_aload_n hx hb dX10_roundOf_22 rfl (lv_at hl 1 rfl) ?_
    refine lv_iconst (v := (4 : Int32)) hx hb dX10_roundOf_23 (by decide) ?_
    refine lv_ldc2 hx hb hown qc147 dX10_roundOf_24 ?_
    refine cv_i (ci := 7) (q := (RX10, TX10, 19)) (As := [.int (4 : Int32), .long (1718971500 : Int64)]) (rest := []) hx hb hml hown hts hK hP hD hA hS (kX10_isWord l D cI cC cS Ta Ta_s Ta_past Ta_aside Ta_text Ta_known Ta_then Ta_trip Ta_sent Ta_learned Ta_chosen Ta_decided (4 : Int32) (1718971500 : Int64) T_s T_past T_aside T_pasts T_text T_typed T_at T_from T_token T_many T_letters T_number T_known T_then T_trip T_sent T_learned T_chosen T_decided (fX10_isWord (4 : Int32) (1718971500 : Int64) T_token T_many T_letters) rfl) (cwV 2 hts gX10_roundOf_X10_isWord rfl rfl rfl (by decide +kernel) (by subst hR; exact ⟨Nat.le_of_ble_eq_true rfl, Nat.le_of_ble_eq_true rfl⟩)) [0, 1, 2, 3, 4, 5, 6, 7, 8, 9, 10, 11] [] [0, 1, 2, 3, 4, 5, 6, 7, 8, 9, 10, 11] [] (sh_X10 Ta Ta_s Ta_past Ta_aside Ta_text Ta_known Ta_then Ta_trip Ta_sent Ta_learned Ta_chosen Ta_decided cI cC cS T_s T_past T_aside T_pasts T_text T_typed T_at T_from T_token T_many T_letters T_number T_known T_then T_trip T_sent T_learned T_chosen T_decided) rfl rfl rfl rfl (by decide) rfl rfl rfl rfl rfl rfl hl.1 rfl (Nat.le_of_ble_eq_true rfl) ⟨Nat.zero_le _, Nat.zero_le _⟩ dX10_roundOf_27 (fun H locs hP hD hS => ?_)
    refine lv_if_eq (tgt := 42) hx hb dX10_roundOf_30 (by decide) (fun c3 => ?_) (fun c3 => ?_)
    · have hf := if_t c3 hf
      refine lv_aload_n hx hb dX10_roundOf_42 rfl (lv_at hl 1 rfl) ?_
      refine lv_iconst (v := (4 : Int32)) hx hb dX10_roundOf_43 (by decide) ?_
      refine lv_ldc2 hx hb hown qc149 dX10_roundOf_44 ?_
      refine cv_i (ci := 7) (q := (RX10, TX10, 19)) (As := [.int (4 : Int32), .long (1885434984 : Int64)]) (rest := []) hx hb hml hown hts hK hP hD hA hS (kX10_isWord l D cI cC cS Ta Ta_s Ta_past Ta_aside Ta_text Ta_known Ta_then Ta_trip Ta_sent Ta_learned Ta_chosen Ta_decided (4 : Int32) (1885434984 : Int64) T_s T_past T_aside T_pasts T_text T_typed T_at T_from T_token T_many T_letters T_number T_known T_then T_trip T_sent T_learned T_chosen T_decided (fX10_isWord (4 : Int32) (1885434984 : Int64) T_token T_many T_letters) rfl) (cwV 2 hts gX10_roundOf_X10_isWord rfl rfl rfl (by decide +kernel) (by subst hR; exact ⟨Nat.le_of_ble_eq_true rfl, Nat.le_of_ble_eq_true rfl⟩)) [0, 1, 2, 3, 4, 5, 6, 7, 8, 9, 10, 11] [] [0, 1, 2, 3, 4, 5, 6, 7, 8, 9, 10, 11] [] (sh_X10 Ta Ta_s Ta_past Ta_aside Ta_text Ta_known Ta_then Ta_trip Ta_sent Ta_learned Ta_chosen Ta_decided cI cC cS T_s T_past T_aside T_pasts T_text T_typed T_at T_from T_token T_many T_letters T_number T_known T_then T_trip T_sent T_learned T_chosen T_decided) rfl rfl rfl rfl (by decide) rfl rfl rfl rfl rfl rfl hl.1 rfl (Nat.le_of_ble_eq_true rfl) ⟨Nat.zero_le _, Nat.zero_le _⟩ dX10_roundOf_47 (fun H locs hP hD hS => ?_)
      refine lv_if_eq (tgt := 55) hx hb dX10_roundOf_50 (by decide) (fun c4 => ?_) (fun c4 => ?_)
      · have hf := if_t c4 hf
        refine lv_aload_n hx hb dX10_roundOf_55 rfl (lv_at hl 1 rfl) ?_
        refine lv_iconst (v := (4 : Int32)) hx hb dX10_roundOf_56 (by decide) ?_
        refine lv_ldc2 hx hb hown qc151 dX10_roundOf_57 ?_
        refine cv_i (ci := 7) (q := (RX10, TX10, 19)) (As := [.int (4 : Int32), .long (1919512167 : Int64)]) (rest := []) hx hb hml hown hts hK hP hD hA hS (kX10_isWord l D cI cC cS Ta Ta_s Ta_past Ta_aside Ta_text Ta_known Ta_then Ta_trip Ta_sent Ta_learned Ta_chosen Ta_decided (4 : Int32) (1919512167 : Int64) T_s T_past T_aside T_pasts T_text T_typed T_at T_from T_token T_many T_letters T_number T_known T_then T_trip T_sent T_learned T_chosen T_decided (fX10_isWord (4 : Int32) (1919512167 : Int64) T_token T_many T_letters) rfl) (cwV 2 hts gX10_roundOf_X10_isWord rfl rfl rfl (by decide +kernel) (by subst hR; exact ⟨Nat.le_of_ble_eq_true rfl, Nat.le_of_ble_eq_true rfl⟩)) [0, 1, 2, 3, 4, 5, 6, 7, 8, 9, 10, 11] [] [0, 1, 2, 3, 4, 5, 6, 7, 8, 9, 10, 11] [] (sh_X10 Ta Ta_s Ta_past Ta_aside Ta_text Ta_known Ta_then Ta_trip Ta_sent Ta_learned Ta_chosen Ta_decided cI cC cS T_s T_past T_aside T_pasts T_text T_typed T_at T_from T_token T_many T_letters T_number T_known T_then T_trip T_sent T_learned T_chosen T_decided) rfl rfl rfl rfl (by decide) rfl rfl rfl rfl rfl rfl hl.1 rfl (Nat.le_of_ble_eq_true rfl) ⟨Nat.zero_le _, Nat.zero_le _⟩ dX10_roundOf_60 (fun H locs hP hD hS => ?_)
        refine lv_if_eq (tgt := 95) hx hb dX10_roundOf_63 (by decide) (fun c5 => ?_) (fun c5 => ?_)
        · have hf := if_t c5 hf
          refine lv_bipush (v := (-9 : Int32)) hx hb dX10_roundOf_95 (by decide) ?_
          have hf := Option.some.inj hf
          subst hf
          exact rt_i hx hb hr hlocks hQ hK hP hD hS rfl dX10_roundOf_97
        · have hf := if_f c5 hf
          refine lv_iload_n hx hb dX10_roundOf_66 rfl (lv_at hl 0 rfl) ?_
          refine lv_aload_n hx hb dX10_roundOf_67 rfl (lv_at hl 1 rfl) ?_
          refine va_get (D := D) (ci := 7) (v := .ref Ta_s) (C := RX10) (T := TX10) (N := 19) hx hb hts hi_X10 hown hK hP 0 rfl rfl 0 (by decide) q7 (fun _ h9 => h9) rfl dX10_roundOf_68 ?_
          refine lv_iconst (v := (0 : Int32)) hx hb dX10_roundOf_71 (by decide) ?_
          refine sx_iald (j := 0) hx hb hK hP 1 0 rfl rfl (inb_vp (by decide)) (by decide) dX10_roundOf_72 ?_
          refine lv_iconst (v := (2 : Int32)) hx hb dX10_roundOf_73 (by decide) ?_
          refine lv_icmp_le (tgt := 92) hx hb dX10_roundOf_74 (by decide) (fun c6 => ?_) (fun c6 => ?_)
          · have hf := if_t c6 hf
            refine lv_iconst (v := (0 : Int32)) hx hb dX10_roundOf_92 (by decide) ?_
            refine lv_ior hx hb dX10_roundOf_93 ?_
            have hf := Option.some.inj hf
            subst hf
            exact rt_i hx hb hr hlocks hQ hK hP hD hS rfl dX10_roundOf_94
          · have hf := if_f c6 hf
            refine lv_iconst (v := (0 : Int32)) hx hb dX10_roundOf_77 (by decide) ?_
            refine lv_aload_n hx hb dX10_roundOf_78 rfl (lv_at hl 1 rfl) ?_
            refine va_get (D := D) (ci := 7) (v := .ref Ta_s) (C := RX10) (T := TX10) (N := 19) hx hb hts hi_X10 hown hK hP 0 rfl rfl 0 (by decide) q7 (fun _ h9 => h9) rfl dX10_roundOf_79 ?_
            refine lv_iconst (v := (0 : Int32)) hx hb dX10_roundOf_82 (by decide) ?_
            refine sx_iald (j := 0) hx hb hK hP 1 0 rfl rfl (inb_vp (by decide)) (by decide) dX10_roundOf_83 ?_
            refine lv_iconst (v := (1 : Int32)) hx hb dX10_roundOf_84 (by decide) ?_
            refine lv_isub hx hb dX10_roundOf_85 ?_
            refine cs_i (As := [.int (0 : Int32), .int ((T_s 0) - (1 : Int32))]) (rest := [.int o1]) hx hb hml hown hts hK hP hD hA hS (kX10_pair l D cI cC cS  (0 : Int32) ((T_s 0) - (1 : Int32))  (fX10_pair (0 : Int32) ((T_s 0) - (1 : Int32))) rfl) (va_cwS 2 hts gX10_roundOf_X10_pair rfl rfl rfl (by decide +kernel) (by subst hR; exact ⟨Nat.le_of_ble_eq_true rfl, Nat.le_of_ble_eq_true rfl⟩)) rfl hl.1 rfl (Nat.le_of_ble_eq_true rfl) ⟨Nat.zero_le _, Nat.zero_le _⟩ dX10_roundOf_86 (fun H locs hP hD hS => ?_)
            refine lv_goto (tgt := 93) hx hb dX10_roundOf_89 (by decide) ?_
            refine lv_ior hx hb dX10_roundOf_93 ?_
            have hf := Option.some.inj hf
            subst hf
            exact rt_i hx hb hr hlocks hQ hK hP hD hS rfl dX10_roundOf_94
      · have hf := if_f c4 hf
        refine lv_iload_n hx hb dX10_roundOf_53 rfl (lv_at hl 0 rfl) ?_
        have hf := Option.some.inj hf
        subst hf
        exact rt_i hx hb hr hlocks hQ hK hP hD hS rfl dX10_roundOf_54
    · have hf := if_f c3 hf
      refine lv_aload_n hx hb dX10_roundOf_33 rfl (lv_at hl 1 rfl) ?_
      refine lv_aload_n hx hb dX10_roundOf_34 rfl (lv_at hl 1 rfl) ?_
      refine cv_i (ci := 7) (q := (RX10, TX10, 19)) (As := []) (rest := [.ref Ta]) hx hb hml hown hts hK hP hD hA hS (kX10_all l D cI cC cS Ta Ta_s Ta_past Ta_aside Ta_text Ta_known Ta_then Ta_trip Ta_sent Ta_learned Ta_chosen Ta_decided  T_s T_past T_aside T_pasts T_text T_typed T_at T_from T_token T_many T_letters T_number T_known T_then T_trip T_sent T_learned T_chosen T_decided (fX10_all T_s) rfl) (cwV 0 hts gX10_roundOf_X10_all rfl rfl rfl (by decide +kernel) (by subst hR; exact ⟨Nat.le_of_ble_eq_true rfl, Nat.le_of_ble_eq_true rfl⟩)) [0, 1, 2, 3, 4, 5, 6, 7, 8, 9, 10, 11] [] [0, 1, 2, 3, 4, 5, 6, 7, 8, 9, 10, 11] [] (sh_X10 Ta Ta_s Ta_past Ta_aside Ta_text Ta_known Ta_then Ta_trip Ta_sent Ta_learned Ta_chosen Ta_decided cI cC cS T_s T_past T_aside T_pasts T_text T_typed T_at T_from T_token T_many T_letters T_number T_known T_then T_trip T_sent T_learned T_chosen T_decided) rfl rfl rfl rfl (by decide) rfl rfl rfl rfl rfl rfl hl.1 rfl (Nat.le_of_ble_eq_true rfl) ⟨Nat.zero_le _, Nat.zero_le _⟩ dX10_roundOf_35 (fun H locs hP hD hS => ?_)
      obtain ⟨o7, ho7, hf⟩ := bd_some hf
      refine cv_i (ci := 7) (q := (RX10, TX10, 19)) (As := [.int (fX10_all T_s)]) (rest := []) hx hb hml hown hts hK hP hD hA hS (kX10_clique l D cI cC cS Ta Ta_s Ta_past Ta_aside Ta_text Ta_known Ta_then Ta_trip Ta_sent Ta_learned Ta_chosen Ta_decided (fX10_all T_s) T_s T_past T_aside T_pasts T_text T_typed T_at T_from T_token T_many T_letters T_number T_known T_then T_trip T_sent T_learned T_chosen T_decided o7 ho7) (cwV 1 hts gX10_roundOf_X10_clique rfl rfl rfl (by decide +kernel) (by subst hR; exact ⟨Nat.le_of_ble_eq_true rfl, Nat.le_of_ble_eq_true rfl⟩)) [0, 1, 2, 3, 4, 5, 6, 7, 8, 9, 10, 11] [] [0, 1, 2, 3, 4, 5, 6, 7, 8, 9, 10, 11] [] (sh_X10 Ta Ta_s Ta_past Ta_aside Ta_text Ta_known Ta_then Ta_trip Ta_sent Ta_learned Ta_chosen Ta_decided cI cC cS T_s T_past T_aside T_pasts T_text T_typed T_at T_from T_token T_many T_letters T_number T_known T_then T_trip T_sent T_learned T_chosen T_decided) rfl rfl rfl rfl (by decide) rfl rfl rfl rfl rfl rfl hl.1 rfl (Nat.le_of_ble_eq_true rfl) ⟨Nat.zero_le _, Nat.zero_le _⟩ dX10_roundOf_38 (fun H locs hP hD hS => ?_)
      have hf := Option.some.inj hf
      subst hf
      exact rt_i hx hb hr hlocks hQ hK hP hD hS rfl dX10_roundOf_41
  · have hf := if_f c2 hf
    refine lv_iconst (v := (0 : Int32)) hx hb dX10_roundOf_20 (by decide) ?_
    have hf := Option.some.inj hf
    subst hf
    exact rt_i hx hb hr hlocks hQ hK hP hD hS rfl dX10_roundOf_21
set_option maxRecDepth 100000 in
set_option maxHeartbeats 4000000 in
theorem kX10_isRepeat (l : Launch) (D : va_G) (cI cC cS : ClassId) (Ta Ta_s Ta_past Ta_aside Ta_text Ta_known Ta_then Ta_trip Ta_sent Ta_learned Ta_chosen Ta_decided : Nat) (T_s : Nat → Int32) (T_past : Nat → Int32) (T_aside : Nat → Int32) (T_pasts : Int32) (T_text : Nat → Int32) (T_typed : Int32) (T_at : Int32) (T_from : Int32) (T_token : Int32) (T_many : Int32) (T_letters : Int64) (T_number : Int32) (T_known : Nat → Int32) (T_then : Nat → Int32) (T_trip : Nat → Int32) (T_sent : Nat → Int32) (T_learned : Nat → Int32) (T_chosen : Nat → Int32) (T_decided : Nat → Int32) (o : Bool × (Nat → Int32) × Int32 × Int32 × Int32 × Int32 × Int64 × Int32) (hf : fX10_isRepeat T_s T_text T_typed T_at T_from T_token T_many T_letters T_number = some o) : CI l D yX10_isRepeat wsX10_isRepeat ({ frames := 3, cells := 0, slots := 0, locals := 64 } : Room) (tysK cI cC cS) [.ref Ta] (sh_X10 Ta Ta_s Ta_past Ta_aside Ta_text Ta_known Ta_then Ta_trip Ta_sent Ta_learned Ta_chosen Ta_decided cI cC cS T_s T_past T_aside T_pasts T_text T_typed T_at T_from T_token T_many T_letters T_number T_known T_then T_trip T_sent T_learned T_chosen T_decided) (b2i o.1) (sh_X10 Ta Ta_s Ta_past Ta_aside Ta_text Ta_known Ta_then Ta_trip Ta_sent Ta_learned Ta_chosen Ta_decided cI cC cS o.2.1 T_past T_aside T_pasts T_text T_typed o.2.2.1 o.2.2.2.1 o.2.2.2.2.1 o.2.2.2.2.2.1 o.2.2.2.2.2.2.1 o.2.2.2.2.2.2.2 T_known T_then T_trip T_sent T_learned T_chosen T_decided) := by
  refine met_i (cc := cX10_isRepeat) (maxL := 3) (ret := (some .boolean)) (by decide) rfl (Nat.le_of_ble_eq_true rfl) ?_
  intro p e s m args below meth c R Q A F hR hQ hP hK hD hA hS ls hl
  obtain ⟨hx, hb, hr, hts, hml, hlocks, hown⟩ := F
  have hown : s.vm.findClass RX10 = some m.cls := hown
  have hi_X10 : ∀ w ∈ u_ws RX10 TX10 19, w ∈ wsX10_isRepeat := fun w h => List.mem_cons_of_mem _ (List.mem_append_right _ h)
  have q7 := hts (.fieldLink RX10 7 "ChangingRoundsModel" "s" "[I") (by decide +kernel)
  have q131 := hts (.fieldLink RX10 131 "ChangingRoundsModel" "number" "I") (by decide +kernel)
  have q134 := hts (.fieldLink RX10 134 "ChangingRoundsModel" "token" "I") (by decide +kernel)
  have hl : lv_has ls 3 [(0, .ref Ta)] := hl
  unfold fX10_isRepeat at hf
  have L39 : ∀ (x1 : Int32) (T_at : Int32) (T_from : Int32) (T_token : Int32) (T_many : Int32) (T_letters : Int64) (T_number : Int32) (n39 : Nat) (x2 : Int32) (T_s : Nat → Int32) (H : Heap) (locs : List Loc) (ls : Array Slot), fX10_isRepeat_l39 x1 T_text T_typed T_at T_from T_token T_many T_letters T_number n39 x2 T_s = some o → va_P D vwCl (sh_X10 Ta Ta_s Ta_past Ta_aside Ta_text Ta_known Ta_then Ta_trip Ta_sent Ta_learned Ta_chosen Ta_decided cI cC cS T_s T_past T_aside T_pasts T_text T_typed T_at T_from T_token T_many T_letters T_number T_known T_then T_trip T_sent T_learned T_chosen T_decided) H → va_D A (sh_X10 Ta Ta_s Ta_past Ta_aside Ta_text Ta_known Ta_then Ta_trip Ta_sent Ta_learned Ta_chosen Ta_decided cI cC cS T_s T_past T_aside T_pasts T_text T_typed T_at T_from T_token T_many T_letters T_number T_known T_then T_trip T_sent T_learned T_chosen T_decided) → va_S A s.heap H locs → lv_has ls 3 [(0, .ref Ta), (1, .int x1), (2, .int x2)] → W p l e R s m args below meth c H locs 0 0 Q (F0 m 39 ls []) := by
    intro x1 T_at T_from T_token T_many T_letters T_number n39
    induction n39 with
    | zero => intro x2 T_s H locs ls hf; cases (show (none : Option _) = some _ from hf)
    | succ n39 ih39 =>
      intro x2 T_s H locs ls hf hP hD hS hl
      rw [fX10_isRepeat_l39] at hf
      refine lv_iload_n hx hb dX10_isRepeat_39 rfl (lv_at hl 2 rfl) ?_
      refine lv_iload_n hx hb dX10_isRepeat_40 rfl (lv_at hl 1 rfl) ?_
      refine lv_icmp_ge (tgt := 69) hx hb dX10_isRepeat_41 (by decide) (fun c1 => ?_) (fun c1 => ?_)
      · have hf := if_t c1 hf
        refine lv_aload_n hx hb dX10_isRepeat_69 rfl (lv_at hl 0 rfl) ?_
        obtain ⟨o2, ho2, hf⟩ := bd_some hf
        refine cv_v (ci := 7) (q := (RX10, TX10, 19)) (As := []) (rest := []) hx hb hml hown hts hK hP hD hA hS (kX10_reads l D cI cC cS Ta Ta_s Ta_past Ta_aside Ta_text Ta_known Ta_then Ta_trip Ta_sent Ta_learned Ta_chosen Ta_decided  T_s T_past T_aside T_pasts T_text T_typed T_at T_from T_token T_many T_letters T_number T_known T_then T_trip T_sent T_learned T_chosen T_decided o2 ho2) (cwV 0 hts gX10_isRepeat_X10_reads rfl rfl rfl (by decide +kernel) (by subst hR; exact ⟨Nat.le_of_ble_eq_true rfl, Nat.le_of_ble_eq_true rfl⟩)) [0, 1, 2, 3, 4, 5, 6, 7, 8, 9, 10, 11] [] [0, 1, 2, 3, 4, 5, 6, 7, 8, 9, 10, 11] [] (sh_X10 Ta Ta_s Ta_past Ta_aside Ta_text Ta_known Ta_then Ta_trip Ta_sent Ta_learned Ta_chosen Ta_decided cI cC cS T_s T_past T_aside T_pasts T_text T_typed o2.1 o2.2.1 o2.2.2.1 o2.2.2.2.1 o2.2.2.2.2.1 o2.2.2.2.2.2 T_known T_then T_trip T_sent T_learned T_chosen T_decided) rfl rfl rfl rfl (by decide) rfl rfl rfl rfl rfl rfl hl.1 rfl (Nat.le_of_ble_eq_true rfl) ⟨Nat.zero_le _, Nat.zero_le _⟩ dX10_isRepeat_70 (fun H locs hP hD hS => ?_)
        refine lv_aload_n hx hb dX10_isRepeat_73 rfl (lv_at hl 0 rfl) ?_
        refine va_get (D := D) (ci := 7) (v := .int o2.2.2.1) (C := RX10) (T := TX10) (N := 19) hx hb hts hi_X10 hown hK hP 0 rfl rfl 8 (by decide) q134 (fun _ h9 => h9) rfl dX10_isRepeat_74 ?_
        refine lv_iconst (v := (3 : Int32)) hx hb dX10_isRepeat_77 (by decide) ?_
        refine lv_icmp_ne (tgt := 85) hx hb dX10_isRepeat_78 (by decide) (fun c3 => ?_) (fun c3 => ?_)
        · have hf := if_f c3 hf
          refine lv_iconst (v := (0 : Int32)) hx hb dX10_isRepeat_85 (by decide) ?_
          have hf := Option.some.inj hf
          subst hf
          exact rt_z (ty := .boolean) hx hb hr rfl hlocks hQ hK hP hD hS rfl dX10_isRepeat_86
        · have hf := if_t c3 hf
          refine lv_iconst (v := (1 : Int32)) hx hb dX10_isRepeat_81 (by decide) ?_
          refine lv_goto (tgt := 86) hx hb dX10_isRepeat_82 (by decide) ?_
          have hf := Option.some.inj hf
          subst hf
          exact rt_z (ty := .boolean) hx hb hr rfl hlocks hQ hK hP hD hS rfl dX10_isRepeat_86
      · have hf := if_f c1 hf
        refine lv_aload_n hx hb dX10_isRepeat_44 rfl (lv_at hl 0 rfl) ?_
        refine lv_aload_n hx hb dX10_isRepeat_45 rfl (lv_at hl 0 rfl) ?_
        refine va_get (D := D) (ci := 7) (v := .ref Ta_s) (C := RX10) (T := TX10) (N := 19) hx hb hts hi_X10 hown hK hP 0 rfl rfl 0 (by decide) q7 (fun _ h9 => h9) rfl dX10_isRepeat_46 ?_
        refine lv_iconst (v := (2 : Int32)) hx hb dX10_isRepeat_49 (by decide) ?_
        refine lv_aload_n hx hb dX10_isRepeat_50 rfl (lv_at hl 0 rfl) ?_
        refine va_get (D := D) (ci := 7) (v := .ref Ta_s) (C := RX10) (T := TX10) (N := 19) hx hb hts hi_X10 hown hK hP 0 rfl rfl 0 (by decide) q7 (fun _ h9 => h9) rfl dX10_isRepeat_51 ?_
        refine lv_iconst (v := (1 : Int32)) hx hb dX10_isRepeat_54 (by decide) ?_
        refine sx_iald (j := 1) hx hb hK hP 1 0 rfl rfl (inb_vp (by decide)) (by decide) dX10_isRepeat_55 ?_
        refine lv_iadd hx hb dX10_isRepeat_56 ?_
        refine lv_iconst (v := (1 : Int32)) hx hb dX10_isRepeat_57 (by decide) ?_
        refine lv_isub hx hb dX10_isRepeat_58 ?_
        obtain ⟨hz, hf⟩ := ck_some hf
        refine sx_iald (j := (((2 : Int32) + (T_s 1)) - (1 : Int32)).toNatClampNeg) hx hb hK hP 1 0 rfl rfl (inb_vp hz) rfl dX10_isRepeat_59 ?_
        obtain ⟨o4, ho4, hf⟩ := bd_some hf
        refine cv_v (ci := 7) (q := (RX10, TX10, 19)) (As := [.int (T_s ((((2 : Int32) + (T_s 1)) - (1 : Int32)).toNatClampNeg))]) (rest := []) hx hb hml hown hts hK hP hD hA hS (kX10_adds l D cI cC cS Ta Ta_s Ta_past Ta_aside Ta_text Ta_known Ta_then Ta_trip Ta_sent Ta_learned Ta_chosen Ta_decided (T_s ((((2 : Int32) + (T_s 1)) - (1 : Int32)).toNatClampNeg)) T_s T_past T_aside T_pasts T_text T_typed T_at T_from T_token T_many T_letters T_number T_known T_then T_trip T_sent T_learned T_chosen T_decided o4 ho4) (cwV 1 hts gX10_isRepeat_X10_adds rfl rfl rfl (by decide +kernel) (by subst hR; exact ⟨Nat.le_of_ble_eq_true rfl, Nat.le_of_ble_eq_true rfl⟩)) [0, 1, 2, 3, 4, 5, 6, 7, 8, 9, 10, 11] [] [0, 1, 2, 3, 4, 5, 6, 7, 8, 9, 10, 11] [] (sh_X10 Ta Ta_s Ta_past Ta_aside Ta_text Ta_known Ta_then Ta_trip Ta_sent Ta_learned Ta_chosen Ta_decided cI cC cS o4 T_past T_aside T_pasts T_text T_typed T_at T_from T_token T_many T_letters T_number T_known T_then T_trip T_sent T_learned T_chosen T_decided) rfl rfl rfl rfl (by decide) rfl rfl rfl rfl rfl rfl hl.1 rfl (Nat.le_of_ble_eq_true rfl) ⟨Nat.zero_le _, Nat.zero_le _⟩ dX10_isRepeat_60 (fun H locs hP hD hS => ?_)
        refine lv_iinc (v := (x2 + 1)) (lv' := [(2, .int (x2 + 1)), (0, .ref Ta), (1, .int x1)]) hx hb dX10_isRepeat_63 hl (k := 2) rfl rfl (by decide) rfl (fun ls hl => ?_)
        refine lv_goto (tgt := 39) hx hb dX10_isRepeat_66 (by decide) ?_
        exact ih39 (x2 + 1) o4 _ _ _ hf hP hD hS (lv_sub hl [1, 2, 0] rfl)
  refine lv_aload_n hx hb dX10_isRepeat_0 rfl (lv_at hl 0 rfl) ?_
  obtain ⟨o5, ho5, hf⟩ := bd_some hf
  refine cv_v (ci := 7) (q := (RX10, TX10, 19)) (As := []) (rest := []) hx hb hml hown hts hK hP hD hA hS (kX10_reads l D cI cC cS Ta Ta_s Ta_past Ta_aside Ta_text Ta_known Ta_then Ta_trip Ta_sent Ta_learned Ta_chosen Ta_decided  T_s T_past T_aside T_pasts T_text T_typed T_at T_from T_token T_many T_letters T_number T_known T_then T_trip T_sent T_learned T_chosen T_decided o5 ho5) (cwV 0 hts gX10_isRepeat_X10_reads rfl rfl rfl (by decide +kernel) (by subst hR; exact ⟨Nat.le_of_ble_eq_true rfl, Nat.le_of_ble_eq_true rfl⟩)) [0, 1, 2, 3, 4, 5, 6, 7, 8, 9, 10, 11] [] [0, 1, 2, 3, 4, 5, 6, 7, 8, 9, 10, 11] [] (sh_X10 Ta Ta_s Ta_past Ta_aside Ta_text Ta_known Ta_then Ta_trip Ta_sent Ta_learned Ta_chosen Ta_decided cI cC cS T_s T_past T_aside T_pasts T_text T_typed o5.1 o5.2.1 o5.2.2.1 o5.2.2.2.1 o5.2.2.2.2.1 o5.2.2.2.2.2 T_known T_then T_trip T_sent T_learned T_chosen T_decided) rfl rfl rfl rfl (by decide) rfl rfl rfl rfl rfl rfl hl.1 rfl (Nat.le_of_ble_eq_true rfl) ⟨Nat.zero_le _, Nat.zero_le _⟩ dX10_isRepeat_1 (fun H locs hP hD hS => ?_)
  refine lv_aload_n hx hb dX10_isRepeat_4 rfl (lv_at hl 0 rfl) ?_
  refine lv_iconst (v := (1 : Int32)) hx hb dX10_isRepeat_5 (by decide) ?_
  refine lv_bipush (v := (9 : Int32)) hx hb dX10_isRepeat_6 (by decide) ?_
  refine cv_i (ci := 7) (q := (RX10, TX10, 19)) (As := [.int (1 : Int32), .int (9 : Int32)]) (rest := []) hx hb hml hown hts hK hP hD hA hS (kX10_isDigit l D cI cC cS Ta Ta_s Ta_past Ta_aside Ta_text Ta_known Ta_then Ta_trip Ta_sent Ta_learned Ta_chosen Ta_decided (1 : Int32) (9 : Int32) T_s T_past T_aside T_pasts T_text T_typed o5.1 o5.2.1 o5.2.2.1 o5.2.2.2.1 o5.2.2.2.2.1 o5.2.2.2.2.2 T_known T_then T_trip T_sent T_learned T_chosen T_decided (fX10_isDigit (1 : Int32) (9 : Int32) o5.2.2.1 o5.2.2.2.1 o5.2.2.2.2.2) rfl) (cwV 2 hts gX10_isRepeat_X10_isDigit rfl rfl rfl (by decide +kernel) (by subst hR; exact ⟨Nat.le_of_ble_eq_true rfl, Nat.le_of_ble_eq_true rfl⟩)) [0, 1, 2, 3, 4, 5, 6, 7, 8, 9, 10, 11] [] [0, 1, 2, 3, 4, 5, 6, 7, 8, 9, 10, 11] [] (sh_X10 Ta Ta_s Ta_past Ta_aside Ta_text Ta_known Ta_then Ta_trip Ta_sent Ta_learned Ta_chosen Ta_decided cI cC cS T_s T_past T_aside T_pasts T_text T_typed o5.1 o5.2.1 o5.2.2.1 o5.2.2.2.1 o5.2.2.2.2.1 o5.2.2.2.2.2 T_known T_then T_trip T_sent T_learned T_chosen T_decided) rfl rfl rfl rfl (by decide) rfl rfl rfl rfl rfl rfl hl.1 rfl (Nat.le_of_ble_eq_true rfl) ⟨Nat.zero_le _, Nat.zero_le _⟩ dX10_isRepeat_8 (fun H locs hP hD hS => ?_)
  refine lv_if_eq (tgt := 30) hx hb dX10_isRepeat_11 (by decide) (fun c6 => ?_) (fun c6 => ?_)
  · have hf := if_t c6 hf
    refine lv_iconst (v := (0 : Int32)) hx hb dX10_isRepeat_30 (by decide) ?_
    have hf := Option.some.inj hf
    subst hf
    exact rt_z (ty := .boolean) hx hb hr rfl hlocks hQ hK hP hD hS rfl dX10_isRepeat_31
  · have hf := if_f c6 hf
    refine lv_aload_n hx hb dX10_isRepeat_14 rfl (lv_at hl 0 rfl) ?_
    refine va_get (D := D) (ci := 7) (v := .ref Ta_s) (C := RX10) (T := TX10) (N := 19) hx hb hts hi_X10 hown hK hP 0 rfl rfl 0 (by decide) q7 (fun _ h9 => h9) rfl dX10_isRepeat_15 ?_
    refine lv_iconst (v := (1 : Int32)) hx hb dX10_isRepeat_18 (by decide) ?_
    refine sx_iald (j := 1) hx hb hK hP 1 0 rfl rfl (inb_vp (by decide)) (by decide) dX10_isRepeat_19 ?_
    refine lv_aload_n hx hb dX10_isRepeat_20 rfl (lv_at hl 0 rfl) ?_
    refine va_get (D := D) (ci := 7) (v := .int o5.2.2.2.2.2) (C := RX10) (T := TX10) (N := 19) hx hb hts hi_X10 hown hK hP 0 rfl rfl 11 (by decide) q131 (fun _ h9 => h9) rfl dX10_isRepeat_21 ?_
    refine lv_iadd hx hb dX10_isRepeat_24 ?_
    refine lv_bipush (v := (16 : Int32)) hx hb dX10_isRepeat_25 (by decide) ?_
    refine lv_icmp_le (tgt := 32) hx hb dX10_isRepeat_27 (by decide) (fun c7 => ?_) (fun c7 => ?_)
    · have hf := if_t c7 hf
      refine lv_aload_n hx hb dX10_isRepeat_32 rfl (lv_at hl 0 rfl) ?_
      refine va_get (D := D) (ci := 7) (v := .int o5.2.2.2.2.2) (C := RX10) (T := TX10) (N := 19) hx hb hts hi_X10 hown hK hP 0 rfl rfl 11 (by decide) q131 (fun _ h9 => h9) rfl dX10_isRepeat_33 ?_
      refine lv_istore_n (lv' := [(1, .int o5.2.2.2.2.2), (0, .ref Ta)]) hx hb dX10_isRepeat_36 rfl hl (by decide) rfl (fun ls hl => ?_)
      refine lv_iconst (v := (0 : Int32)) hx hb dX10_isRepeat_37 (by decide) ?_
      refine lv_istore_n (lv' := [(2, .int (0 : Int32)), (1, .int o5.2.2.2.2.2), (0, .ref Ta)]) hx hb dX10_isRepeat_38 rfl hl (by decide) rfl (fun ls hl => ?_)
      exact L39 o5.2.2.2.2.2 o5.1 o5.2.1 o5.2.2.1 o5.2.2.2.1 o5.2.2.2.2.1 o5.2.2.2.2.2 fuel (0 : Int32) T_s _ _ _ hf hP hD hS (lv_sub hl [2, 1, 0] rfl)
    · have hf := if_f c7 hf
      refine lv_iconst (v := (0 : Int32)) hx hb dX10_isRepeat_30 (by decide) ?_
      have hf := Option.some.inj hf
      subst hf
      exact rt_z (ty := .boolean) hx hb hr rfl hlocks hQ hK hP hD hS rfl dX10_isRepeat_31
set_option maxRecDepth 100000 in
set_option maxHeartbeats 4000000 in
theorem kX10_areEdges (l : Launch) (D : va_G) (cI cC cS : ClassId) (Ta Ta_s Ta_past Ta_aside Ta_text Ta_known Ta_then Ta_trip Ta_sent Ta_learned Ta_chosen Ta_decided : Nat) (T_s : Nat → Int32) (T_past : Nat → Int32) (T_aside : Nat → Int32) (T_pasts : Int32) (T_text : Nat → Int32) (T_typed : Int32) (T_at : Int32) (T_from : Int32) (T_token : Int32) (T_many : Int32) (T_letters : Int64) (T_number : Int32) (T_known : Nat → Int32) (T_then : Nat → Int32) (T_trip : Nat → Int32) (T_sent : Nat → Int32) (T_learned : Nat → Int32) (T_chosen : Nat → Int32) (T_decided : Nat → Int32) (o : Bool × (Nat → Int32) × Int32 × Int32 × Int32 × Int32 × Int64 × Int32) (hf : fX10_areEdges T_s T_text T_typed T_at T_from T_token T_many T_letters T_number = some o) : CI l D yX10_areEdges wsX10_areEdges ({ frames := 4, cells := 0, slots := 0, locals := 85 } : Room) (tysK cI cC cS) [.ref Ta] (sh_X10 Ta Ta_s Ta_past Ta_aside Ta_text Ta_known Ta_then Ta_trip Ta_sent Ta_learned Ta_chosen Ta_decided cI cC cS T_s T_past T_aside T_pasts T_text T_typed T_at T_from T_token T_many T_letters T_number T_known T_then T_trip T_sent T_learned T_chosen T_decided) (b2i o.1) (sh_X10 Ta Ta_s Ta_past Ta_aside Ta_text Ta_known Ta_then Ta_trip Ta_sent Ta_learned Ta_chosen Ta_decided cI cC cS o.2.1 T_past T_aside T_pasts T_text T_typed o.2.2.1 o.2.2.2.1 o.2.2.2.2.1 o.2.2.2.2.2.1 o.2.2.2.2.2.2.1 o.2.2.2.2.2.2.2 T_known T_then T_trip T_sent T_learned T_chosen T_decided) := by
  refine met_i (cc := cX10_areEdges) (maxL := 2) (ret := (some .boolean)) (by decide) rfl (Nat.le_of_ble_eq_true rfl) ?_
  intro p e s m args below meth c R Q A F hR hQ hP hK hD hA hS ls hl
  obtain ⟨hx, hb, hr, hts, hml, hlocks, hown⟩ := F
  have hown : s.vm.findClass RX10 = some m.cls := hown
  have hi_X10 : ∀ w ∈ u_ws RX10 TX10 19, w ∈ wsX10_areEdges := fun w h => List.mem_cons_of_mem _ (List.mem_append_right _ h)
  have q131 := hts (.fieldLink RX10 131 "ChangingRoundsModel" "number" "I") (by decide +kernel)
  have q134 := hts (.fieldLink RX10 134 "ChangingRoundsModel" "token" "I") (by decide +kernel)
  have hl : lv_has ls 2 [(0, .ref Ta)] := hl
  unfold fX10_areEdges at hf
  have L2 : ∀ (T_s : Nat → Int32) (n2 : Nat) (x1 : Int32) (T_at : Int32) (T_from : Int32) (T_token : Int32) (T_many : Int32) (T_letters : Int64) (T_number : Int32) (H : Heap) (locs : List Loc) (ls : Array Slot), fX10_areEdges_l2 T_s T_text T_typed n2 x1 T_at T_from T_token T_many T_letters T_number = some o → va_P D vwCl (sh_X10 Ta Ta_s Ta_past Ta_aside Ta_text Ta_known Ta_then Ta_trip Ta_sent Ta_learned Ta_chosen Ta_decided cI cC cS T_s T_past T_aside T_pasts T_text T_typed T_at T_from T_token T_many T_letters T_number T_known T_then T_trip T_sent T_learned T_chosen T_decided) H → va_D A (sh_X10 Ta Ta_s Ta_past Ta_aside Ta_text Ta_known Ta_then Ta_trip Ta_sent Ta_learned Ta_chosen Ta_decided cI cC cS T_s T_past T_aside T_pasts T_text T_typed T_at T_from T_token T_many T_letters T_number T_known T_then T_trip T_sent T_learned T_chosen T_decided) → va_S A s.heap H locs → lv_has ls 2 [(0, .ref Ta), (1, .int x1)] → W p l e R s m args below meth c H locs 0 0 Q (F0 m 2 ls []) := by
    intro T_s n2
    induction n2 with
    | zero => intro x1 T_at T_from T_token T_many T_letters T_number H locs ls hf; cases (show (none : Option _) = some _ from hf)
    | succ n2 ih2 =>
      intro x1 T_at T_from T_token T_many T_letters T_number H locs ls hf hP hD hS hl
      rw [fX10_areEdges_l2] at hf
      refine lv_aload_n hx hb dX10_areEdges_2 rfl (lv_at hl 0 rfl) ?_
      refine cv_i (ci := 7) (q := (RX10, TX10, 19)) (As := []) (rest := []) hx hb hml hown hts hK hP hD hA hS (kX10_isEdge l D cI cC cS Ta Ta_s Ta_past Ta_aside Ta_text Ta_known Ta_then Ta_trip Ta_sent Ta_learned Ta_chosen Ta_decided  T_s T_past T_aside T_pasts T_text T_typed T_at T_from T_token T_many T_letters T_number T_known T_then T_trip T_sent T_learned T_chosen T_decided (fX10_isEdge T_s T_token T_many T_number) rfl) (cwV 0 hts gX10_areEdges_X10_isEdge rfl rfl rfl (by decide +kernel) (by subst hR; exact ⟨Nat.le_of_ble_eq_true rfl, Nat.le_of_ble_eq_true rfl⟩)) [0, 1, 2, 3, 4, 5, 6, 7, 8, 9, 10, 11] [] [0, 1, 2, 3, 4, 5, 6, 7, 8, 9, 10, 11] [] (sh_X10 Ta Ta_s Ta_past Ta_aside Ta_text Ta_known Ta_then Ta_trip Ta_sent Ta_learned Ta_chosen Ta_decided cI cC cS T_s T_past T_aside T_pasts T_text T_typed T_at T_from T_token T_many T_letters T_number T_known T_then T_trip T_sent T_learned T_chosen T_decided) rfl rfl rfl rfl (by decide) rfl rfl rfl rfl rfl rfl hl.1 rfl (Nat.le_of_ble_eq_true rfl) ⟨Nat.zero_le _, Nat.zero_le _⟩ dX10_areEdges_3 (fun H locs hP hD hS => ?_)
      refine lv_if_eq (tgt := 36) hx hb dX10_areEdges_6 (by decide) (fun c1 => ?_) (fun c1 => ?_)
      · have hf := if_t c1 hf
        refine lv_aload_n hx hb dX10_areEdges_36 rfl (lv_at hl 0 rfl) ?_
        refine lv_iload_n hx hb dX10_areEdges_37 rfl (lv_at hl 1 rfl) ?_
        obtain ⟨o2, ho2, hf⟩ := bd_some hf
        refine cv_v (ci := 7) (q := (RX10, TX10, 19)) (As := [.int x1]) (rest := []) hx hb hml hown hts hK hP hD hA hS (kX10_adds l D cI cC cS Ta Ta_s Ta_past Ta_aside Ta_text Ta_known Ta_then Ta_trip Ta_sent Ta_learned Ta_chosen Ta_decided x1 T_s T_past T_aside T_pasts T_text T_typed T_at T_from T_token T_many T_letters T_number T_known T_then T_trip T_sent T_learned T_chosen T_decided o2 ho2) (cwV 1 hts gX10_areEdges_X10_adds rfl rfl rfl (by decide +kernel) (by subst hR; exact ⟨Nat.le_of_ble_eq_true rfl, Nat.le_of_ble_eq_true rfl⟩)) [0, 1, 2, 3, 4, 5, 6, 7, 8, 9, 10, 11] [] [0, 1, 2, 3, 4, 5, 6, 7, 8, 9, 10, 11] [] (sh_X10 Ta Ta_s Ta_past Ta_aside Ta_text Ta_known Ta_then Ta_trip Ta_sent Ta_learned Ta_chosen Ta_decided cI cC cS o2 T_past T_aside T_pasts T_text T_typed T_at T_from T_token T_many T_letters T_number T_known T_then T_trip T_sent T_learned T_chosen T_decided) rfl rfl rfl rfl (by decide) rfl rfl rfl rfl rfl rfl hl.1 rfl (Nat.le_of_ble_eq_true rfl) ⟨Nat.zero_le _, Nat.zero_le _⟩ dX10_areEdges_38 (fun H locs hP hD hS => ?_)
        refine lv_aload_n hx hb dX10_areEdges_41 rfl (lv_at hl 0 rfl) ?_
        refine va_get (D := D) (ci := 7) (v := .int T_token) (C := RX10) (T := TX10) (N := 19) hx hb hts hi_X10 hown hK hP 0 rfl rfl 8 (by decide) q134 (fun _ h9 => h9) rfl dX10_areEdges_42 ?_
        refine lv_iconst (v := (3 : Int32)) hx hb dX10_areEdges_45 (by decide) ?_
        refine lv_icmp_ne (tgt := 53) hx hb dX10_areEdges_46 (by decide) (fun c3 => ?_) (fun c3 => ?_)
        · have hf := if_f c3 hf
          refine lv_iconst (v := (0 : Int32)) hx hb dX10_areEdges_53 (by decide) ?_
          have hf := Option.some.inj hf
          subst hf
          exact rt_z (ty := .boolean) hx hb hr rfl hlocks hQ hK hP hD hS rfl dX10_areEdges_54
        · have hf := if_t c3 hf
          refine lv_iconst (v := (1 : Int32)) hx hb dX10_areEdges_49 (by decide) ?_
          refine lv_goto (tgt := 54) hx hb dX10_areEdges_50 (by decide) ?_
          have hf := Option.some.inj hf
          subst hf
          exact rt_z (ty := .boolean) hx hb hr rfl hlocks hQ hK hP hD hS rfl dX10_areEdges_54
      · have hf := if_f c1 hf
        refine lv_iload_n hx hb dX10_areEdges_9 rfl (lv_at hl 1 rfl) ?_
        refine lv_aload_n hx hb dX10_areEdges_10 rfl (lv_at hl 0 rfl) ?_
        refine va_get (D := D) (ci := 7) (v := .int T_number) (C := RX10) (T := TX10) (N := 19) hx hb hts hi_X10 hown hK hP 0 rfl rfl 11 (by decide) q131 (fun _ h9 => h9) rfl dX10_areEdges_11 ?_
        refine lv_bipush (v := (10 : Int32)) hx hb dX10_areEdges_14 (by decide) ?_
        refine lv_idiv hx hb dX10_areEdges_16 (by decide) ?_
        refine lv_aload_n hx hb dX10_areEdges_17 rfl (lv_at hl 0 rfl) ?_
        refine va_get (D := D) (ci := 7) (v := .int T_number) (C := RX10) (T := TX10) (N := 19) hx hb hts hi_X10 hown hK hP 0 rfl rfl 11 (by decide) q131 (fun _ h9 => h9) rfl dX10_areEdges_18 ?_
        refine lv_bipush (v := (10 : Int32)) hx hb dX10_areEdges_21 (by decide) ?_
        refine lv_irem hx hb dX10_areEdges_23 (by decide) ?_
        refine cs_i (As := [.int (T_number / (10 : Int32)), .int (T_number - T_number / (10 : Int32) * (10 : Int32))]) (rest := [.int x1]) hx hb hml hown hts hK hP hD hA hS (kX10_pair l D cI cC cS  (T_number / (10 : Int32)) (T_number - T_number / (10 : Int32) * (10 : Int32))  (fX10_pair (T_number / (10 : Int32)) (T_number - T_number / (10 : Int32) * (10 : Int32))) rfl) (va_cwS 2 hts gX10_areEdges_X10_pair rfl rfl rfl (by decide +kernel) (by subst hR; exact ⟨Nat.le_of_ble_eq_true rfl, Nat.le_of_ble_eq_true rfl⟩)) rfl hl.1 rfl (Nat.le_of_ble_eq_true rfl) ⟨Nat.zero_le _, Nat.zero_le _⟩ dX10_areEdges_24 (fun H locs hP hD hS => ?_)
        refine lv_ior hx hb dX10_areEdges_27 ?_
        refine lv_istore_n (lv' := [(1, .int (x1 ||| (fX10_pair (T_number / (10 : Int32)) (T_number - T_number / (10 : Int32) * (10 : Int32))))), (0, .ref Ta)]) hx hb dX10_areEdges_28 rfl hl (by decide) rfl (fun ls hl => ?_)
        refine lv_aload_n hx hb dX10_areEdges_29 rfl (lv_at hl 1 rfl) ?_
        obtain ⟨o4, ho4, hf⟩ := bd_some hf
        refine cv_v (ci := 7) (q := (RX10, TX10, 19)) (As := []) (rest := []) hx hb hml hown hts hK hP hD hA hS (kX10_reads l D cI cC cS Ta Ta_s Ta_past Ta_aside Ta_text Ta_known Ta_then Ta_trip Ta_sent Ta_learned Ta_chosen Ta_decided  T_s T_past T_aside T_pasts T_text T_typed T_at T_from T_token T_many T_letters T_number T_known T_then T_trip T_sent T_learned T_chosen T_decided o4 ho4) (cwV 0 hts gX10_areEdges_X10_reads rfl rfl rfl (by decide +kernel) (by subst hR; exact ⟨Nat.le_of_ble_eq_true rfl, Nat.le_of_ble_eq_true rfl⟩)) [0, 1, 2, 3, 4, 5, 6, 7, 8, 9, 10, 11] [] [0, 1, 2, 3, 4, 5, 6, 7, 8, 9, 10, 11] [] (sh_X10 Ta Ta_s Ta_past Ta_aside Ta_text Ta_known Ta_then Ta_trip Ta_sent Ta_learned Ta_chosen Ta_decided cI cC cS T_s T_past T_aside T_pasts T_text T_typed o4.1 o4.2.1 o4.2.2.1 o4.2.2.2.1 o4.2.2.2.2.1 o4.2.2.2.2.2 T_known T_then T_trip T_sent T_learned T_chosen T_decided) rfl rfl rfl rfl (by decide) rfl rfl rfl rfl rfl rfl hl.1 rfl (Nat.le_of_ble_eq_true rfl) ⟨Nat.zero_le _, Nat.zero_le _⟩ dX10_areEdges_30 (fun H locs hP hD hS => ?_)
        refine lv_goto (tgt := 2) hx hb dX10_areEdges_33 (by decide) ?_
        exact ih2 (x1 ||| (fX10_pair (T_number / (10 : Int32)) (T_number - T_number / (10 : Int32) * (10 : Int32)))) o4.1 o4.2.1 o4.2.2.1 o4.2.2.2.1 o4.2.2.2.2.1 o4.2.2.2.2.2 _ _ _ hf hP hD hS (lv_sub hl [1, 0] rfl)
  refine lv_iconst (v := (0 : Int32)) hx hb dX10_areEdges_0 (by decide) ?_
  refine lv_istore_n (lv' := [(1, .int (0 : Int32)), (0, .ref Ta)]) hx hb dX10_areEdges_1 rfl hl (by decide) rfl (fun ls hl => ?_)
  exact L2 T_s fuel (0 : Int32) T_at T_from T_token T_many T_letters T_number _ _ _ hf hP hD hS (lv_sub hl [1, 0] rfl)
