set_option maxRecDepth 100000 in
set_option maxHeartbeats 4000000 in
theorem kX10_isItem (l : Launch) (D : va_G) (cI cC cS : ClassId) (Ta Ta_s Ta_past Ta_aside Ta_text Ta_known Ta_then Ta_trip Ta_sent Ta_learned Ta_chosen Ta_decided : Nat) (x1 : Int32) (T_s : Nat → Int32) (T_past : Nat → Int32) (T_aside : Nat → Int32) (T_pasts : Int32) (T_text : Nat → Int32) (T_typed : Int32) (T_at : Int32) (T_from : Int32) (T_token : Int32) (T_many : Int32) (T_letters : Int64) (T_number : Int32) (T_known : Nat → Int32) (T_then : Nat → Int32) (T_trip : Nat → Int32) (T_sent : Nat → Int32) (T_learned : Nat → Int32) (T_chosen : Nat → Int32) (T_decided : Nat → Int32) (o : Bool × (Nat → Int32) × Int32 × Int32 × Int32 × Int32 × Int64 × Int32) (hf : fX10_isItem x1 T_s T_text T_typed T_at T_from T_token T_many T_letters T_number = some o) : CI l D yX10_isItem wsX10_isItem ({ frames := 5, cells := 0, slots := 0, locals := 106 } : Room) (tysK cI cC cS) [.ref Ta, .int x1] (sh_X10 Ta Ta_s Ta_past Ta_aside Ta_text Ta_known Ta_then Ta_trip Ta_sent Ta_learned Ta_chosen Ta_decided cI cC cS T_s T_past T_aside T_pasts T_text T_typed T_at T_from T_token T_many T_letters T_number T_known T_then T_trip T_sent T_learned T_chosen T_decided) (b2i o.1) (sh_X10 Ta Ta_s Ta_past Ta_aside Ta_text Ta_known Ta_then Ta_trip Ta_sent Ta_learned Ta_chosen Ta_decided cI cC cS o.2.1 T_past T_aside T_pasts T_text T_typed o.2.2.1 o.2.2.2.1 o.2.2.2.2.1 o.2.2.2.2.2.1 o.2.2.2.2.2.2.1 o.2.2.2.2.2.2.2 T_known T_then T_trip T_sent T_learned T_chosen T_decided) := by
  refine met_i (cc := cX10_isItem) (maxL := 3) (ret := (some .boolean)) (by decide) rfl (Nat.le_of_ble_eq_true rfl) ?_
  intro p e s m args below meth c R Q A F hR hQ hP hK hD hA hS ls hl
  obtain ⟨hx, hb, hr, hts, hml, hlocks, hown⟩ := F
  have hown : s.vm.findClass RX10 = some m.cls := hown
  have hi_X10 : ∀ w ∈ u_ws RX10 TX10 19, w ∈ wsX10_isItem := fun w h => List.mem_cons_of_mem _ (List.mem_append_right _ h)
  have qc153 := hts (.constantLong RX10 153 (474315253107)) (by decide +kernel)
  have q131 := hts (.fieldLink RX10 131 "ChangingRoundsModel" "number" "I") (by decide +kernel)
  have q134 := hts (.fieldLink RX10 134 "ChangingRoundsModel" "token" "I") (by decide +kernel)
  have qc161 := hts (.constantLong RX10 161 (125780002955636)) (by decide +kernel)
  have q7 := hts (.fieldLink RX10 7 "ChangingRoundsModel" "s" "[I") (by decide +kernel)
  have qc167 := hts (.constantLong RX10 167 (1937006962)) (by decide +kernel)
  have hl : lv_has ls 3 [(0, .ref Ta), (1, .int x1)] := hl
  unfold fX10_isItem at hf
  have J57 : ∀ (T_s : Nat → Int32) (T_at : Int32) (T_from : Int32) (T_token : Int32) (T_many : Int32) (T_letters : Int64) (T_number : Int32) (H : Heap) (locs : List Loc) (ls : Array Slot), fX10_isItem_b57 T_s T_text T_typed T_at T_from T_token T_many T_letters T_number = some o → va_P D vwCl (sh_X10 Ta Ta_s Ta_past Ta_aside Ta_text Ta_known Ta_then Ta_trip Ta_sent Ta_learned Ta_chosen Ta_decided cI cC cS T_s T_past T_aside T_pasts T_text T_typed T_at T_from T_token T_many T_letters T_number T_known T_then T_trip T_sent T_learned T_chosen T_decided) H → va_D A (sh_X10 Ta Ta_s Ta_past Ta_aside Ta_text Ta_known Ta_then Ta_trip Ta_sent Ta_learned Ta_chosen Ta_decided cI cC cS T_s T_past T_aside T_pasts T_text T_typed T_at T_from T_token T_many T_letters T_number T_known T_then T_trip T_sent T_learned T_chosen T_decided) → va_S A s.heap H locs → lv_has ls 3 [(0, .ref Ta)] → W p l e R s m args below meth c H locs 0 0 Q (F0 m 57 ls []) := by
    intro T_s T_at T_from T_token T_many T_letters T_number H locs ls hf hP hD hS hl
    unfold fX10_isItem_b57 at hf
    refine lv_aload_n hx hb dX10_isItem_57 rfl (lv_at hl 0 rfl) ?_
    refine lv_bipush (v := (6 : Int32)) hx hb dX10_isItem_58 (by decide) ?_
    refine lv_ldc2 hx hb hown qc161 dX10_isItem_60 ?_
    refine cv_i (ci := 7) (q := (RX10, TX10, 19)) (As := [.int (6 : Int32), .long (125780002955636 : Int64)]) (rest := []) hx hb hml hown hts hK hP hD hA hS (kX10_isWord l D cI cC cS Ta Ta_s Ta_past Ta_aside Ta_text Ta_known Ta_then Ta_trip Ta_sent Ta_learned Ta_chosen Ta_decided (6 : Int32) (125780002955636 : Int64) T_s T_past T_aside T_pasts T_text T_typed T_at T_from T_token T_many T_letters T_number T_known T_then T_trip T_sent T_learned T_chosen T_decided (fX10_isWord (6 : Int32) (125780002955636 : Int64) T_token T_many T_letters) rfl) (cwV 2 hts gX10_isItem_X10_isWord rfl rfl rfl (by decide +kernel) (by subst hR; exact ⟨Nat.le_of_ble_eq_true rfl, Nat.le_of_ble_eq_true rfl⟩)) [0, 1, 2, 3, 4, 5, 6, 7, 8, 9, 10, 11] [] [0, 1, 2, 3, 4, 5, 6, 7, 8, 9, 10, 11] [] (sh_X10 Ta Ta_s Ta_past Ta_aside Ta_text Ta_known Ta_then Ta_trip Ta_sent Ta_learned Ta_chosen Ta_decided cI cC cS T_s T_past T_aside T_pasts T_text T_typed T_at T_from T_token T_many T_letters T_number T_known T_then T_trip T_sent T_learned T_chosen T_decided) rfl rfl rfl rfl (by decide) rfl rfl rfl rfl rfl rfl hl.1 rfl (Nat.le_of_ble_eq_true rfl) ⟨Nat.zero_le _, Nat.zero_le _⟩ dX10_isItem_63 (fun H locs hP hD hS => ?_)
    refine lv_if_eq (tgt := 91) hx hb dX10_isItem_66 (by decide) (fun c1 => ?_) (fun c1 => ?_)
    · have hf := if_t c1 hf
      refine lv_aload_n hx hb dX10_isItem_91 rfl (lv_at hl 0 rfl) ?_
      refine va_get (D := D) (ci := 7) (v := .ref Ta_s) (C := RX10) (T := TX10) (N := 19) hx hb hts hi_X10 hown hK hP 0 rfl rfl 0 (by decide) q7 (fun _ h9 => h9) rfl dX10_isItem_92 ?_
      refine lv_iconst (v := (1 : Int32)) hx hb dX10_isItem_95 (by decide) ?_
      refine sx_iald (j := 1) hx hb hK hP 1 0 rfl rfl (inb_vp (by decide)) (by decide) dX10_isItem_96 ?_
      refine lv_bipush (v := (16 : Int32)) hx hb dX10_isItem_97 (by decide) ?_
      refine lv_icmp_ne (tgt := 104) hx hb dX10_isItem_99 (by decide) (fun c2 => ?_) (fun c2 => ?_)
      · have hf := if_f c2 hf
        refine lv_aload_n hx hb dX10_isItem_104 rfl (lv_at hl 0 rfl) ?_
        refine lv_iconst (v := (4 : Int32)) hx hb dX10_isItem_105 (by decide) ?_
        refine lv_ldc2 hx hb hown qc167 dX10_isItem_106 ?_
        refine cv_i (ci := 7) (q := (RX10, TX10, 19)) (As := [.int (4 : Int32), .long (1937006962 : Int64)]) (rest := []) hx hb hml hown hts hK hP hD hA hS (kX10_isWord l D cI cC cS Ta Ta_s Ta_past Ta_aside Ta_text Ta_known Ta_then Ta_trip Ta_sent Ta_learned Ta_chosen Ta_decided (4 : Int32) (1937006962 : Int64) T_s T_past T_aside T_pasts T_text T_typed T_at T_from T_token T_many T_letters T_number T_known T_then T_trip T_sent T_learned T_chosen T_decided (fX10_isWord (4 : Int32) (1937006962 : Int64) T_token T_many T_letters) rfl) (cwV 2 hts gX10_isItem_X10_isWord rfl rfl rfl (by decide +kernel) (by subst hR; exact ⟨Nat.le_of_ble_eq_true rfl, Nat.le_of_ble_eq_true rfl⟩)) [0, 1, 2, 3, 4, 5, 6, 7, 8, 9, 10, 11] [] [0, 1, 2, 3, 4, 5, 6, 7, 8, 9, 10, 11] [] (sh_X10 Ta Ta_s Ta_past Ta_aside Ta_text Ta_known Ta_then Ta_trip Ta_sent Ta_learned Ta_chosen Ta_decided cI cC cS T_s T_past T_aside T_pasts T_text T_typed T_at T_from T_token T_many T_letters T_number T_known T_then T_trip T_sent T_learned T_chosen T_decided) rfl rfl rfl rfl (by decide) rfl rfl rfl rfl rfl rfl hl.1 rfl (Nat.le_of_ble_eq_true rfl) ⟨Nat.zero_le _, Nat.zero_le _⟩ dX10_isItem_109 (fun H locs hP hD hS => ?_)
        refine lv_if_eq (tgt := 167) hx hb dX10_isItem_112 (by decide) (fun c3 => ?_) (fun c3 => ?_)
        · have hf := if_t c3 hf
          refine lv_aload_n hx hb dX10_isItem_167 rfl (lv_at hl 0 rfl) ?_
          obtain ⟨o4, ho4, hf⟩ := bd_some hf
          refine cv_i (ci := 7) (q := (RX10, TX10, 19)) (As := []) (rest := []) hx hb hml hown hts hK hP hD hA hS (kX10_roundOf l D cI cC cS Ta Ta_s Ta_past Ta_aside Ta_text Ta_known Ta_then Ta_trip Ta_sent Ta_learned Ta_chosen Ta_decided  T_s T_past T_aside T_pasts T_text T_typed T_at T_from T_token T_many T_letters T_number T_known T_then T_trip T_sent T_learned T_chosen T_decided o4 ho4) (cwV 0 hts gX10_isItem_X10_roundOf rfl rfl rfl (by decide +kernel) (by subst hR; exact ⟨Nat.le_of_ble_eq_true rfl, Nat.le_of_ble_eq_true rfl⟩)) [0, 1, 2, 3, 4, 5, 6, 7, 8, 9, 10, 11] [] [0, 1, 2, 3, 4, 5, 6, 7, 8, 9, 10, 11] [] (sh_X10 Ta Ta_s Ta_past Ta_aside Ta_text Ta_known Ta_then Ta_trip Ta_sent Ta_learned Ta_chosen Ta_decided cI cC cS T_s T_past T_aside T_pasts T_text T_typed T_at T_from T_token T_many T_letters T_number T_known T_then T_trip T_sent T_learned T_chosen T_decided) rfl rfl rfl rfl (by decide) rfl rfl rfl rfl rfl rfl hl.1 rfl (Nat.le_of_ble_eq_true rfl) ⟨Nat.zero_le _, Nat.zero_le _⟩ dX10_isItem_168 (fun H locs hP hD hS => ?_)
          refine lv_istore_n (lv' := [(2, .int o4), (0, .ref Ta)]) hx hb dX10_isItem_171 rfl hl (by decide) rfl (fun ls hl => ?_)
          refine lv_iload_n hx hb dX10_isItem_172 rfl (lv_at hl 0 rfl) ?_
          refine lv_bipush (v := (-9 : Int32)) hx hb dX10_isItem_173 (by decide) ?_
          refine lv_icmp_eq (tgt := 201) hx hb dX10_isItem_175 (by decide) (fun c5 => ?_) (fun c5 => ?_)
          · have hf := if_t c5 hf
            refine lv_aload_n hx hb dX10_isItem_201 rfl (lv_at hl 1 rfl) ?_
            refine cv_i (ci := 7) (q := (RX10, TX10, 19)) (As := []) (rest := []) hx hb hml hown hts hK hP hD hA hS (kX10_isEdge l D cI cC cS Ta Ta_s Ta_past Ta_aside Ta_text Ta_known Ta_then Ta_trip Ta_sent Ta_learned Ta_chosen Ta_decided  T_s T_past T_aside T_pasts T_text T_typed T_at T_from T_token T_many T_letters T_number T_known T_then T_trip T_sent T_learned T_chosen T_decided (fX10_isEdge T_s T_token T_many T_number) rfl) (cwV 0 hts gX10_isItem_X10_isEdge rfl rfl rfl (by decide +kernel) (by subst hR; exact ⟨Nat.le_of_ble_eq_true rfl, Nat.le_of_ble_eq_true rfl⟩)) [0, 1, 2, 3, 4, 5, 6, 7, 8, 9, 10, 11] [] [0, 1, 2, 3, 4, 5, 6, 7, 8, 9, 10, 11] [] (sh_X10 Ta Ta_s Ta_past Ta_aside Ta_text Ta_known Ta_then Ta_trip Ta_sent Ta_learned Ta_chosen Ta_decided cI cC cS T_s T_past T_aside T_pasts T_text T_typed T_at T_from T_token T_many T_letters T_number T_known T_then T_trip T_sent T_learned T_chosen T_decided) rfl rfl rfl rfl (by decide) rfl rfl rfl rfl rfl rfl hl.1 rfl (Nat.le_of_ble_eq_true rfl) ⟨Nat.zero_le _, Nat.zero_le _⟩ dX10_isItem_202 (fun H locs hP hD hS => ?_)
            refine lv_if_eq (tgt := 219) hx hb dX10_isItem_205 (by decide) (fun c6 => ?_) (fun c6 => ?_)
            · have hf := if_t c6 hf
              refine lv_iconst (v := (0 : Int32)) hx hb dX10_isItem_219 (by decide) ?_
              have hf := Option.some.inj hf
              subst hf
              exact rt_z (ty := .boolean) hx hb hr rfl hlocks hQ hK hP hD hS rfl dX10_isItem_220
            · have hf := if_f c6 hf
              refine lv_aload_n hx hb dX10_isItem_208 rfl (lv_at hl 1 rfl) ?_
              obtain ⟨o7, ho7, hf⟩ := bd_some hf
              refine cv_i (ci := 7) (q := (RX10, TX10, 19)) (As := []) (rest := []) hx hb hml hown hts hK hP hD hA hS (kX10_areEdges l D cI cC cS Ta Ta_s Ta_past Ta_aside Ta_text Ta_known Ta_then Ta_trip Ta_sent Ta_learned Ta_chosen Ta_decided  T_s T_past T_aside T_pasts T_text T_typed T_at T_from T_token T_many T_letters T_number T_known T_then T_trip T_sent T_learned T_chosen T_decided o7 ho7) (cwV 0 hts gX10_isItem_X10_areEdges rfl rfl rfl (by decide +kernel) (by subst hR; exact ⟨Nat.le_of_ble_eq_true rfl, Nat.le_of_ble_eq_true rfl⟩)) [0, 1, 2, 3, 4, 5, 6, 7, 8, 9, 10, 11] [] [0, 1, 2, 3, 4, 5, 6, 7, 8, 9, 10, 11] [] (sh_X10 Ta Ta_s Ta_past Ta_aside Ta_text Ta_known Ta_then Ta_trip Ta_sent Ta_learned Ta_chosen Ta_decided cI cC cS o7.2.1 T_past T_aside T_pasts T_text T_typed o7.2.2.1 o7.2.2.2.1 o7.2.2.2.2.1 o7.2.2.2.2.2.1 o7.2.2.2.2.2.2.1 o7.2.2.2.2.2.2.2 T_known T_then T_trip T_sent T_learned T_chosen T_decided) rfl rfl rfl rfl (by decide) rfl rfl rfl rfl rfl rfl hl.1 rfl (Nat.le_of_ble_eq_true rfl) ⟨Nat.zero_le _, Nat.zero_le _⟩ dX10_isItem_209 (fun H locs hP hD hS => ?_)
              refine lv_if_eq (tgt := 219) hx hb dX10_isItem_212 (by decide) (fun c8 => ?_) (fun c8 => ?_)
              · have hf := if_t c8 hf
                refine lv_iconst (v := (0 : Int32)) hx hb dX10_isItem_219 (by decide) ?_
                have hf := Option.some.inj hf
                subst hf
                exact rt_z (ty := .boolean) hx hb hr rfl hlocks hQ hK hP hD hS rfl dX10_isItem_220
              · have hf := if_f c8 hf
                refine lv_iconst (v := (1 : Int32)) hx hb dX10_isItem_215 (by decide) ?_
                refine lv_goto (tgt := 220) hx hb dX10_isItem_216 (by decide) ?_
                have hf := Option.some.inj hf
                subst hf
                exact rt_z (ty := .boolean) hx hb hr rfl hlocks hQ hK hP hD hS rfl dX10_isItem_220
          · have hf := if_f c5 hf
            refine lv_aload_n hx hb dX10_isItem_178 rfl (lv_at hl 1 rfl) ?_
            refine lv_iload_n hx hb dX10_isItem_179 rfl (lv_at hl 0 rfl) ?_
            obtain ⟨o9, ho9, hf⟩ := bd_some hf
            refine cv_v (ci := 7) (q := (RX10, TX10, 19)) (As := [.int o4]) (rest := []) hx hb hml hown hts hK hP hD hA hS (kX10_adds l D cI cC cS Ta Ta_s Ta_past Ta_aside Ta_text Ta_known Ta_then Ta_trip Ta_sent Ta_learned Ta_chosen Ta_decided o4 T_s T_past T_aside T_pasts T_text T_typed T_at T_from T_token T_many T_letters T_number T_known T_then T_trip T_sent T_learned T_chosen T_decided o9 ho9) (cwV 1 hts gX10_isItem_X10_adds rfl rfl rfl (by decide +kernel) (by subst hR; exact ⟨Nat.le_of_ble_eq_true rfl, Nat.le_of_ble_eq_true rfl⟩)) [0, 1, 2, 3, 4, 5, 6, 7, 8, 9, 10, 11] [] [0, 1, 2, 3, 4, 5, 6, 7, 8, 9, 10, 11] [] (sh_X10 Ta Ta_s Ta_past Ta_aside Ta_text Ta_known Ta_then Ta_trip Ta_sent Ta_learned Ta_chosen Ta_decided cI cC cS o9 T_past T_aside T_pasts T_text T_typed T_at T_from T_token T_many T_letters T_number T_known T_then T_trip T_sent T_learned T_chosen T_decided) rfl rfl rfl rfl (by decide) rfl rfl rfl rfl rfl rfl hl.1 rfl (Nat.le_of_ble_eq_true rfl) ⟨Nat.zero_le _, Nat.zero_le _⟩ dX10_isItem_180 (fun H locs hP hD hS => ?_)
            refine lv_aload_n hx hb dX10_isItem_183 rfl (lv_at hl 1 rfl) ?_
            obtain ⟨o10, ho10, hf⟩ := bd_some hf
            refine cv_v (ci := 7) (q := (RX10, TX10, 19)) (As := []) (rest := []) hx hb hml hown hts hK hP hD hA hS (kX10_reads l D cI cC cS Ta Ta_s Ta_past Ta_aside Ta_text Ta_known Ta_then Ta_trip Ta_sent Ta_learned Ta_chosen Ta_decided  o9 T_past T_aside T_pasts T_text T_typed T_at T_from T_token T_many T_letters T_number T_known T_then T_trip T_sent T_learned T_chosen T_decided o10 ho10) (cwV 0 hts gX10_isItem_X10_reads rfl rfl rfl (by decide +kernel) (by subst hR; exact ⟨Nat.le_of_ble_eq_true rfl, Nat.le_of_ble_eq_true rfl⟩)) [0, 1, 2, 3, 4, 5, 6, 7, 8, 9, 10, 11] [] [0, 1, 2, 3, 4, 5, 6, 7, 8, 9, 10, 11] [] (sh_X10 Ta Ta_s Ta_past Ta_aside Ta_text Ta_known Ta_then Ta_trip Ta_sent Ta_learned Ta_chosen Ta_decided cI cC cS o9 T_past T_aside T_pasts T_text T_typed o10.1 o10.2.1 o10.2.2.1 o10.2.2.2.1 o10.2.2.2.2.1 o10.2.2.2.2.2 T_known T_then T_trip T_sent T_learned T_chosen T_decided) rfl rfl rfl rfl (by decide) rfl rfl rfl rfl rfl rfl hl.1 rfl (Nat.le_of_ble_eq_true rfl) ⟨Nat.zero_le _, Nat.zero_le _⟩ dX10_isItem_184 (fun H locs hP hD hS => ?_)
            refine lv_aload_n hx hb dX10_isItem_187 rfl (lv_at hl 1 rfl) ?_
            refine va_get (D := D) (ci := 7) (v := .int o10.2.2.1) (C := RX10) (T := TX10) (N := 19) hx hb hts hi_X10 hown hK hP 0 rfl rfl 8 (by decide) q134 (fun _ h9 => h9) rfl dX10_isItem_188 ?_
            refine lv_iconst (v := (3 : Int32)) hx hb dX10_isItem_191 (by decide) ?_
            refine lv_icmp_ne (tgt := 199) hx hb dX10_isItem_192 (by decide) (fun c11 => ?_) (fun c11 => ?_)
            · have hf := if_f c11 hf
              refine lv_iconst (v := (0 : Int32)) hx hb dX10_isItem_199 (by decide) ?_
              have hf := Option.some.inj hf
              subst hf
              exact rt_z (ty := .boolean) hx hb hr rfl hlocks hQ hK hP hD hS rfl dX10_isItem_200
            · have hf := if_t c11 hf
              refine lv_iconst (v := (1 : Int32)) hx hb dX10_isItem_195 (by decide) ?_
              refine lv_goto (tgt := 200) hx hb dX10_isItem_196 (by decide) ?_
              have hf := Option.some.inj hf
              subst hf
              exact rt_z (ty := .boolean) hx hb hr rfl hlocks hQ hK hP hD hS rfl dX10_isItem_200
        · have hf := if_f c3 hf
          refine lv_aload_n hx hb dX10_isItem_115 rfl (lv_at hl 0 rfl) ?_
          obtain ⟨o12, ho12, hf⟩ := bd_some hf
          refine cv_v (ci := 7) (q := (RX10, TX10, 19)) (As := []) (rest := []) hx hb hml hown hts hK hP hD hA hS (kX10_reads l D cI cC cS Ta Ta_s Ta_past Ta_aside Ta_text Ta_known Ta_then Ta_trip Ta_sent Ta_learned Ta_chosen Ta_decided  T_s T_past T_aside T_pasts T_text T_typed T_at T_from T_token T_many T_letters T_number T_known T_then T_trip T_sent T_learned T_chosen T_decided o12 ho12) (cwV 0 hts gX10_isItem_X10_reads rfl rfl rfl (by decide +kernel) (by subst hR; exact ⟨Nat.le_of_ble_eq_true rfl, Nat.le_of_ble_eq_true rfl⟩)) [0, 1, 2, 3, 4, 5, 6, 7, 8, 9, 10, 11] [] [0, 1, 2, 3, 4, 5, 6, 7, 8, 9, 10, 11] [] (sh_X10 Ta Ta_s Ta_past Ta_aside Ta_text Ta_known Ta_then Ta_trip Ta_sent Ta_learned Ta_chosen Ta_decided cI cC cS T_s T_past T_aside T_pasts T_text T_typed o12.1 o12.2.1 o12.2.2.1 o12.2.2.2.1 o12.2.2.2.2.1 o12.2.2.2.2.2 T_known T_then T_trip T_sent T_learned T_chosen T_decided) rfl rfl rfl rfl (by decide) rfl rfl rfl rfl rfl rfl hl.1 rfl (Nat.le_of_ble_eq_true rfl) ⟨Nat.zero_le _, Nat.zero_le _⟩ dX10_isItem_116 (fun H locs hP hD hS => ?_)
          refine lv_aload_n hx hb dX10_isItem_119 rfl (lv_at hl 0 rfl) ?_
          refine lv_iconst (v := (0 : Int32)) hx hb dX10_isItem_120 (by decide) ?_
          refine lv_aload_n hx hb dX10_isItem_121 rfl (lv_at hl 0 rfl) ?_
          refine va_get (D := D) (ci := 7) (v := .ref Ta_s) (C := RX10) (T := TX10) (N := 19) hx hb hts hi_X10 hown hK hP 0 rfl rfl 0 (by decide) q7 (fun _ h9 => h9) rfl dX10_isItem_122 ?_
          refine lv_iconst (v := (0 : Int32)) hx hb dX10_isItem_125 (by decide) ?_
          refine sx_iald (j := 0) hx hb hK hP 1 0 rfl rfl (inb_vp (by decide)) (by decide) dX10_isItem_126 ?_
          refine lv_iconst (v := (1 : Int32)) hx hb dX10_isItem_127 (by decide) ?_
          refine lv_isub hx hb dX10_isItem_128 ?_
          refine cv_i (ci := 7) (q := (RX10, TX10, 19)) (As := [.int (0 : Int32), .int ((T_s 0) - (1 : Int32))]) (rest := []) hx hb hml hown hts hK hP hD hA hS (kX10_isDigit l D cI cC cS Ta Ta_s Ta_past Ta_aside Ta_text Ta_known Ta_then Ta_trip Ta_sent Ta_learned Ta_chosen Ta_decided (0 : Int32) ((T_s 0) - (1 : Int32)) T_s T_past T_aside T_pasts T_text T_typed o12.1 o12.2.1 o12.2.2.1 o12.2.2.2.1 o12.2.2.2.2.1 o12.2.2.2.2.2 T_known T_then T_trip T_sent T_learned T_chosen T_decided (fX10_isDigit (0 : Int32) ((T_s 0) - (1 : Int32)) o12.2.2.1 o12.2.2.2.1 o12.2.2.2.2.2) rfl) (cwV 2 hts gX10_isItem_X10_isDigit rfl rfl rfl (by decide +kernel) (by subst hR; exact ⟨Nat.le_of_ble_eq_true rfl, Nat.le_of_ble_eq_true rfl⟩)) [0, 1, 2, 3, 4, 5, 6, 7, 8, 9, 10, 11] [] [0, 1, 2, 3, 4, 5, 6, 7, 8, 9, 10, 11] [] (sh_X10 Ta Ta_s Ta_past Ta_aside Ta_text Ta_known Ta_then Ta_trip Ta_sent Ta_learned Ta_chosen Ta_decided cI cC cS T_s T_past T_aside T_pasts T_text T_typed o12.1 o12.2.1 o12.2.2.1 o12.2.2.2.1 o12.2.2.2.2.1 o12.2.2.2.2.2 T_known T_then T_trip T_sent T_learned T_chosen T_decided) rfl rfl rfl rfl (by decide) rfl rfl rfl rfl rfl rfl hl.1 rfl (Nat.le_of_ble_eq_true rfl) ⟨Nat.zero_le _, Nat.zero_le _⟩ dX10_isItem_129 (fun H locs hP hD hS => ?_)
          refine lv_if_ne (tgt := 137) hx hb dX10_isItem_132 (by decide) (fun c13 => ?_) (fun c13 => ?_)
          · have hf := if_f c13 hf
            refine lv_aload_n hx hb dX10_isItem_137 rfl (lv_at hl 0 rfl) ?_
            refine lv_aload_n hx hb dX10_isItem_138 rfl (lv_at hl 0 rfl) ?_
            refine lv_aload_n hx hb dX10_isItem_139 rfl (lv_at hl 0 rfl) ?_
            refine va_get (D := D) (ci := 7) (v := .int o12.2.2.2.2.2) (C := RX10) (T := TX10) (N := 19) hx hb hts hi_X10 hown hK hP 0 rfl rfl 11 (by decide) q131 (fun _ h9 => h9) rfl dX10_isItem_140 ?_
            obtain ⟨o14, ho14, hf⟩ := bd_some hf
            refine cv_i (ci := 7) (q := (RX10, TX10, 19)) (As := [.int o12.2.2.2.2.2]) (rest := [.ref Ta]) hx hb hml hown hts hK hP hD hA hS (kX10_star l D cI cC cS Ta Ta_s Ta_past Ta_aside Ta_text Ta_known Ta_then Ta_trip Ta_sent Ta_learned Ta_chosen Ta_decided o12.2.2.2.2.2 T_s T_past T_aside T_pasts T_text T_typed o12.1 o12.2.1 o12.2.2.1 o12.2.2.2.1 o12.2.2.2.2.1 o12.2.2.2.2.2 T_known T_then T_trip T_sent T_learned T_chosen T_decided o14 ho14) (cwV 1 hts gX10_isItem_X10_star rfl rfl rfl (by decide +kernel) (by subst hR; exact ⟨Nat.le_of_ble_eq_true rfl, Nat.le_of_ble_eq_true rfl⟩)) [0, 1, 2, 3, 4, 5, 6, 7, 8, 9, 10, 11] [] [0, 1, 2, 3, 4, 5, 6, 7, 8, 9, 10, 11] [] (sh_X10 Ta Ta_s Ta_past Ta_aside Ta_text Ta_known Ta_then Ta_trip Ta_sent Ta_learned Ta_chosen Ta_decided cI cC cS T_s T_past T_aside T_pasts T_text T_typed o12.1 o12.2.1 o12.2.2.1 o12.2.2.2.1 o12.2.2.2.2.1 o12.2.2.2.2.2 T_known T_then T_trip T_sent T_learned T_chosen T_decided) rfl rfl rfl rfl (by decide) rfl rfl rfl rfl rfl rfl hl.1 rfl (Nat.le_of_ble_eq_true rfl) ⟨Nat.zero_le _, Nat.zero_le _⟩ dX10_isItem_143 (fun H locs hP hD hS => ?_)
            obtain ⟨o15, ho15, hf⟩ := bd_some hf
            refine cv_v (ci := 7) (q := (RX10, TX10, 19)) (As := [.int o14]) (rest := []) hx hb hml hown hts hK hP hD hA hS (kX10_adds l D cI cC cS Ta Ta_s Ta_past Ta_aside Ta_text Ta_known Ta_then Ta_trip Ta_sent Ta_learned Ta_chosen Ta_decided o14 T_s T_past T_aside T_pasts T_text T_typed o12.1 o12.2.1 o12.2.2.1 o12.2.2.2.1 o12.2.2.2.2.1 o12.2.2.2.2.2 T_known T_then T_trip T_sent T_learned T_chosen T_decided o15 ho15) (cwV 1 hts gX10_isItem_X10_adds rfl rfl rfl (by decide +kernel) (by subst hR; exact ⟨Nat.le_of_ble_eq_true rfl, Nat.le_of_ble_eq_true rfl⟩)) [0, 1, 2, 3, 4, 5, 6, 7, 8, 9, 10, 11] [] [0, 1, 2, 3, 4, 5, 6, 7, 8, 9, 10, 11] [] (sh_X10 Ta Ta_s Ta_past Ta_aside Ta_text Ta_known Ta_then Ta_trip Ta_sent Ta_learned Ta_chosen Ta_decided cI cC cS o15 T_past T_aside T_pasts T_text T_typed o12.1 o12.2.1 o12.2.2.1 o12.2.2.2.1 o12.2.2.2.2.1 o12.2.2.2.2.2 T_known T_then T_trip T_sent T_learned T_chosen T_decided) rfl rfl rfl rfl (by decide) rfl rfl rfl rfl rfl rfl hl.1 rfl (Nat.le_of_ble_eq_true rfl) ⟨Nat.zero_le _, Nat.zero_le _⟩ dX10_isItem_146 (fun H locs hP hD hS => ?_)
            refine lv_aload_n hx hb dX10_isItem_149 rfl (lv_at hl 0 rfl) ?_
            obtain ⟨o16, ho16, hf⟩ := bd_some hf
            refine cv_v (ci := 7) (q := (RX10, TX10, 19)) (As := []) (rest := []) hx hb hml hown hts hK hP hD hA hS (kX10_reads l D cI cC cS Ta Ta_s Ta_past Ta_aside Ta_text Ta_known Ta_then Ta_trip Ta_sent Ta_learned Ta_chosen Ta_decided  o15 T_past T_aside T_pasts T_text T_typed o12.1 o12.2.1 o12.2.2.1 o12.2.2.2.1 o12.2.2.2.2.1 o12.2.2.2.2.2 T_known T_then T_trip T_sent T_learned T_chosen T_decided o16 ho16) (cwV 0 hts gX10_isItem_X10_reads rfl rfl rfl (by decide +kernel) (by subst hR; exact ⟨Nat.le_of_ble_eq_true rfl, Nat.le_of_ble_eq_true rfl⟩)) [0, 1, 2, 3, 4, 5, 6, 7, 8, 9, 10, 11] [] [0, 1, 2, 3, 4, 5, 6, 7, 8, 9, 10, 11] [] (sh_X10 Ta Ta_s Ta_past Ta_aside Ta_text Ta_known Ta_then Ta_trip Ta_sent Ta_learned Ta_chosen Ta_decided cI cC cS o15 T_past T_aside T_pasts T_text T_typed o16.1 o16.2.1 o16.2.2.1 o16.2.2.2.1 o16.2.2.2.2.1 o16.2.2.2.2.2 T_known T_then T_trip T_sent T_learned T_chosen T_decided) rfl rfl rfl rfl (by decide) rfl rfl rfl rfl rfl rfl hl.1 rfl (Nat.le_of_ble_eq_true rfl) ⟨Nat.zero_le _, Nat.zero_le _⟩ dX10_isItem_150 (fun H locs hP hD hS => ?_)
            refine lv_aload_n hx hb dX10_isItem_153 rfl (lv_at hl 0 rfl) ?_
            refine va_get (D := D) (ci := 7) (v := .int o16.2.2.1) (C := RX10) (T := TX10) (N := 19) hx hb hts hi_X10 hown hK hP 0 rfl rfl 8 (by decide) q134 (fun _ h9 => h9) rfl dX10_isItem_154 ?_
            refine lv_iconst (v := (3 : Int32)) hx hb dX10_isItem_157 (by decide) ?_
            refine lv_icmp_ne (tgt := 165) hx hb dX10_isItem_158 (by decide) (fun c17 => ?_) (fun c17 => ?_)
            · have hf := if_f c17 hf
              refine lv_iconst (v := (0 : Int32)) hx hb dX10_isItem_165 (by decide) ?_
              have hf := Option.some.inj hf
              subst hf
              exact rt_z (ty := .boolean) hx hb hr rfl hlocks hQ hK hP hD hS rfl dX10_isItem_166
            · have hf := if_t c17 hf
              refine lv_iconst (v := (1 : Int32)) hx hb dX10_isItem_161 (by decide) ?_
              refine lv_goto (tgt := 166) hx hb dX10_isItem_162 (by decide) ?_
              have hf := Option.some.inj hf
              subst hf
              exact rt_z (ty := .boolean) hx hb hr rfl hlocks hQ hK hP hD hS rfl dX10_isItem_166
          · have hf := if_t c13 hf
            refine lv_iconst (v := (0 : Int32)) hx hb dX10_isItem_135 (by decide) ?_
            have hf := Option.some.inj hf
            subst hf
            exact rt_z (ty := .boolean) hx hb hr rfl hlocks hQ hK hP hD hS rfl dX10_isItem_136
      · have hf := if_t c2 hf
        refine lv_iconst (v := (0 : Int32)) hx hb dX10_isItem_102 (by decide) ?_
        have hf := Option.some.inj hf
        subst hf
        exact rt_z (ty := .boolean) hx hb hr rfl hlocks hQ hK hP hD hS rfl dX10_isItem_103
    · have hf := if_f c1 hf
      refine lv_aload_n hx hb dX10_isItem_69 rfl (lv_at hl 0 rfl) ?_
      refine va_get (D := D) (ci := 7) (v := .ref Ta_s) (C := RX10) (T := TX10) (N := 19) hx hb hts hi_X10 hown hK hP 0 rfl rfl 0 (by decide) q7 (fun _ h9 => h9) rfl dX10_isItem_70 ?_
      refine lv_iconst (v := (1 : Int32)) hx hb dX10_isItem_73 (by decide) ?_
      refine sx_iald (j := 1) hx hb hK hP 1 0 rfl rfl (inb_vp (by decide)) (by decide) dX10_isItem_74 ?_
      refine lv_if_le (tgt := 89) hx hb dX10_isItem_75 (by decide) (fun c18 => ?_) (fun c18 => ?_)
      · have hf := if_t c18 hf
        refine lv_iconst (v := (0 : Int32)) hx hb dX10_isItem_89 (by decide) ?_
        have hf := Option.some.inj hf
        subst hf
        exact rt_z (ty := .boolean) hx hb hr rfl hlocks hQ hK hP hD hS rfl dX10_isItem_90
      · have hf := if_f c18 hf
        refine lv_aload_n hx hb dX10_isItem_78 rfl (lv_at hl 0 rfl) ?_
        obtain ⟨o19, ho19, hf⟩ := bd_some hf
        refine cv_i (ci := 7) (q := (RX10, TX10, 19)) (As := []) (rest := []) hx hb hml hown hts hK hP hD hA hS (kX10_isRepeat l D cI cC cS Ta Ta_s Ta_past Ta_aside Ta_text Ta_known Ta_then Ta_trip Ta_sent Ta_learned Ta_chosen Ta_decided  T_s T_past T_aside T_pasts T_text T_typed T_at T_from T_token T_many T_letters T_number T_known T_then T_trip T_sent T_learned T_chosen T_decided o19 ho19) (cwV 0 hts gX10_isItem_X10_isRepeat rfl rfl rfl (by decide +kernel) (by subst hR; exact ⟨Nat.le_of_ble_eq_true rfl, Nat.le_of_ble_eq_true rfl⟩)) [0, 1, 2, 3, 4, 5, 6, 7, 8, 9, 10, 11] [] [0, 1, 2, 3, 4, 5, 6, 7, 8, 9, 10, 11] [] (sh_X10 Ta Ta_s Ta_past Ta_aside Ta_text Ta_known Ta_then Ta_trip Ta_sent Ta_learned Ta_chosen Ta_decided cI cC cS o19.2.1 T_past T_aside T_pasts T_text T_typed o19.2.2.1 o19.2.2.2.1 o19.2.2.2.2.1 o19.2.2.2.2.2.1 o19.2.2.2.2.2.2.1 o19.2.2.2.2.2.2.2 T_known T_then T_trip T_sent T_learned T_chosen T_decided) rfl rfl rfl rfl (by decide) rfl rfl rfl rfl rfl rfl hl.1 rfl (Nat.le_of_ble_eq_true rfl) ⟨Nat.zero_le _, Nat.zero_le _⟩ dX10_isItem_79 (fun H locs hP hD hS => ?_)
        refine lv_if_eq (tgt := 89) hx hb dX10_isItem_82 (by decide) (fun c20 => ?_) (fun c20 => ?_)
        · have hf := if_t c20 hf
          refine lv_iconst (v := (0 : Int32)) hx hb dX10_isItem_89 (by decide) ?_
          have hf := Option.some.inj hf
          subst hf
          exact rt_z (ty := .boolean) hx hb hr rfl hlocks hQ hK hP hD hS rfl dX10_isItem_90
        · have hf := if_f c20 hf
          refine lv_iconst (v := (1 : Int32)) hx hb dX10_isItem_85 (by decide) ?_
          refine lv_goto (tgt := 90) hx hb dX10_isItem_86 (by decide) ?_
          have hf := Option.some.inj hf
          subst hf
          exact rt_z (ty := .boolean) hx hb hr rfl hlocks hQ hK hP hD hS rfl dX10_isItem_90
  refine lv_iload_n hx hb dX10_isItem_0 rfl (lv_at hl 1 rfl) ?_
  refine lv_if_eq (tgt := 57) hx hb dX10_isItem_1 (by decide) (fun c21 => ?_) (fun c21 => ?_)
  · have hf := if_t c21 hf
    exact J57 T_s T_at T_from T_token T_many T_letters T_number _ _ _ hf hP hD hS (lv_sub hl [0] rfl)
  · have hf := if_f c21 hf
    refine lv_aload_n hx hb dX10_isItem_4 rfl (lv_at hl 0 rfl) ?_
    refine lv_iconst (v := (5 : Int32)) hx hb dX10_isItem_5 (by decide) ?_
    refine lv_ldc2 hx hb hown qc153 dX10_isItem_6 ?_
    refine cv_i (ci := 7) (q := (RX10, TX10, 19)) (As := [.int (5 : Int32), .long (474315253107 : Int64)]) (rest := []) hx hb hml hown hts hK hP hD hA hS (kX10_isWord l D cI cC cS Ta Ta_s Ta_past Ta_aside Ta_text Ta_known Ta_then Ta_trip Ta_sent Ta_learned Ta_chosen Ta_decided (5 : Int32) (474315253107 : Int64) T_s T_past T_aside T_pasts T_text T_typed T_at T_from T_token T_many T_letters T_number T_known T_then T_trip T_sent T_learned T_chosen T_decided (fX10_isWord (5 : Int32) (474315253107 : Int64) T_token T_many T_letters) rfl) (cwV 2 hts gX10_isItem_X10_isWord rfl rfl rfl (by decide +kernel) (by subst hR; exact ⟨Nat.le_of_ble_eq_true rfl, Nat.le_of_ble_eq_true rfl⟩)) [0, 1, 2, 3, 4, 5, 6, 7, 8, 9, 10, 11] [] [0, 1, 2, 3, 4, 5, 6, 7, 8, 9, 10, 11] [] (sh_X10 Ta Ta_s Ta_past Ta_aside Ta_text Ta_known Ta_then Ta_trip Ta_sent Ta_learned Ta_chosen Ta_decided cI cC cS T_s T_past T_aside T_pasts T_text T_typed T_at T_from T_token T_many T_letters T_number T_known T_then T_trip T_sent T_learned T_chosen T_decided) rfl rfl rfl rfl (by decide) rfl rfl rfl rfl rfl rfl hl.1 rfl (Nat.le_of_ble_eq_true rfl) ⟨Nat.zero_le _, Nat.zero_le _⟩ dX10_isItem_9 (fun H locs hP hD hS => ?_)
    refine lv_if_eq (tgt := 57) hx hb dX10_isItem_12 (by decide) (fun c22 => ?_) (fun c22 => ?_)
    · have hf := if_t c22 hf
      exact J57 T_s T_at T_from T_token T_many T_letters T_number _ _ _ hf hP hD hS (lv_sub hl [0] rfl)
    · have hf := if_f c22 hf
      refine lv_aload_n hx hb dX10_isItem_15 rfl (lv_at hl 0 rfl) ?_
      obtain ⟨o23, ho23, hf⟩ := bd_some hf
      refine cv_v (ci := 7) (q := (RX10, TX10, 19)) (As := []) (rest := []) hx hb hml hown hts hK hP hD hA hS (kX10_reads l D cI cC cS Ta Ta_s Ta_past Ta_aside Ta_text Ta_known Ta_then Ta_trip Ta_sent Ta_learned Ta_chosen Ta_decided  T_s T_past T_aside T_pasts T_text T_typed T_at T_from T_token T_many T_letters T_number T_known T_then T_trip T_sent T_learned T_chosen T_decided o23 ho23) (cwV 0 hts gX10_isItem_X10_reads rfl rfl rfl (by decide +kernel) (by subst hR; exact ⟨Nat.le_of_ble_eq_true rfl, Nat.le_of_ble_eq_true rfl⟩)) [0, 1, 2, 3, 4, 5, 6, 7, 8, 9, 10, 11] [] [0, 1, 2, 3, 4, 5, 6, 7, 8, 9, 10, 11] [] (sh_X10 Ta Ta_s Ta_past Ta_aside Ta_text Ta_known Ta_then Ta_trip Ta_sent Ta_learned Ta_chosen Ta_decided cI cC cS T_s T_past T_aside T_pasts T_text T_typed o23.1 o23.2.1 o23.2.2.1 o23.2.2.2.1 o23.2.2.2.2.1 o23.2.2.2.2.2 T_known T_then T_trip T_sent T_learned T_chosen T_decided) rfl rfl rfl rfl (by decide) rfl rfl rfl rfl rfl rfl hl.1 rfl (Nat.le_of_ble_eq_true rfl) ⟨Nat.zero_le _, Nat.zero_le _⟩ dX10_isItem_16 (fun H locs hP hD hS => ?_)
      refine lv_aload_n hx hb dX10_isItem_19 rfl (lv_at hl 0 rfl) ?_
      refine lv_iconst (v := (2 : Int32)) hx hb dX10_isItem_20 (by decide) ?_
      refine lv_bipush (v := (8 : Int32)) hx hb dX10_isItem_21 (by decide) ?_
      refine cv_i (ci := 7) (q := (RX10, TX10, 19)) (As := [.int (2 : Int32), .int (8 : Int32)]) (rest := []) hx hb hml hown hts hK hP hD hA hS (kX10_isDigit l D cI cC cS Ta Ta_s Ta_past Ta_aside Ta_text Ta_known Ta_then Ta_trip Ta_sent Ta_learned Ta_chosen Ta_decided (2 : Int32) (8 : Int32) T_s T_past T_aside T_pasts T_text T_typed o23.1 o23.2.1 o23.2.2.1 o23.2.2.2.1 o23.2.2.2.2.1 o23.2.2.2.2.2 T_known T_then T_trip T_sent T_learned T_chosen T_decided (fX10_isDigit (2 : Int32) (8 : Int32) o23.2.2.1 o23.2.2.2.1 o23.2.2.2.2.2) rfl) (cwV 2 hts gX10_isItem_X10_isDigit rfl rfl rfl (by decide +kernel) (by subst hR; exact ⟨Nat.le_of_ble_eq_true rfl, Nat.le_of_ble_eq_true rfl⟩)) [0, 1, 2, 3, 4, 5, 6, 7, 8, 9, 10, 11] [] [0, 1, 2, 3, 4, 5, 6, 7, 8, 9, 10, 11] [] (sh_X10 Ta Ta_s Ta_past Ta_aside Ta_text Ta_known Ta_then Ta_trip Ta_sent Ta_learned Ta_chosen Ta_decided cI cC cS T_s T_past T_aside T_pasts T_text T_typed o23.1 o23.2.1 o23.2.2.1 o23.2.2.2.1 o23.2.2.2.2.1 o23.2.2.2.2.2 T_known T_then T_trip T_sent T_learned T_chosen T_decided) rfl rfl rfl rfl (by decide) rfl rfl rfl rfl rfl rfl hl.1 rfl (Nat.le_of_ble_eq_true rfl) ⟨Nat.zero_le _, Nat.zero_le _⟩ dX10_isItem_23 (fun H locs hP hD hS => ?_)
      refine lv_if_ne (tgt := 31) hx hb dX10_isItem_26 (by decide) (fun c24 => ?_) (fun c24 => ?_)
      · have hf := if_f c24 hf
        refine lv_aload_n hx hb dX10_isItem_31 rfl (lv_at hl 0 rfl) ?_
        refine lv_aload_n hx hb dX10_isItem_32 rfl (lv_at hl 0 rfl) ?_
        refine va_get (D := D) (ci := 7) (v := .int o23.2.2.2.2.2) (C := RX10) (T := TX10) (N := 19) hx hb hts hi_X10 hown hK hP 0 rfl rfl 11 (by decide) q131 (fun _ h9 => h9) rfl dX10_isItem_33 ?_
        obtain ⟨o25, ho25, hf⟩ := bd_some hf
        refine cv_v (ci := 7) (q := (RX10, TX10, 19)) (As := [.int o23.2.2.2.2.2]) (rest := []) hx hb hml hown hts hK hP hD hA hS (kX10_begins l D cI cC cS Ta Ta_s Ta_past Ta_aside Ta_text Ta_known Ta_then Ta_trip Ta_sent Ta_learned Ta_chosen Ta_decided o23.2.2.2.2.2 T_s T_past T_aside T_pasts T_text T_typed o23.1 o23.2.1 o23.2.2.1 o23.2.2.2.1 o23.2.2.2.2.1 o23.2.2.2.2.2 T_known T_then T_trip T_sent T_learned T_chosen T_decided o25 ho25) (cwV 1 hts gX10_isItem_X10_begins rfl rfl rfl (by decide +kernel) (by subst hR; exact ⟨Nat.le_of_ble_eq_true rfl, Nat.le_of_ble_eq_true rfl⟩)) [0, 1, 2, 3, 4, 5, 6, 7, 8, 9, 10, 11] [] [0, 1, 2, 3, 4, 5, 6, 7, 8, 9, 10, 11] [] (sh_X10 Ta Ta_s Ta_past Ta_aside Ta_text Ta_known Ta_then Ta_trip Ta_sent Ta_learned Ta_chosen Ta_decided cI cC cS o25 T_past T_aside T_pasts T_text T_typed o23.1 o23.2.1 o23.2.2.1 o23.2.2.2.1 o23.2.2.2.2.1 o23.2.2.2.2.2 T_known T_then T_trip T_sent T_learned T_chosen T_decided) rfl rfl rfl rfl (by decide) rfl rfl rfl rfl rfl rfl hl.1 rfl (Nat.le_of_ble_eq_true rfl) ⟨Nat.zero_le _, Nat.zero_le _⟩ dX10_isItem_36 (fun H locs hP hD hS => ?_)
        refine lv_aload_n hx hb dX10_isItem_39 rfl (lv_at hl 0 rfl) ?_
        obtain ⟨o26, ho26, hf⟩ := bd_some hf
        refine cv_v (ci := 7) (q := (RX10, TX10, 19)) (As := []) (rest := []) hx hb hml hown hts hK hP hD hA hS (kX10_reads l D cI cC cS Ta Ta_s Ta_past Ta_aside Ta_text Ta_known Ta_then Ta_trip Ta_sent Ta_learned Ta_chosen Ta_decided  o25 T_past T_aside T_pasts T_text T_typed o23.1 o23.2.1 o23.2.2.1 o23.2.2.2.1 o23.2.2.2.2.1 o23.2.2.2.2.2 T_known T_then T_trip T_sent T_learned T_chosen T_decided o26 ho26) (cwV 0 hts gX10_isItem_X10_reads rfl rfl rfl (by decide +kernel) (by subst hR; exact ⟨Nat.le_of_ble_eq_true rfl, Nat.le_of_ble_eq_true rfl⟩)) [0, 1, 2, 3, 4, 5, 6, 7, 8, 9, 10, 11] [] [0, 1, 2, 3, 4, 5, 6, 7, 8, 9, 10, 11] [] (sh_X10 Ta Ta_s Ta_past Ta_aside Ta_text Ta_known Ta_then Ta_trip Ta_sent Ta_learned Ta_chosen Ta_decided cI cC cS o25 T_past T_aside T_pasts T_text T_typed o26.1 o26.2.1 o26.2.2.1 o26.2.2.2.1 o26.2.2.2.2.1 o26.2.2.2.2.2 T_known T_then T_trip T_sent T_learned T_chosen T_decided) rfl rfl rfl rfl (by decide) rfl rfl rfl rfl rfl rfl hl.1 rfl (Nat.le_of_ble_eq_true rfl) ⟨Nat.zero_le _, Nat.zero_le _⟩ dX10_isItem_40 (fun H locs hP hD hS => ?_)
        refine lv_aload_n hx hb dX10_isItem_43 rfl (lv_at hl 0 rfl) ?_
        refine va_get (D := D) (ci := 7) (v := .int o26.2.2.1) (C := RX10) (T := TX10) (N := 19) hx hb hts hi_X10 hown hK hP 0 rfl rfl 8 (by decide) q134 (fun _ h9 => h9) rfl dX10_isItem_44 ?_
        refine lv_iconst (v := (3 : Int32)) hx hb dX10_isItem_47 (by decide) ?_
        refine lv_icmp_ne (tgt := 55) hx hb dX10_isItem_48 (by decide) (fun c27 => ?_) (fun c27 => ?_)
        · have hf := if_f c27 hf
          refine lv_iconst (v := (0 : Int32)) hx hb dX10_isItem_55 (by decide) ?_
          have hf := Option.some.inj hf
          subst hf
          exact rt_z (ty := .boolean) hx hb hr rfl hlocks hQ hK hP hD hS rfl dX10_isItem_56
        · have hf := if_t c27 hf
          refine lv_iconst (v := (1 : Int32)) hx hb dX10_isItem_51 (by decide) ?_
          refine lv_goto (tgt := 56) hx hb dX10_isItem_52 (by decide) ?_
          have hf := Option.some.inj hf
          subst hf
          exact rt_z (ty := .boolean) hx hb hr rfl hlocks hQ hK hP hD hS rfl dX10_isItem_56
      · have hf := if_t c24 hf
        refine lv_iconst (v := (0 : Int32)) hx hb dX10_isItem_29 (by decide) ?_
        have hf := Option.some.inj hf
        subst hf
        exact rt_z (ty := .boolean) hx hb hr rfl hlocks hQ hK hP hD hS rfl dX10_isItem_30
set_option maxRecDepth 100000 in
set_option maxHeartbeats 4000000 in
theorem kX10_load (l : Launch) (D : va_G) (cI cC cS : ClassId) (Ta Ta_s Ta_past Ta_aside Ta_text Ta_known Ta_then Ta_trip Ta_sent Ta_learned Ta_chosen Ta_decided : Nat) (T_s : Nat → Int32) (T_past : Nat → Int32) (T_aside : Nat → Int32) (T_pasts : Int32) (T_text : Nat → Int32) (T_typed : Int32) (T_at : Int32) (T_from : Int32) (T_token : Int32) (T_many : Int32) (T_letters : Int64) (T_number : Int32) (T_known : Nat → Int32) (T_then : Nat → Int32) (T_trip : Nat → Int32) (T_sent : Nat → Int32) (T_learned : Nat → Int32) (T_chosen : Nat → Int32) (T_decided : Nat → Int32) (o : Int32 × (Nat → Int32) × (Nat → Int32) × (Nat → Int32) × Int32 × Int32 × Int32 × Int32 × Int32 × Int32 × Int64 × Int32) (hf : fX10_load T_s T_past T_aside T_pasts T_text T_typed T_at T_from T_token T_many T_letters T_number = some o) : CI l D yX10_load wsX10_load ({ frames := 6, cells := 0, slots := 0, locals := 128 } : Room) (tysK cI cC cS) [.ref Ta] (sh_X10 Ta Ta_s Ta_past Ta_aside Ta_text Ta_known Ta_then Ta_trip Ta_sent Ta_learned Ta_chosen Ta_decided cI cC cS T_s T_past T_aside T_pasts T_text T_typed T_at T_from T_token T_many T_letters T_number T_known T_then T_trip T_sent T_learned T_chosen T_decided) o.1 (sh_X10 Ta Ta_s Ta_past Ta_aside Ta_text Ta_known Ta_then Ta_trip Ta_sent Ta_learned Ta_chosen Ta_decided cI cC cS o.2.1 o.2.2.1 o.2.2.2.1 o.2.2.2.2.1 T_text o.2.2.2.2.2.1 o.2.2.2.2.2.2.1 o.2.2.2.2.2.2.2.1 o.2.2.2.2.2.2.2.2.1 o.2.2.2.2.2.2.2.2.2.1 o.2.2.2.2.2.2.2.2.2.2.1 o.2.2.2.2.2.2.2.2.2.2.2 T_known T_then T_trip T_sent T_learned T_chosen T_decided) := by
  refine met_i (cc := cX10_load) (maxL := 2) (ret := (some .int)) (by decide) rfl (Nat.le_of_ble_eq_true rfl) ?_
  intro p e s m args below meth c R Q A F hR hQ hP hK hD hA hS ls hl
  obtain ⟨hx, hb, hr, hts, hml, hlocks, hown⟩ := F
  have hown : s.vm.findClass RX10 = some m.cls := hown
  have hi_X10 : ∀ w ∈ u_ws RX10 TX10 19, w ∈ wsX10_load := fun w h => List.mem_cons_of_mem _ (List.mem_append_right _ h)
  have q118 := hts (.fieldLink RX10 118 "ChangingRoundsModel" "at" "I") (by decide +kernel)
  have q134 := hts (.fieldLink RX10 134 "ChangingRoundsModel" "token" "I") (by decide +kernel)
  have q124 := hts (.fieldLink RX10 124 "ChangingRoundsModel" "from" "I") (by decide +kernel)
  have q115 := hts (.fieldLink RX10 115 "ChangingRoundsModel" "typed" "I") (by decide +kernel)
  have q7 := hts (.fieldLink RX10 7 "ChangingRoundsModel" "s" "[I") (by decide +kernel)
  have hl : lv_has ls 2 [(0, .ref Ta)] := hl
  unfold fX10_load at hf
  have L20 : ∀ (T_past : Nat → Int32) (T_aside : Nat → Int32) (T_pasts : Int32) (T_typed : Int32) (n20 : Nat) (x1 : Int32) (T_s : Nat → Int32) (T_at : Int32) (T_from : Int32) (T_token : Int32) (T_many : Int32) (T_letters : Int64) (T_number : Int32) (H : Heap) (locs : List Loc) (ls : Array Slot), fX10_load_l20 T_past T_aside T_pasts T_text T_typed n20 x1 T_s T_at T_from T_token T_many T_letters T_number = some o → va_P D vwCl (sh_X10 Ta Ta_s Ta_past Ta_aside Ta_text Ta_known Ta_then Ta_trip Ta_sent Ta_learned Ta_chosen Ta_decided cI cC cS T_s T_past T_aside T_pasts T_text T_typed T_at T_from T_token T_many T_letters T_number T_known T_then T_trip T_sent T_learned T_chosen T_decided) H → va_D A (sh_X10 Ta Ta_s Ta_past Ta_aside Ta_text Ta_known Ta_then Ta_trip Ta_sent Ta_learned Ta_chosen Ta_decided cI cC cS T_s T_past T_aside T_pasts T_text T_typed T_at T_from T_token T_many T_letters T_number T_known T_then T_trip T_sent T_learned T_chosen T_decided) → va_S A s.heap H locs → lv_has ls 2 [(0, .ref Ta), (1, .int x1)] → W p l e R s m args below meth c H locs 0 0 Q (F0 m 20 ls []) := by
    intro T_past T_aside T_pasts T_typed n20
    induction n20 with
    | zero => intro x1 T_s T_at T_from T_token T_many T_letters T_number H locs ls hf; cases (show (none : Option _) = some _ from hf)
    | succ n20 ih20 =>
      intro x1 T_s T_at T_from T_token T_many T_letters T_number H locs ls hf hP hD hS hl
      rw [fX10_load_l20] at hf
      refine lv_aload_n hx hb dX10_load_20 rfl (lv_at hl 0 rfl) ?_
      refine va_get (D := D) (ci := 7) (v := .int T_token) (C := RX10) (T := TX10) (N := 19) hx hb hts hi_X10 hown hK hP 0 rfl rfl 8 (by decide) q134 (fun _ h9 => h9) rfl dX10_load_21 ?_
      refine lv_if_eq (tgt := 56) hx hb dX10_load_24 (by decide) (fun c1 => ?_) (fun c1 => ?_)
      · have hf := if_t c1 hf
        refine lv_aload_n hx hb dX10_load_56 rfl (lv_at hl 0 rfl) ?_
        refine lv_iconst (v := (0 : Int32)) hx hb dX10_load_57 (by decide) ?_
        refine sx_put (D := D) (ci := 7) (v := .int (0 : Int32)) (ty := .int) (C := RX10) (T := TX10) (N := 19) hx hb hts hi_X10 tyX10 tyX10_ok nmX10 hown hK hP hD hS 0 rfl rfl 5 (by decide) q115 (fun _ h9 => h9) rfl (by decide +kernel) rfl rfl (Nat.le_of_ble_eq_true rfl) dX10_load_58 (sh_X10 Ta Ta_s Ta_past Ta_aside Ta_text Ta_known Ta_then Ta_trip Ta_sent Ta_learned Ta_chosen Ta_decided cI cC cS T_s T_past T_aside T_pasts T_text (0 : Int32) T_at T_from T_token T_many T_letters T_number T_known T_then T_trip T_sent T_learned T_chosen T_decided) rfl (fun H locs hP hD hS => ?_)
        refine lv_aload_n hx hb dX10_load_61 rfl (lv_at hl 0 rfl) ?_
        refine lv_aload_n hx hb dX10_load_62 rfl (lv_at hl 0 rfl) ?_
        refine va_get (D := D) (ci := 7) (v := .ref Ta_s) (C := RX10) (T := TX10) (N := 19) hx hb hts hi_X10 hown hK hP 0 rfl rfl 0 (by decide) q7 (fun _ h9 => h9) rfl dX10_load_63 ?_
        refine lv_iconst (v := (1 : Int32)) hx hb dX10_load_66 (by decide) ?_
        refine sx_iald (j := 1) hx hb hK hP 1 0 rfl rfl (inb_vp (by decide)) (by decide) dX10_load_67 ?_
        obtain ⟨o2, ho2, hf⟩ := bd_some hf
        refine cv_i (ci := 7) (q := (RX10, TX10, 19)) (As := [.int (T_s 1)]) (rest := []) hx hb hml hown hts hK hP hD hA hS (kX10_ends l D cI cC cS Ta Ta_s Ta_past Ta_aside Ta_text Ta_known Ta_then Ta_trip Ta_sent Ta_learned Ta_chosen Ta_decided (T_s 1) T_s T_past T_aside T_pasts T_text (0 : Int32) T_at T_from T_token T_many T_letters T_number T_known T_then T_trip T_sent T_learned T_chosen T_decided o2 ho2) (cwV 1 hts gX10_load_X10_ends rfl rfl rfl (by decide +kernel) (by subst hR; exact ⟨Nat.le_of_ble_eq_true rfl, Nat.le_of_ble_eq_true rfl⟩)) [0, 1, 2, 3, 4, 5, 6, 7, 8, 9, 10, 11] [] [0, 1, 2, 3, 4, 5, 6, 7, 8, 9, 10, 11] [] (sh_X10 Ta Ta_s Ta_past Ta_aside Ta_text Ta_known Ta_then Ta_trip Ta_sent Ta_learned Ta_chosen Ta_decided cI cC cS T_s o2.2.1 T_aside o2.2.2 T_text (0 : Int32) T_at T_from T_token T_many T_letters T_number T_known T_then T_trip T_sent T_learned T_chosen T_decided) rfl rfl rfl rfl (by decide) rfl rfl rfl rfl rfl rfl hl.1 rfl (Nat.le_of_ble_eq_true rfl) ⟨Nat.zero_le _, Nat.zero_le _⟩ dX10_load_68 (fun H locs hP hD hS => ?_)
        have hf := Option.some.inj hf
        subst hf
        exact rt_i hx hb hr hlocks hQ hK hP hD hS rfl dX10_load_71
      · have hf := if_f c1 hf
        refine lv_aload_n hx hb dX10_load_27 rfl (lv_at hl 0 rfl) ?_
        refine lv_iload_n hx hb dX10_load_28 rfl (lv_at hl 1 rfl) ?_
        obtain ⟨o3, ho3, hf⟩ := bd_some hf
        refine cv_i (ci := 7) (q := (RX10, TX10, 19)) (As := [.int x1]) (rest := []) hx hb hml hown hts hK hP hD hA hS (kX10_isItem l D cI cC cS Ta Ta_s Ta_past Ta_aside Ta_text Ta_known Ta_then Ta_trip Ta_sent Ta_learned Ta_chosen Ta_decided x1 T_s T_past T_aside T_pasts T_text T_typed T_at T_from T_token T_many T_letters T_number T_known T_then T_trip T_sent T_learned T_chosen T_decided o3 ho3) (cwV 1 hts gX10_load_X10_isItem rfl rfl rfl (by decide +kernel) (by subst hR; exact ⟨Nat.le_of_ble_eq_true rfl, Nat.le_of_ble_eq_true rfl⟩)) [0, 1, 2, 3, 4, 5, 6, 7, 8, 9, 10, 11] [] [0, 1, 2, 3, 4, 5, 6, 7, 8, 9, 10, 11] [] (sh_X10 Ta Ta_s Ta_past Ta_aside Ta_text Ta_known Ta_then Ta_trip Ta_sent Ta_learned Ta_chosen Ta_decided cI cC cS o3.2.1 T_past T_aside T_pasts T_text T_typed o3.2.2.1 o3.2.2.2.1 o3.2.2.2.2.1 o3.2.2.2.2.2.1 o3.2.2.2.2.2.2.1 o3.2.2.2.2.2.2.2 T_known T_then T_trip T_sent T_learned T_chosen T_decided) rfl rfl rfl rfl (by decide) rfl rfl rfl rfl rfl rfl hl.1 rfl (Nat.le_of_ble_eq_true rfl) ⟨Nat.zero_le _, Nat.zero_le _⟩ dX10_load_29 (fun H locs hP hD hS => ?_)
        refine lv_if_ne (tgt := 47) hx hb dX10_load_32 (by decide) (fun c4 => ?_) (fun c4 => ?_)
        · have hf := if_f c4 hf
          refine lv_iconst (v := (0 : Int32)) hx hb dX10_load_47 (by decide) ?_
          refine lv_istore_n (lv' := [(1, .int (0 : Int32)), (0, .ref Ta)]) hx hb dX10_load_48 rfl hl (by decide) rfl (fun ls hl => ?_)
          refine lv_aload_n hx hb dX10_load_49 rfl (lv_at hl 1 rfl) ?_
          obtain ⟨o5, ho5, hf⟩ := bd_some hf
          refine cv_v (ci := 7) (q := (RX10, TX10, 19)) (As := []) (rest := []) hx hb hml hown hts hK hP hD hA hS (kX10_reads l D cI cC cS Ta Ta_s Ta_past Ta_aside Ta_text Ta_known Ta_then Ta_trip Ta_sent Ta_learned Ta_chosen Ta_decided  o3.2.1 T_past T_aside T_pasts T_text T_typed o3.2.2.1 o3.2.2.2.1 o3.2.2.2.2.1 o3.2.2.2.2.2.1 o3.2.2.2.2.2.2.1 o3.2.2.2.2.2.2.2 T_known T_then T_trip T_sent T_learned T_chosen T_decided o5 ho5) (cwV 0 hts gX10_load_X10_reads rfl rfl rfl (by decide +kernel) (by subst hR; exact ⟨Nat.le_of_ble_eq_true rfl, Nat.le_of_ble_eq_true rfl⟩)) [0, 1, 2, 3, 4, 5, 6, 7, 8, 9, 10, 11] [] [0, 1, 2, 3, 4, 5, 6, 7, 8, 9, 10, 11] [] (sh_X10 Ta Ta_s Ta_past Ta_aside Ta_text Ta_known Ta_then Ta_trip Ta_sent Ta_learned Ta_chosen Ta_decided cI cC cS o3.2.1 T_past T_aside T_pasts T_text T_typed o5.1 o5.2.1 o5.2.2.1 o5.2.2.2.1 o5.2.2.2.2.1 o5.2.2.2.2.2 T_known T_then T_trip T_sent T_learned T_chosen T_decided) rfl rfl rfl rfl (by decide) rfl rfl rfl rfl rfl rfl hl.1 rfl (Nat.le_of_ble_eq_true rfl) ⟨Nat.zero_le _, Nat.zero_le _⟩ dX10_load_50 (fun H locs hP hD hS => ?_)
          refine lv_goto (tgt := 20) hx hb dX10_load_53 (by decide) ?_
          exact ih20 (0 : Int32) o3.2.1 o5.1 o5.2.1 o5.2.2.1 o5.2.2.2.1 o5.2.2.2.2.1 o5.2.2.2.2.2 _ _ _ hf hP hD hS (lv_sub hl [1, 0] rfl)
        · have hf := if_t c4 hf
          refine lv_aload_n hx hb dX10_load_35 rfl (lv_at hl 0 rfl) ?_
          obtain ⟨o6, ho6, hf⟩ := bd_some hf
          refine cv_v (ci := 7) (q := (RX10, TX10, 19)) (As := []) (rest := []) hx hb hml hown hts hK hP hD hA hS (kX10_restore l D cI cC cS Ta Ta_s Ta_past Ta_aside Ta_text Ta_known Ta_then Ta_trip Ta_sent Ta_learned Ta_chosen Ta_decided  o3.2.1 T_past T_aside T_pasts T_text T_typed o3.2.2.1 o3.2.2.2.1 o3.2.2.2.2.1 o3.2.2.2.2.2.1 o3.2.2.2.2.2.2.1 o3.2.2.2.2.2.2.2 T_known T_then T_trip T_sent T_learned T_chosen T_decided o6 ho6) (cwV 0 hts gX10_load_X10_restore rfl rfl rfl (by decide +kernel) (by subst hR; exact ⟨Nat.le_of_ble_eq_true rfl, Nat.le_of_ble_eq_true rfl⟩)) [0, 1, 2, 3, 4, 5, 6, 7, 8, 9, 10, 11] [] [0, 1, 2, 3, 4, 5, 6, 7, 8, 9, 10, 11] [] (sh_X10 Ta Ta_s Ta_past Ta_aside Ta_text Ta_known Ta_then Ta_trip Ta_sent Ta_learned Ta_chosen Ta_decided cI cC cS o6 T_past T_aside T_pasts T_text T_typed o3.2.2.1 o3.2.2.2.1 o3.2.2.2.2.1 o3.2.2.2.2.2.1 o3.2.2.2.2.2.2.1 o3.2.2.2.2.2.2.2 T_known T_then T_trip T_sent T_learned T_chosen T_decided) rfl rfl rfl rfl (by decide) rfl rfl rfl rfl rfl rfl hl.1 rfl (Nat.le_of_ble_eq_true rfl) ⟨Nat.zero_le _, Nat.zero_le _⟩ dX10_load_36 (fun H locs hP hD hS => ?_)
          refine lv_bipush (v := (-10 : Int32)) hx hb dX10_load_39 (by decide) ?_
          refine lv_aload_n hx hb dX10_load_41 rfl (lv_at hl 0 rfl) ?_
          refine va_get (D := D) (ci := 7) (v := .int o3.2.2.2.1) (C := RX10) (T := TX10) (N := 19) hx hb hts hi_X10 hown hK hP 0 rfl rfl 7 (by decide) q124 (fun _ h9 => h9) rfl dX10_load_42 ?_
          refine lv_isub hx hb dX10_load_45 ?_
          have hf := Option.some.inj hf
          subst hf
          exact rt_i hx hb hr hlocks hQ hK hP hD hS rfl dX10_load_46
  refine lv_aload_n hx hb dX10_load_0 rfl (lv_at hl 0 rfl) ?_
  obtain ⟨o7, ho7, hf⟩ := bd_some hf
  refine cv_v (ci := 7) (q := (RX10, TX10, 19)) (As := []) (rest := []) hx hb hml hown hts hK hP hD hA hS (kX10_hold l D cI cC cS Ta Ta_s Ta_past Ta_aside Ta_text Ta_known Ta_then Ta_trip Ta_sent Ta_learned Ta_chosen Ta_decided  T_s T_past T_aside T_pasts T_text T_typed T_at T_from T_token T_many T_letters T_number T_known T_then T_trip T_sent T_learned T_chosen T_decided o7 ho7) (cwV 0 hts gX10_load_X10_hold rfl rfl rfl (by decide +kernel) (by subst hR; exact ⟨Nat.le_of_ble_eq_true rfl, Nat.le_of_ble_eq_true rfl⟩)) [0, 1, 2, 3, 4, 5, 6, 7, 8, 9, 10, 11] [] [0, 1, 2, 3, 4, 5, 6, 7, 8, 9, 10, 11] [] (sh_X10 Ta Ta_s Ta_past Ta_aside Ta_text Ta_known Ta_then Ta_trip Ta_sent Ta_learned Ta_chosen Ta_decided cI cC cS T_s T_past o7 T_pasts T_text T_typed T_at T_from T_token T_many T_letters T_number T_known T_then T_trip T_sent T_learned T_chosen T_decided) rfl rfl rfl rfl (by decide) rfl rfl rfl rfl rfl rfl hl.1 rfl (Nat.le_of_ble_eq_true rfl) ⟨Nat.zero_le _, Nat.zero_le _⟩ dX10_load_1 (fun H locs hP hD hS => ?_)
  refine lv_aload_n hx hb dX10_load_4 rfl (lv_at hl 0 rfl) ?_
  refine lv_iconst (v := (4 : Int32)) hx hb dX10_load_5 (by decide) ?_
  obtain ⟨o8, ho8, hf⟩ := bd_some hf
  refine cv_v (ci := 7) (q := (RX10, TX10, 19)) (As := [.int (4 : Int32)]) (rest := []) hx hb hml hown hts hK hP hD hA hS (kX10_begins l D cI cC cS Ta Ta_s Ta_past Ta_aside Ta_text Ta_known Ta_then Ta_trip Ta_sent Ta_learned Ta_chosen Ta_decided (4 : Int32) T_s T_past o7 T_pasts T_text T_typed T_at T_from T_token T_many T_letters T_number T_known T_then T_trip T_sent T_learned T_chosen T_decided o8 ho8) (cwV 1 hts gX10_load_X10_begins rfl rfl rfl (by decide +kernel) (by subst hR; exact ⟨Nat.le_of_ble_eq_true rfl, Nat.le_of_ble_eq_true rfl⟩)) [0, 1, 2, 3, 4, 5, 6, 7, 8, 9, 10, 11] [] [0, 1, 2, 3, 4, 5, 6, 7, 8, 9, 10, 11] [] (sh_X10 Ta Ta_s Ta_past Ta_aside Ta_text Ta_known Ta_then Ta_trip Ta_sent Ta_learned Ta_chosen Ta_decided cI cC cS o8 T_past o7 T_pasts T_text T_typed T_at T_from T_token T_many T_letters T_number T_known T_then T_trip T_sent T_learned T_chosen T_decided) rfl rfl rfl rfl (by decide) rfl rfl rfl rfl rfl rfl hl.1 rfl (Nat.le_of_ble_eq_true rfl) ⟨Nat.zero_le _, Nat.zero_le _⟩ dX10_load_6 (fun H locs hP hD hS => ?_)
  refine lv_aload_n hx hb dX10_load_9 rfl (lv_at hl 0 rfl) ?_
  refine lv_iconst (v := (0 : Int32)) hx hb dX10_load_10 (by decide) ?_
  refine sx_put (D := D) (ci := 7) (v := .int (0 : Int32)) (ty := .int) (C := RX10) (T := TX10) (N := 19) hx hb hts hi_X10 tyX10 tyX10_ok nmX10 hown hK hP hD hS 0 rfl rfl 6 (by decide) q118 (fun _ h9 => h9) rfl (by decide +kernel) rfl rfl (Nat.le_of_ble_eq_true rfl) dX10_load_11 (sh_X10 Ta Ta_s Ta_past Ta_aside Ta_text Ta_known Ta_then Ta_trip Ta_sent Ta_learned Ta_chosen Ta_decided cI cC cS o8 T_past o7 T_pasts T_text T_typed (0 : Int32) T_from T_token T_many T_letters T_number T_known T_then T_trip T_sent T_learned T_chosen T_decided) rfl (fun H locs hP hD hS => ?_)
  refine lv_aload_n hx hb dX10_load_14 rfl (lv_at hl 0 rfl) ?_
  obtain ⟨o9, ho9, hf⟩ := bd_some hf
  refine cv_v (ci := 7) (q := (RX10, TX10, 19)) (As := []) (rest := []) hx hb hml hown hts hK hP hD hA hS (kX10_reads l D cI cC cS Ta Ta_s Ta_past Ta_aside Ta_text Ta_known Ta_then Ta_trip Ta_sent Ta_learned Ta_chosen Ta_decided  o8 T_past o7 T_pasts T_text T_typed (0 : Int32) T_from T_token T_many T_letters T_number T_known T_then T_trip T_sent T_learned T_chosen T_decided o9 ho9) (cwV 0 hts gX10_load_X10_reads rfl rfl rfl (by decide +kernel) (by subst hR; exact ⟨Nat.le_of_ble_eq_true rfl, Nat.le_of_ble_eq_true rfl⟩)) [0, 1, 2, 3, 4, 5, 6, 7, 8, 9, 10, 11] [] [0, 1, 2, 3, 4, 5, 6, 7, 8, 9, 10, 11] [] (sh_X10 Ta Ta_s Ta_past Ta_aside Ta_text Ta_known Ta_then Ta_trip Ta_sent Ta_learned Ta_chosen Ta_decided cI cC cS o8 T_past o7 T_pasts T_text T_typed o9.1 o9.2.1 o9.2.2.1 o9.2.2.2.1 o9.2.2.2.2.1 o9.2.2.2.2.2 T_known T_then T_trip T_sent T_learned T_chosen T_decided) rfl rfl rfl rfl (by decide) rfl rfl rfl rfl rfl rfl hl.1 rfl (Nat.le_of_ble_eq_true rfl) ⟨Nat.zero_le _, Nat.zero_le _⟩ dX10_load_15 (fun H locs hP hD hS => ?_)
  refine lv_iconst (v := (1 : Int32)) hx hb dX10_load_18 (by decide) ?_
  refine lv_istore_n (lv' := [(1, .int (1 : Int32)), (0, .ref Ta)]) hx hb dX10_load_19 rfl hl (by decide) rfl (fun ls hl => ?_)
  exact L20 T_past o7 T_pasts T_typed fuel (1 : Int32) o8 o9.1 o9.2.1 o9.2.2.1 o9.2.2.2.1 o9.2.2.2.2.1 o9.2.2.2.2.2 _ _ _ hf hP hD hS (lv_sub hl [1, 0] rfl)
set_option maxRecDepth 100000 in
set_option maxHeartbeats 4000000 in
theorem kX10_components (l : Launch) (D : va_G) (cI cC cS : ClassId) (Ta Ta_s Ta_past Ta_aside Ta_text Ta_known Ta_then Ta_trip Ta_sent Ta_learned Ta_chosen Ta_decided : Nat) (x1 : Int32) (T_s : Nat → Int32) (T_past : Nat → Int32) (T_aside : Nat → Int32) (T_pasts : Int32) (T_text : Nat → Int32) (T_typed : Int32) (T_at : Int32) (T_from : Int32) (T_token : Int32) (T_many : Int32) (T_letters : Int64) (T_number : Int32) (T_known : Nat → Int32) (T_then : Nat → Int32) (T_trip : Nat → Int32) (T_sent : Nat → Int32) (T_learned : Nat → Int32) (T_chosen : Nat → Int32) (T_decided : Nat → Int32) (o : Int32) (hf : fX10_components x1 T_s = some o) : CI l D yX10_components wsX10_components ({ frames := 3, cells := 0, slots := 0, locals := 70 } : Room) (tysK cI cC cS) [.ref Ta, .int x1] (sh_X10 Ta Ta_s Ta_past Ta_aside Ta_text Ta_known Ta_then Ta_trip Ta_sent Ta_learned Ta_chosen Ta_decided cI cC cS T_s T_past T_aside T_pasts T_text T_typed T_at T_from T_token T_many T_letters T_number T_known T_then T_trip T_sent T_learned T_chosen T_decided) o (sh_X10 Ta Ta_s Ta_past Ta_aside Ta_text Ta_known Ta_then Ta_trip Ta_sent Ta_learned Ta_chosen Ta_decided cI cC cS T_s T_past T_aside T_pasts T_text T_typed T_at T_from T_token T_many T_letters T_number T_known T_then T_trip T_sent T_learned T_chosen T_decided) := by
  refine met_i (cc := cX10_components) (maxL := 4) (ret := (some .int)) (by decide) rfl (Nat.le_of_ble_eq_true rfl) ?_
  intro p e s m args below meth c R Q A F hR hQ hP hK hD hA hS ls hl
  obtain ⟨hx, hb, hr, hts, hml, hlocks, hown⟩ := F
  have hown : s.vm.findClass RX10 = some m.cls := hown
  have hi_X10 : ∀ w ∈ u_ws RX10 TX10 19, w ∈ wsX10_components := fun w h => List.mem_cons_of_mem _ (List.mem_append_right _ h)
  have q7 := hts (.fieldLink RX10 7 "ChangingRoundsModel" "s" "[I") (by decide +kernel)
  have hl : lv_has ls 4 [(0, .ref Ta), (1, .int x1)] := hl
  unfold fX10_components at hf
  have L4 : ∀ (n4 : Nat) (x2 : Int32) (x3 : Int32) (H : Heap) (locs : List Loc) (ls : Array Slot), fX10_components_l4 x1 T_s n4 x2 x3 = some o → va_P D vwCl (sh_X10 Ta Ta_s Ta_past Ta_aside Ta_text Ta_known Ta_then Ta_trip Ta_sent Ta_learned Ta_chosen Ta_decided cI cC cS T_s T_past T_aside T_pasts T_text T_typed T_at T_from T_token T_many T_letters T_number T_known T_then T_trip T_sent T_learned T_chosen T_decided) H → va_D A (sh_X10 Ta Ta_s Ta_past Ta_aside Ta_text Ta_known Ta_then Ta_trip Ta_sent Ta_learned Ta_chosen Ta_decided cI cC cS T_s T_past T_aside T_pasts T_text T_typed T_at T_from T_token T_many T_letters T_number T_known T_then T_trip T_sent T_learned T_chosen T_decided) → va_S A s.heap H locs → lv_has ls 4 [(0, .ref Ta), (1, .int x1), (2, .int x2), (3, .int x3)] → W p l e R s m args below meth c H locs 0 0 Q (F0 m 4 ls []) := by
    intro n4
    induction n4 with
    | zero => intro x2 x3 H locs ls hf; cases (show (none : Option _) = some _ from hf)
    | succ n4 ih4 =>
      intro x2 x3 H locs ls hf hP hD hS hl
      rw [fX10_components_l4] at hf
      refine lv_iload_n hx hb dX10_components_4 rfl (lv_at hl 3 rfl) ?_
      refine lv_aload_n hx hb dX10_components_5 rfl (lv_at hl 0 rfl) ?_
      refine va_get (D := D) (ci := 7) (v := .ref Ta_s) (C := RX10) (T := TX10) (N := 19) hx hb hts hi_X10 hown hK hP 0 rfl rfl 0 (by decide) q7 (fun _ h9 => h9) rfl dX10_components_6 ?_
      refine lv_iconst (v := (0 : Int32)) hx hb dX10_components_9 (by decide) ?_
      refine sx_iald (j := 0) hx hb hK hP 1 0 rfl rfl (inb_vp (by decide)) (by decide) dX10_components_10 ?_
      refine lv_icmp_ge (tgt := 41) hx hb dX10_components_11 (by decide) (fun c1 => ?_) (fun c1 => ?_)
      · have hf := if_t c1 hf
        refine lv_iload_n hx hb dX10_components_41 rfl (lv_at hl 2 rfl) ?_
        have hf := Option.some.inj hf
        subst hf
        exact rt_i hx hb hr hlocks hQ hK hP hD hS rfl dX10_components_42
      · have hf := if_f c1 hf
        refine lv_iload_n hx hb dX10_components_14 rfl (lv_at hl 2 rfl) ?_
        refine lv_aload_n hx hb dX10_components_15 rfl (lv_at hl 0 rfl) ?_
        refine lv_iload_n hx hb dX10_components_16 rfl (lv_at hl 1 rfl) ?_
        refine lv_iload_n hx hb dX10_components_17 rfl (lv_at hl 3 rfl) ?_
        obtain ⟨o2, ho2, hf⟩ := bd_some hf
        refine cv_i (ci := 7) (q := (RX10, TX10, 19)) (As := [.int x1, .int x3]) (rest := [.int x2]) hx hb hml hown hts hK hP hD hA hS (kX10_componentOf l D cI cC cS Ta Ta_s Ta_past Ta_aside Ta_text Ta_known Ta_then Ta_trip Ta_sent Ta_learned Ta_chosen Ta_decided x1 x3 T_s T_past T_aside T_pasts T_text T_typed T_at T_from T_token T_many T_letters T_number T_known T_then T_trip T_sent T_learned T_chosen T_decided o2 ho2) (cwV 2 hts gX10_components_X10_componentOf rfl rfl rfl (by decide +kernel) (by subst hR; exact ⟨Nat.le_of_ble_eq_true rfl, Nat.le_of_ble_eq_true rfl⟩)) [0, 1, 2, 3, 4, 5, 6, 7, 8, 9, 10, 11] [] [0, 1, 2, 3, 4, 5, 6, 7, 8, 9, 10, 11] [] (sh_X10 Ta Ta_s Ta_past Ta_aside Ta_text Ta_known Ta_then Ta_trip Ta_sent Ta_learned Ta_chosen Ta_decided cI cC cS T_s T_past T_aside T_pasts T_text T_typed T_at T_from T_token T_many T_letters T_number T_known T_then T_trip T_sent T_learned T_chosen T_decided) rfl rfl rfl rfl (by decide) rfl rfl rfl rfl rfl rfl hl.1 rfl (Nat.le_of_ble_eq_true rfl) ⟨Nat.zero_le _, Nat.zero_le _⟩ dX10_components_18 (fun H locs hP hD hS => ?_)
        obtain ⟨o3, ho3, hf⟩ := bd_some hf
        refine cs_i (As := [.int o2]) (rest := [.int x2]) hx hb hml hown hts hK hP hD hA hS (kX10_lowest l D cI cC cS  o2  o3 ho3) (va_cwS 1 hts gX10_components_X10_lowest rfl rfl rfl (by decide +kernel) (by subst hR; exact ⟨Nat.le_of_ble_eq_true rfl, Nat.le_of_ble_eq_true rfl⟩)) rfl hl.1 rfl (Nat.le_of_ble_eq_true rfl) ⟨Nat.zero_le _, Nat.zero_le _⟩ dX10_components_21 (fun H locs hP hD hS => ?_)
        refine lv_iload_n hx hb dX10_components_24 rfl (lv_at hl 3 rfl) ?_
        refine lv_icmp_ne (tgt := 32) hx hb dX10_components_25 (by decide) (fun c4 => ?_) (fun c4 => ?_)
        · have hf := if_f c4 hf
          refine lv_iconst (v := (0 : Int32)) hx hb dX10_components_32 (by decide) ?_
          refine lv_iadd hx hb dX10_components_33 ?_
          refine lv_istore_n (lv' := [(2, .int (x2 + (0 : Int32))), (0, .ref Ta), (1, .int x1), (3, .int x3)]) hx hb dX10_components_34 rfl hl (by decide) rfl (fun ls hl => ?_)
          refine lv_iinc (v := (x3 + 1)) (lv' := [(3, .int (x3 + 1)), (2, .int (x2 + (0 : Int32))), (0, .ref Ta), (1, .int x1)]) hx hb dX10_components_35 hl (k := 3) rfl rfl (by decide) rfl (fun ls hl => ?_)
          refine lv_goto (tgt := 4) hx hb dX10_components_38 (by decide) ?_
          exact ih4 (x2 + (0 : Int32)) (x3 + 1) _ _ _ hf hP hD hS (lv_sub hl [2, 3, 1, 0] rfl)
        · have hf := if_t c4 hf
          refine lv_iconst (v := (1 : Int32)) hx hb dX10_components_28 (by decide) ?_
          refine lv_goto (tgt := 33) hx hb dX10_components_29 (by decide) ?_
          refine lv_iadd hx hb dX10_components_33 ?_
          refine lv_istore_n (lv' := [(2, .int (x2 + (1 : Int32))), (0, .ref Ta), (1, .int x1), (3, .int x3)]) hx hb dX10_components_34 rfl hl (by decide) rfl (fun ls hl => ?_)
          refine lv_iinc (v := (x3 + 1)) (lv' := [(3, .int (x3 + 1)), (2, .int (x2 + (1 : Int32))), (0, .ref Ta), (1, .int x1)]) hx hb dX10_components_35 hl (k := 3) rfl rfl (by decide) rfl (fun ls hl => ?_)
          refine lv_goto (tgt := 4) hx hb dX10_components_38 (by decide) ?_
          exact ih4 (x2 + (1 : Int32)) (x3 + 1) _ _ _ hf hP hD hS (lv_sub hl [2, 3, 1, 0] rfl)
  refine lv_iconst (v := (0 : Int32)) hx hb dX10_components_0 (by decide) ?_
  refine lv_istore_n (lv' := [(2, .int (0 : Int32)), (0, .ref Ta), (1, .int x1)]) hx hb dX10_components_1 rfl hl (by decide) rfl (fun ls hl => ?_)
  refine lv_iconst (v := (0 : Int32)) hx hb dX10_components_2 (by decide) ?_
  refine lv_istore_n (lv' := [(3, .int (0 : Int32)), (2, .int (0 : Int32)), (0, .ref Ta), (1, .int x1)]) hx hb dX10_components_3 rfl hl (by decide) rfl (fun ls hl => ?_)
  exact L4  fuel (0 : Int32) (0 : Int32) _ _ _ hf hP hD hS (lv_sub hl [2, 3, 1, 0] rfl)
set_option maxRecDepth 100000 in
set_option maxHeartbeats 4000000 in
theorem kX10_degree (l : Launch) (D : va_G) (cI cC cS : ClassId) (Ta Ta_s Ta_past Ta_aside Ta_text Ta_known Ta_then Ta_trip Ta_sent Ta_learned Ta_chosen Ta_decided : Nat) (x1 : Int32) (T_s : Nat → Int32) (T_past : Nat → Int32) (T_aside : Nat → Int32) (T_pasts : Int32) (T_text : Nat → Int32) (T_typed : Int32) (T_at : Int32) (T_from : Int32) (T_token : Int32) (T_many : Int32) (T_letters : Int64) (T_number : Int32) (T_known : Nat → Int32) (T_then : Nat → Int32) (T_trip : Nat → Int32) (T_sent : Nat → Int32) (T_learned : Nat → Int32) (T_chosen : Nat → Int32) (T_decided : Nat → Int32) (o : Int32) (hf : fX10_degree x1 T_s = some o) : CI l D yX10_degree wsX10_degree ({ frames := 2, cells := 0, slots := 0, locals := 46 } : Room) (tysK cI cC cS) [.ref Ta, .int x1] (sh_X10 Ta Ta_s Ta_past Ta_aside Ta_text Ta_known Ta_then Ta_trip Ta_sent Ta_learned Ta_chosen Ta_decided cI cC cS T_s T_past T_aside T_pasts T_text T_typed T_at T_from T_token T_many T_letters T_number T_known T_then T_trip T_sent T_learned T_chosen T_decided) o (sh_X10 Ta Ta_s Ta_past Ta_aside Ta_text Ta_known Ta_then Ta_trip Ta_sent Ta_learned Ta_chosen Ta_decided cI cC cS T_s T_past T_aside T_pasts T_text T_typed T_at T_from T_token T_many T_letters T_number T_known T_then T_trip T_sent T_learned T_chosen T_decided) := by
  refine met_i (cc := cX10_degree) (maxL := 5) (ret := (some .int)) (by decide) rfl (Nat.le_of_ble_eq_true rfl) ?_
  intro p e s m args below meth c R Q A F hR hQ hP hK hD hA hS ls hl
  obtain ⟨hx, hb, hr, hts, hml, hlocks, hown⟩ := F
  have hown : s.vm.findClass RX10 = some m.cls := hown
  have hi_X10 : ∀ w ∈ u_ws RX10 TX10 19, w ∈ wsX10_degree := fun w h => List.mem_cons_of_mem _ (List.mem_append_right _ h)
  have q7 := hts (.fieldLink RX10 7 "ChangingRoundsModel" "s" "[I") (by decide +kernel)
  have hl : lv_has ls 5 [(0, .ref Ta), (1, .int x1)] := hl
  unfold fX10_degree at hf
  have L4 : ∀ (n4 : Nat) (x2 : Int32) (x3 : Int32) (H : Heap) (locs : List Loc) (ls : Array Slot), fX10_degree_l4 x1 T_s n4 x2 x3 = some o → va_P D vwCl (sh_X10 Ta Ta_s Ta_past Ta_aside Ta_text Ta_known Ta_then Ta_trip Ta_sent Ta_learned Ta_chosen Ta_decided cI cC cS T_s T_past T_aside T_pasts T_text T_typed T_at T_from T_token T_many T_letters T_number T_known T_then T_trip T_sent T_learned T_chosen T_decided) H → va_D A (sh_X10 Ta Ta_s Ta_past Ta_aside Ta_text Ta_known Ta_then Ta_trip Ta_sent Ta_learned Ta_chosen Ta_decided cI cC cS T_s T_past T_aside T_pasts T_text T_typed T_at T_from T_token T_many T_letters T_number T_known T_then T_trip T_sent T_learned T_chosen T_decided) → va_S A s.heap H locs → lv_has ls 5 [(0, .ref Ta), (1, .int x1), (2, .int x2), (3, .int x3)] → W p l e R s m args below meth c H locs 0 0 Q (F0 m 4 ls []) := by
    intro n4
    induction n4 with
    | zero => intro x2 x3 H locs ls hf; cases (show (none : Option _) = some _ from hf)
    | succ n4 ih4 =>
      intro x2 x3 H locs ls hf hP hD hS hl
      rw [fX10_degree_l4] at hf
      refine lv_iload_n hx hb dX10_degree_4 rfl (lv_at hl 3 rfl) ?_
      refine lv_aload_n hx hb dX10_degree_5 rfl (lv_at hl 0 rfl) ?_
      refine va_get (D := D) (ci := 7) (v := .ref Ta_s) (C := RX10) (T := TX10) (N := 19) hx hb hts hi_X10 hown hK hP 0 rfl rfl 0 (by decide) q7 (fun _ h9 => h9) rfl dX10_degree_6 ?_
      refine lv_iconst (v := (0 : Int32)) hx hb dX10_degree_9 (by decide) ?_
      refine sx_iald (j := 0) hx hb hK hP 1 0 rfl rfl (inb_vp (by decide)) (by decide) dX10_degree_10 ?_
      refine lv_icmp_ge (tgt := 48) hx hb dX10_degree_11 (by decide) (fun c1 => ?_) (fun c1 => ?_)
      · have hf := if_t c1 hf
        refine lv_iload_n hx hb dX10_degree_48 rfl (lv_at hl 2 rfl) ?_
        have hf := Option.some.inj hf
        subst hf
        exact rt_i hx hb hr hlocks hQ hK hP hD hS rfl dX10_degree_49
      · have hf := if_f c1 hf
        refine lv_aload_n hx hb dX10_degree_14 rfl (lv_at hl 0 rfl) ?_
        refine lv_iload_n hx hb dX10_degree_15 rfl (lv_at hl 1 rfl) ?_
        refine lv_iconst (v := (1 : Int32)) hx hb dX10_degree_16 (by decide) ?_
        refine lv_iload_n hx hb dX10_degree_17 rfl (lv_at hl 3 rfl) ?_
        refine lv_ishl hx hb dX10_degree_18 ?_
        obtain ⟨o2, ho2, hf⟩ := bd_some hf
        refine cv_i (ci := 7) (q := (RX10, TX10, 19)) (As := [.int x1, .int ((1 : Int32) <<< (x3 &&& 31))]) (rest := []) hx hb hml hown hts hK hP hD hA hS (kX10_around l D cI cC cS Ta Ta_s Ta_past Ta_aside Ta_text Ta_known Ta_then Ta_trip Ta_sent Ta_learned Ta_chosen Ta_decided x1 ((1 : Int32) <<< (x3 &&& 31)) T_s T_past T_aside T_pasts T_text T_typed T_at T_from T_token T_many T_letters T_number T_known T_then T_trip T_sent T_learned T_chosen T_decided o2 ho2) (cwV 2 hts gX10_degree_X10_around rfl rfl rfl (by decide +kernel) (by subst hR; exact ⟨Nat.le_of_ble_eq_true rfl, Nat.le_of_ble_eq_true rfl⟩)) [0, 1, 2, 3, 4, 5, 6, 7, 8, 9, 10, 11] [] [0, 1, 2, 3, 4, 5, 6, 7, 8, 9, 10, 11] [] (sh_X10 Ta Ta_s Ta_past Ta_aside Ta_text Ta_known Ta_then Ta_trip Ta_sent Ta_learned Ta_chosen Ta_decided cI cC cS T_s T_past T_aside T_pasts T_text T_typed T_at T_from T_token T_many T_letters T_number T_known T_then T_trip T_sent T_learned T_chosen T_decided) rfl rfl rfl rfl (by decide) rfl rfl rfl rfl rfl rfl hl.1 rfl (Nat.le_of_ble_eq_true rfl) ⟨Nat.zero_le _, Nat.zero_le _⟩ dX10_degree_19 (fun H locs hP hD hS => ?_)
        obtain ⟨o3, ho3, hf⟩ := bd_some hf
        refine cs_i (As := [.int o2]) (rest := []) hx hb hml hown hts hK hP hD hA hS (kX10_size l D cI cC cS  o2  o3 ho3) (va_cwS 1 hts gX10_degree_X10_size rfl rfl rfl (by decide +kernel) (by subst hR; exact ⟨Nat.le_of_ble_eq_true rfl, Nat.le_of_ble_eq_true rfl⟩)) rfl hl.1 rfl (Nat.le_of_ble_eq_true rfl) ⟨Nat.zero_le _, Nat.zero_le _⟩ dX10_degree_22 (fun H locs hP hD hS => ?_)
        refine lv_iconst (v := (1 : Int32)) hx hb dX10_degree_25 (by decide) ?_
        refine lv_isub hx hb dX10_degree_26 ?_
        refine lv_istore (lv' := [(4, .int (o3 - (1 : Int32))), (0, .ref Ta), (1, .int x1), (2, .int x2), (3, .int x3)]) hx hb dX10_degree_27 hl (by decide) rfl (fun ls hl => ?_)
        refine lv_iload hx hb dX10_degree_29 (lv_at hl 0 rfl) ?_
        refine lv_iload_n hx hb dX10_degree_31 rfl (lv_at hl 3 rfl) ?_
        refine lv_icmp_le (tgt := 40) hx hb dX10_degree_32 (by decide) (fun c4 => ?_) (fun c4 => ?_)
        · have hf := if_t c4 hf
          refine lv_iload_n hx hb dX10_degree_40 rfl (lv_at hl 3 rfl) ?_
          refine lv_istore_n (lv' := [(2, .int x2), (4, .int (o3 - (1 : Int32))), (0, .ref Ta), (1, .int x1), (3, .int x3)]) hx hb dX10_degree_41 rfl hl (by decide) rfl (fun ls hl => ?_)
          refine lv_iinc (v := (x3 + 1)) (lv' := [(3, .int (x3 + 1)), (2, .int x2), (4, .int (o3 - (1 : Int32))), (0, .ref Ta), (1, .int x1)]) hx hb dX10_degree_42 hl (k := 4) rfl rfl (by decide) rfl (fun ls hl => ?_)
          refine lv_goto (tgt := 4) hx hb dX10_degree_45 (by decide) ?_
          exact ih4 x2 (x3 + 1) _ _ _ hf hP hD hS (lv_sub hl [3, 4, 1, 0] rfl)
        · have hf := if_f c4 hf
          refine lv_iload hx hb dX10_degree_35 (lv_at hl 0 rfl) ?_
          refine lv_goto (tgt := 41) hx hb dX10_degree_37 (by decide) ?_
          refine lv_istore_n (lv' := [(2, .int (o3 - (1 : Int32))), (4, .int (o3 - (1 : Int32))), (0, .ref Ta), (1, .int x1), (3, .int x3)]) hx hb dX10_degree_41 rfl hl (by decide) rfl (fun ls hl => ?_)
          refine lv_iinc (v := (x3 + 1)) (lv' := [(3, .int (x3 + 1)), (2, .int (o3 - (1 : Int32))), (4, .int (o3 - (1 : Int32))), (0, .ref Ta), (1, .int x1)]) hx hb dX10_degree_42 hl (k := 4) rfl rfl (by decide) rfl (fun ls hl => ?_)
          refine lv_goto (tgt := 4) hx hb dX10_degree_45 (by decide) ?_
          exact ih4 (o3 - (1 : Int32)) (x3 + 1) _ _ _ hf hP hD hS (lv_sub hl [3, 4, 1, 0] rfl)
  refine lv_iconst (v := (0 : Int32)) hx hb dX10_degree_0 (by decide) ?_
  refine lv_istore_n (lv' := [(2, .int (0 : Int32)), (0, .ref Ta), (1, .int x1)]) hx hb dX10_degree_1 rfl hl (by decide) rfl (fun ls hl => ?_)
  refine lv_iconst (v := (0 : Int32)) hx hb dX10_degree_2 (by decide) ?_
  refine lv_istore_n (lv' := [(3, .int (0 : Int32)), (2, .int (0 : Int32)), (0, .ref Ta), (1, .int x1)]) hx hb dX10_degree_3 rfl hl (by decide) rfl (fun ls hl => ?_)
  exact L4  fuel (0 : Int32) (0 : Int32) _ _ _ hf hP hD hS (lv_sub hl [2, 3, 1, 0] rfl)
