set_option maxRecDepth 100000 in
set_option maxHeartbeats 4000000 in
theorem kX10_heard (l : Launch) (D : va_G) (cI cC cS : ClassId) (Ta Ta_s Ta_past Ta_aside Ta_text Ta_known Ta_then Ta_trip Ta_sent Ta_learned Ta_chosen Ta_decided : Nat) (x1 : Int32) (x2 : Int32) (x3 : Int32) (T_s : Nat → Int32) (T_past : Nat → Int32) (T_aside : Nat → Int32) (T_pasts : Int32) (T_text : Nat → Int32) (T_typed : Int32) (T_at : Int32) (T_from : Int32) (T_token : Int32) (T_many : Int32) (T_letters : Int64) (T_number : Int32) (T_known : Nat → Int32) (T_then : Nat → Int32) (T_trip : Nat → Int32) (T_sent : Nat → Int32) (T_learned : Nat → Int32) (T_chosen : Nat → Int32) (T_decided : Nat → Int32) (o : Int32 × (Nat → Int32) × (Nat → Int32)) (hf : fX10_heard x1 x2 x3 T_s T_known T_then = some o) : CI l D yX10_heard wsX10_heard ({ frames := 3, cells := 0, slots := 0, locals := 68 } : Room) (tysK cI cC cS) [.ref Ta, .int x1, .int x2, .int x3] (sh_X10 Ta Ta_s Ta_past Ta_aside Ta_text Ta_known Ta_then Ta_trip Ta_sent Ta_learned Ta_chosen Ta_decided cI cC cS T_s T_past T_aside T_pasts T_text T_typed T_at T_from T_token T_many T_letters T_number T_known T_then T_trip T_sent T_learned T_chosen T_decided) o.1 (sh_X10 Ta Ta_s Ta_past Ta_aside Ta_text Ta_known Ta_then Ta_trip Ta_sent Ta_learned Ta_chosen Ta_decided cI cC cS T_s T_past T_aside T_pasts T_text T_typed T_at T_from T_token T_many T_letters T_number o.2.1 o.2.2 T_trip T_sent T_learned T_chosen T_decided) := by
  refine met_i (cc := cX10_heard) (maxL := 4) (ret := (some .int)) (by decide) rfl (Nat.le_of_ble_eq_true rfl) ?_
  intro p e s m args below meth c R Q A F hR hQ hP hK hD hA hS ls hl
  obtain ⟨hx, hb, hr, hts, hml, hlocks, hown⟩ := F
  have hown : s.vm.findClass RX10 = some m.cls := hown
  have hi_X10 : ∀ w ∈ u_ws RX10 TX10 19, w ∈ wsX10_heard := fun w h => List.mem_cons_of_mem _ (List.mem_append_right _ h)
  have q22 := hts (.fieldLink RX10 22 "ChangingRoundsModel" "known" "[I") (by decide +kernel)
  have hl : lv_has ls 4 [(0, .ref Ta), (1, .int x1), (2, .int x2), (3, .int x3)] := hl
  unfold fX10_heard at hf
  refine lv_aload_n hx hb dX10_heard_0 rfl (lv_at hl 0 rfl) ?_
  refine lv_iload_n hx hb dX10_heard_1 rfl (lv_at hl 1 rfl) ?_
  refine cv_i (ci := 7) (q := (RX10, TX10, 19)) (As := [.int x1]) (rest := []) hx hb hml hown hts hK hP hD hA hS (kX10_isNode l D cI cC cS Ta Ta_s Ta_past Ta_aside Ta_text Ta_known Ta_then Ta_trip Ta_sent Ta_learned Ta_chosen Ta_decided x1 T_s T_past T_aside T_pasts T_text T_typed T_at T_from T_token T_many T_letters T_number T_known T_then T_trip T_sent T_learned T_chosen T_decided (fX10_isNode x1 T_s) rfl) (cwV 1 hts gX10_heard_X10_isNode rfl rfl rfl (by decide +kernel) (by subst hR; exact ⟨Nat.le_of_ble_eq_true rfl, Nat.le_of_ble_eq_true rfl⟩)) [0, 1, 2, 3, 4, 5, 6, 7, 8, 9, 10, 11] [] [0, 1, 2, 3, 4, 5, 6, 7, 8, 9, 10, 11] [] (sh_X10 Ta Ta_s Ta_past Ta_aside Ta_text Ta_known Ta_then Ta_trip Ta_sent Ta_learned Ta_chosen Ta_decided cI cC cS T_s T_past T_aside T_pasts T_text T_typed T_at T_from T_token T_many T_letters T_number T_known T_then T_trip T_sent T_learned T_chosen T_decided) rfl rfl rfl rfl (by decide) rfl rfl rfl rfl rfl rfl hl.1 rfl (Nat.le_of_ble_eq_true rfl) ⟨Nat.zero_le _, Nat.zero_le _⟩ dX10_heard_2 (fun H locs hP hD hS => ?_)
  refine lv_if_eq (tgt := 22) hx hb dX10_heard_5 (by decide) (fun c1 => ?_) (fun c1 => ?_)
  · have hf := if_t c1 hf
    refine lv_iconst (v := (-1 : Int32)) hx hb dX10_heard_22 (by decide) ?_
    have hf := Option.some.inj hf
    subst hf
    exact rt_i hx hb hr hlocks hQ hK hP hD hS rfl dX10_heard_23
  · have hf := if_f c1 hf
    refine lv_iload_n hx hb dX10_heard_8 rfl (lv_at hl 2 rfl) ?_
    refine cs_i (As := [.int x2]) (rest := []) hx hb hml hown hts hK hP hD hA hS (kX10_isTime l D cI cC cS  x2  (fX10_isTime x2) rfl) (va_cwS 1 hts gX10_heard_X10_isTime rfl rfl rfl (by decide +kernel) (by subst hR; exact ⟨Nat.le_of_ble_eq_true rfl, Nat.le_of_ble_eq_true rfl⟩)) rfl hl.1 rfl (Nat.le_of_ble_eq_true rfl) ⟨Nat.zero_le _, Nat.zero_le _⟩ dX10_heard_9 (fun H locs hP hD hS => ?_)
    refine lv_if_eq (tgt := 22) hx hb dX10_heard_12 (by decide) (fun c2 => ?_) (fun c2 => ?_)
    · have hf := if_t c2 hf
      refine lv_iconst (v := (-1 : Int32)) hx hb dX10_heard_22 (by decide) ?_
      have hf := Option.some.inj hf
      subst hf
      exact rt_i hx hb hr hlocks hQ hK hP hD hS rfl dX10_heard_23
    · have hf := if_f c2 hf
      refine lv_iload_n hx hb dX10_heard_15 rfl (lv_at hl 3 rfl) ?_
      refine cs_i (As := [.int x3]) (rest := []) hx hb hml hown hts hK hP hD hA hS (kX10_isTime l D cI cC cS  x3  (fX10_isTime x3) rfl) (va_cwS 1 hts gX10_heard_X10_isTime rfl rfl rfl (by decide +kernel) (by subst hR; exact ⟨Nat.le_of_ble_eq_true rfl, Nat.le_of_ble_eq_true rfl⟩)) rfl hl.1 rfl (Nat.le_of_ble_eq_true rfl) ⟨Nat.zero_le _, Nat.zero_le _⟩ dX10_heard_16 (fun H locs hP hD hS => ?_)
      refine lv_if_ne (tgt := 24) hx hb dX10_heard_19 (by decide) (fun c3 => ?_) (fun c3 => ?_)
      · have hf := if_f c3 hf
        refine lv_aload_n hx hb dX10_heard_24 rfl (lv_at hl 0 rfl) ?_
        refine lv_iload_n hx hb dX10_heard_25 rfl (lv_at hl 2 rfl) ?_
        refine lv_iload_n hx hb dX10_heard_26 rfl (lv_at hl 3 rfl) ?_
        obtain ⟨o4, ho4, hf⟩ := bd_some hf
        refine cv_v (ci := 7) (q := (RX10, TX10, 19)) (As := [.int x2, .int x3]) (rest := []) hx hb hml hown hts hK hP hD hA hS (kX10_floods l D cI cC cS Ta Ta_s Ta_past Ta_aside Ta_text Ta_known Ta_then Ta_trip Ta_sent Ta_learned Ta_chosen Ta_decided x2 x3 T_s T_past T_aside T_pasts T_text T_typed T_at T_from T_token T_many T_letters T_number T_known T_then T_trip T_sent T_learned T_chosen T_decided o4 ho4) (cwV 2 hts gX10_heard_X10_floods rfl rfl rfl (by decide +kernel) (by subst hR; exact ⟨Nat.le_of_ble_eq_true rfl, Nat.le_of_ble_eq_true rfl⟩)) [0, 1, 2, 3, 4, 5, 6, 7, 8, 9, 10, 11] [] [0, 1, 2, 3, 4, 5, 6, 7, 8, 9, 10, 11] [] (sh_X10 Ta Ta_s Ta_past Ta_aside Ta_text Ta_known Ta_then Ta_trip Ta_sent Ta_learned Ta_chosen Ta_decided cI cC cS T_s T_past T_aside T_pasts T_text T_typed T_at T_from T_token T_many T_letters T_number o4.1 o4.2 T_trip T_sent T_learned T_chosen T_decided) rfl rfl rfl rfl (by decide) rfl rfl rfl rfl rfl rfl hl.1 rfl (Nat.le_of_ble_eq_true rfl) ⟨Nat.zero_le _, Nat.zero_le _⟩ dX10_heard_27 (fun H locs hP hD hS => ?_)
        refine lv_aload_n hx hb dX10_heard_30 rfl (lv_at hl 0 rfl) ?_
        refine va_get (D := D) (ci := 7) (v := .ref Ta_known) (C := RX10) (T := TX10) (N := 19) hx hb hts hi_X10 hown hK hP 0 rfl rfl 12 (by decide) q22 (fun _ h9 => h9) rfl dX10_heard_31 ?_
        refine lv_iload_n hx hb dX10_heard_34 rfl (lv_at hl 1 rfl) ?_
        obtain ⟨hz, hf⟩ := ck_some hf
        refine sx_iald (j := x1.toNatClampNeg) hx hb hK hP 5 0 rfl rfl (inb_vp hz) rfl dX10_heard_35 ?_
        have hf := Option.some.inj hf
        subst hf
        exact rt_i hx hb hr hlocks hQ hK hP hD hS rfl dX10_heard_36
      · have hf := if_t c3 hf
        refine lv_iconst (v := (-1 : Int32)) hx hb dX10_heard_22 (by decide) ?_
        have hf := Option.some.inj hf
        subst hf
        exact rt_i hx hb hr hlocks hQ hK hP hD hS rfl dX10_heard_23
set_option maxRecDepth 100000 in
set_option maxHeartbeats 4000000 in
theorem kX10_travels (l : Launch) (D : va_G) (cI cC cS : ClassId) (Ta Ta_s Ta_past Ta_aside Ta_text Ta_known Ta_then Ta_trip Ta_sent Ta_learned Ta_chosen Ta_decided : Nat) (x1 : Int32) (T_s : Nat → Int32) (T_past : Nat → Int32) (T_aside : Nat → Int32) (T_pasts : Int32) (T_text : Nat → Int32) (T_typed : Int32) (T_at : Int32) (T_from : Int32) (T_token : Int32) (T_many : Int32) (T_letters : Int64) (T_number : Int32) (T_known : Nat → Int32) (T_then : Nat → Int32) (T_trip : Nat → Int32) (T_sent : Nat → Int32) (T_learned : Nat → Int32) (T_chosen : Nat → Int32) (T_decided : Nat → Int32) (o : (Nat → Int32) × (Nat → Int32) × (Nat → Int32)) (hf : fX10_travels x1 T_s T_known T_then T_trip = some o) : CV l D yX10_travels wsX10_travels ({ frames := 2, cells := 0, slots := 0, locals := 45 } : Room) (tysK cI cC cS) [.ref Ta, .int x1] (sh_X10 Ta Ta_s Ta_past Ta_aside Ta_text Ta_known Ta_then Ta_trip Ta_sent Ta_learned Ta_chosen Ta_decided cI cC cS T_s T_past T_aside T_pasts T_text T_typed T_at T_from T_token T_many T_letters T_number T_known T_then T_trip T_sent T_learned T_chosen T_decided) (sh_X10 Ta Ta_s Ta_past Ta_aside Ta_text Ta_known Ta_then Ta_trip Ta_sent Ta_learned Ta_chosen Ta_decided cI cC cS T_s T_past T_aside T_pasts T_text T_typed T_at T_from T_token T_many T_letters T_number o.1 o.2.1 o.2.2 T_sent T_learned T_chosen T_decided) := by
  refine met_v (cc := cX10_travels) (maxL := 4) (ret := none) (by decide) rfl (Nat.le_of_ble_eq_true rfl) ?_
  intro p e s m args below meth c R Q A F hR hQ hP hK hD hA hS ls hl
  obtain ⟨hx, hb, hr, hts, hml, hlocks, hown⟩ := F
  have hown : s.vm.findClass RX10 = some m.cls := hown
  have hi_X10 : ∀ w ∈ u_ws RX10 TX10 19, w ∈ wsX10_travels := fun w h => List.mem_cons_of_mem _ (List.mem_append_right _ h)
  have q28 := hts (.fieldLink RX10 28 "ChangingRoundsModel" "trip" "[I") (by decide +kernel)
  have q22 := hts (.fieldLink RX10 22 "ChangingRoundsModel" "known" "[I") (by decide +kernel)
  have hl : lv_has ls 4 [(0, .ref Ta), (1, .int x1)] := hl
  unfold fX10_travels at hf
  have L28 : ∀ (n28 : Nat) (x2 : Int32) (T_known : Nat → Int32) (T_then : Nat → Int32) (T_trip : Nat → Int32) (H : Heap) (locs : List Loc) (ls : Array Slot), fX10_travels_l28 x1 T_s n28 x2 T_known T_then T_trip = some o → va_P D vwCl (sh_X10 Ta Ta_s Ta_past Ta_aside Ta_text Ta_known Ta_then Ta_trip Ta_sent Ta_learned Ta_chosen Ta_decided cI cC cS T_s T_past T_aside T_pasts T_text T_typed T_at T_from T_token T_many T_letters T_number T_known T_then T_trip T_sent T_learned T_chosen T_decided) H → va_D A (sh_X10 Ta Ta_s Ta_past Ta_aside Ta_text Ta_known Ta_then Ta_trip Ta_sent Ta_learned Ta_chosen Ta_decided cI cC cS T_s T_past T_aside T_pasts T_text T_typed T_at T_from T_token T_many T_letters T_number T_known T_then T_trip T_sent T_learned T_chosen T_decided) → va_S A s.heap H locs → lv_has ls 4 [(0, .ref Ta), (1, .int x1), (2, .int x2)] → W p l e R s m args below meth c H locs 0 0 Q (F0 m 28 ls []) := by
    intro n28
    induction n28 with
    | zero => intro x2 T_known T_then T_trip H locs ls hf; cases (show (none : Option _) = some _ from hf)
    | succ n28 ih28 =>
      have L37 : ∀ (x2 : Int32) (T_known : Nat → Int32) (T_then : Nat → Int32) (n37 : Nat) (x3 : Int32) (T_trip : Nat → Int32) (H : Heap) (locs : List Loc) (ls : Array Slot), fX10_travels_l37 (fX10_travels_l28 x1 T_s n28) x1 x2 T_s T_known T_then n37 x3 T_trip = some o → va_P D vwCl (sh_X10 Ta Ta_s Ta_past Ta_aside Ta_text Ta_known Ta_then Ta_trip Ta_sent Ta_learned Ta_chosen Ta_decided cI cC cS T_s T_past T_aside T_pasts T_text T_typed T_at T_from T_token T_many T_letters T_number T_known T_then T_trip T_sent T_learned T_chosen T_decided) H → va_D A (sh_X10 Ta Ta_s Ta_past Ta_aside Ta_text Ta_known Ta_then Ta_trip Ta_sent Ta_learned Ta_chosen Ta_decided cI cC cS T_s T_past T_aside T_pasts T_text T_typed T_at T_from T_token T_many T_letters T_number T_known T_then T_trip T_sent T_learned T_chosen T_decided) → va_S A s.heap H locs → lv_has ls 4 [(0, .ref Ta), (1, .int x1), (2, .int x2), (3, .int x3)] → W p l e R s m args below meth c H locs 0 0 Q (F0 m 37 ls []) := by
        intro x2 T_known T_then n37
        induction n37 with
        | zero => intro x3 T_trip H locs ls hf; cases (show (none : Option _) = some _ from hf)
        | succ n37 ih37 =>
          intro x3 T_trip H locs ls hf hP hD hS hl
          rw [fX10_travels_l37] at hf
          refine lv_iload_n hx hb dX10_travels_37 rfl (lv_at hl 3 rfl) ?_
          refine lv_bipush (v := (64 : Int32)) hx hb dX10_travels_38 (by decide) ?_
          refine lv_icmp_ge (tgt := 96) hx hb dX10_travels_40 (by decide) (fun c1 => ?_) (fun c1 => ?_)
          · have hf := if_t c1 hf
            refine lv_aload_n hx hb dX10_travels_96 rfl (lv_at hl 0 rfl) ?_
            refine lv_iload_n hx hb dX10_travels_97 rfl (lv_at hl 1 rfl) ?_
            refine lv_iload_n hx hb dX10_travels_98 rfl (lv_at hl 2 rfl) ?_
            refine lv_iadd hx hb dX10_travels_99 ?_
            obtain ⟨o2, ho2, hf⟩ := bd_some hf
            refine cv_v (ci := 7) (q := (RX10, TX10, 19)) (As := [.int (x1 + x2)]) (rest := []) hx hb hml hown hts hK hP hD hA hS (kX10_spreads l D cI cC cS Ta Ta_s Ta_past Ta_aside Ta_text Ta_known Ta_then Ta_trip Ta_sent Ta_learned Ta_chosen Ta_decided (x1 + x2) T_s T_past T_aside T_pasts T_text T_typed T_at T_from T_token T_many T_letters T_number T_known T_then T_trip T_sent T_learned T_chosen T_decided o2 ho2) (cwV 1 hts gX10_travels_X10_spreads rfl rfl rfl (by decide +kernel) (by subst hR; exact ⟨Nat.le_of_ble_eq_true rfl, Nat.le_of_ble_eq_true rfl⟩)) [0, 1, 2, 3, 4, 5, 6, 7, 8, 9, 10, 11] [] [0, 1, 2, 3, 4, 5, 6, 7, 8, 9, 10, 11] [] (sh_X10 Ta Ta_s Ta_past Ta_aside Ta_text Ta_known Ta_then Ta_trip Ta_sent Ta_learned Ta_chosen Ta_decided cI cC cS T_s T_past T_aside T_pasts T_text T_typed T_at T_from T_token T_many T_letters T_number o2.1 o2.2 T_trip T_sent T_learned T_chosen T_decided) rfl rfl rfl rfl (by decide) rfl rfl rfl rfl rfl rfl hl.1 rfl (Nat.le_of_ble_eq_true rfl) ⟨Nat.zero_le _, Nat.zero_le _⟩ dX10_travels_100 (fun H locs hP hD hS => ?_)
            refine lv_iinc (v := (x2 + 1)) (lv' := [(2, .int (x2 + 1)), (0, .ref Ta), (1, .int x1), (3, .int x3)]) hx hb dX10_travels_103 hl (k := 2) rfl rfl (by decide) rfl (fun ls hl => ?_)
            refine lv_goto (tgt := 28) hx hb dX10_travels_106 (by decide) ?_
            exact ih28 (x2 + 1) o2.1 o2.2 T_trip _ _ _ hf hP hD hS (lv_sub hl [1, 2, 0] rfl)
          · have hf := if_f c1 hf
            refine lv_aload_n hx hb dX10_travels_43 rfl (lv_at hl 0 rfl) ?_
            refine va_get (D := D) (ci := 7) (v := .ref Ta_trip) (C := RX10) (T := TX10) (N := 19) hx hb hts hi_X10 hown hK hP 0 rfl rfl 14 (by decide) q28 (fun _ h9 => h9) rfl dX10_travels_44 ?_
            refine lv_iload_n hx hb dX10_travels_47 rfl (lv_at hl 3 rfl) ?_
            refine lv_aload_n hx hb dX10_travels_48 rfl (lv_at hl 0 rfl) ?_
            refine va_get (D := D) (ci := 7) (v := .ref Ta_trip) (C := RX10) (T := TX10) (N := 19) hx hb hts hi_X10 hown hK hP 0 rfl rfl 14 (by decide) q28 (fun _ h9 => h9) rfl dX10_travels_49 ?_
            refine lv_iload_n hx hb dX10_travels_52 rfl (lv_at hl 3 rfl) ?_
            obtain ⟨hz, hf⟩ := ck_some hf
            refine sx_iald (j := x3.toNatClampNeg) hx hb hK hP 7 0 rfl rfl (inb_vp hz) rfl dX10_travels_53 ?_
            refine lv_bipush (v := (-9 : Int32)) hx hb dX10_travels_54 (by decide) ?_
            refine lv_icmp_ne (tgt := 83) hx hb dX10_travels_56 (by decide) (fun c3 => ?_) (fun c3 => ?_)
            · have hf := if_f c3 hf
              refine lv_aload_n hx hb dX10_travels_83 rfl (lv_at hl 0 rfl) ?_
              refine va_get (D := D) (ci := 7) (v := .ref Ta_trip) (C := RX10) (T := TX10) (N := 19) hx hb hts hi_X10 hown hK hP 0 rfl rfl 14 (by decide) q28 (fun _ h9 => h9) rfl dX10_travels_84 ?_
              refine lv_iload_n hx hb dX10_travels_87 rfl (lv_at hl 3 rfl) ?_
              obtain ⟨hz, hf⟩ := ck_some hf
              refine sx_iald (j := x3.toNatClampNeg) hx hb hK hP 7 0 rfl rfl (inb_vp hz) rfl dX10_travels_88 ?_
              obtain ⟨hz, hf⟩ := ck_some hf
              refine sx_iast (j := x3.toNatClampNeg) hx hb hK hP hD hS 7 0 rfl rfl (inb_vp hz) rfl dX10_travels_89 (sh_X10 Ta Ta_s Ta_past Ta_aside Ta_text Ta_known Ta_then Ta_trip Ta_sent Ta_learned Ta_chosen Ta_decided cI cC cS T_s T_past T_aside T_pasts T_text T_typed T_at T_from T_token T_many T_letters T_number T_known T_then (upd T_trip x3.toNatClampNeg (T_trip x3.toNatClampNeg)) T_sent T_learned T_chosen T_decided) rfl (fun H locs hP hD hS => ?_)
              refine lv_iinc (v := (x3 + 1)) (lv' := [(3, .int (x3 + 1)), (0, .ref Ta), (1, .int x1), (2, .int x2)]) hx hb dX10_travels_90 hl (k := 3) rfl rfl (by decide) rfl (fun ls hl => ?_)
              refine lv_goto (tgt := 37) hx hb dX10_travels_93 (by decide) ?_
              exact ih37 (x3 + 1) (upd T_trip x3.toNatClampNeg (T_trip x3.toNatClampNeg)) _ _ _ hf hP hD hS (lv_sub hl [1, 2, 3, 0] rfl)
            · have hf := if_t c3 hf
              refine lv_aload_n hx hb dX10_travels_59 rfl (lv_at hl 0 rfl) ?_
              refine va_get (D := D) (ci := 7) (v := .ref Ta_known) (C := RX10) (T := TX10) (N := 19) hx hb hts hi_X10 hown hK hP 0 rfl rfl 12 (by decide) q22 (fun _ h9 => h9) rfl dX10_travels_60 ?_
              refine lv_iload_n hx hb dX10_travels_63 rfl (lv_at hl 3 rfl) ?_
              refine lv_bipush (v := (8 : Int32)) hx hb dX10_travels_64 (by decide) ?_
              refine lv_irem hx hb dX10_travels_66 (by decide) ?_
              obtain ⟨hz, hf⟩ := ck_some hf
              refine sx_iald (j := (x3 - x3 / (8 : Int32) * (8 : Int32)).toNatClampNeg) hx hb hK hP 5 0 rfl rfl (inb_vp hz) rfl dX10_travels_67 ?_
              refine lv_iload_n hx hb dX10_travels_68 rfl (lv_at hl 3 rfl) ?_
              refine lv_bipush (v := (8 : Int32)) hx hb dX10_travels_69 (by decide) ?_
              refine lv_idiv hx hb dX10_travels_71 (by decide) ?_
              refine lv_ishr hx hb dX10_travels_72 ?_
              refine lv_iconst (v := (1 : Int32)) hx hb dX10_travels_73 (by decide) ?_
              refine lv_iand hx hb dX10_travels_74 ?_
              refine lv_iconst (v := (1 : Int32)) hx hb dX10_travels_75 (by decide) ?_
              refine lv_icmp_ne (tgt := 83) hx hb dX10_travels_76 (by decide) (fun c4 => ?_) (fun c4 => ?_)
              · have hf := if_f c4 hf
                refine lv_aload_n hx hb dX10_travels_83 rfl (lv_at hl 0 rfl) ?_
                refine va_get (D := D) (ci := 7) (v := .ref Ta_trip) (C := RX10) (T := TX10) (N := 19) hx hb hts hi_X10 hown hK hP 0 rfl rfl 14 (by decide) q28 (fun _ h9 => h9) rfl dX10_travels_84 ?_
                refine lv_iload_n hx hb dX10_travels_87 rfl (lv_at hl 3 rfl) ?_
                obtain ⟨hz, hf⟩ := ck_some hf
                refine sx_iald (j := x3.toNatClampNeg) hx hb hK hP 7 0 rfl rfl (inb_vp hz) rfl dX10_travels_88 ?_
                obtain ⟨hz, hf⟩ := ck_some hf
                refine sx_iast (j := x3.toNatClampNeg) hx hb hK hP hD hS 7 0 rfl rfl (inb_vp hz) rfl dX10_travels_89 (sh_X10 Ta Ta_s Ta_past Ta_aside Ta_text Ta_known Ta_then Ta_trip Ta_sent Ta_learned Ta_chosen Ta_decided cI cC cS T_s T_past T_aside T_pasts T_text T_typed T_at T_from T_token T_many T_letters T_number T_known T_then (upd T_trip x3.toNatClampNeg (T_trip x3.toNatClampNeg)) T_sent T_learned T_chosen T_decided) rfl (fun H locs hP hD hS => ?_)
                refine lv_iinc (v := (x3 + 1)) (lv' := [(3, .int (x3 + 1)), (0, .ref Ta), (1, .int x1), (2, .int x2)]) hx hb dX10_travels_90 hl (k := 3) rfl rfl (by decide) rfl (fun ls hl => ?_)
                refine lv_goto (tgt := 37) hx hb dX10_travels_93 (by decide) ?_
                exact ih37 (x3 + 1) (upd T_trip x3.toNatClampNeg (T_trip x3.toNatClampNeg)) _ _ _ hf hP hD hS (lv_sub hl [1, 2, 3, 0] rfl)
              · have hf := if_t c4 hf
                refine lv_iload_n hx hb dX10_travels_79 rfl (lv_at hl 2 rfl) ?_
                refine lv_goto (tgt := 89) hx hb dX10_travels_80 (by decide) ?_
                obtain ⟨hz, hf⟩ := ck_some hf
                refine sx_iast (j := x3.toNatClampNeg) hx hb hK hP hD hS 7 0 rfl rfl (inb_vp hz) rfl dX10_travels_89 (sh_X10 Ta Ta_s Ta_past Ta_aside Ta_text Ta_known Ta_then Ta_trip Ta_sent Ta_learned Ta_chosen Ta_decided cI cC cS T_s T_past T_aside T_pasts T_text T_typed T_at T_from T_token T_many T_letters T_number T_known T_then (upd T_trip x3.toNatClampNeg x2) T_sent T_learned T_chosen T_decided) rfl (fun H locs hP hD hS => ?_)
                refine lv_iinc (v := (x3 + 1)) (lv' := [(3, .int (x3 + 1)), (0, .ref Ta), (1, .int x1), (2, .int x2)]) hx hb dX10_travels_90 hl (k := 3) rfl rfl (by decide) rfl (fun ls hl => ?_)
                refine lv_goto (tgt := 37) hx hb dX10_travels_93 (by decide) ?_
                exact ih37 (x3 + 1) (upd T_trip x3.toNatClampNeg x2) _ _ _ hf hP hD hS (lv_sub hl [1, 2, 3, 0] rfl)
      intro x2 T_known T_then T_trip H locs ls hf hP hD hS hl
      rw [fX10_travels_l28] at hf
      refine lv_iload_n hx hb dX10_travels_28 rfl (lv_at hl 2 rfl) ?_
      refine lv_sipush (v := (130 : Int32)) hx hb dX10_travels_29 (by decide) ?_
      refine lv_icmp_gt (tgt := 109) hx hb dX10_travels_32 (by decide) (fun c5 => ?_) (fun c5 => ?_)
      · have hf := if_t c5 hf
        have hf := Option.some.inj hf
        subst hf
        exact rt_v hx hb hr hlocks hQ hK hP hD hS dX10_travels_109
      · have hf := if_f c5 hf
        refine lv_iconst (v := (0 : Int32)) hx hb dX10_travels_35 (by decide) ?_
        refine lv_istore_n (lv' := [(3, .int (0 : Int32)), (0, .ref Ta), (1, .int x1), (2, .int x2)]) hx hb dX10_travels_36 rfl hl (by decide) rfl (fun ls hl => ?_)
        exact L37 x2 T_known T_then fuel (0 : Int32) T_trip _ _ _ hf hP hD hS (lv_sub hl [1, 2, 3, 0] rfl)
  have L6 : ∀ (T_known : Nat → Int32) (T_then : Nat → Int32) (n6 : Nat) (x2 : Int32) (T_trip : Nat → Int32) (H : Heap) (locs : List Loc) (ls : Array Slot), fX10_travels_l6 x1 T_s T_known T_then n6 x2 T_trip = some o → va_P D vwCl (sh_X10 Ta Ta_s Ta_past Ta_aside Ta_text Ta_known Ta_then Ta_trip Ta_sent Ta_learned Ta_chosen Ta_decided cI cC cS T_s T_past T_aside T_pasts T_text T_typed T_at T_from T_token T_many T_letters T_number T_known T_then T_trip T_sent T_learned T_chosen T_decided) H → va_D A (sh_X10 Ta Ta_s Ta_past Ta_aside Ta_text Ta_known Ta_then Ta_trip Ta_sent Ta_learned Ta_chosen Ta_decided cI cC cS T_s T_past T_aside T_pasts T_text T_typed T_at T_from T_token T_many T_letters T_number T_known T_then T_trip T_sent T_learned T_chosen T_decided) → va_S A s.heap H locs → lv_has ls 4 [(0, .ref Ta), (1, .int x1), (2, .int x2)] → W p l e R s m args below meth c H locs 0 0 Q (F0 m 6 ls []) := by
    intro T_known T_then n6
    induction n6 with
    | zero => intro x2 T_trip H locs ls hf; cases (show (none : Option _) = some _ from hf)
    | succ n6 ih6 =>
      intro x2 T_trip H locs ls hf hP hD hS hl
      rw [fX10_travels_l6] at hf
      refine lv_iload_n hx hb dX10_travels_6 rfl (lv_at hl 2 rfl) ?_
      refine lv_bipush (v := (64 : Int32)) hx hb dX10_travels_7 (by decide) ?_
      refine lv_icmp_ge (tgt := 26) hx hb dX10_travels_9 (by decide) (fun c6 => ?_) (fun c6 => ?_)
      · have hf := if_t c6 hf
        refine lv_iconst (v := (0 : Int32)) hx hb dX10_travels_26 (by decide) ?_
        refine lv_istore_n (lv' := [(2, .int (0 : Int32)), (0, .ref Ta), (1, .int x1)]) hx hb dX10_travels_27 rfl hl (by decide) rfl (fun ls hl => ?_)
        exact L28  fuel (0 : Int32) T_known T_then T_trip _ _ _ hf hP hD hS (lv_sub hl [1, 2, 0] rfl)
      · have hf := if_f c6 hf
        refine lv_aload_n hx hb dX10_travels_12 rfl (lv_at hl 0 rfl) ?_
        refine va_get (D := D) (ci := 7) (v := .ref Ta_trip) (C := RX10) (T := TX10) (N := 19) hx hb hts hi_X10 hown hK hP 0 rfl rfl 14 (by decide) q28 (fun _ h9 => h9) rfl dX10_travels_13 ?_
        refine lv_iload_n hx hb dX10_travels_16 rfl (lv_at hl 2 rfl) ?_
        refine lv_bipush (v := (-9 : Int32)) hx hb dX10_travels_17 (by decide) ?_
        obtain ⟨hz, hf⟩ := ck_some hf
        refine sx_iast (j := x2.toNatClampNeg) hx hb hK hP hD hS 7 0 rfl rfl (inb_vp hz) rfl dX10_travels_19 (sh_X10 Ta Ta_s Ta_past Ta_aside Ta_text Ta_known Ta_then Ta_trip Ta_sent Ta_learned Ta_chosen Ta_decided cI cC cS T_s T_past T_aside T_pasts T_text T_typed T_at T_from T_token T_many T_letters T_number T_known T_then (upd T_trip x2.toNatClampNeg (-9 : Int32)) T_sent T_learned T_chosen T_decided) rfl (fun H locs hP hD hS => ?_)
        refine lv_iinc (v := (x2 + 1)) (lv' := [(2, .int (x2 + 1)), (0, .ref Ta), (1, .int x1)]) hx hb dX10_travels_20 hl (k := 2) rfl rfl (by decide) rfl (fun ls hl => ?_)
        refine lv_goto (tgt := 6) hx hb dX10_travels_23 (by decide) ?_
        exact ih6 (x2 + 1) (upd T_trip x2.toNatClampNeg (-9 : Int32)) _ _ _ hf hP hD hS (lv_sub hl [1, 2, 0] rfl)
  refine lv_aload_n hx hb dX10_travels_0 rfl (lv_at hl 0 rfl) ?_
  obtain ⟨o7, ho7, hf⟩ := bd_some hf
  refine cv_v (ci := 7) (q := (RX10, TX10, 19)) (As := []) (rest := []) hx hb hml hown hts hK hP hD hA hS (kX10_alone l D cI cC cS Ta Ta_s Ta_past Ta_aside Ta_text Ta_known Ta_then Ta_trip Ta_sent Ta_learned Ta_chosen Ta_decided  T_s T_past T_aside T_pasts T_text T_typed T_at T_from T_token T_many T_letters T_number T_known T_then T_trip T_sent T_learned T_chosen T_decided o7 ho7) (cwV 0 hts gX10_travels_X10_alone rfl rfl rfl (by decide +kernel) (by subst hR; exact ⟨Nat.le_of_ble_eq_true rfl, Nat.le_of_ble_eq_true rfl⟩)) [0, 1, 2, 3, 4, 5, 6, 7, 8, 9, 10, 11] [] [0, 1, 2, 3, 4, 5, 6, 7, 8, 9, 10, 11] [] (sh_X10 Ta Ta_s Ta_past Ta_aside Ta_text Ta_known Ta_then Ta_trip Ta_sent Ta_learned Ta_chosen Ta_decided cI cC cS T_s T_past T_aside T_pasts T_text T_typed T_at T_from T_token T_many T_letters T_number o7 T_then T_trip T_sent T_learned T_chosen T_decided) rfl rfl rfl rfl (by decide) rfl rfl rfl rfl rfl rfl hl.1 rfl (Nat.le_of_ble_eq_true rfl) ⟨Nat.zero_le _, Nat.zero_le _⟩ dX10_travels_1 (fun H locs hP hD hS => ?_)
  refine lv_iconst (v := (0 : Int32)) hx hb dX10_travels_4 (by decide) ?_
  refine lv_istore_n (lv' := [(2, .int (0 : Int32)), (0, .ref Ta), (1, .int x1)]) hx hb dX10_travels_5 rfl hl (by decide) rfl (fun ls hl => ?_)
  exact L6 o7 T_then fuel (0 : Int32) T_trip _ _ _ hf hP hD hS (lv_sub hl [1, 2, 0] rfl)
set_option maxRecDepth 100000 in
set_option maxHeartbeats 4000000 in
theorem kX10_farthest (l : Launch) (D : va_G) (cI cC cS : ClassId) (Ta Ta_s Ta_past Ta_aside Ta_text Ta_known Ta_then Ta_trip Ta_sent Ta_learned Ta_chosen Ta_decided : Nat) (x1 : Int32) (T_s : Nat → Int32) (T_past : Nat → Int32) (T_aside : Nat → Int32) (T_pasts : Int32) (T_text : Nat → Int32) (T_typed : Int32) (T_at : Int32) (T_from : Int32) (T_token : Int32) (T_many : Int32) (T_letters : Int64) (T_number : Int32) (T_known : Nat → Int32) (T_then : Nat → Int32) (T_trip : Nat → Int32) (T_sent : Nat → Int32) (T_learned : Nat → Int32) (T_chosen : Nat → Int32) (T_decided : Nat → Int32) (o : Int32) (hf : fX10_farthest x1 T_s T_trip = some o) : CI l D yX10_farthest wsX10_farthest ({ frames := 0, cells := 0, slots := 0, locals := 0 } : Room) (tysK cI cC cS) [.ref Ta, .int x1] (sh_X10 Ta Ta_s Ta_past Ta_aside Ta_text Ta_known Ta_then Ta_trip Ta_sent Ta_learned Ta_chosen Ta_decided cI cC cS T_s T_past T_aside T_pasts T_text T_typed T_at T_from T_token T_many T_letters T_number T_known T_then T_trip T_sent T_learned T_chosen T_decided) o (sh_X10 Ta Ta_s Ta_past Ta_aside Ta_text Ta_known Ta_then Ta_trip Ta_sent Ta_learned Ta_chosen Ta_decided cI cC cS T_s T_past T_aside T_pasts T_text T_typed T_at T_from T_token T_many T_letters T_number T_known T_then T_trip T_sent T_learned T_chosen T_decided) := by
  refine met_i (cc := cX10_farthest) (maxL := 5) (ret := (some .int)) (by decide) rfl (Nat.le_of_ble_eq_true rfl) ?_
  intro p e s m args below meth c R Q A F hR hQ hP hK hD hA hS ls hl
  obtain ⟨hx, hb, hr, hts, hml, hlocks, hown⟩ := F
  have hown : s.vm.findClass RX10 = some m.cls := hown
  have hi_X10 : ∀ w ∈ u_ws RX10 TX10 19, w ∈ wsX10_farthest := fun w h => List.mem_cons_of_mem _ (List.mem_append_right _ h)
  have q7 := hts (.fieldLink RX10 7 "ChangingRoundsModel" "s" "[I") (by decide +kernel)
  have q28 := hts (.fieldLink RX10 28 "ChangingRoundsModel" "trip" "[I") (by decide +kernel)
  have hl : lv_has ls 5 [(0, .ref Ta), (1, .int x1)] := hl
  unfold fX10_farthest at hf
  have L4 : ∀ (n4 : Nat) (x2 : Int32) (x3 : Int32) (H : Heap) (locs : List Loc) (ls : Array Slot), fX10_farthest_l4 x1 T_s T_trip n4 x2 x3 = some o → va_P D vwCl (sh_X10 Ta Ta_s Ta_past Ta_aside Ta_text Ta_known Ta_then Ta_trip Ta_sent Ta_learned Ta_chosen Ta_decided cI cC cS T_s T_past T_aside T_pasts T_text T_typed T_at T_from T_token T_many T_letters T_number T_known T_then T_trip T_sent T_learned T_chosen T_decided) H → va_D A (sh_X10 Ta Ta_s Ta_past Ta_aside Ta_text Ta_known Ta_then Ta_trip Ta_sent Ta_learned Ta_chosen Ta_decided cI cC cS T_s T_past T_aside T_pasts T_text T_typed T_at T_from T_token T_many T_letters T_number T_known T_then T_trip T_sent T_learned T_chosen T_decided) → va_S A s.heap H locs → lv_has ls 5 [(0, .ref Ta), (1, .int x1), (2, .int x2), (3, .int x3)] → W p l e R s m args below meth c H locs 0 0 Q (F0 m 4 ls []) := by
    intro n4
    induction n4 with
    | zero => intro x2 x3 H locs ls hf; cases (show (none : Option _) = some _ from hf)
    | succ n4 ih4 =>
      intro x2 x3 H locs ls hf hP hD hS hl
      rw [fX10_farthest_l4] at hf
      refine lv_iload_n hx hb dX10_farthest_4 rfl (lv_at hl 3 rfl) ?_
      refine lv_aload_n hx hb dX10_farthest_5 rfl (lv_at hl 0 rfl) ?_
      refine va_get (D := D) (ci := 7) (v := .ref Ta_s) (C := RX10) (T := TX10) (N := 19) hx hb hts hi_X10 hown hK hP 0 rfl rfl 0 (by decide) q7 (fun _ h9 => h9) rfl dX10_farthest_6 ?_
      refine lv_iconst (v := (0 : Int32)) hx hb dX10_farthest_9 (by decide) ?_
      refine sx_iald (j := 0) hx hb hK hP 1 0 rfl rfl (inb_vp (by decide)) (by decide) dX10_farthest_10 ?_
      refine lv_icmp_ge (tgt := 64) hx hb dX10_farthest_11 (by decide) (fun c1 => ?_) (fun c1 => ?_)
      · have hf := if_t c1 hf
        refine lv_iload_n hx hb dX10_farthest_64 rfl (lv_at hl 2 rfl) ?_
        have hf := Option.some.inj hf
        subst hf
        exact rt_i hx hb hr hlocks hQ hK hP hD hS rfl dX10_farthest_65
      · have hf := if_f c1 hf
        refine lv_aload_n hx hb dX10_farthest_14 rfl (lv_at hl 0 rfl) ?_
        refine va_get (D := D) (ci := 7) (v := .ref Ta_trip) (C := RX10) (T := TX10) (N := 19) hx hb hts hi_X10 hown hK hP 0 rfl rfl 14 (by decide) q28 (fun _ h9 => h9) rfl dX10_farthest_15 ?_
        refine lv_bipush (v := (8 : Int32)) hx hb dX10_farthest_18 (by decide) ?_
        refine lv_iload_n hx hb dX10_farthest_20 rfl (lv_at hl 1 rfl) ?_
        refine lv_imul hx hb dX10_farthest_21 ?_
        refine lv_iload_n hx hb dX10_farthest_22 rfl (lv_at hl 3 rfl) ?_
        refine lv_iadd hx hb dX10_farthest_23 ?_
        obtain ⟨hz, hf⟩ := ck_some hf
        refine sx_iald (j := (((8 : Int32) * x1) + x3).toNatClampNeg) hx hb hK hP 7 0 rfl rfl (inb_vp hz) rfl dX10_farthest_24 ?_
        refine lv_istore (lv' := [(4, .int (T_trip ((((8 : Int32) * x1) + x3).toNatClampNeg))), (0, .ref Ta), (1, .int x1), (2, .int x2), (3, .int x3)]) hx hb dX10_farthest_25 hl (by decide) rfl (fun ls hl => ?_)
        refine lv_iload_n hx hb dX10_farthest_27 rfl (lv_at hl 3 rfl) ?_
        refine lv_bipush (v := (-9 : Int32)) hx hb dX10_farthest_28 (by decide) ?_
        refine lv_icmp_eq (tgt := 40) hx hb dX10_farthest_30 (by decide) (fun c2 => ?_) (fun c2 => ?_)
        · have hf := if_t c2 hf
          refine lv_bipush (v := (-9 : Int32)) hx hb dX10_farthest_40 (by decide) ?_
          refine lv_goto (tgt := 57) hx hb dX10_farthest_42 (by decide) ?_
          refine lv_istore_n (lv' := [(2, .int (-9 : Int32)), (4, .int (T_trip ((((8 : Int32) * x1) + x3).toNatClampNeg))), (0, .ref Ta), (1, .int x1), (3, .int x3)]) hx hb dX10_farthest_57 rfl hl (by decide) rfl (fun ls hl => ?_)
          refine lv_iinc (v := (x3 + 1)) (lv' := [(3, .int (x3 + 1)), (2, .int (-9 : Int32)), (4, .int (T_trip ((((8 : Int32) * x1) + x3).toNatClampNeg))), (0, .ref Ta), (1, .int x1)]) hx hb dX10_farthest_58 hl (k := 4) rfl rfl (by decide) rfl (fun ls hl => ?_)
          refine lv_goto (tgt := 4) hx hb dX10_farthest_61 (by decide) ?_
          exact ih4 (-9 : Int32) (x3 + 1) _ _ _ hf hP hD hS (lv_sub hl [3, 4, 1, 0] rfl)
        · have hf := if_f c2 hf
          refine lv_iload hx hb dX10_farthest_33 (lv_at hl 0 rfl) ?_
          refine lv_bipush (v := (-9 : Int32)) hx hb dX10_farthest_35 (by decide) ?_
          refine lv_icmp_ne (tgt := 45) hx hb dX10_farthest_37 (by decide) (fun c3 => ?_) (fun c3 => ?_)
          · have hf := if_f c3 hf
            refine lv_iload hx hb dX10_farthest_45 (lv_at hl 0 rfl) ?_
            refine lv_iload_n hx hb dX10_farthest_47 rfl (lv_at hl 3 rfl) ?_
            refine lv_icmp_le (tgt := 56) hx hb dX10_farthest_48 (by decide) (fun c4 => ?_) (fun c4 => ?_)
            · have hf := if_t c4 hf
              refine lv_iload_n hx hb dX10_farthest_56 rfl (lv_at hl 3 rfl) ?_
              refine lv_istore_n (lv' := [(2, .int x2), (4, .int (T_trip ((((8 : Int32) * x1) + x3).toNatClampNeg))), (0, .ref Ta), (1, .int x1), (3, .int x3)]) hx hb dX10_farthest_57 rfl hl (by decide) rfl (fun ls hl => ?_)
              refine lv_iinc (v := (x3 + 1)) (lv' := [(3, .int (x3 + 1)), (2, .int x2), (4, .int (T_trip ((((8 : Int32) * x1) + x3).toNatClampNeg))), (0, .ref Ta), (1, .int x1)]) hx hb dX10_farthest_58 hl (k := 4) rfl rfl (by decide) rfl (fun ls hl => ?_)
              refine lv_goto (tgt := 4) hx hb dX10_farthest_61 (by decide) ?_
              exact ih4 x2 (x3 + 1) _ _ _ hf hP hD hS (lv_sub hl [3, 4, 1, 0] rfl)
            · have hf := if_f c4 hf
              refine lv_iload hx hb dX10_farthest_51 (lv_at hl 0 rfl) ?_
              refine lv_goto (tgt := 57) hx hb dX10_farthest_53 (by decide) ?_
              refine lv_istore_n (lv' := [(2, .int (T_trip ((((8 : Int32) * x1) + x3).toNatClampNeg))), (4, .int (T_trip ((((8 : Int32) * x1) + x3).toNatClampNeg))), (0, .ref Ta), (1, .int x1), (3, .int x3)]) hx hb dX10_farthest_57 rfl hl (by decide) rfl (fun ls hl => ?_)
              refine lv_iinc (v := (x3 + 1)) (lv' := [(3, .int (x3 + 1)), (2, .int (T_trip ((((8 : Int32) * x1) + x3).toNatClampNeg))), (4, .int (T_trip ((((8 : Int32) * x1) + x3).toNatClampNeg))), (0, .ref Ta), (1, .int x1)]) hx hb dX10_farthest_58 hl (k := 4) rfl rfl (by decide) rfl (fun ls hl => ?_)
              refine lv_goto (tgt := 4) hx hb dX10_farthest_61 (by decide) ?_
              exact ih4 (T_trip ((((8 : Int32) * x1) + x3).toNatClampNeg)) (x3 + 1) _ _ _ hf hP hD hS (lv_sub hl [3, 4, 1, 0] rfl)
          · have hf := if_t c3 hf
            refine lv_bipush (v := (-9 : Int32)) hx hb dX10_farthest_40 (by decide) ?_
            refine lv_goto (tgt := 57) hx hb dX10_farthest_42 (by decide) ?_
            refine lv_istore_n (lv' := [(2, .int (-9 : Int32)), (4, .int (T_trip ((((8 : Int32) * x1) + x3).toNatClampNeg))), (0, .ref Ta), (1, .int x1), (3, .int x3)]) hx hb dX10_farthest_57 rfl hl (by decide) rfl (fun ls hl => ?_)
            refine lv_iinc (v := (x3 + 1)) (lv' := [(3, .int (x3 + 1)), (2, .int (-9 : Int32)), (4, .int (T_trip ((((8 : Int32) * x1) + x3).toNatClampNeg))), (0, .ref Ta), (1, .int x1)]) hx hb dX10_farthest_58 hl (k := 4) rfl rfl (by decide) rfl (fun ls hl => ?_)
            refine lv_goto (tgt := 4) hx hb dX10_farthest_61 (by decide) ?_
            exact ih4 (-9 : Int32) (x3 + 1) _ _ _ hf hP hD hS (lv_sub hl [3, 4, 1, 0] rfl)
  refine lv_iconst (v := (0 : Int32)) hx hb dX10_farthest_0 (by decide) ?_
  refine lv_istore_n (lv' := [(2, .int (0 : Int32)), (0, .ref Ta), (1, .int x1)]) hx hb dX10_farthest_1 rfl hl (by decide) rfl (fun ls hl => ?_)
  refine lv_iconst (v := (0 : Int32)) hx hb dX10_farthest_2 (by decide) ?_
  refine lv_istore_n (lv' := [(3, .int (0 : Int32)), (2, .int (0 : Int32)), (0, .ref Ta), (1, .int x1)]) hx hb dX10_farthest_3 rfl hl (by decide) rfl (fun ls hl => ?_)
  exact L4  fuel (0 : Int32) (0 : Int32) _ _ _ hf hP hD hS (lv_sub hl [2, 3, 1, 0] rfl)
set_option maxRecDepth 100000 in
set_option maxHeartbeats 4000000 in
theorem kX10_journey (l : Launch) (D : va_G) (cI cC cS : ClassId) (Ta Ta_s Ta_past Ta_aside Ta_text Ta_known Ta_then Ta_trip Ta_sent Ta_learned Ta_chosen Ta_decided : Nat) (x1 : Int32) (x2 : Int32) (x3 : Int32) (T_s : Nat → Int32) (T_past : Nat → Int32) (T_aside : Nat → Int32) (T_pasts : Int32) (T_text : Nat → Int32) (T_typed : Int32) (T_at : Int32) (T_from : Int32) (T_token : Int32) (T_many : Int32) (T_letters : Int64) (T_number : Int32) (T_known : Nat → Int32) (T_then : Nat → Int32) (T_trip : Nat → Int32) (T_sent : Nat → Int32) (T_learned : Nat → Int32) (T_chosen : Nat → Int32) (T_decided : Nat → Int32) (o : Int32 × (Nat → Int32) × (Nat → Int32) × (Nat → Int32)) (hf : fX10_journey x1 x2 x3 T_s T_known T_then T_trip = some o) : CI l D yX10_journey wsX10_journey ({ frames := 3, cells := 0, slots := 0, locals := 68 } : Room) (tysK cI cC cS) [.ref Ta, .int x1, .int x2, .int x3] (sh_X10 Ta Ta_s Ta_past Ta_aside Ta_text Ta_known Ta_then Ta_trip Ta_sent Ta_learned Ta_chosen Ta_decided cI cC cS T_s T_past T_aside T_pasts T_text T_typed T_at T_from T_token T_many T_letters T_number T_known T_then T_trip T_sent T_learned T_chosen T_decided) o.1 (sh_X10 Ta Ta_s Ta_past Ta_aside Ta_text Ta_known Ta_then Ta_trip Ta_sent Ta_learned Ta_chosen Ta_decided cI cC cS T_s T_past T_aside T_pasts T_text T_typed T_at T_from T_token T_many T_letters T_number o.2.1 o.2.2.1 o.2.2.2 T_sent T_learned T_chosen T_decided) := by
  refine met_i (cc := cX10_journey) (maxL := 4) (ret := (some .int)) (by decide) rfl (Nat.le_of_ble_eq_true rfl) ?_
  intro p e s m args below meth c R Q A F hR hQ hP hK hD hA hS ls hl
  obtain ⟨hx, hb, hr, hts, hml, hlocks, hown⟩ := F
  have hown : s.vm.findClass RX10 = some m.cls := hown
  have hi_X10 : ∀ w ∈ u_ws RX10 TX10 19, w ∈ wsX10_journey := fun w h => List.mem_cons_of_mem _ (List.mem_append_right _ h)
  have q28 := hts (.fieldLink RX10 28 "ChangingRoundsModel" "trip" "[I") (by decide +kernel)
  have hl : lv_has ls 4 [(0, .ref Ta), (1, .int x1), (2, .int x2), (3, .int x3)] := hl
  unfold fX10_journey at hf
  refine lv_aload_n hx hb dX10_journey_0 rfl (lv_at hl 0 rfl) ?_
  refine lv_iload_n hx hb dX10_journey_1 rfl (lv_at hl 1 rfl) ?_
  refine cv_i (ci := 7) (q := (RX10, TX10, 19)) (As := [.int x1]) (rest := []) hx hb hml hown hts hK hP hD hA hS (kX10_isNode l D cI cC cS Ta Ta_s Ta_past Ta_aside Ta_text Ta_known Ta_then Ta_trip Ta_sent Ta_learned Ta_chosen Ta_decided x1 T_s T_past T_aside T_pasts T_text T_typed T_at T_from T_token T_many T_letters T_number T_known T_then T_trip T_sent T_learned T_chosen T_decided (fX10_isNode x1 T_s) rfl) (cwV 1 hts gX10_journey_X10_isNode rfl rfl rfl (by decide +kernel) (by subst hR; exact ⟨Nat.le_of_ble_eq_true rfl, Nat.le_of_ble_eq_true rfl⟩)) [0, 1, 2, 3, 4, 5, 6, 7, 8, 9, 10, 11] [] [0, 1, 2, 3, 4, 5, 6, 7, 8, 9, 10, 11] [] (sh_X10 Ta Ta_s Ta_past Ta_aside Ta_text Ta_known Ta_then Ta_trip Ta_sent Ta_learned Ta_chosen Ta_decided cI cC cS T_s T_past T_aside T_pasts T_text T_typed T_at T_from T_token T_many T_letters T_number T_known T_then T_trip T_sent T_learned T_chosen T_decided) rfl rfl rfl rfl (by decide) rfl rfl rfl rfl rfl rfl hl.1 rfl (Nat.le_of_ble_eq_true rfl) ⟨Nat.zero_le _, Nat.zero_le _⟩ dX10_journey_2 (fun H locs hP hD hS => ?_)
  refine lv_if_eq (tgt := 23) hx hb dX10_journey_5 (by decide) (fun c1 => ?_) (fun c1 => ?_)
  · have hf := if_t c1 hf
    refine lv_iconst (v := (-1 : Int32)) hx hb dX10_journey_23 (by decide) ?_
    have hf := Option.some.inj hf
    subst hf
    exact rt_i hx hb hr hlocks hQ hK hP hD hS rfl dX10_journey_24
  · have hf := if_f c1 hf
    refine lv_aload_n hx hb dX10_journey_8 rfl (lv_at hl 0 rfl) ?_
    refine lv_iload_n hx hb dX10_journey_9 rfl (lv_at hl 2 rfl) ?_
    refine cv_i (ci := 7) (q := (RX10, TX10, 19)) (As := [.int x2]) (rest := []) hx hb hml hown hts hK hP hD hA hS (kX10_isNode l D cI cC cS Ta Ta_s Ta_past Ta_aside Ta_text Ta_known Ta_then Ta_trip Ta_sent Ta_learned Ta_chosen Ta_decided x2 T_s T_past T_aside T_pasts T_text T_typed T_at T_from T_token T_many T_letters T_number T_known T_then T_trip T_sent T_learned T_chosen T_decided (fX10_isNode x2 T_s) rfl) (cwV 1 hts gX10_journey_X10_isNode rfl rfl rfl (by decide +kernel) (by subst hR; exact ⟨Nat.le_of_ble_eq_true rfl, Nat.le_of_ble_eq_true rfl⟩)) [0, 1, 2, 3, 4, 5, 6, 7, 8, 9, 10, 11] [] [0, 1, 2, 3, 4, 5, 6, 7, 8, 9, 10, 11] [] (sh_X10 Ta Ta_s Ta_past Ta_aside Ta_text Ta_known Ta_then Ta_trip Ta_sent Ta_learned Ta_chosen Ta_decided cI cC cS T_s T_past T_aside T_pasts T_text T_typed T_at T_from T_token T_many T_letters T_number T_known T_then T_trip T_sent T_learned T_chosen T_decided) rfl rfl rfl rfl (by decide) rfl rfl rfl rfl rfl rfl hl.1 rfl (Nat.le_of_ble_eq_true rfl) ⟨Nat.zero_le _, Nat.zero_le _⟩ dX10_journey_10 (fun H locs hP hD hS => ?_)
    refine lv_if_eq (tgt := 23) hx hb dX10_journey_13 (by decide) (fun c2 => ?_) (fun c2 => ?_)
    · have hf := if_t c2 hf
      refine lv_iconst (v := (-1 : Int32)) hx hb dX10_journey_23 (by decide) ?_
      have hf := Option.some.inj hf
      subst hf
      exact rt_i hx hb hr hlocks hQ hK hP hD hS rfl dX10_journey_24
    · have hf := if_f c2 hf
      refine lv_iload_n hx hb dX10_journey_16 rfl (lv_at hl 3 rfl) ?_
      refine cs_i (As := [.int x3]) (rest := []) hx hb hml hown hts hK hP hD hA hS (kX10_isTime l D cI cC cS  x3  (fX10_isTime x3) rfl) (va_cwS 1 hts gX10_journey_X10_isTime rfl rfl rfl (by decide +kernel) (by subst hR; exact ⟨Nat.le_of_ble_eq_true rfl, Nat.le_of_ble_eq_true rfl⟩)) rfl hl.1 rfl (Nat.le_of_ble_eq_true rfl) ⟨Nat.zero_le _, Nat.zero_le _⟩ dX10_journey_17 (fun H locs hP hD hS => ?_)
      refine lv_if_ne (tgt := 25) hx hb dX10_journey_20 (by decide) (fun c3 => ?_) (fun c3 => ?_)
      · have hf := if_f c3 hf
        refine lv_aload_n hx hb dX10_journey_25 rfl (lv_at hl 0 rfl) ?_
        refine lv_iload_n hx hb dX10_journey_26 rfl (lv_at hl 3 rfl) ?_
        obtain ⟨o4, ho4, hf⟩ := bd_some hf
        refine cv_v (ci := 7) (q := (RX10, TX10, 19)) (As := [.int x3]) (rest := []) hx hb hml hown hts hK hP hD hA hS (kX10_travels l D cI cC cS Ta Ta_s Ta_past Ta_aside Ta_text Ta_known Ta_then Ta_trip Ta_sent Ta_learned Ta_chosen Ta_decided x3 T_s T_past T_aside T_pasts T_text T_typed T_at T_from T_token T_many T_letters T_number T_known T_then T_trip T_sent T_learned T_chosen T_decided o4 ho4) (cwV 1 hts gX10_journey_X10_travels rfl rfl rfl (by decide +kernel) (by subst hR; exact ⟨Nat.le_of_ble_eq_true rfl, Nat.le_of_ble_eq_true rfl⟩)) [0, 1, 2, 3, 4, 5, 6, 7, 8, 9, 10, 11] [] [0, 1, 2, 3, 4, 5, 6, 7, 8, 9, 10, 11] [] (sh_X10 Ta Ta_s Ta_past Ta_aside Ta_text Ta_known Ta_then Ta_trip Ta_sent Ta_learned Ta_chosen Ta_decided cI cC cS T_s T_past T_aside T_pasts T_text T_typed T_at T_from T_token T_many T_letters T_number o4.1 o4.2.1 o4.2.2 T_sent T_learned T_chosen T_decided) rfl rfl rfl rfl (by decide) rfl rfl rfl rfl rfl rfl hl.1 rfl (Nat.le_of_ble_eq_true rfl) ⟨Nat.zero_le _, Nat.zero_le _⟩ dX10_journey_27 (fun H locs hP hD hS => ?_)
        refine lv_aload_n hx hb dX10_journey_30 rfl (lv_at hl 0 rfl) ?_
        refine va_get (D := D) (ci := 7) (v := .ref Ta_trip) (C := RX10) (T := TX10) (N := 19) hx hb hts hi_X10 hown hK hP 0 rfl rfl 14 (by decide) q28 (fun _ h9 => h9) rfl dX10_journey_31 ?_
        refine lv_bipush (v := (8 : Int32)) hx hb dX10_journey_34 (by decide) ?_
        refine lv_iload_n hx hb dX10_journey_36 rfl (lv_at hl 1 rfl) ?_
        refine lv_imul hx hb dX10_journey_37 ?_
        refine lv_iload_n hx hb dX10_journey_38 rfl (lv_at hl 2 rfl) ?_
        refine lv_iadd hx hb dX10_journey_39 ?_
        obtain ⟨hz, hf⟩ := ck_some hf
        refine sx_iald (j := (((8 : Int32) * x1) + x2).toNatClampNeg) hx hb hK hP 7 0 rfl rfl (inb_vp hz) rfl dX10_journey_40 ?_
        have hf := Option.some.inj hf
        subst hf
        exact rt_i hx hb hr hlocks hQ hK hP hD hS rfl dX10_journey_41
      · have hf := if_t c3 hf
        refine lv_iconst (v := (-1 : Int32)) hx hb dX10_journey_23 (by decide) ?_
        have hf := Option.some.inj hf
        subst hf
        exact rt_i hx hb hr hlocks hQ hK hP hD hS rfl dX10_journey_24
set_option maxRecDepth 100000 in
set_option maxHeartbeats 4000000 in
theorem kX10_diameter (l : Launch) (D : va_G) (cI cC cS : ClassId) (Ta Ta_s Ta_past Ta_aside Ta_text Ta_known Ta_then Ta_trip Ta_sent Ta_learned Ta_chosen Ta_decided : Nat) (x1 : Int32) (T_s : Nat → Int32) (T_past : Nat → Int32) (T_aside : Nat → Int32) (T_pasts : Int32) (T_text : Nat → Int32) (T_typed : Int32) (T_at : Int32) (T_from : Int32) (T_token : Int32) (T_many : Int32) (T_letters : Int64) (T_number : Int32) (T_known : Nat → Int32) (T_then : Nat → Int32) (T_trip : Nat → Int32) (T_sent : Nat → Int32) (T_learned : Nat → Int32) (T_chosen : Nat → Int32) (T_decided : Nat → Int32) (o : Int32 × (Nat → Int32) × (Nat → Int32) × (Nat → Int32)) (hf : fX10_diameter x1 T_s T_known T_then T_trip = some o) : CI l D yX10_diameter wsX10_diameter ({ frames := 3, cells := 0, slots := 0, locals := 68 } : Room) (tysK cI cC cS) [.ref Ta, .int x1] (sh_X10 Ta Ta_s Ta_past Ta_aside Ta_text Ta_known Ta_then Ta_trip Ta_sent Ta_learned Ta_chosen Ta_decided cI cC cS T_s T_past T_aside T_pasts T_text T_typed T_at T_from T_token T_many T_letters T_number T_known T_then T_trip T_sent T_learned T_chosen T_decided) o.1 (sh_X10 Ta Ta_s Ta_past Ta_aside Ta_text Ta_known Ta_then Ta_trip Ta_sent Ta_learned Ta_chosen Ta_decided cI cC cS T_s T_past T_aside T_pasts T_text T_typed T_at T_from T_token T_many T_letters T_number o.2.1 o.2.2.1 o.2.2.2 T_sent T_learned T_chosen T_decided) := by
  refine met_i (cc := cX10_diameter) (maxL := 5) (ret := (some .int)) (by decide) rfl (Nat.le_of_ble_eq_true rfl) ?_
  intro p e s m args below meth c R Q A F hR hQ hP hK hD hA hS ls hl
  obtain ⟨hx, hb, hr, hts, hml, hlocks, hown⟩ := F
  have hown : s.vm.findClass RX10 = some m.cls := hown
  have hi_X10 : ∀ w ∈ u_ws RX10 TX10 19, w ∈ wsX10_diameter := fun w h => List.mem_cons_of_mem _ (List.mem_append_right _ h)
  have q7 := hts (.fieldLink RX10 7 "ChangingRoundsModel" "s" "[I") (by decide +kernel)
  have hl : lv_has ls 5 [(0, .ref Ta), (1, .int x1)] := hl
  unfold fX10_diameter at hf
  have L18 : ∀ (T_known : Nat → Int32) (T_then : Nat → Int32) (T_trip : Nat → Int32) (n18 : Nat) (x2 : Int32) (x3 : Int32) (H : Heap) (locs : List Loc) (ls : Array Slot), fX10_diameter_l18 T_s T_known T_then T_trip n18 x2 x3 = some o → va_P D vwCl (sh_X10 Ta Ta_s Ta_past Ta_aside Ta_text Ta_known Ta_then Ta_trip Ta_sent Ta_learned Ta_chosen Ta_decided cI cC cS T_s T_past T_aside T_pasts T_text T_typed T_at T_from T_token T_many T_letters T_number T_known T_then T_trip T_sent T_learned T_chosen T_decided) H → va_D A (sh_X10 Ta Ta_s Ta_past Ta_aside Ta_text Ta_known Ta_then Ta_trip Ta_sent Ta_learned Ta_chosen Ta_decided cI cC cS T_s T_past T_aside T_pasts T_text T_typed T_at T_from T_token T_many T_letters T_number T_known T_then T_trip T_sent T_learned T_chosen T_decided) → va_S A s.heap H locs → lv_has ls 5 [(0, .ref Ta), (2, .int x2), (3, .int x3)] → W p l e R s m args below meth c H locs 0 0 Q (F0 m 18 ls []) := by
    intro T_known T_then T_trip n18
    induction n18 with
    | zero => intro x2 x3 H locs ls hf; cases (show (none : Option _) = some _ from hf)
    | succ n18 ih18 =>
      intro x2 x3 H locs ls hf hP hD hS hl
      rw [fX10_diameter_l18] at hf
      refine lv_iload_n hx hb dX10_diameter_18 rfl (lv_at hl 2 rfl) ?_
      refine lv_aload_n hx hb dX10_diameter_19 rfl (lv_at hl 0 rfl) ?_
      refine va_get (D := D) (ci := 7) (v := .ref Ta_s) (C := RX10) (T := TX10) (N := 19) hx hb hts hi_X10 hown hK hP 0 rfl rfl 0 (by decide) q7 (fun _ h9 => h9) rfl dX10_diameter_20 ?_
      refine lv_iconst (v := (0 : Int32)) hx hb dX10_diameter_23 (by decide) ?_
      refine sx_iald (j := 0) hx hb hK hP 1 0 rfl rfl (inb_vp (by decide)) (by decide) dX10_diameter_24 ?_
      refine lv_icmp_ge (tgt := 72) hx hb dX10_diameter_25 (by decide) (fun c1 => ?_) (fun c1 => ?_)
      · have hf := if_t c1 hf
        refine lv_iload_n hx hb dX10_diameter_72 rfl (lv_at hl 1 rfl) ?_
        have hf := Option.some.inj hf
        subst hf
        exact rt_i hx hb hr hlocks hQ hK hP hD hS rfl dX10_diameter_73
      · have hf := if_f c1 hf
        refine lv_aload_n hx hb dX10_diameter_28 rfl (lv_at hl 0 rfl) ?_
        refine lv_iload_n hx hb dX10_diameter_29 rfl (lv_at hl 2 rfl) ?_
        obtain ⟨o2, ho2, hf⟩ := bd_some hf
        refine cv_i (ci := 7) (q := (RX10, TX10, 19)) (As := [.int x3]) (rest := []) hx hb hml hown hts hK hP hD hA hS (kX10_farthest l D cI cC cS Ta Ta_s Ta_past Ta_aside Ta_text Ta_known Ta_then Ta_trip Ta_sent Ta_learned Ta_chosen Ta_decided x3 T_s T_past T_aside T_pasts T_text T_typed T_at T_from T_token T_many T_letters T_number T_known T_then T_trip T_sent T_learned T_chosen T_decided o2 ho2) (cwV 1 hts gX10_diameter_X10_farthest rfl rfl rfl (by decide +kernel) (by subst hR; exact ⟨Nat.le_of_ble_eq_true rfl, Nat.le_of_ble_eq_true rfl⟩)) [0, 1, 2, 3, 4, 5, 6, 7, 8, 9, 10, 11] [] [0, 1, 2, 3, 4, 5, 6, 7, 8, 9, 10, 11] [] (sh_X10 Ta Ta_s Ta_past Ta_aside Ta_text Ta_known Ta_then Ta_trip Ta_sent Ta_learned Ta_chosen Ta_decided cI cC cS T_s T_past T_aside T_pasts T_text T_typed T_at T_from T_token T_many T_letters T_number T_known T_then T_trip T_sent T_learned T_chosen T_decided) rfl rfl rfl rfl (by decide) rfl rfl rfl rfl rfl rfl hl.1 rfl (Nat.le_of_ble_eq_true rfl) ⟨Nat.zero_le _, Nat.zero_le _⟩ dX10_diameter_30 (fun H locs hP hD hS => ?_)
        refine lv_istore (lv' := [(4, .int o2), (0, .ref Ta), (2, .int x2), (3, .int x3)]) hx hb dX10_diameter_33 hl (by decide) rfl (fun ls hl => ?_)
        refine lv_iload_n hx hb dX10_diameter_35 rfl (lv_at hl 2 rfl) ?_
        refine lv_bipush (v := (-9 : Int32)) hx hb dX10_diameter_36 (by decide) ?_
        refine lv_icmp_eq (tgt := 48) hx hb dX10_diameter_38 (by decide) (fun c3 => ?_) (fun c3 => ?_)
        · have hf := if_t c3 hf
          refine lv_bipush (v := (-9 : Int32)) hx hb dX10_diameter_48 (by decide) ?_
          refine lv_goto (tgt := 65) hx hb dX10_diameter_50 (by decide) ?_
          refine lv_istore_n (lv' := [(2, .int (-9 : Int32)), (4, .int o2), (0, .ref Ta), (3, .int x3)]) hx hb dX10_diameter_65 rfl hl (by decide) rfl (fun ls hl => ?_)
          refine lv_iinc (v := (x3 + 1)) (lv' := [(3, .int (x3 + 1)), (2, .int (-9 : Int32)), (4, .int o2), (0, .ref Ta)]) hx hb dX10_diameter_66 hl (k := 3) rfl rfl (by decide) rfl (fun ls hl => ?_)
          refine lv_goto (tgt := 18) hx hb dX10_diameter_69 (by decide) ?_
          exact ih18 (-9 : Int32) (x3 + 1) _ _ _ hf hP hD hS (lv_sub hl [3, 1, 0] rfl)
        · have hf := if_f c3 hf
          refine lv_iload hx hb dX10_diameter_41 (lv_at hl 0 rfl) ?_
          refine lv_bipush (v := (-9 : Int32)) hx hb dX10_diameter_43 (by decide) ?_
          refine lv_icmp_ne (tgt := 53) hx hb dX10_diameter_45 (by decide) (fun c4 => ?_) (fun c4 => ?_)
          · have hf := if_f c4 hf
            refine lv_iload hx hb dX10_diameter_53 (lv_at hl 0 rfl) ?_
            refine lv_iload_n hx hb dX10_diameter_55 rfl (lv_at hl 2 rfl) ?_
            refine lv_icmp_le (tgt := 64) hx hb dX10_diameter_56 (by decide) (fun c5 => ?_) (fun c5 => ?_)
            · have hf := if_t c5 hf
              refine lv_iload_n hx hb dX10_diameter_64 rfl (lv_at hl 2 rfl) ?_
              refine lv_istore_n (lv' := [(2, .int x2), (4, .int o2), (0, .ref Ta), (3, .int x3)]) hx hb dX10_diameter_65 rfl hl (by decide) rfl (fun ls hl => ?_)
              refine lv_iinc (v := (x3 + 1)) (lv' := [(3, .int (x3 + 1)), (2, .int x2), (4, .int o2), (0, .ref Ta)]) hx hb dX10_diameter_66 hl (k := 3) rfl rfl (by decide) rfl (fun ls hl => ?_)
              refine lv_goto (tgt := 18) hx hb dX10_diameter_69 (by decide) ?_
              exact ih18 x2 (x3 + 1) _ _ _ hf hP hD hS (lv_sub hl [3, 1, 0] rfl)
            · have hf := if_f c5 hf
              refine lv_iload hx hb dX10_diameter_59 (lv_at hl 0 rfl) ?_
              refine lv_goto (tgt := 65) hx hb dX10_diameter_61 (by decide) ?_
              refine lv_istore_n (lv' := [(2, .int o2), (4, .int o2), (0, .ref Ta), (3, .int x3)]) hx hb dX10_diameter_65 rfl hl (by decide) rfl (fun ls hl => ?_)
              refine lv_iinc (v := (x3 + 1)) (lv' := [(3, .int (x3 + 1)), (2, .int o2), (4, .int o2), (0, .ref Ta)]) hx hb dX10_diameter_66 hl (k := 3) rfl rfl (by decide) rfl (fun ls hl => ?_)
              refine lv_goto (tgt := 18) hx hb dX10_diameter_69 (by decide) ?_
              exact ih18 o2 (x3 + 1) _ _ _ hf hP hD hS (lv_sub hl [3, 1, 0] rfl)
          · have hf := if_t c4 hf
            refine lv_bipush (v := (-9 : Int32)) hx hb dX10_diameter_48 (by decide) ?_
            refine lv_goto (tgt := 65) hx hb dX10_diameter_50 (by decide) ?_
            refine lv_istore_n (lv' := [(2, .int (-9 : Int32)), (4, .int o2), (0, .ref Ta), (3, .int x3)]) hx hb dX10_diameter_65 rfl hl (by decide) rfl (fun ls hl => ?_)
            refine lv_iinc (v := (x3 + 1)) (lv' := [(3, .int (x3 + 1)), (2, .int (-9 : Int32)), (4, .int o2), (0, .ref Ta)]) hx hb dX10_diameter_66 hl (k := 3) rfl rfl (by decide) rfl (fun ls hl => ?_)
            refine lv_goto (tgt := 18) hx hb dX10_diameter_69 (by decide) ?_
            exact ih18 (-9 : Int32) (x3 + 1) _ _ _ hf hP hD hS (lv_sub hl [3, 1, 0] rfl)
  refine lv_iload_n hx hb dX10_diameter_0 rfl (lv_at hl 1 rfl) ?_
  refine cs_i (As := [.int x1]) (rest := []) hx hb hml hown hts hK hP hD hA hS (kX10_isTime l D cI cC cS  x1  (fX10_isTime x1) rfl) (va_cwS 1 hts gX10_diameter_X10_isTime rfl rfl rfl (by decide +kernel) (by subst hR; exact ⟨Nat.le_of_ble_eq_true rfl, Nat.le_of_ble_eq_true rfl⟩)) rfl hl.1 rfl (Nat.le_of_ble_eq_true rfl) ⟨Nat.zero_le _, Nat.zero_le _⟩ dX10_diameter_1 (fun H locs hP hD hS => ?_)
  refine lv_if_ne (tgt := 9) hx hb dX10_diameter_4 (by decide) (fun c6 => ?_) (fun c6 => ?_)
  · have hf := if_f c6 hf
    refine lv_aload_n hx hb dX10_diameter_9 rfl (lv_at hl 0 rfl) ?_
    refine lv_iload_n hx hb dX10_diameter_10 rfl (lv_at hl 1 rfl) ?_
    obtain ⟨o7, ho7, hf⟩ := bd_some hf
    refine cv_v (ci := 7) (q := (RX10, TX10, 19)) (As := [.int x1]) (rest := []) hx hb hml hown hts hK hP hD hA hS (kX10_travels l D cI cC cS Ta Ta_s Ta_past Ta_aside Ta_text Ta_known Ta_then Ta_trip Ta_sent Ta_learned Ta_chosen Ta_decided x1 T_s T_past T_aside T_pasts T_text T_typed T_at T_from T_token T_many T_letters T_number T_known T_then T_trip T_sent T_learned T_chosen T_decided o7 ho7) (cwV 1 hts gX10_diameter_X10_travels rfl rfl rfl (by decide +kernel) (by subst hR; exact ⟨Nat.le_of_ble_eq_true rfl, Nat.le_of_ble_eq_true rfl⟩)) [0, 1, 2, 3, 4, 5, 6, 7, 8, 9, 10, 11] [] [0, 1, 2, 3, 4, 5, 6, 7, 8, 9, 10, 11] [] (sh_X10 Ta Ta_s Ta_past Ta_aside Ta_text Ta_known Ta_then Ta_trip Ta_sent Ta_learned Ta_chosen Ta_decided cI cC cS T_s T_past T_aside T_pasts T_text T_typed T_at T_from T_token T_many T_letters T_number o7.1 o7.2.1 o7.2.2 T_sent T_learned T_chosen T_decided) rfl rfl rfl rfl (by decide) rfl rfl rfl rfl rfl rfl hl.1 rfl (Nat.le_of_ble_eq_true rfl) ⟨Nat.zero_le _, Nat.zero_le _⟩ dX10_diameter_11 (fun H locs hP hD hS => ?_)
    refine lv_iconst (v := (0 : Int32)) hx hb dX10_diameter_14 (by decide) ?_
    refine lv_istore_n (lv' := [(2, .int (0 : Int32)), (0, .ref Ta), (1, .int x1)]) hx hb dX10_diameter_15 rfl hl (by decide) rfl (fun ls hl => ?_)
    refine lv_iconst (v := (0 : Int32)) hx hb dX10_diameter_16 (by decide) ?_
    refine lv_istore_n (lv' := [(3, .int (0 : Int32)), (2, .int (0 : Int32)), (0, .ref Ta), (1, .int x1)]) hx hb dX10_diameter_17 rfl hl (by decide) rfl (fun ls hl => ?_)
    exact L18 o7.1 o7.2.1 o7.2.2 fuel (0 : Int32) (0 : Int32) _ _ _ hf hP hD hS (lv_sub hl [2, 1, 0] rfl)
  · have hf := if_t c6 hf
    refine lv_iconst (v := (-1 : Int32)) hx hb dX10_diameter_7 (by decide) ?_
    have hf := Option.some.inj hf
    subst hf
    exact rt_i hx hb hr hlocks hQ hK hP hD hS rfl dX10_diameter_8
