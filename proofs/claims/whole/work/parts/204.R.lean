set_option maxRecDepth 100000 in
set_option maxHeartbeats 4000000 in
theorem kX10_spreads (l : Launch) (D : va_G) (cI cC cS : ClassId) (Ta Ta_s Ta_past Ta_aside Ta_text Ta_known Ta_then Ta_trip Ta_sent Ta_learned Ta_chosen Ta_decided : Nat) (x1 : Int32) (T_s : Nat → Int32) (T_past : Nat → Int32) (T_aside : Nat → Int32) (T_pasts : Int32) (T_text : Nat → Int32) (T_typed : Int32) (T_at : Int32) (T_from : Int32) (T_token : Int32) (T_many : Int32) (T_letters : Int64) (T_number : Int32) (T_known : Nat → Int32) (T_then : Nat → Int32) (T_trip : Nat → Int32) (T_sent : Nat → Int32) (T_learned : Nat → Int32) (T_chosen : Nat → Int32) (T_decided : Nat → Int32) (o : (Nat → Int32) × (Nat → Int32)) (hf : fX10_spreads x1 T_s T_known T_then = some o) : CV l D yX10_spreads wsX10_spreads ({ frames := 1, cells := 0, slots := 0, locals := 21 } : Room) (tysK cI cC cS) [.ref Ta, .int x1] (sh_X10 Ta Ta_s Ta_past Ta_aside Ta_text Ta_known Ta_then Ta_trip Ta_sent Ta_learned Ta_chosen Ta_decided cI cC cS T_s T_past T_aside T_pasts T_text T_typed T_at T_from T_token T_many T_letters T_number T_known T_then T_trip T_sent T_learned T_chosen T_decided) (sh_X10 Ta Ta_s Ta_past Ta_aside Ta_text Ta_known Ta_then Ta_trip Ta_sent Ta_learned Ta_chosen Ta_decided cI cC cS T_s T_past T_aside T_pasts T_text T_typed T_at T_from T_token T_many T_letters T_number o.1 o.2 T_trip T_sent T_learned T_chosen T_decided) := by
  refine met_v (cc := cX10_spreads) (maxL := 5) (ret := none) (by decide) rfl (Nat.le_of_ble_eq_true rfl) ?_
  intro p e s m args below meth c R Q A F hR hQ hP hK hD hA hS ls hl
  obtain ⟨hx, hb, hr, hts, hml, hlocks, hown⟩ := F
  have hown : s.vm.findClass RX10 = some m.cls := hown
  have hi_X10 : ∀ w ∈ u_ws RX10 TX10 19, w ∈ wsX10_spreads := fun w h => List.mem_cons_of_mem _ (List.mem_append_right _ h)
  have q7 := hts (.fieldLink RX10 7 "ChangingRoundsModel" "s" "[I") (by decide +kernel)
  have q25 := hts (.fieldLink RX10 25 "ChangingRoundsModel" "then" "[I") (by decide +kernel)
  have q22 := hts (.fieldLink RX10 22 "ChangingRoundsModel" "known" "[I") (by decide +kernel)
  have hl : lv_has ls 5 [(0, .ref Ta), (1, .int x1)] := hl
  unfold fX10_spreads at hf
  have L95 : ∀ (T_then : Nat → Int32) (n95 : Nat) (x3 : Int32) (T_known : Nat → Int32) (H : Heap) (locs : List Loc) (ls : Array Slot), fX10_spreads_l95 T_s T_then n95 x3 T_known = some o → va_P D vwCl (sh_X10 Ta Ta_s Ta_past Ta_aside Ta_text Ta_known Ta_then Ta_trip Ta_sent Ta_learned Ta_chosen Ta_decided cI cC cS T_s T_past T_aside T_pasts T_text T_typed T_at T_from T_token T_many T_letters T_number T_known T_then T_trip T_sent T_learned T_chosen T_decided) H → va_D A (sh_X10 Ta Ta_s Ta_past Ta_aside Ta_text Ta_known Ta_then Ta_trip Ta_sent Ta_learned Ta_chosen Ta_decided cI cC cS T_s T_past T_aside T_pasts T_text T_typed T_at T_from T_token T_many T_letters T_number T_known T_then T_trip T_sent T_learned T_chosen T_decided) → va_S A s.heap H locs → lv_has ls 5 [(0, .ref Ta), (3, .int x3)] → W p l e R s m args below meth c H locs 0 0 Q (F0 m 95 ls []) := by
    intro T_then n95
    induction n95 with
    | zero => intro x3 T_known H locs ls hf; cases (show (none : Option _) = some _ from hf)
    | succ n95 ih95 =>
      intro x3 T_known H locs ls hf hP hD hS hl
      rw [fX10_spreads_l95] at hf
      refine lv_iload_n hx hb dX10_spreads_95 rfl (lv_at hl 1 rfl) ?_
      refine lv_aload_n hx hb dX10_spreads_96 rfl (lv_at hl 0 rfl) ?_
      refine va_get (D := D) (ci := 7) (v := .ref Ta_s) (C := RX10) (T := TX10) (N := 19) hx hb hts hi_X10 hown hK hP 0 rfl rfl 0 (by decide) q7 (fun _ h9 => h9) rfl dX10_spreads_97 ?_
      refine lv_iconst (v := (0 : Int32)) hx hb dX10_spreads_100 (by decide) ?_
      refine sx_iald (j := 0) hx hb hK hP 1 0 rfl rfl (inb_vp (by decide)) (by decide) dX10_spreads_101 ?_
      refine lv_icmp_ge (tgt := 123) hx hb dX10_spreads_102 (by decide) (fun c1 => ?_) (fun c1 => ?_)
      · have hf := if_t c1 hf
        have hf := Option.some.inj hf
        subst hf
        exact rt_v hx hb hr hlocks hQ hK hP hD hS dX10_spreads_123
      · have hf := if_f c1 hf
        refine lv_aload_n hx hb dX10_spreads_105 rfl (lv_at hl 0 rfl) ?_
        refine va_get (D := D) (ci := 7) (v := .ref Ta_known) (C := RX10) (T := TX10) (N := 19) hx hb hts hi_X10 hown hK hP 0 rfl rfl 12 (by decide) q22 (fun _ h9 => h9) rfl dX10_spreads_106 ?_
        refine lv_iload_n hx hb dX10_spreads_109 rfl (lv_at hl 1 rfl) ?_
        refine lv_aload_n hx hb dX10_spreads_110 rfl (lv_at hl 0 rfl) ?_
        refine va_get (D := D) (ci := 7) (v := .ref Ta_then) (C := RX10) (T := TX10) (N := 19) hx hb hts hi_X10 hown hK hP 0 rfl rfl 13 (by decide) q25 (fun _ h9 => h9) rfl dX10_spreads_111 ?_
        refine lv_iload_n hx hb dX10_spreads_114 rfl (lv_at hl 1 rfl) ?_
        obtain ⟨hz, hf⟩ := ck_some hf
        refine sx_iald (j := x3.toNatClampNeg) hx hb hK hP 6 0 rfl rfl (inb_vp hz) rfl dX10_spreads_115 ?_
        obtain ⟨hz, hf⟩ := ck_some hf
        refine sx_iast (j := x3.toNatClampNeg) hx hb hK hP hD hS 5 0 rfl rfl (inb_vp hz) rfl dX10_spreads_116 (sh_X10 Ta Ta_s Ta_past Ta_aside Ta_text Ta_known Ta_then Ta_trip Ta_sent Ta_learned Ta_chosen Ta_decided cI cC cS T_s T_past T_aside T_pasts T_text T_typed T_at T_from T_token T_many T_letters T_number (upd T_known x3.toNatClampNeg (T_then x3.toNatClampNeg)) T_then T_trip T_sent T_learned T_chosen T_decided) rfl (fun H locs hP hD hS => ?_)
        refine lv_iinc (v := (x3 + 1)) (lv' := [(3, .int (x3 + 1)), (0, .ref Ta)]) hx hb dX10_spreads_117 hl (k := 1) rfl rfl (by decide) rfl (fun ls hl => ?_)
        refine lv_goto (tgt := 95) hx hb dX10_spreads_120 (by decide) ?_
        exact ih95 (x3 + 1) (upd T_known x3.toNatClampNeg (T_then x3.toNatClampNeg)) _ _ _ hf hP hD hS (lv_sub hl [1, 0] rfl)
  have L8 : ∀ (x2 : Int32) (T_known : Nat → Int32) (n8 : Nat) (x3 : Int32) (T_then : Nat → Int32) (H : Heap) (locs : List Loc) (ls : Array Slot), fX10_spreads_l8 x2 T_s T_known n8 x3 T_then = some o → va_P D vwCl (sh_X10 Ta Ta_s Ta_past Ta_aside Ta_text Ta_known Ta_then Ta_trip Ta_sent Ta_learned Ta_chosen Ta_decided cI cC cS T_s T_past T_aside T_pasts T_text T_typed T_at T_from T_token T_many T_letters T_number T_known T_then T_trip T_sent T_learned T_chosen T_decided) H → va_D A (sh_X10 Ta Ta_s Ta_past Ta_aside Ta_text Ta_known Ta_then Ta_trip Ta_sent Ta_learned Ta_chosen Ta_decided cI cC cS T_s T_past T_aside T_pasts T_text T_typed T_at T_from T_token T_many T_letters T_number T_known T_then T_trip T_sent T_learned T_chosen T_decided) → va_S A s.heap H locs → lv_has ls 5 [(0, .ref Ta), (2, .int x2), (3, .int x3)] → W p l e R s m args below meth c H locs 0 0 Q (F0 m 8 ls []) := by
    intro x2 T_known n8
    induction n8 with
    | zero => intro x3 T_then H locs ls hf; cases (show (none : Option _) = some _ from hf)
    | succ n8 ih8 =>
      have L33 : ∀ (x3 : Int32) (n33 : Nat) (x4 : Int32) (T_then : Nat → Int32) (H : Heap) (locs : List Loc) (ls : Array Slot), fX10_spreads_l33 (fX10_spreads_l8 x2 T_s T_known n8) x2 x3 T_s T_known n33 x4 T_then = some o → va_P D vwCl (sh_X10 Ta Ta_s Ta_past Ta_aside Ta_text Ta_known Ta_then Ta_trip Ta_sent Ta_learned Ta_chosen Ta_decided cI cC cS T_s T_past T_aside T_pasts T_text T_typed T_at T_from T_token T_many T_letters T_number T_known T_then T_trip T_sent T_learned T_chosen T_decided) H → va_D A (sh_X10 Ta Ta_s Ta_past Ta_aside Ta_text Ta_known Ta_then Ta_trip Ta_sent Ta_learned Ta_chosen Ta_decided cI cC cS T_s T_past T_aside T_pasts T_text T_typed T_at T_from T_token T_many T_letters T_number T_known T_then T_trip T_sent T_learned T_chosen T_decided) → va_S A s.heap H locs → lv_has ls 5 [(0, .ref Ta), (2, .int x2), (3, .int x3), (4, .int x4)] → W p l e R s m args below meth c H locs 0 0 Q (F0 m 33 ls []) := by
        intro x3 n33
        induction n33 with
        | zero => intro x4 T_then H locs ls hf; cases (show (none : Option _) = some _ from hf)
        | succ n33 ih33 =>
          intro x4 T_then H locs ls hf hP hD hS hl
          rw [fX10_spreads_l33] at hf
          refine lv_iload hx hb dX10_spreads_33 (lv_at hl 3 rfl) ?_
          refine lv_aload_n hx hb dX10_spreads_35 rfl (lv_at hl 0 rfl) ?_
          refine va_get (D := D) (ci := 7) (v := .ref Ta_s) (C := RX10) (T := TX10) (N := 19) hx hb hts hi_X10 hown hK hP 0 rfl rfl 0 (by decide) q7 (fun _ h9 => h9) rfl dX10_spreads_36 ?_
          refine lv_iconst (v := (0 : Int32)) hx hb dX10_spreads_39 (by decide) ?_
          refine sx_iald (j := 0) hx hb hK hP 1 0 rfl rfl (inb_vp (by decide)) (by decide) dX10_spreads_40 ?_
          refine lv_icmp_ge (tgt := 87) hx hb dX10_spreads_41 (by decide) (fun c2 => ?_) (fun c2 => ?_)
          · have hf := if_t c2 hf
            refine lv_iinc (v := (x3 + 1)) (lv' := [(3, .int (x3 + 1)), (0, .ref Ta), (2, .int x2), (4, .int x4)]) hx hb dX10_spreads_87 hl (k := 2) rfl rfl (by decide) rfl (fun ls hl => ?_)
            refine lv_goto (tgt := 8) hx hb dX10_spreads_90 (by decide) ?_
            exact ih8 (x3 + 1) T_then _ _ _ hf hP hD hS (lv_sub hl [1, 2, 0] rfl)
          · have hf := if_f c2 hf
            refine lv_aload_n hx hb dX10_spreads_44 rfl (lv_at hl 0 rfl) ?_
            refine va_get (D := D) (ci := 7) (v := .ref Ta_then) (C := RX10) (T := TX10) (N := 19) hx hb hts hi_X10 hown hK hP 0 rfl rfl 13 (by decide) q25 (fun _ h9 => h9) rfl dX10_spreads_45 ?_
            refine lv_iload_n hx hb dX10_spreads_48 rfl (lv_at hl 2 rfl) ?_
            refine lv_dup2_11 hx hb dX10_spreads_49 rfl rfl ?_
            obtain ⟨hz, hf⟩ := ck_some hf
            refine sx_iald (j := x3.toNatClampNeg) hx hb hK hP 6 0 rfl rfl (inb_vp hz) rfl dX10_spreads_50 ?_
            refine lv_iload_n hx hb dX10_spreads_51 rfl (lv_at hl 2 rfl) ?_
            refine lv_iload hx hb dX10_spreads_52 (lv_at hl 3 rfl) ?_
            refine lv_icmp_eq (tgt := 78) hx hb dX10_spreads_54 (by decide) (fun c3 => ?_) (fun c3 => ?_)
            · have hf := if_t c3 hf
              refine lv_iconst (v := (0 : Int32)) hx hb dX10_spreads_78 (by decide) ?_
              refine lv_ior hx hb dX10_spreads_79 ?_
              obtain ⟨hz, hf⟩ := ck_some hf
              refine sx_iast (j := x3.toNatClampNeg) hx hb hK hP hD hS 6 0 rfl rfl (inb_vp hz) rfl dX10_spreads_80 (sh_X10 Ta Ta_s Ta_past Ta_aside Ta_text Ta_known Ta_then Ta_trip Ta_sent Ta_learned Ta_chosen Ta_decided cI cC cS T_s T_past T_aside T_pasts T_text T_typed T_at T_from T_token T_many T_letters T_number T_known (upd T_then x3.toNatClampNeg ((T_then x3.toNatClampNeg) ||| (0 : Int32))) T_trip T_sent T_learned T_chosen T_decided) rfl (fun H locs hP hD hS => ?_)
              refine lv_iinc (v := (x4 + 1)) (lv' := [(4, .int (x4 + 1)), (0, .ref Ta), (2, .int x2), (3, .int x3)]) hx hb dX10_spreads_81 hl (k := 3) rfl rfl (by decide) rfl (fun ls hl => ?_)
              refine lv_goto (tgt := 33) hx hb dX10_spreads_84 (by decide) ?_
              exact ih33 (x4 + 1) (upd T_then x3.toNatClampNeg ((T_then x3.toNatClampNeg) ||| (0 : Int32))) _ _ _ hf hP hD hS (lv_sub hl [1, 2, 3, 0] rfl)
            · have hf := if_f c3 hf
              refine lv_iload_n hx hb dX10_spreads_57 rfl (lv_at hl 1 rfl) ?_
              refine lv_iload_n hx hb dX10_spreads_58 rfl (lv_at hl 2 rfl) ?_
              refine lv_iload hx hb dX10_spreads_59 (lv_at hl 3 rfl) ?_
              refine cs_i (As := [.int x3, .int x4]) (rest := [.int x2, .int (T_then x3.toNatClampNeg), .int x3, .ref Ta_then]) hx hb hml hown hts hK hP hD hA hS (kX10_pair l D cI cC cS  x3 x4  (fX10_pair x3 x4) rfl) (va_cwS 2 hts gX10_spreads_X10_pair rfl rfl rfl (by decide +kernel) (by subst hR; exact ⟨Nat.le_of_ble_eq_true rfl, Nat.le_of_ble_eq_true rfl⟩)) rfl hl.1 rfl (Nat.le_of_ble_eq_true rfl) ⟨Nat.zero_le _, Nat.zero_le _⟩ dX10_spreads_61 (fun H locs hP hD hS => ?_)
              refine lv_iand hx hb dX10_spreads_64 ?_
              refine lv_if_eq (tgt := 78) hx hb dX10_spreads_65 (by decide) (fun c4 => ?_) (fun c4 => ?_)
              · have hf := if_t c4 hf
                refine lv_iconst (v := (0 : Int32)) hx hb dX10_spreads_78 (by decide) ?_
                refine lv_ior hx hb dX10_spreads_79 ?_
                obtain ⟨hz, hf⟩ := ck_some hf
                refine sx_iast (j := x3.toNatClampNeg) hx hb hK hP hD hS 6 0 rfl rfl (inb_vp hz) rfl dX10_spreads_80 (sh_X10 Ta Ta_s Ta_past Ta_aside Ta_text Ta_known Ta_then Ta_trip Ta_sent Ta_learned Ta_chosen Ta_decided cI cC cS T_s T_past T_aside T_pasts T_text T_typed T_at T_from T_token T_many T_letters T_number T_known (upd T_then x3.toNatClampNeg ((T_then x3.toNatClampNeg) ||| (0 : Int32))) T_trip T_sent T_learned T_chosen T_decided) rfl (fun H locs hP hD hS => ?_)
                refine lv_iinc (v := (x4 + 1)) (lv' := [(4, .int (x4 + 1)), (0, .ref Ta), (2, .int x2), (3, .int x3)]) hx hb dX10_spreads_81 hl (k := 3) rfl rfl (by decide) rfl (fun ls hl => ?_)
                refine lv_goto (tgt := 33) hx hb dX10_spreads_84 (by decide) ?_
                exact ih33 (x4 + 1) (upd T_then x3.toNatClampNeg ((T_then x3.toNatClampNeg) ||| (0 : Int32))) _ _ _ hf hP hD hS (lv_sub hl [1, 2, 3, 0] rfl)
              · have hf := if_f c4 hf
                refine lv_aload_n hx hb dX10_spreads_68 rfl (lv_at hl 0 rfl) ?_
                refine va_get (D := D) (ci := 7) (v := .ref Ta_known) (C := RX10) (T := TX10) (N := 19) hx hb hts hi_X10 hown hK hP 0 rfl rfl 12 (by decide) q22 (fun _ h9 => h9) rfl dX10_spreads_69 ?_
                refine lv_iload hx hb dX10_spreads_72 (lv_at hl 3 rfl) ?_
                obtain ⟨hz, hf⟩ := ck_some hf
                refine sx_iald (j := x4.toNatClampNeg) hx hb hK hP 5 0 rfl rfl (inb_vp hz) rfl dX10_spreads_74 ?_
                refine lv_goto (tgt := 79) hx hb dX10_spreads_75 (by decide) ?_
                refine lv_ior hx hb dX10_spreads_79 ?_
                obtain ⟨hz, hf⟩ := ck_some hf
                refine sx_iast (j := x3.toNatClampNeg) hx hb hK hP hD hS 6 0 rfl rfl (inb_vp hz) rfl dX10_spreads_80 (sh_X10 Ta Ta_s Ta_past Ta_aside Ta_text Ta_known Ta_then Ta_trip Ta_sent Ta_learned Ta_chosen Ta_decided cI cC cS T_s T_past T_aside T_pasts T_text T_typed T_at T_from T_token T_many T_letters T_number T_known (upd T_then x3.toNatClampNeg ((T_then x3.toNatClampNeg) ||| (T_known x4.toNatClampNeg))) T_trip T_sent T_learned T_chosen T_decided) rfl (fun H locs hP hD hS => ?_)
                refine lv_iinc (v := (x4 + 1)) (lv' := [(4, .int (x4 + 1)), (0, .ref Ta), (2, .int x2), (3, .int x3)]) hx hb dX10_spreads_81 hl (k := 3) rfl rfl (by decide) rfl (fun ls hl => ?_)
                refine lv_goto (tgt := 33) hx hb dX10_spreads_84 (by decide) ?_
                exact ih33 (x4 + 1) (upd T_then x3.toNatClampNeg ((T_then x3.toNatClampNeg) ||| (T_known x4.toNatClampNeg))) _ _ _ hf hP hD hS (lv_sub hl [1, 2, 3, 0] rfl)
      intro x3 T_then H locs ls hf hP hD hS hl
      rw [fX10_spreads_l8] at hf
      refine lv_iload_n hx hb dX10_spreads_8 rfl (lv_at hl 2 rfl) ?_
      refine lv_aload_n hx hb dX10_spreads_9 rfl (lv_at hl 0 rfl) ?_
      refine va_get (D := D) (ci := 7) (v := .ref Ta_s) (C := RX10) (T := TX10) (N := 19) hx hb hts hi_X10 hown hK hP 0 rfl rfl 0 (by decide) q7 (fun _ h9 => h9) rfl dX10_spreads_10 ?_
      refine lv_iconst (v := (0 : Int32)) hx hb dX10_spreads_13 (by decide) ?_
      refine sx_iald (j := 0) hx hb hK hP 1 0 rfl rfl (inb_vp (by decide)) (by decide) dX10_spreads_14 ?_
      refine lv_icmp_ge (tgt := 93) hx hb dX10_spreads_15 (by decide) (fun c5 => ?_) (fun c5 => ?_)
      · have hf := if_t c5 hf
        refine lv_iconst (v := (0 : Int32)) hx hb dX10_spreads_93 (by decide) ?_
        refine lv_istore_n (lv' := [(3, .int (0 : Int32)), (0, .ref Ta), (2, .int x2)]) hx hb dX10_spreads_94 rfl hl (by decide) rfl (fun ls hl => ?_)
        exact L95 T_then fuel (0 : Int32) T_known _ _ _ hf hP hD hS (lv_sub hl [1, 0] rfl)
      · have hf := if_f c5 hf
        refine lv_aload_n hx hb dX10_spreads_18 rfl (lv_at hl 0 rfl) ?_
        refine va_get (D := D) (ci := 7) (v := .ref Ta_then) (C := RX10) (T := TX10) (N := 19) hx hb hts hi_X10 hown hK hP 0 rfl rfl 13 (by decide) q25 (fun _ h9 => h9) rfl dX10_spreads_19 ?_
        refine lv_iload_n hx hb dX10_spreads_22 rfl (lv_at hl 2 rfl) ?_
        refine lv_aload_n hx hb dX10_spreads_23 rfl (lv_at hl 0 rfl) ?_
        refine va_get (D := D) (ci := 7) (v := .ref Ta_known) (C := RX10) (T := TX10) (N := 19) hx hb hts hi_X10 hown hK hP 0 rfl rfl 12 (by decide) q22 (fun _ h9 => h9) rfl dX10_spreads_24 ?_
        refine lv_iload_n hx hb dX10_spreads_27 rfl (lv_at hl 2 rfl) ?_
        obtain ⟨hz, hf⟩ := ck_some hf
        refine sx_iald (j := x3.toNatClampNeg) hx hb hK hP 5 0 rfl rfl (inb_vp hz) rfl dX10_spreads_28 ?_
        obtain ⟨hz, hf⟩ := ck_some hf
        refine sx_iast (j := x3.toNatClampNeg) hx hb hK hP hD hS 6 0 rfl rfl (inb_vp hz) rfl dX10_spreads_29 (sh_X10 Ta Ta_s Ta_past Ta_aside Ta_text Ta_known Ta_then Ta_trip Ta_sent Ta_learned Ta_chosen Ta_decided cI cC cS T_s T_past T_aside T_pasts T_text T_typed T_at T_from T_token T_many T_letters T_number T_known (upd T_then x3.toNatClampNeg (T_known x3.toNatClampNeg)) T_trip T_sent T_learned T_chosen T_decided) rfl (fun H locs hP hD hS => ?_)
        refine lv_iconst (v := (0 : Int32)) hx hb dX10_spreads_30 (by decide) ?_
        refine lv_istore (lv' := [(4, .int (0 : Int32)), (0, .ref Ta), (2, .int x2), (3, .int x3)]) hx hb dX10_spreads_31 hl (by decide) rfl (fun ls hl => ?_)
        exact L33 x3 fuel (0 : Int32) (upd T_then x3.toNatClampNeg (T_known x3.toNatClampNeg)) _ _ _ hf hP hD hS (lv_sub hl [1, 2, 3, 0] rfl)
  refine lv_aload_n hx hb dX10_spreads_0 rfl (lv_at hl 0 rfl) ?_
  refine lv_iload_n hx hb dX10_spreads_1 rfl (lv_at hl 1 rfl) ?_
  obtain ⟨o6, ho6, hf⟩ := bd_some hf
  refine cv_i (ci := 7) (q := (RX10, TX10, 19)) (As := [.int x1]) (rest := []) hx hb hml hown hts hK hP hD hA hS (kX10_edgesAt l D cI cC cS Ta Ta_s Ta_past Ta_aside Ta_text Ta_known Ta_then Ta_trip Ta_sent Ta_learned Ta_chosen Ta_decided x1 T_s T_past T_aside T_pasts T_text T_typed T_at T_from T_token T_many T_letters T_number T_known T_then T_trip T_sent T_learned T_chosen T_decided o6 ho6) (cwV 1 hts gX10_spreads_X10_edgesAt rfl rfl rfl (by decide +kernel) (by subst hR; exact ⟨Nat.le_of_ble_eq_true rfl, Nat.le_of_ble_eq_true rfl⟩)) [0, 1, 2, 3, 4, 5, 6, 7, 8, 9, 10, 11] [] [0, 1, 2, 3, 4, 5, 6, 7, 8, 9, 10, 11] [] (sh_X10 Ta Ta_s Ta_past Ta_aside Ta_text Ta_known Ta_then Ta_trip Ta_sent Ta_learned Ta_chosen Ta_decided cI cC cS T_s T_past T_aside T_pasts T_text T_typed T_at T_from T_token T_many T_letters T_number T_known T_then T_trip T_sent T_learned T_chosen T_decided) rfl rfl rfl rfl (by decide) rfl rfl rfl rfl rfl rfl hl.1 rfl (Nat.le_of_ble_eq_true rfl) ⟨Nat.zero_le _, Nat.zero_le _⟩ dX10_spreads_2 (fun H locs hP hD hS => ?_)
  refine lv_istore_n (lv' := [(2, .int o6), (0, .ref Ta), (1, .int x1)]) hx hb dX10_spreads_5 rfl hl (by decide) rfl (fun ls hl => ?_)
  refine lv_iconst (v := (0 : Int32)) hx hb dX10_spreads_6 (by decide) ?_
  refine lv_istore_n (lv' := [(3, .int (0 : Int32)), (2, .int o6), (0, .ref Ta), (1, .int x1)]) hx hb dX10_spreads_7 rfl hl (by decide) rfl (fun ls hl => ?_)
  exact L8 o6 T_known fuel (0 : Int32) T_then _ _ _ hf hP hD hS (lv_sub hl [2, 1, 0] rfl)
set_option maxRecDepth 100000 in
set_option maxHeartbeats 4000000 in
theorem kX10_floods (l : Launch) (D : va_G) (cI cC cS : ClassId) (Ta Ta_s Ta_past Ta_aside Ta_text Ta_known Ta_then Ta_trip Ta_sent Ta_learned Ta_chosen Ta_decided : Nat) (x1 : Int32) (x2 : Int32) (T_s : Nat → Int32) (T_past : Nat → Int32) (T_aside : Nat → Int32) (T_pasts : Int32) (T_text : Nat → Int32) (T_typed : Int32) (T_at : Int32) (T_from : Int32) (T_token : Int32) (T_many : Int32) (T_letters : Int64) (T_number : Int32) (T_known : Nat → Int32) (T_then : Nat → Int32) (T_trip : Nat → Int32) (T_sent : Nat → Int32) (T_learned : Nat → Int32) (T_chosen : Nat → Int32) (T_decided : Nat → Int32) (o : (Nat → Int32) × (Nat → Int32)) (hf : fX10_floods x1 x2 T_s T_known T_then = some o) : CV l D yX10_floods wsX10_floods ({ frames := 2, cells := 0, slots := 0, locals := 45 } : Room) (tysK cI cC cS) [.ref Ta, .int x1, .int x2] (sh_X10 Ta Ta_s Ta_past Ta_aside Ta_text Ta_known Ta_then Ta_trip Ta_sent Ta_learned Ta_chosen Ta_decided cI cC cS T_s T_past T_aside T_pasts T_text T_typed T_at T_from T_token T_many T_letters T_number T_known T_then T_trip T_sent T_learned T_chosen T_decided) (sh_X10 Ta Ta_s Ta_past Ta_aside Ta_text Ta_known Ta_then Ta_trip Ta_sent Ta_learned Ta_chosen Ta_decided cI cC cS T_s T_past T_aside T_pasts T_text T_typed T_at T_from T_token T_many T_letters T_number o.1 o.2 T_trip T_sent T_learned T_chosen T_decided) := by
  refine met_v (cc := cX10_floods) (maxL := 4) (ret := none) (by decide) rfl (Nat.le_of_ble_eq_true rfl) ?_
  intro p e s m args below meth c R Q A F hR hQ hP hK hD hA hS ls hl
  obtain ⟨hx, hb, hr, hts, hml, hlocks, hown⟩ := F
  have hown : s.vm.findClass RX10 = some m.cls := hown
  have hl : lv_has ls 4 [(0, .ref Ta), (1, .int x1), (2, .int x2)] := hl
  unfold fX10_floods at hf
  have L6 : ∀ (n6 : Nat) (x3 : Int32) (T_known : Nat → Int32) (T_then : Nat → Int32) (H : Heap) (locs : List Loc) (ls : Array Slot), fX10_floods_l6 x1 x2 T_s n6 x3 T_known T_then = some o → va_P D vwCl (sh_X10 Ta Ta_s Ta_past Ta_aside Ta_text Ta_known Ta_then Ta_trip Ta_sent Ta_learned Ta_chosen Ta_decided cI cC cS T_s T_past T_aside T_pasts T_text T_typed T_at T_from T_token T_many T_letters T_number T_known T_then T_trip T_sent T_learned T_chosen T_decided) H → va_D A (sh_X10 Ta Ta_s Ta_past Ta_aside Ta_text Ta_known Ta_then Ta_trip Ta_sent Ta_learned Ta_chosen Ta_decided cI cC cS T_s T_past T_aside T_pasts T_text T_typed T_at T_from T_token T_many T_letters T_number T_known T_then T_trip T_sent T_learned T_chosen T_decided) → va_S A s.heap H locs → lv_has ls 4 [(0, .ref Ta), (1, .int x1), (2, .int x2), (3, .int x3)] → W p l e R s m args below meth c H locs 0 0 Q (F0 m 6 ls []) := by
    intro n6
    induction n6 with
    | zero => intro x3 T_known T_then H locs ls hf; cases (show (none : Option _) = some _ from hf)
    | succ n6 ih6 =>
      intro x3 T_known T_then H locs ls hf hP hD hS hl
      rw [fX10_floods_l6] at hf
      refine lv_iload_n hx hb dX10_floods_6 rfl (lv_at hl 3 rfl) ?_
      refine lv_iload_n hx hb dX10_floods_7 rfl (lv_at hl 2 rfl) ?_
      refine lv_icmp_ge (tgt := 24) hx hb dX10_floods_8 (by decide) (fun c1 => ?_) (fun c1 => ?_)
      · have hf := if_t c1 hf
        have hf := Option.some.inj hf
        subst hf
        exact rt_v hx hb hr hlocks hQ hK hP hD hS dX10_floods_24
      · have hf := if_f c1 hf
        refine lv_aload_n hx hb dX10_floods_11 rfl (lv_at hl 0 rfl) ?_
        refine lv_iload_n hx hb dX10_floods_12 rfl (lv_at hl 1 rfl) ?_
        refine lv_iload_n hx hb dX10_floods_13 rfl (lv_at hl 3 rfl) ?_
        refine lv_iadd hx hb dX10_floods_14 ?_
        obtain ⟨o2, ho2, hf⟩ := bd_some hf
        refine cv_v (ci := 7) (q := (RX10, TX10, 19)) (As := [.int (x1 + x3)]) (rest := []) hx hb hml hown hts hK hP hD hA hS (kX10_spreads l D cI cC cS Ta Ta_s Ta_past Ta_aside Ta_text Ta_known Ta_then Ta_trip Ta_sent Ta_learned Ta_chosen Ta_decided (x1 + x3) T_s T_past T_aside T_pasts T_text T_typed T_at T_from T_token T_many T_letters T_number T_known T_then T_trip T_sent T_learned T_chosen T_decided o2 ho2) (cwV 1 hts gX10_floods_X10_spreads rfl rfl rfl (by decide +kernel) (by subst hR; exact ⟨Nat.le_of_ble_eq_true rfl, Nat.le_of_ble_eq_true rfl⟩)) [0, 1, 2, 3, 4, 5, 6, 7, 8, 9, 10, 11] [] [0, 1, 2, 3, 4, 5, 6, 7, 8, 9, 10, 11] [] (sh_X10 Ta Ta_s Ta_past Ta_aside Ta_text Ta_known Ta_then Ta_trip Ta_sent Ta_learned Ta_chosen Ta_decided cI cC cS T_s T_past T_aside T_pasts T_text T_typed T_at T_from T_token T_many T_letters T_number o2.1 o2.2 T_trip T_sent T_learned T_chosen T_decided) rfl rfl rfl rfl (by decide) rfl rfl rfl rfl rfl rfl hl.1 rfl (Nat.le_of_ble_eq_true rfl) ⟨Nat.zero_le _, Nat.zero_le _⟩ dX10_floods_15 (fun H locs hP hD hS => ?_)
        refine lv_iinc (v := (x3 + 1)) (lv' := [(3, .int (x3 + 1)), (0, .ref Ta), (1, .int x1), (2, .int x2)]) hx hb dX10_floods_18 hl (k := 3) rfl rfl (by decide) rfl (fun ls hl => ?_)
        refine lv_goto (tgt := 6) hx hb dX10_floods_21 (by decide) ?_
        exact ih6 (x3 + 1) o2.1 o2.2 _ _ _ hf hP hD hS (lv_sub hl [1, 2, 3, 0] rfl)
  refine lv_aload_n hx hb dX10_floods_0 rfl (lv_at hl 0 rfl) ?_
  obtain ⟨o3, ho3, hf⟩ := bd_some hf
  refine cv_v (ci := 7) (q := (RX10, TX10, 19)) (As := []) (rest := []) hx hb hml hown hts hK hP hD hA hS (kX10_alone l D cI cC cS Ta Ta_s Ta_past Ta_aside Ta_text Ta_known Ta_then Ta_trip Ta_sent Ta_learned Ta_chosen Ta_decided  T_s T_past T_aside T_pasts T_text T_typed T_at T_from T_token T_many T_letters T_number T_known T_then T_trip T_sent T_learned T_chosen T_decided o3 ho3) (cwV 0 hts gX10_floods_X10_alone rfl rfl rfl (by decide +kernel) (by subst hR; exact ⟨Nat.le_of_ble_eq_true rfl, Nat.le_of_ble_eq_true rfl⟩)) [0, 1, 2, 3, 4, 5, 6, 7, 8, 9, 10, 11] [] [0, 1, 2, 3, 4, 5, 6, 7, 8, 9, 10, 11] [] (sh_X10 Ta Ta_s Ta_past Ta_aside Ta_text Ta_known Ta_then Ta_trip Ta_sent Ta_learned Ta_chosen Ta_decided cI cC cS T_s T_past T_aside T_pasts T_text T_typed T_at T_from T_token T_many T_letters T_number o3 T_then T_trip T_sent T_learned T_chosen T_decided) rfl rfl rfl rfl (by decide) rfl rfl rfl rfl rfl rfl hl.1 rfl (Nat.le_of_ble_eq_true rfl) ⟨Nat.zero_le _, Nat.zero_le _⟩ dX10_floods_1 (fun H locs hP hD hS => ?_)
  refine lv_iconst (v := (0 : Int32)) hx hb dX10_floods_4 (by decide) ?_
  refine lv_istore_n (lv' := [(3, .int (0 : Int32)), (0, .ref Ta), (1, .int x1), (2, .int x2)]) hx hb dX10_floods_5 rfl hl (by decide) rfl (fun ls hl => ?_)
  exact L6  fuel (0 : Int32) o3 T_then _ _ _ hf hP hD hS (lv_sub hl [1, 2, 3, 0] rfl)
set_option maxRecDepth 100000 in
set_option maxHeartbeats 4000000 in
theorem kX10_against (l : Launch) (D : va_G) (cI cC cS : ClassId) (Ta Ta_s Ta_past Ta_aside Ta_text Ta_known Ta_then Ta_trip Ta_sent Ta_learned Ta_chosen Ta_decided : Nat) (x1 : Int32) (x2 : Int32) (T_s : Nat → Int32) (T_past : Nat → Int32) (T_aside : Nat → Int32) (T_pasts : Int32) (T_text : Nat → Int32) (T_typed : Int32) (T_at : Int32) (T_from : Int32) (T_token : Int32) (T_many : Int32) (T_letters : Int64) (T_number : Int32) (T_known : Nat → Int32) (T_then : Nat → Int32) (T_trip : Nat → Int32) (T_sent : Nat → Int32) (T_learned : Nat → Int32) (T_chosen : Nat → Int32) (T_decided : Nat → Int32) (o : Int32 × (Nat → Int32) × (Nat → Int32)) (hf : fX10_against x1 x2 T_s T_known T_then = some o) : CI l D yX10_against wsX10_against ({ frames := 3, cells := 0, slots := 0, locals := 68 } : Room) (tysK cI cC cS) [.ref Ta, .int x1, .int x2] (sh_X10 Ta Ta_s Ta_past Ta_aside Ta_text Ta_known Ta_then Ta_trip Ta_sent Ta_learned Ta_chosen Ta_decided cI cC cS T_s T_past T_aside T_pasts T_text T_typed T_at T_from T_token T_many T_letters T_number T_known T_then T_trip T_sent T_learned T_chosen T_decided) o.1 (sh_X10 Ta Ta_s Ta_past Ta_aside Ta_text Ta_known Ta_then Ta_trip Ta_sent Ta_learned Ta_chosen Ta_decided cI cC cS T_s T_past T_aside T_pasts T_text T_typed T_at T_from T_token T_many T_letters T_number o.2.1 o.2.2 T_trip T_sent T_learned T_chosen T_decided) := by
  refine met_i (cc := cX10_against) (maxL := 6) (ret := (some .int)) (by decide) rfl (Nat.le_of_ble_eq_true rfl) ?_
  intro p e s m args below meth c R Q A F hR hQ hP hK hD hA hS ls hl
  obtain ⟨hx, hb, hr, hts, hml, hlocks, hown⟩ := F
  have hown : s.vm.findClass RX10 = some m.cls := hown
  have hi_X10 : ∀ w ∈ u_ws RX10 TX10 19, w ∈ wsX10_against := fun w h => List.mem_cons_of_mem _ (List.mem_append_right _ h)
  have q7 := hts (.fieldLink RX10 7 "ChangingRoundsModel" "s" "[I") (by decide +kernel)
  have q22 := hts (.fieldLink RX10 22 "ChangingRoundsModel" "known" "[I") (by decide +kernel)
  have hl : lv_has ls 6 [(0, .ref Ta), (1, .int x1), (2, .int x2)] := hl
  unfold fX10_against at hf
  have J123 : ∀ (y1 : Int32) (T_known : Nat → Int32) (T_then : Nat → Int32) (H : Heap) (locs : List Loc) (ls : Array Slot), fX10_against_b123 y1 T_s T_known T_then = some o → va_P D vwCl (sh_X10 Ta Ta_s Ta_past Ta_aside Ta_text Ta_known Ta_then Ta_trip Ta_sent Ta_learned Ta_chosen Ta_decided cI cC cS T_s T_past T_aside T_pasts T_text T_typed T_at T_from T_token T_many T_letters T_number T_known T_then T_trip T_sent T_learned T_chosen T_decided) H → va_D A (sh_X10 Ta Ta_s Ta_past Ta_aside Ta_text Ta_known Ta_then Ta_trip Ta_sent Ta_learned Ta_chosen Ta_decided cI cC cS T_s T_past T_aside T_pasts T_text T_typed T_at T_from T_token T_many T_letters T_number T_known T_then T_trip T_sent T_learned T_chosen T_decided) → va_S A s.heap H locs → lv_has ls 6 [] → W p l e R s m args below meth c H locs 0 0 Q (F0 m 123 ls [.int y1, .ref Ta]) := by
    intro y1 T_known T_then H locs ls hf hP hD hS hl
    unfold fX10_against_b123 at hf
    obtain ⟨o1, ho1, hf⟩ := bd_some hf
    refine cv_i (ci := 7) (q := (RX10, TX10, 19)) (As := [.int y1]) (rest := []) hx hb hml hown hts hK hP hD hA hS (kX10_star l D cI cC cS Ta Ta_s Ta_past Ta_aside Ta_text Ta_known Ta_then Ta_trip Ta_sent Ta_learned Ta_chosen Ta_decided y1 T_s T_past T_aside T_pasts T_text T_typed T_at T_from T_token T_many T_letters T_number T_known T_then T_trip T_sent T_learned T_chosen T_decided o1 ho1) (cwV 1 hts gX10_against_X10_star rfl rfl rfl (by decide +kernel) (by subst hR; exact ⟨Nat.le_of_ble_eq_true rfl, Nat.le_of_ble_eq_true rfl⟩)) [0, 1, 2, 3, 4, 5, 6, 7, 8, 9, 10, 11] [] [0, 1, 2, 3, 4, 5, 6, 7, 8, 9, 10, 11] [] (sh_X10 Ta Ta_s Ta_past Ta_aside Ta_text Ta_known Ta_then Ta_trip Ta_sent Ta_learned Ta_chosen Ta_decided cI cC cS T_s T_past T_aside T_pasts T_text T_typed T_at T_from T_token T_many T_letters T_number T_known T_then T_trip T_sent T_learned T_chosen T_decided) rfl rfl rfl rfl (by decide) rfl rfl rfl rfl rfl rfl hl.1 rfl (Nat.le_of_ble_eq_true rfl) ⟨Nat.zero_le _, Nat.zero_le _⟩ dX10_against_123 (fun H locs hP hD hS => ?_)
    have hf := Option.some.inj hf
    subst hf
    exact rt_i hx hb hr hlocks hQ hK hP hD hS rfl dX10_against_126
  have J81 : ∀ (x3 : Int32) (x4 : Int32) (y0 : Int32) (T_known : Nat → Int32) (T_then : Nat → Int32) (H : Heap) (locs : List Loc) (ls : Array Slot), fX10_against_b81 x1 x2 x3 x4 y0 T_s T_known T_then = some o → va_P D vwCl (sh_X10 Ta Ta_s Ta_past Ta_aside Ta_text Ta_known Ta_then Ta_trip Ta_sent Ta_learned Ta_chosen Ta_decided cI cC cS T_s T_past T_aside T_pasts T_text T_typed T_at T_from T_token T_many T_letters T_number T_known T_then T_trip T_sent T_learned T_chosen T_decided) H → va_D A (sh_X10 Ta Ta_s Ta_past Ta_aside Ta_text Ta_known Ta_then Ta_trip Ta_sent Ta_learned Ta_chosen Ta_decided cI cC cS T_s T_past T_aside T_pasts T_text T_typed T_at T_from T_token T_many T_letters T_number T_known T_then T_trip T_sent T_learned T_chosen T_decided) → va_S A s.heap H locs → lv_has ls 6 [(0, .ref Ta), (1, .int x1), (2, .int x2), (3, .int x3), (4, .int x4)] → W p l e R s m args below meth c H locs 0 0 Q (F0 m 81 ls [.int y0]) := by
    intro x3 x4 y0 T_known T_then H locs ls hf hP hD hS hl
    unfold fX10_against_b81 at hf
    refine lv_istore (lv' := [(5, .int y0), (0, .ref Ta), (1, .int x1), (2, .int x2), (3, .int x3), (4, .int x4)]) hx hb dX10_against_81 hl (by decide) rfl (fun ls hl => ?_)
    refine lv_iload_n hx hb dX10_against_83 rfl (lv_at hl 2 rfl) ?_
    refine lv_if_ne (tgt := 103) hx hb dX10_against_84 (by decide) (fun c2 => ?_) (fun c2 => ?_)
    · have hf := if_f c2 hf
      refine lv_iload_n hx hb dX10_against_103 rfl (lv_at hl 2 rfl) ?_
      refine lv_iconst (v := (1 : Int32)) hx hb dX10_against_104 (by decide) ?_
      refine lv_icmp_ne (tgt := 127) hx hb dX10_against_105 (by decide) (fun c3 => ?_) (fun c3 => ?_)
      · have hf := if_f c3 hf
        refine lv_aload_n hx hb dX10_against_127 rfl (lv_at hl 1 rfl) ?_
        refine lv_iload_n hx hb dX10_against_128 rfl (lv_at hl 4 rfl) ?_
        obtain ⟨o4, ho4, hf⟩ := bd_some hf
        refine cv_i (ci := 7) (q := (RX10, TX10, 19)) (As := [.int x3]) (rest := []) hx hb hml hown hts hK hP hD hA hS (kX10_clique l D cI cC cS Ta Ta_s Ta_past Ta_aside Ta_text Ta_known Ta_then Ta_trip Ta_sent Ta_learned Ta_chosen Ta_decided x3 T_s T_past T_aside T_pasts T_text T_typed T_at T_from T_token T_many T_letters T_number T_known T_then T_trip T_sent T_learned T_chosen T_decided o4 ho4) (cwV 1 hts gX10_against_X10_clique rfl rfl rfl (by decide +kernel) (by subst hR; exact ⟨Nat.le_of_ble_eq_true rfl, Nat.le_of_ble_eq_true rfl⟩)) [0, 1, 2, 3, 4, 5, 6, 7, 8, 9, 10, 11] [] [0, 1, 2, 3, 4, 5, 6, 7, 8, 9, 10, 11] [] (sh_X10 Ta Ta_s Ta_past Ta_aside Ta_text Ta_known Ta_then Ta_trip Ta_sent Ta_learned Ta_chosen Ta_decided cI cC cS T_s T_past T_aside T_pasts T_text T_typed T_at T_from T_token T_many T_letters T_number T_known T_then T_trip T_sent T_learned T_chosen T_decided) rfl rfl rfl rfl (by decide) rfl rfl rfl rfl rfl rfl hl.1 rfl (Nat.le_of_ble_eq_true rfl) ⟨Nat.zero_le _, Nat.zero_le _⟩ dX10_against_129 (fun H locs hP hD hS => ?_)
        refine lv_aload_n hx hb dX10_against_132 rfl (lv_at hl 1 rfl) ?_
        refine lv_iload hx hb dX10_against_133 (lv_at hl 5 rfl) ?_
        obtain ⟨o5, ho5, hf⟩ := bd_some hf
        refine cv_i (ci := 7) (q := (RX10, TX10, 19)) (As := [.int x4]) (rest := [.int o4]) hx hb hml hown hts hK hP hD hA hS (kX10_clique l D cI cC cS Ta Ta_s Ta_past Ta_aside Ta_text Ta_known Ta_then Ta_trip Ta_sent Ta_learned Ta_chosen Ta_decided x4 T_s T_past T_aside T_pasts T_text T_typed T_at T_from T_token T_many T_letters T_number T_known T_then T_trip T_sent T_learned T_chosen T_decided o5 ho5) (cwV 1 hts gX10_against_X10_clique rfl rfl rfl (by decide +kernel) (by subst hR; exact ⟨Nat.le_of_ble_eq_true rfl, Nat.le_of_ble_eq_true rfl⟩)) [0, 1, 2, 3, 4, 5, 6, 7, 8, 9, 10, 11] [] [0, 1, 2, 3, 4, 5, 6, 7, 8, 9, 10, 11] [] (sh_X10 Ta Ta_s Ta_past Ta_aside Ta_text Ta_known Ta_then Ta_trip Ta_sent Ta_learned Ta_chosen Ta_decided cI cC cS T_s T_past T_aside T_pasts T_text T_typed T_at T_from T_token T_many T_letters T_number T_known T_then T_trip T_sent T_learned T_chosen T_decided) rfl rfl rfl rfl (by decide) rfl rfl rfl rfl rfl rfl hl.1 rfl (Nat.le_of_ble_eq_true rfl) ⟨Nat.zero_le _, Nat.zero_le _⟩ dX10_against_135 (fun H locs hP hD hS => ?_)
        refine lv_ior hx hb dX10_against_138 ?_
        refine lv_iload hx hb dX10_against_139 (lv_at hl 0 rfl) ?_
        refine lv_ior hx hb dX10_against_141 ?_
        have hf := Option.some.inj hf
        subst hf
        exact rt_i hx hb hr hlocks hQ hK hP hD hS rfl dX10_against_142
      · have hf := if_t c3 hf
        refine lv_aload_n hx hb dX10_against_108 rfl (lv_at hl 1 rfl) ?_
        refine lv_iload hx hb dX10_against_109 (lv_at hl 5 rfl) ?_
        refine lv_if_ne (tgt := 118) hx hb dX10_against_111 (by decide) (fun c6 => ?_) (fun c6 => ?_)
        · have hf := if_f c6 hf
          refine lv_iload hx hb dX10_against_118 (lv_at hl 5 rfl) ?_
          obtain ⟨o7, ho7, hf⟩ := bd_some hf
          refine cs_i (As := [.int x4]) (rest := [.ref Ta]) hx hb hml hown hts hK hP hD hA hS (kX10_lowest l D cI cC cS  x4  o7 ho7) (va_cwS 1 hts gX10_against_X10_lowest rfl rfl rfl (by decide +kernel) (by subst hR; exact ⟨Nat.le_of_ble_eq_true rfl, Nat.le_of_ble_eq_true rfl⟩)) rfl hl.1 rfl (Nat.le_of_ble_eq_true rfl) ⟨Nat.zero_le _, Nat.zero_le _⟩ dX10_against_120 (fun H locs hP hD hS => ?_)
          exact J123 o7 T_known T_then _ _ _ hf hP hD hS (lv_sub hl [] rfl)
        · have hf := if_t c6 hf
          refine lv_iload_n hx hb dX10_against_114 rfl (lv_at hl 3 rfl) ?_
          refine lv_goto (tgt := 123) hx hb dX10_against_115 (by decide) ?_
          exact J123 x2 T_known T_then _ _ _ hf hP hD hS (lv_sub hl [] rfl)
    · have hf := if_t c2 hf
      refine lv_aload_n hx hb dX10_against_87 rfl (lv_at hl 1 rfl) ?_
      refine lv_iload_n hx hb dX10_against_88 rfl (lv_at hl 4 rfl) ?_
      obtain ⟨o8, ho8, hf⟩ := bd_some hf
      refine cv_i (ci := 7) (q := (RX10, TX10, 19)) (As := [.int x3]) (rest := []) hx hb hml hown hts hK hP hD hA hS (kX10_pathOf l D cI cC cS Ta Ta_s Ta_past Ta_aside Ta_text Ta_known Ta_then Ta_trip Ta_sent Ta_learned Ta_chosen Ta_decided x3 T_s T_past T_aside T_pasts T_text T_typed T_at T_from T_token T_many T_letters T_number T_known T_then T_trip T_sent T_learned T_chosen T_decided o8 ho8) (cwV 1 hts gX10_against_X10_pathOf rfl rfl rfl (by decide +kernel) (by subst hR; exact ⟨Nat.le_of_ble_eq_true rfl, Nat.le_of_ble_eq_true rfl⟩)) [0, 1, 2, 3, 4, 5, 6, 7, 8, 9, 10, 11] [] [0, 1, 2, 3, 4, 5, 6, 7, 8, 9, 10, 11] [] (sh_X10 Ta Ta_s Ta_past Ta_aside Ta_text Ta_known Ta_then Ta_trip Ta_sent Ta_learned Ta_chosen Ta_decided cI cC cS T_s T_past T_aside T_pasts T_text T_typed T_at T_from T_token T_many T_letters T_number T_known T_then T_trip T_sent T_learned T_chosen T_decided) rfl rfl rfl rfl (by decide) rfl rfl rfl rfl rfl rfl hl.1 rfl (Nat.le_of_ble_eq_true rfl) ⟨Nat.zero_le _, Nat.zero_le _⟩ dX10_against_89 (fun H locs hP hD hS => ?_)
      refine lv_iload hx hb dX10_against_92 (lv_at hl 0 rfl) ?_
      refine lv_ior hx hb dX10_against_94 ?_
      refine lv_aload_n hx hb dX10_against_95 rfl (lv_at hl 1 rfl) ?_
      refine lv_iload hx hb dX10_against_96 (lv_at hl 5 rfl) ?_
      obtain ⟨o9, ho9, hf⟩ := bd_some hf
      refine cv_i (ci := 7) (q := (RX10, TX10, 19)) (As := [.int x4]) (rest := [.int (o8 ||| y0)]) hx hb hml hown hts hK hP hD hA hS (kX10_pathOf l D cI cC cS Ta Ta_s Ta_past Ta_aside Ta_text Ta_known Ta_then Ta_trip Ta_sent Ta_learned Ta_chosen Ta_decided x4 T_s T_past T_aside T_pasts T_text T_typed T_at T_from T_token T_many T_letters T_number T_known T_then T_trip T_sent T_learned T_chosen T_decided o9 ho9) (cwV 1 hts gX10_against_X10_pathOf rfl rfl rfl (by decide +kernel) (by subst hR; exact ⟨Nat.le_of_ble_eq_true rfl, Nat.le_of_ble_eq_true rfl⟩)) [0, 1, 2, 3, 4, 5, 6, 7, 8, 9, 10, 11] [] [0, 1, 2, 3, 4, 5, 6, 7, 8, 9, 10, 11] [] (sh_X10 Ta Ta_s Ta_past Ta_aside Ta_text Ta_known Ta_then Ta_trip Ta_sent Ta_learned Ta_chosen Ta_decided cI cC cS T_s T_past T_aside T_pasts T_text T_typed T_at T_from T_token T_many T_letters T_number T_known T_then T_trip T_sent T_learned T_chosen T_decided) rfl rfl rfl rfl (by decide) rfl rfl rfl rfl rfl rfl hl.1 rfl (Nat.le_of_ble_eq_true rfl) ⟨Nat.zero_le _, Nat.zero_le _⟩ dX10_against_98 (fun H locs hP hD hS => ?_)
      refine lv_ior hx hb dX10_against_101 ?_
      have hf := Option.some.inj hf
      subst hf
      exact rt_i hx hb hr hlocks hQ hK hP hD hS rfl dX10_against_102
  have L16 : ∀ (T_known : Nat → Int32) (T_then : Nat → Int32) (n16 : Nat) (x3 : Int32) (x4 : Int32) (H : Heap) (locs : List Loc) (ls : Array Slot), fX10_against_l16 x1 x2 T_s T_known T_then n16 x3 x4 = some o → va_P D vwCl (sh_X10 Ta Ta_s Ta_past Ta_aside Ta_text Ta_known Ta_then Ta_trip Ta_sent Ta_learned Ta_chosen Ta_decided cI cC cS T_s T_past T_aside T_pasts T_text T_typed T_at T_from T_token T_many T_letters T_number T_known T_then T_trip T_sent T_learned T_chosen T_decided) H → va_D A (sh_X10 Ta Ta_s Ta_past Ta_aside Ta_text Ta_known Ta_then Ta_trip Ta_sent Ta_learned Ta_chosen Ta_decided cI cC cS T_s T_past T_aside T_pasts T_text T_typed T_at T_from T_token T_many T_letters T_number T_known T_then T_trip T_sent T_learned T_chosen T_decided) → va_S A s.heap H locs → lv_has ls 6 [(0, .ref Ta), (1, .int x1), (2, .int x2), (3, .int x3), (4, .int x4)] → W p l e R s m args below meth c H locs 0 0 Q (F0 m 16 ls []) := by
    intro T_known T_then n16
    induction n16 with
    | zero => intro x3 x4 H locs ls hf; cases (show (none : Option _) = some _ from hf)
    | succ n16 ih16 =>
      intro x3 x4 H locs ls hf hP hD hS hl
      rw [fX10_against_l16] at hf
      refine lv_iload hx hb dX10_against_16 (lv_at hl 4 rfl) ?_
      refine lv_aload_n hx hb dX10_against_18 rfl (lv_at hl 0 rfl) ?_
      refine va_get (D := D) (ci := 7) (v := .ref Ta_s) (C := RX10) (T := TX10) (N := 19) hx hb hts hi_X10 hown hK hP 0 rfl rfl 0 (by decide) q7 (fun _ h9 => h9) rfl dX10_against_19 ?_
      refine lv_iconst (v := (0 : Int32)) hx hb dX10_against_22 (by decide) ?_
      refine sx_iald (j := 0) hx hb hK hP 1 0 rfl rfl (inb_vp (by decide)) (by decide) dX10_against_23 ?_
      refine lv_icmp_ge (tgt := 50) hx hb dX10_against_24 (by decide) (fun c10 => ?_) (fun c10 => ?_)
      · have hf := if_t c10 hf
        refine lv_aload_n hx hb dX10_against_50 rfl (lv_at hl 0 rfl) ?_
        refine cv_i (ci := 7) (q := (RX10, TX10, 19)) (As := []) (rest := []) hx hb hml hown hts hK hP hD hA hS (kX10_all l D cI cC cS Ta Ta_s Ta_past Ta_aside Ta_text Ta_known Ta_then Ta_trip Ta_sent Ta_learned Ta_chosen Ta_decided  T_s T_past T_aside T_pasts T_text T_typed T_at T_from T_token T_many T_letters T_number T_known T_then T_trip T_sent T_learned T_chosen T_decided (fX10_all T_s) rfl) (cwV 0 hts gX10_against_X10_all rfl rfl rfl (by decide +kernel) (by subst hR; exact ⟨Nat.le_of_ble_eq_true rfl, Nat.le_of_ble_eq_true rfl⟩)) [0, 1, 2, 3, 4, 5, 6, 7, 8, 9, 10, 11] [] [0, 1, 2, 3, 4, 5, 6, 7, 8, 9, 10, 11] [] (sh_X10 Ta Ta_s Ta_past Ta_aside Ta_text Ta_known Ta_then Ta_trip Ta_sent Ta_learned Ta_chosen Ta_decided cI cC cS T_s T_past T_aside T_pasts T_text T_typed T_at T_from T_token T_many T_letters T_number T_known T_then T_trip T_sent T_learned T_chosen T_decided) rfl rfl rfl rfl (by decide) rfl rfl rfl rfl rfl rfl hl.1 rfl (Nat.le_of_ble_eq_true rfl) ⟨Nat.zero_le _, Nat.zero_le _⟩ dX10_against_51 (fun H locs hP hD hS => ?_)
        refine lv_iload_n hx hb dX10_against_54 rfl (lv_at hl 3 rfl) ?_
        refine lv_iconst (v := (-1 : Int32)) hx hb dX10_against_55 (by decide) ?_
        refine lv_ixor hx hb dX10_against_56 ?_
        refine lv_iand hx hb dX10_against_57 ?_
        refine lv_istore (lv' := [(4, .int ((fX10_all T_s) &&& (x3 ^^^ (-1 : Int32)))), (0, .ref Ta), (1, .int x1), (2, .int x2), (3, .int x3)]) hx hb dX10_against_58 hl (by decide) rfl (fun ls hl => ?_)
        refine lv_iload hx hb dX10_against_60 (lv_at hl 0 rfl) ?_
        refine lv_if_ne (tgt := 69) hx hb dX10_against_62 (by decide) (fun c11 => ?_) (fun c11 => ?_)
        · have hf := if_f c11 hf
          refine lv_iload_n hx hb dX10_against_69 rfl (lv_at hl 4 rfl) ?_
          obtain ⟨o12, ho12, hf⟩ := bd_some hf
          refine cs_i (As := [.int x3]) (rest := []) hx hb hml hown hts hK hP hD hA hS (kX10_highest l D cI cC cS  x3  o12 ho12) (va_cwS 1 hts gX10_against_X10_highest rfl rfl rfl (by decide +kernel) (by subst hR; exact ⟨Nat.le_of_ble_eq_true rfl, Nat.le_of_ble_eq_true rfl⟩)) rfl hl.1 rfl (Nat.le_of_ble_eq_true rfl) ⟨Nat.zero_le _, Nat.zero_le _⟩ dX10_against_70 (fun H locs hP hD hS => ?_)
          refine lv_iload hx hb dX10_against_73 (lv_at hl 0 rfl) ?_
          obtain ⟨o13, ho13, hf⟩ := bd_some hf
          refine cs_i (As := [.int ((fX10_all T_s) &&& (x3 ^^^ (-1 : Int32)))]) (rest := [.int o12]) hx hb hml hown hts hK hP hD hA hS (kX10_lowest l D cI cC cS  ((fX10_all T_s) &&& (x3 ^^^ (-1 : Int32)))  o13 ho13) (va_cwS 1 hts gX10_against_X10_lowest rfl rfl rfl (by decide +kernel) (by subst hR; exact ⟨Nat.le_of_ble_eq_true rfl, Nat.le_of_ble_eq_true rfl⟩)) rfl hl.1 rfl (Nat.le_of_ble_eq_true rfl) ⟨Nat.zero_le _, Nat.zero_le _⟩ dX10_against_75 (fun H locs hP hD hS => ?_)
          refine cs_i (As := [.int o12, .int o13]) (rest := []) hx hb hml hown hts hK hP hD hA hS (kX10_pair l D cI cC cS  o12 o13  (fX10_pair o12 o13) rfl) (va_cwS 2 hts gX10_against_X10_pair rfl rfl rfl (by decide +kernel) (by subst hR; exact ⟨Nat.le_of_ble_eq_true rfl, Nat.le_of_ble_eq_true rfl⟩)) rfl hl.1 rfl (Nat.le_of_ble_eq_true rfl) ⟨Nat.zero_le _, Nat.zero_le _⟩ dX10_against_78 (fun H locs hP hD hS => ?_)
          exact J81 x3 ((fX10_all T_s) &&& (x3 ^^^ (-1 : Int32))) (fX10_pair o12 o13) T_known T_then _ _ _ hf hP hD hS (lv_sub hl [1, 2, 3, 4, 0] rfl)
        · have hf := if_t c11 hf
          refine lv_iconst (v := (0 : Int32)) hx hb dX10_against_65 (by decide) ?_
          refine lv_goto (tgt := 81) hx hb dX10_against_66 (by decide) ?_
          exact J81 x3 ((fX10_all T_s) &&& (x3 ^^^ (-1 : Int32))) (0 : Int32) T_known T_then _ _ _ hf hP hD hS (lv_sub hl [1, 2, 3, 4, 0] rfl)
      · have hf := if_f c10 hf
        refine lv_iload_n hx hb dX10_against_27 rfl (lv_at hl 3 rfl) ?_
        refine lv_aload_n hx hb dX10_against_28 rfl (lv_at hl 0 rfl) ?_
        refine va_get (D := D) (ci := 7) (v := .ref Ta_known) (C := RX10) (T := TX10) (N := 19) hx hb hts hi_X10 hown hK hP 0 rfl rfl 12 (by decide) q22 (fun _ h9 => h9) rfl dX10_against_29 ?_
        refine lv_iload hx hb dX10_against_32 (lv_at hl 4 rfl) ?_
        obtain ⟨hz, hf⟩ := ck_some hf
        refine sx_iald (j := x4.toNatClampNeg) hx hb hK hP 5 0 rfl rfl (inb_vp hz) rfl dX10_against_34 ?_
        refine lv_iload_n hx hb dX10_against_35 rfl (lv_at hl 2 rfl) ?_
        refine lv_ishr hx hb dX10_against_36 ?_
        refine lv_iconst (v := (1 : Int32)) hx hb dX10_against_37 (by decide) ?_
        refine lv_iand hx hb dX10_against_38 ?_
        refine lv_iload hx hb dX10_against_39 (lv_at hl 4 rfl) ?_
        refine lv_ishl hx hb dX10_against_41 ?_
        refine lv_ior hx hb dX10_against_42 ?_
        refine lv_istore_n (lv' := [(3, .int (x3 ||| ((((T_known x4.toNatClampNeg) >>> (x2 &&& 31)) &&& (1 : Int32)) <<< (x4 &&& 31)))), (0, .ref Ta), (1, .int x1), (2, .int x2), (4, .int x4)]) hx hb dX10_against_43 rfl hl (by decide) rfl (fun ls hl => ?_)
        refine lv_iinc (v := (x4 + 1)) (lv' := [(4, .int (x4 + 1)), (3, .int (x3 ||| ((((T_known x4.toNatClampNeg) >>> (x2 &&& 31)) &&& (1 : Int32)) <<< (x4 &&& 31)))), (0, .ref Ta), (1, .int x1), (2, .int x2)]) hx hb dX10_against_44 hl (k := 4) rfl rfl (by decide) rfl (fun ls hl => ?_)
        refine lv_goto (tgt := 16) hx hb dX10_against_47 (by decide) ?_
        exact ih16 (x3 ||| ((((T_known x4.toNatClampNeg) >>> (x2 &&& 31)) &&& (1 : Int32)) <<< (x4 &&& 31))) (x4 + 1) _ _ _ hf hP hD hS (lv_sub hl [2, 3, 4, 1, 0] rfl)
  refine lv_aload_n hx hb dX10_against_0 rfl (lv_at hl 0 rfl) ?_
  refine lv_iconst (v := (0 : Int32)) hx hb dX10_against_1 (by decide) ?_
  refine lv_aload_n hx hb dX10_against_2 rfl (lv_at hl 0 rfl) ?_
  refine va_get (D := D) (ci := 7) (v := .ref Ta_s) (C := RX10) (T := TX10) (N := 19) hx hb hts hi_X10 hown hK hP 0 rfl rfl 0 (by decide) q7 (fun _ h9 => h9) rfl dX10_against_3 ?_
  refine lv_iconst (v := (1 : Int32)) hx hb dX10_against_6 (by decide) ?_
  refine sx_iald (j := 1) hx hb hK hP 1 0 rfl rfl (inb_vp (by decide)) (by decide) dX10_against_7 ?_
  obtain ⟨o14, ho14, hf⟩ := bd_some hf
  refine cv_v (ci := 7) (q := (RX10, TX10, 19)) (As := [.int (0 : Int32), .int (T_s 1)]) (rest := []) hx hb hml hown hts hK hP hD hA hS (kX10_floods l D cI cC cS Ta Ta_s Ta_past Ta_aside Ta_text Ta_known Ta_then Ta_trip Ta_sent Ta_learned Ta_chosen Ta_decided (0 : Int32) (T_s 1) T_s T_past T_aside T_pasts T_text T_typed T_at T_from T_token T_many T_letters T_number T_known T_then T_trip T_sent T_learned T_chosen T_decided o14 ho14) (cwV 2 hts gX10_against_X10_floods rfl rfl rfl (by decide +kernel) (by subst hR; exact ⟨Nat.le_of_ble_eq_true rfl, Nat.le_of_ble_eq_true rfl⟩)) [0, 1, 2, 3, 4, 5, 6, 7, 8, 9, 10, 11] [] [0, 1, 2, 3, 4, 5, 6, 7, 8, 9, 10, 11] [] (sh_X10 Ta Ta_s Ta_past Ta_aside Ta_text Ta_known Ta_then Ta_trip Ta_sent Ta_learned Ta_chosen Ta_decided cI cC cS T_s T_past T_aside T_pasts T_text T_typed T_at T_from T_token T_many T_letters T_number o14.1 o14.2 T_trip T_sent T_learned T_chosen T_decided) rfl rfl rfl rfl (by decide) rfl rfl rfl rfl rfl rfl hl.1 rfl (Nat.le_of_ble_eq_true rfl) ⟨Nat.zero_le _, Nat.zero_le _⟩ dX10_against_8 (fun H locs hP hD hS => ?_)
  refine lv_iconst (v := (0 : Int32)) hx hb dX10_against_11 (by decide) ?_
  refine lv_istore_n (lv' := [(3, .int (0 : Int32)), (0, .ref Ta), (1, .int x1), (2, .int x2)]) hx hb dX10_against_12 rfl hl (by decide) rfl (fun ls hl => ?_)
  refine lv_iconst (v := (0 : Int32)) hx hb dX10_against_13 (by decide) ?_
  refine lv_istore (lv' := [(4, .int (0 : Int32)), (3, .int (0 : Int32)), (0, .ref Ta), (1, .int x1), (2, .int x2)]) hx hb dX10_against_14 hl (by decide) rfl (fun ls hl => ?_)
  exact L16 o14.1 o14.2 fuel (0 : Int32) (0 : Int32) _ _ _ hf hP hD hS (lv_sub hl [2, 3, 4, 1, 0] rfl)
set_option maxRecDepth 100000 in
set_option maxHeartbeats 4000000 in
theorem kX10_addAdversary (l : Launch) (D : va_G) (cI cC cS : ClassId) (Ta Ta_s Ta_past Ta_aside Ta_text Ta_known Ta_then Ta_trip Ta_sent Ta_learned Ta_chosen Ta_decided : Nat) (x1 : Int32) (x2 : Int32) (T_s : Nat → Int32) (T_past : Nat → Int32) (T_aside : Nat → Int32) (T_pasts : Int32) (T_text : Nat → Int32) (T_typed : Int32) (T_at : Int32) (T_from : Int32) (T_token : Int32) (T_many : Int32) (T_letters : Int64) (T_number : Int32) (T_known : Nat → Int32) (T_then : Nat → Int32) (T_trip : Nat → Int32) (T_sent : Nat → Int32) (T_learned : Nat → Int32) (T_chosen : Nat → Int32) (T_decided : Nat → Int32) (o : Int32 × (Nat → Int32) × (Nat → Int32) × (Nat → Int32) × Int32 × (Nat → Int32) × (Nat → Int32)) (hf : fX10_addAdversary x1 x2 T_s T_past T_aside T_pasts T_known T_then = some o) : CI l D yX10_addAdversary wsX10_addAdversary ({ frames := 4, cells := 0, slots := 0, locals := 93 } : Room) (tysK cI cC cS) [.ref Ta, .int x1, .int x2] (sh_X10 Ta Ta_s Ta_past Ta_aside Ta_text Ta_known Ta_then Ta_trip Ta_sent Ta_learned Ta_chosen Ta_decided cI cC cS T_s T_past T_aside T_pasts T_text T_typed T_at T_from T_token T_many T_letters T_number T_known T_then T_trip T_sent T_learned T_chosen T_decided) o.1 (sh_X10 Ta Ta_s Ta_past Ta_aside Ta_text Ta_known Ta_then Ta_trip Ta_sent Ta_learned Ta_chosen Ta_decided cI cC cS o.2.1 o.2.2.1 o.2.2.2.1 o.2.2.2.2.1 T_text T_typed T_at T_from T_token T_many T_letters T_number o.2.2.2.2.2.1 o.2.2.2.2.2.2 T_trip T_sent T_learned T_chosen T_decided) := by
  refine met_i (cc := cX10_addAdversary) (maxL := 4) (ret := (some .int)) (by decide) rfl (Nat.le_of_ble_eq_true rfl) ?_
  intro p e s m args below meth c R Q A F hR hQ hP hK hD hA hS ls hl
  obtain ⟨hx, hb, hr, hts, hml, hlocks, hown⟩ := F
  have hown : s.vm.findClass RX10 = some m.cls := hown
  have hi_X10 : ∀ w ∈ u_ws RX10 TX10 19, w ∈ wsX10_addAdversary := fun w h => List.mem_cons_of_mem _ (List.mem_append_right _ h)
  have q7 := hts (.fieldLink RX10 7 "ChangingRoundsModel" "s" "[I") (by decide +kernel)
  have hl : lv_has ls 4 [(0, .ref Ta), (1, .int x1), (2, .int x2)] := hl
  unfold fX10_addAdversary at hf
  refine lv_iload_n hx hb dX10_addAdversary_0 rfl (lv_at hl 1 rfl) ?_
  refine lv_iconst (v := (0 : Int32)) hx hb dX10_addAdversary_1 (by decide) ?_
  refine lv_iconst (v := (2 : Int32)) hx hb dX10_addAdversary_2 (by decide) ?_
  refine cs_i (As := [.int x1, .int (0 : Int32), .int (2 : Int32)]) (rest := []) hx hb hml hown hts hK hP hD hA hS (kX10_in l D cI cC cS  x1 (0 : Int32) (2 : Int32)  (fX10_in x1 (0 : Int32) (2 : Int32)) rfl) (va_cwS 3 hts gX10_addAdversary_X10_in rfl rfl rfl (by decide +kernel) (by subst hR; exact ⟨Nat.le_of_ble_eq_true rfl, Nat.le_of_ble_eq_true rfl⟩)) rfl hl.1 rfl (Nat.le_of_ble_eq_true rfl) ⟨Nat.zero_le _, Nat.zero_le _⟩ dX10_addAdversary_3 (fun H locs hP hD hS => ?_)
  refine lv_if_eq (tgt := 17) hx hb dX10_addAdversary_6 (by decide) (fun c1 => ?_) (fun c1 => ?_)
  · have hf := if_t c1 hf
    refine lv_iconst (v := (-1 : Int32)) hx hb dX10_addAdversary_17 (by decide) ?_
    have hf := Option.some.inj hf
    subst hf
    exact rt_i hx hb hr hlocks hQ hK hP hD hS rfl dX10_addAdversary_18
  · have hf := if_f c1 hf
    refine lv_aload_n hx hb dX10_addAdversary_9 rfl (lv_at hl 0 rfl) ?_
    refine lv_iload_n hx hb dX10_addAdversary_10 rfl (lv_at hl 2 rfl) ?_
    refine cv_i (ci := 7) (q := (RX10, TX10, 19)) (As := [.int x2]) (rest := []) hx hb hml hown hts hK hP hD hA hS (kX10_isNode l D cI cC cS Ta Ta_s Ta_past Ta_aside Ta_text Ta_known Ta_then Ta_trip Ta_sent Ta_learned Ta_chosen Ta_decided x2 T_s T_past T_aside T_pasts T_text T_typed T_at T_from T_token T_many T_letters T_number T_known T_then T_trip T_sent T_learned T_chosen T_decided (fX10_isNode x2 T_s) rfl) (cwV 1 hts gX10_addAdversary_X10_isNode rfl rfl rfl (by decide +kernel) (by subst hR; exact ⟨Nat.le_of_ble_eq_true rfl, Nat.le_of_ble_eq_true rfl⟩)) [0, 1, 2, 3, 4, 5, 6, 7, 8, 9, 10, 11] [] [0, 1, 2, 3, 4, 5, 6, 7, 8, 9, 10, 11] [] (sh_X10 Ta Ta_s Ta_past Ta_aside Ta_text Ta_known Ta_then Ta_trip Ta_sent Ta_learned Ta_chosen Ta_decided cI cC cS T_s T_past T_aside T_pasts T_text T_typed T_at T_from T_token T_many T_letters T_number T_known T_then T_trip T_sent T_learned T_chosen T_decided) rfl rfl rfl rfl (by decide) rfl rfl rfl rfl rfl rfl hl.1 rfl (Nat.le_of_ble_eq_true rfl) ⟨Nat.zero_le _, Nat.zero_le _⟩ dX10_addAdversary_11 (fun H locs hP hD hS => ?_)
    refine lv_if_ne (tgt := 19) hx hb dX10_addAdversary_14 (by decide) (fun c2 => ?_) (fun c2 => ?_)
    · have hf := if_f c2 hf
      refine lv_aload_n hx hb dX10_addAdversary_19 rfl (lv_at hl 0 rfl) ?_
      refine va_get (D := D) (ci := 7) (v := .ref Ta_s) (C := RX10) (T := TX10) (N := 19) hx hb hts hi_X10 hown hK hP 0 rfl rfl 0 (by decide) q7 (fun _ h9 => h9) rfl dX10_addAdversary_20 ?_
      refine lv_iconst (v := (1 : Int32)) hx hb dX10_addAdversary_23 (by decide) ?_
      refine sx_iald (j := 1) hx hb hK hP 1 0 rfl rfl (inb_vp (by decide)) (by decide) dX10_addAdversary_24 ?_
      refine lv_bipush (v := (16 : Int32)) hx hb dX10_addAdversary_25 (by decide) ?_
      refine lv_icmp_ne (tgt := 33) hx hb dX10_addAdversary_27 (by decide) (fun c3 => ?_) (fun c3 => ?_)
      · have hf := if_f c3 hf
        refine lv_aload_n hx hb dX10_addAdversary_33 rfl (lv_at hl 0 rfl) ?_
        obtain ⟨o4, ho4, hf⟩ := bd_some hf
        refine cv_v (ci := 7) (q := (RX10, TX10, 19)) (As := []) (rest := []) hx hb hml hown hts hK hP hD hA hS (kX10_hold l D cI cC cS Ta Ta_s Ta_past Ta_aside Ta_text Ta_known Ta_then Ta_trip Ta_sent Ta_learned Ta_chosen Ta_decided  T_s T_past T_aside T_pasts T_text T_typed T_at T_from T_token T_many T_letters T_number T_known T_then T_trip T_sent T_learned T_chosen T_decided o4 ho4) (cwV 0 hts gX10_addAdversary_X10_hold rfl rfl rfl (by decide +kernel) (by subst hR; exact ⟨Nat.le_of_ble_eq_true rfl, Nat.le_of_ble_eq_true rfl⟩)) [0, 1, 2, 3, 4, 5, 6, 7, 8, 9, 10, 11] [] [0, 1, 2, 3, 4, 5, 6, 7, 8, 9, 10, 11] [] (sh_X10 Ta Ta_s Ta_past Ta_aside Ta_text Ta_known Ta_then Ta_trip Ta_sent Ta_learned Ta_chosen Ta_decided cI cC cS T_s T_past o4 T_pasts T_text T_typed T_at T_from T_token T_many T_letters T_number T_known T_then T_trip T_sent T_learned T_chosen T_decided) rfl rfl rfl rfl (by decide) rfl rfl rfl rfl rfl rfl hl.1 rfl (Nat.le_of_ble_eq_true rfl) ⟨Nat.zero_le _, Nat.zero_le _⟩ dX10_addAdversary_34 (fun H locs hP hD hS => ?_)
        refine lv_aload_n hx hb dX10_addAdversary_37 rfl (lv_at hl 0 rfl) ?_
        refine lv_iload_n hx hb dX10_addAdversary_38 rfl (lv_at hl 1 rfl) ?_
        refine lv_iload_n hx hb dX10_addAdversary_39 rfl (lv_at hl 2 rfl) ?_
        obtain ⟨o5, ho5, hf⟩ := bd_some hf
        refine cv_i (ci := 7) (q := (RX10, TX10, 19)) (As := [.int x1, .int x2]) (rest := []) hx hb hml hown hts hK hP hD hA hS (kX10_against l D cI cC cS Ta Ta_s Ta_past Ta_aside Ta_text Ta_known Ta_then Ta_trip Ta_sent Ta_learned Ta_chosen Ta_decided x1 x2 T_s T_past o4 T_pasts T_text T_typed T_at T_from T_token T_many T_letters T_number T_known T_then T_trip T_sent T_learned T_chosen T_decided o5 ho5) (cwV 2 hts gX10_addAdversary_X10_against rfl rfl rfl (by decide +kernel) (by subst hR; exact ⟨Nat.le_of_ble_eq_true rfl, Nat.le_of_ble_eq_true rfl⟩)) [0, 1, 2, 3, 4, 5, 6, 7, 8, 9, 10, 11] [] [0, 1, 2, 3, 4, 5, 6, 7, 8, 9, 10, 11] [] (sh_X10 Ta Ta_s Ta_past Ta_aside Ta_text Ta_known Ta_then Ta_trip Ta_sent Ta_learned Ta_chosen Ta_decided cI cC cS T_s T_past o4 T_pasts T_text T_typed T_at T_from T_token T_many T_letters T_number o5.2.1 o5.2.2 T_trip T_sent T_learned T_chosen T_decided) rfl rfl rfl rfl (by decide) rfl rfl rfl rfl rfl rfl hl.1 rfl (Nat.le_of_ble_eq_true rfl) ⟨Nat.zero_le _, Nat.zero_le _⟩ dX10_addAdversary_40 (fun H locs hP hD hS => ?_)
        refine lv_istore_n (lv' := [(3, .int o5.1), (0, .ref Ta), (1, .int x1), (2, .int x2)]) hx hb dX10_addAdversary_43 rfl hl (by decide) rfl (fun ls hl => ?_)
        refine lv_aload_n hx hb dX10_addAdversary_44 rfl (lv_at hl 1 rfl) ?_
        refine lv_iload_n hx hb dX10_addAdversary_45 rfl (lv_at hl 0 rfl) ?_
        obtain ⟨o6, ho6, hf⟩ := bd_some hf
        refine cv_v (ci := 7) (q := (RX10, TX10, 19)) (As := [.int o5.1]) (rest := []) hx hb hml hown hts hK hP hD hA hS (kX10_adds l D cI cC cS Ta Ta_s Ta_past Ta_aside Ta_text Ta_known Ta_then Ta_trip Ta_sent Ta_learned Ta_chosen Ta_decided o5.1 T_s T_past o4 T_pasts T_text T_typed T_at T_from T_token T_many T_letters T_number o5.2.1 o5.2.2 T_trip T_sent T_learned T_chosen T_decided o6 ho6) (cwV 1 hts gX10_addAdversary_X10_adds rfl rfl rfl (by decide +kernel) (by subst hR; exact ⟨Nat.le_of_ble_eq_true rfl, Nat.le_of_ble_eq_true rfl⟩)) [0, 1, 2, 3, 4, 5, 6, 7, 8, 9, 10, 11] [] [0, 1, 2, 3, 4, 5, 6, 7, 8, 9, 10, 11] [] (sh_X10 Ta Ta_s Ta_past Ta_aside Ta_text Ta_known Ta_then Ta_trip Ta_sent Ta_learned Ta_chosen Ta_decided cI cC cS o6 T_past o4 T_pasts T_text T_typed T_at T_from T_token T_many T_letters T_number o5.2.1 o5.2.2 T_trip T_sent T_learned T_chosen T_decided) rfl rfl rfl rfl (by decide) rfl rfl rfl rfl rfl rfl hl.1 rfl (Nat.le_of_ble_eq_true rfl) ⟨Nat.zero_le _, Nat.zero_le _⟩ dX10_addAdversary_46 (fun H locs hP hD hS => ?_)
        refine lv_aload_n hx hb dX10_addAdversary_49 rfl (lv_at hl 1 rfl) ?_
        refine lv_iload_n hx hb dX10_addAdversary_50 rfl (lv_at hl 0 rfl) ?_
        obtain ⟨o7, ho7, hf⟩ := bd_some hf
        refine cs_i (As := [.int o5.1]) (rest := [.ref Ta]) hx hb hml hown hts hK hP hD hA hS (kX10_size l D cI cC cS  o5.1  o7 ho7) (va_cwS 1 hts gX10_addAdversary_X10_size rfl rfl rfl (by decide +kernel) (by subst hR; exact ⟨Nat.le_of_ble_eq_true rfl, Nat.le_of_ble_eq_true rfl⟩)) rfl hl.1 rfl (Nat.le_of_ble_eq_true rfl) ⟨Nat.zero_le _, Nat.zero_le _⟩ dX10_addAdversary_51 (fun H locs hP hD hS => ?_)
        obtain ⟨o8, ho8, hf⟩ := bd_some hf
        refine cv_i (ci := 7) (q := (RX10, TX10, 19)) (As := [.int o7]) (rest := []) hx hb hml hown hts hK hP hD hA hS (kX10_ends l D cI cC cS Ta Ta_s Ta_past Ta_aside Ta_text Ta_known Ta_then Ta_trip Ta_sent Ta_learned Ta_chosen Ta_decided o7 o6 T_past o4 T_pasts T_text T_typed T_at T_from T_token T_many T_letters T_number o5.2.1 o5.2.2 T_trip T_sent T_learned T_chosen T_decided o8 ho8) (cwV 1 hts gX10_addAdversary_X10_ends rfl rfl rfl (by decide +kernel) (by subst hR; exact ⟨Nat.le_of_ble_eq_true rfl, Nat.le_of_ble_eq_true rfl⟩)) [0, 1, 2, 3, 4, 5, 6, 7, 8, 9, 10, 11] [] [0, 1, 2, 3, 4, 5, 6, 7, 8, 9, 10, 11] [] (sh_X10 Ta Ta_s Ta_past Ta_aside Ta_text Ta_known Ta_then Ta_trip Ta_sent Ta_learned Ta_chosen Ta_decided cI cC cS o6 o8.2.1 o4 o8.2.2 T_text T_typed T_at T_from T_token T_many T_letters T_number o5.2.1 o5.2.2 T_trip T_sent T_learned T_chosen T_decided) rfl rfl rfl rfl (by decide) rfl rfl rfl rfl rfl rfl hl.1 rfl (Nat.le_of_ble_eq_true rfl) ⟨Nat.zero_le _, Nat.zero_le _⟩ dX10_addAdversary_54 (fun H locs hP hD hS => ?_)
        have hf := Option.some.inj hf
        subst hf
        exact rt_i hx hb hr hlocks hQ hK hP hD hS rfl dX10_addAdversary_57
      · have hf := if_t c3 hf
        refine lv_bipush (v := (-3 : Int32)) hx hb dX10_addAdversary_30 (by decide) ?_
        have hf := Option.some.inj hf
        subst hf
        exact rt_i hx hb hr hlocks hQ hK hP hD hS rfl dX10_addAdversary_32
    · have hf := if_t c2 hf
      refine lv_iconst (v := (-1 : Int32)) hx hb dX10_addAdversary_17 (by decide) ?_
      have hf := Option.some.inj hf
      subst hf
      exact rt_i hx hb hr hlocks hQ hK hP hD hS rfl dX10_addAdversary_18
set_option maxRecDepth 100000 in
set_option maxHeartbeats 4000000 in
theorem kX10_setValue (l : Launch) (D : va_G) (cI cC cS : ClassId) (Ta Ta_s Ta_past Ta_aside Ta_text Ta_known Ta_then Ta_trip Ta_sent Ta_learned Ta_chosen Ta_decided : Nat) (x1 : Int32) (x2 : Int32) (T_s : Nat → Int32) (T_past : Nat → Int32) (T_aside : Nat → Int32) (T_pasts : Int32) (T_text : Nat → Int32) (T_typed : Int32) (T_at : Int32) (T_from : Int32) (T_token : Int32) (T_many : Int32) (T_letters : Int64) (T_number : Int32) (T_known : Nat → Int32) (T_then : Nat → Int32) (T_trip : Nat → Int32) (T_sent : Nat → Int32) (T_learned : Nat → Int32) (T_chosen : Nat → Int32) (T_decided : Nat → Int32) (o : Int32 × (Nat → Int32) × (Nat → Int32) × (Nat → Int32) × Int32) (hf : fX10_setValue x1 x2 T_s T_past T_aside T_pasts = some o) : CI l D yX10_setValue wsX10_setValue ({ frames := 2, cells := 0, slots := 0, locals := 43 } : Room) (tysK cI cC cS) [.ref Ta, .int x1, .int x2] (sh_X10 Ta Ta_s Ta_past Ta_aside Ta_text Ta_known Ta_then Ta_trip Ta_sent Ta_learned Ta_chosen Ta_decided cI cC cS T_s T_past T_aside T_pasts T_text T_typed T_at T_from T_token T_many T_letters T_number T_known T_then T_trip T_sent T_learned T_chosen T_decided) o.1 (sh_X10 Ta Ta_s Ta_past Ta_aside Ta_text Ta_known Ta_then Ta_trip Ta_sent Ta_learned Ta_chosen Ta_decided cI cC cS o.2.1 o.2.2.1 o.2.2.2.1 o.2.2.2.2 T_text T_typed T_at T_from T_token T_many T_letters T_number T_known T_then T_trip T_sent T_learned T_chosen T_decided) := by
  refine met_i (cc := cX10_setValue) (maxL := 4) (ret := (some .int)) (by decide) rfl (Nat.le_of_ble_eq_true rfl) ?_
  intro p e s m args below meth c R Q A F hR hQ hP hK hD hA hS ls hl
  obtain ⟨hx, hb, hr, hts, hml, hlocks, hown⟩ := F
  have hown : s.vm.findClass RX10 = some m.cls := hown
  have hi_X10 : ∀ w ∈ u_ws RX10 TX10 19, w ∈ wsX10_setValue := fun w h => List.mem_cons_of_mem _ (List.mem_append_right _ h)
  have q7 := hts (.fieldLink RX10 7 "ChangingRoundsModel" "s" "[I") (by decide +kernel)
  have hl : lv_has ls 4 [(0, .ref Ta), (1, .int x1), (2, .int x2)] := hl
  unfold fX10_setValue at hf
  refine lv_aload_n hx hb dX10_setValue_0 rfl (lv_at hl 0 rfl) ?_
  refine lv_iload_n hx hb dX10_setValue_1 rfl (lv_at hl 1 rfl) ?_
  refine cv_i (ci := 7) (q := (RX10, TX10, 19)) (As := [.int x1]) (rest := []) hx hb hml hown hts hK hP hD hA hS (kX10_isNode l D cI cC cS Ta Ta_s Ta_past Ta_aside Ta_text Ta_known Ta_then Ta_trip Ta_sent Ta_learned Ta_chosen Ta_decided x1 T_s T_past T_aside T_pasts T_text T_typed T_at T_from T_token T_many T_letters T_number T_known T_then T_trip T_sent T_learned T_chosen T_decided (fX10_isNode x1 T_s) rfl) (cwV 1 hts gX10_setValue_X10_isNode rfl rfl rfl (by decide +kernel) (by subst hR; exact ⟨Nat.le_of_ble_eq_true rfl, Nat.le_of_ble_eq_true rfl⟩)) [0, 1, 2, 3, 4, 5, 6, 7, 8, 9, 10, 11] [] [0, 1, 2, 3, 4, 5, 6, 7, 8, 9, 10, 11] [] (sh_X10 Ta Ta_s Ta_past Ta_aside Ta_text Ta_known Ta_then Ta_trip Ta_sent Ta_learned Ta_chosen Ta_decided cI cC cS T_s T_past T_aside T_pasts T_text T_typed T_at T_from T_token T_many T_letters T_number T_known T_then T_trip T_sent T_learned T_chosen T_decided) rfl rfl rfl rfl (by decide) rfl rfl rfl rfl rfl rfl hl.1 rfl (Nat.le_of_ble_eq_true rfl) ⟨Nat.zero_le _, Nat.zero_le _⟩ dX10_setValue_2 (fun H locs hP hD hS => ?_)
  refine lv_if_eq (tgt := 18) hx hb dX10_setValue_5 (by decide) (fun c1 => ?_) (fun c1 => ?_)
  · have hf := if_t c1 hf
    refine lv_iconst (v := (-1 : Int32)) hx hb dX10_setValue_18 (by decide) ?_
    have hf := Option.some.inj hf
    subst hf
    exact rt_i hx hb hr hlocks hQ hK hP hD hS rfl dX10_setValue_19
  · have hf := if_f c1 hf
    refine lv_iload_n hx hb dX10_setValue_8 rfl (lv_at hl 2 rfl) ?_
    refine lv_iconst (v := (0 : Int32)) hx hb dX10_setValue_9 (by decide) ?_
    refine lv_bipush (v := (99 : Int32)) hx hb dX10_setValue_10 (by decide) ?_
    refine cs_i (As := [.int x2, .int (0 : Int32), .int (99 : Int32)]) (rest := []) hx hb hml hown hts hK hP hD hA hS (kX10_in l D cI cC cS  x2 (0 : Int32) (99 : Int32)  (fX10_in x2 (0 : Int32) (99 : Int32)) rfl) (va_cwS 3 hts gX10_setValue_X10_in rfl rfl rfl (by decide +kernel) (by subst hR; exact ⟨Nat.le_of_ble_eq_true rfl, Nat.le_of_ble_eq_true rfl⟩)) rfl hl.1 rfl (Nat.le_of_ble_eq_true rfl) ⟨Nat.zero_le _, Nat.zero_le _⟩ dX10_setValue_12 (fun H locs hP hD hS => ?_)
    refine lv_if_ne (tgt := 20) hx hb dX10_setValue_15 (by decide) (fun c2 => ?_) (fun c2 => ?_)
    · have hf := if_f c2 hf
      refine lv_aload_n hx hb dX10_setValue_20 rfl (lv_at hl 0 rfl) ?_
      obtain ⟨o3, ho3, hf⟩ := bd_some hf
      refine cv_v (ci := 7) (q := (RX10, TX10, 19)) (As := []) (rest := []) hx hb hml hown hts hK hP hD hA hS (kX10_hold l D cI cC cS Ta Ta_s Ta_past Ta_aside Ta_text Ta_known Ta_then Ta_trip Ta_sent Ta_learned Ta_chosen Ta_decided  T_s T_past T_aside T_pasts T_text T_typed T_at T_from T_token T_many T_letters T_number T_known T_then T_trip T_sent T_learned T_chosen T_decided o3 ho3) (cwV 0 hts gX10_setValue_X10_hold rfl rfl rfl (by decide +kernel) (by subst hR; exact ⟨Nat.le_of_ble_eq_true rfl, Nat.le_of_ble_eq_true rfl⟩)) [0, 1, 2, 3, 4, 5, 6, 7, 8, 9, 10, 11] [] [0, 1, 2, 3, 4, 5, 6, 7, 8, 9, 10, 11] [] (sh_X10 Ta Ta_s Ta_past Ta_aside Ta_text Ta_known Ta_then Ta_trip Ta_sent Ta_learned Ta_chosen Ta_decided cI cC cS T_s T_past o3 T_pasts T_text T_typed T_at T_from T_token T_many T_letters T_number T_known T_then T_trip T_sent T_learned T_chosen T_decided) rfl rfl rfl rfl (by decide) rfl rfl rfl rfl rfl rfl hl.1 rfl (Nat.le_of_ble_eq_true rfl) ⟨Nat.zero_le _, Nat.zero_le _⟩ dX10_setValue_21 (fun H locs hP hD hS => ?_)
      refine lv_aload_n hx hb dX10_setValue_24 rfl (lv_at hl 0 rfl) ?_
      refine va_get (D := D) (ci := 7) (v := .ref Ta_s) (C := RX10) (T := TX10) (N := 19) hx hb hts hi_X10 hown hK hP 0 rfl rfl 0 (by decide) q7 (fun _ h9 => h9) rfl dX10_setValue_25 ?_
      refine lv_bipush (v := (18 : Int32)) hx hb dX10_setValue_28 (by decide) ?_
      refine lv_iload_n hx hb dX10_setValue_30 rfl (lv_at hl 1 rfl) ?_
      refine lv_iadd hx hb dX10_setValue_31 ?_
      obtain ⟨hz, hf⟩ := ck_some hf
      refine sx_iald (j := ((18 : Int32) + x1).toNatClampNeg) hx hb hK hP 1 0 rfl rfl (inb_vp hz) rfl dX10_setValue_32 ?_
      refine lv_istore_n (lv' := [(3, .int (T_s (((18 : Int32) + x1).toNatClampNeg))), (0, .ref Ta), (1, .int x1), (2, .int x2)]) hx hb dX10_setValue_33 rfl hl (by decide) rfl (fun ls hl => ?_)
      refine lv_aload_n hx hb dX10_setValue_34 rfl (lv_at hl 1 rfl) ?_
      refine va_get (D := D) (ci := 7) (v := .ref Ta_s) (C := RX10) (T := TX10) (N := 19) hx hb hts hi_X10 hown hK hP 0 rfl rfl 0 (by decide) q7 (fun _ h9 => h9) rfl dX10_setValue_35 ?_
      refine lv_bipush (v := (18 : Int32)) hx hb dX10_setValue_38 (by decide) ?_
      refine lv_iload_n hx hb dX10_setValue_40 rfl (lv_at hl 2 rfl) ?_
      refine lv_iadd hx hb dX10_setValue_41 ?_
      refine lv_iload_n hx hb dX10_setValue_42 rfl (lv_at hl 3 rfl) ?_
      obtain ⟨hz, hf⟩ := ck_some hf
      refine sx_iast (j := ((18 : Int32) + x1).toNatClampNeg) hx hb hK hP hD hS 1 0 rfl rfl (inb_vp hz) rfl dX10_setValue_43 (sh_X10 Ta Ta_s Ta_past Ta_aside Ta_text Ta_known Ta_then Ta_trip Ta_sent Ta_learned Ta_chosen Ta_decided cI cC cS (upd T_s (((18 : Int32) + x1).toNatClampNeg) x2) T_past o3 T_pasts T_text T_typed T_at T_from T_token T_many T_letters T_number T_known T_then T_trip T_sent T_learned T_chosen T_decided) rfl (fun H locs hP hD hS => ?_)
      refine lv_aload_n hx hb dX10_setValue_44 rfl (lv_at hl 1 rfl) ?_
      refine lv_iload_n hx hb dX10_setValue_45 rfl (lv_at hl 0 rfl) ?_
      obtain ⟨o4, ho4, hf⟩ := bd_some hf
      refine cv_i (ci := 7) (q := (RX10, TX10, 19)) (As := [.int (T_s (((18 : Int32) + x1).toNatClampNeg))]) (rest := []) hx hb hml hown hts hK hP hD hA hS (kX10_ends l D cI cC cS Ta Ta_s Ta_past Ta_aside Ta_text Ta_known Ta_then Ta_trip Ta_sent Ta_learned Ta_chosen Ta_decided (T_s (((18 : Int32) + x1).toNatClampNeg)) (upd T_s (((18 : Int32) + x1).toNatClampNeg) x2) T_past o3 T_pasts T_text T_typed T_at T_from T_token T_many T_letters T_number T_known T_then T_trip T_sent T_learned T_chosen T_decided o4 ho4) (cwV 1 hts gX10_setValue_X10_ends rfl rfl rfl (by decide +kernel) (by subst hR; exact ⟨Nat.le_of_ble_eq_true rfl, Nat.le_of_ble_eq_true rfl⟩)) [0, 1, 2, 3, 4, 5, 6, 7, 8, 9, 10, 11] [] [0, 1, 2, 3, 4, 5, 6, 7, 8, 9, 10, 11] [] (sh_X10 Ta Ta_s Ta_past Ta_aside Ta_text Ta_known Ta_then Ta_trip Ta_sent Ta_learned Ta_chosen Ta_decided cI cC cS (upd T_s (((18 : Int32) + x1).toNatClampNeg) x2) o4.2.1 o3 o4.2.2 T_text T_typed T_at T_from T_token T_many T_letters T_number T_known T_then T_trip T_sent T_learned T_chosen T_decided) rfl rfl rfl rfl (by decide) rfl rfl rfl rfl rfl rfl hl.1 rfl (Nat.le_of_ble_eq_true rfl) ⟨Nat.zero_le _, Nat.zero_le _⟩ dX10_setValue_46 (fun H locs hP hD hS => ?_)
      have hf := Option.some.inj hf
      subst hf
      exact rt_i hx hb hr hlocks hQ hK hP hD hS rfl dX10_setValue_49
    · have hf := if_t c2 hf
      refine lv_iconst (v := (-1 : Int32)) hx hb dX10_setValue_18 (by decide) ?_
      have hf := Option.some.inj hf
      subst hf
      exact rt_i hx hb hr hlocks hQ hK hP hD hS rfl dX10_setValue_19
