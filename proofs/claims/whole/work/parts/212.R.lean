set_option maxRecDepth 100000 in
set_option maxHeartbeats 4000000 in
theorem kX10_talks (l : Launch) (D : va_G) (cI cC cS : ClassId) (Ta Ta_s Ta_past Ta_aside Ta_text Ta_known Ta_then Ta_trip Ta_sent Ta_learned Ta_chosen Ta_decided : Nat) (x1 : Int32) (x2 : Int32) (T_s : Nat → Int32) (T_past : Nat → Int32) (T_aside : Nat → Int32) (T_pasts : Int32) (T_text : Nat → Int32) (T_typed : Int32) (T_at : Int32) (T_from : Int32) (T_token : Int32) (T_many : Int32) (T_letters : Int64) (T_number : Int32) (T_known : Nat → Int32) (T_then : Nat → Int32) (T_trip : Nat → Int32) (T_sent : Nat → Int32) (T_learned : Nat → Int32) (T_chosen : Nat → Int32) (T_decided : Nat → Int32) (o : (Nat → Int32) × (Nat → Int32) × (Nat → Int32) × (Nat → Int32)) (hf : fX10_talks x1 x2 T_s T_known T_sent T_learned T_chosen = some o) : CV l D yX10_talks wsX10_talks ({ frames := 2, cells := 0, slots := 0, locals := 48 } : Room) (tysK cI cC cS) [.ref Ta, .int x1, .int x2] (sh_X10 Ta Ta_s Ta_past Ta_aside Ta_text Ta_known Ta_then Ta_trip Ta_sent Ta_learned Ta_chosen Ta_decided cI cC cS T_s T_past T_aside T_pasts T_text T_typed T_at T_from T_token T_many T_letters T_number T_known T_then T_trip T_sent T_learned T_chosen T_decided) (sh_X10 Ta Ta_s Ta_past Ta_aside Ta_text Ta_known Ta_then Ta_trip Ta_sent Ta_learned Ta_chosen Ta_decided cI cC cS T_s T_past T_aside T_pasts T_text T_typed T_at T_from T_token T_many T_letters T_number o.1 T_then T_trip o.2.1 o.2.2.1 o.2.2.2 T_decided) := by
  refine met_v (cc := cX10_talks) (maxL := 6) (ret := none) (by decide) rfl (Nat.le_of_ble_eq_true rfl) ?_
  intro p e s m args below meth c R Q A F hR hQ hP hK hD hA hS ls hl
  obtain ⟨hx, hb, hr, hts, hml, hlocks, hown⟩ := F
  have hown : s.vm.findClass RX10 = some m.cls := hown
  have hi_X10 : ∀ w ∈ u_ws RX10 TX10 19, w ∈ wsX10_talks := fun w h => List.mem_cons_of_mem _ (List.mem_append_right _ h)
  have q7 := hts (.fieldLink RX10 7 "ChangingRoundsModel" "s" "[I") (by decide +kernel)
  have q37 := hts (.fieldLink RX10 37 "ChangingRoundsModel" "chosen" "[I") (by decide +kernel)
  have q31 := hts (.fieldLink RX10 31 "ChangingRoundsModel" "sent" "[I") (by decide +kernel)
  have q22 := hts (.fieldLink RX10 22 "ChangingRoundsModel" "known" "[I") (by decide +kernel)
  have q34 := hts (.fieldLink RX10 34 "ChangingRoundsModel" "learned" "[I") (by decide +kernel)
  have hl : lv_has ls 6 [(0, .ref Ta), (1, .int x1), (2, .int x2)] := hl
  unfold fX10_talks at hf
  have L63 : ∀ (x3 : Int32) (T_sent : Nat → Int32) (T_chosen : Nat → Int32) (n63 : Nat) (x4 : Int32) (T_known : Nat → Int32) (T_learned : Nat → Int32) (H : Heap) (locs : List Loc) (ls : Array Slot), fX10_talks_l63 x2 x3 T_s T_sent T_chosen n63 x4 T_known T_learned = some o → va_P D vwCl (sh_X10 Ta Ta_s Ta_past Ta_aside Ta_text Ta_known Ta_then Ta_trip Ta_sent Ta_learned Ta_chosen Ta_decided cI cC cS T_s T_past T_aside T_pasts T_text T_typed T_at T_from T_token T_many T_letters T_number T_known T_then T_trip T_sent T_learned T_chosen T_decided) H → va_D A (sh_X10 Ta Ta_s Ta_past Ta_aside Ta_text Ta_known Ta_then Ta_trip Ta_sent Ta_learned Ta_chosen Ta_decided cI cC cS T_s T_past T_aside T_pasts T_text T_typed T_at T_from T_token T_many T_letters T_number T_known T_then T_trip T_sent T_learned T_chosen T_decided) → va_S A s.heap H locs → lv_has ls 6 [(0, .ref Ta), (2, .int x2), (3, .int x3), (4, .int x4)] → W p l e R s m args below meth c H locs 0 0 Q (F0 m 63 ls []) := by
    intro x3 T_sent T_chosen n63
    induction n63 with
    | zero => intro x4 T_known T_learned H locs ls hf; cases (show (none : Option _) = some _ from hf)
    | succ n63 ih63 =>
      have L77 : ∀ (x4 : Int32) (n77 : Nat) (x5 : Int32) (T_known : Nat → Int32) (T_learned : Nat → Int32) (H : Heap) (locs : List Loc) (ls : Array Slot), fX10_talks_l77 (fX10_talks_l63 x2 x3 T_s T_sent T_chosen n63) x2 x3 x4 T_s T_sent T_chosen n77 x5 T_known T_learned = some o → va_P D vwCl (sh_X10 Ta Ta_s Ta_past Ta_aside Ta_text Ta_known Ta_then Ta_trip Ta_sent Ta_learned Ta_chosen Ta_decided cI cC cS T_s T_past T_aside T_pasts T_text T_typed T_at T_from T_token T_many T_letters T_number T_known T_then T_trip T_sent T_learned T_chosen T_decided) H → va_D A (sh_X10 Ta Ta_s Ta_past Ta_aside Ta_text Ta_known Ta_then Ta_trip Ta_sent Ta_learned Ta_chosen Ta_decided cI cC cS T_s T_past T_aside T_pasts T_text T_typed T_at T_from T_token T_many T_letters T_number T_known T_then T_trip T_sent T_learned T_chosen T_decided) → va_S A s.heap H locs → lv_has ls 6 [(0, .ref Ta), (2, .int x2), (3, .int x3), (4, .int x4), (5, .int x5)] → W p l e R s m args below meth c H locs 0 0 Q (F0 m 77 ls []) := by
        intro x4 n77
        induction n77 with
        | zero => intro x5 T_known T_learned H locs ls hf; cases (show (none : Option _) = some _ from hf)
        | succ n77 ih77 =>
          intro x5 T_known T_learned H locs ls hf hP hD hS hl
          rw [fX10_talks_l77] at hf
          refine lv_iload hx hb dX10_talks_77 (lv_at hl 4 rfl) ?_
          refine lv_aload_n hx hb dX10_talks_79 rfl (lv_at hl 0 rfl) ?_
          refine va_get (D := D) (ci := 7) (v := .ref Ta_s) (C := RX10) (T := TX10) (N := 19) hx hb hts hi_X10 hown hK hP 0 rfl rfl 0 (by decide) q7 (fun _ h9 => h9) rfl dX10_talks_80 ?_
          refine lv_iconst (v := (0 : Int32)) hx hb dX10_talks_83 (by decide) ?_
          refine sx_iald (j := 0) hx hb hK hP 1 0 rfl rfl (inb_vp (by decide)) (by decide) dX10_talks_84 ?_
          refine lv_icmp_ge (tgt := 171) hx hb dX10_talks_85 (by decide) (fun c1 => ?_) (fun c1 => ?_)
          · have hf := if_t c1 hf
            refine lv_iinc (v := (x4 + 1)) (lv' := [(4, .int (x4 + 1)), (0, .ref Ta), (2, .int x2), (3, .int x3), (5, .int x5)]) hx hb dX10_talks_171 hl (k := 3) rfl rfl (by decide) rfl (fun ls hl => ?_)
            refine lv_goto (tgt := 63) hx hb dX10_talks_174 (by decide) ?_
            exact ih63 (x4 + 1) T_known T_learned _ _ _ hf hP hD hS (lv_sub hl [1, 2, 3, 0] rfl)
          · have hf := if_f c1 hf
            refine lv_iload hx hb dX10_talks_88 (lv_at hl 3 rfl) ?_
            refine lv_iload hx hb dX10_talks_90 (lv_at hl 4 rfl) ?_
            refine lv_icmp_eq (tgt := 165) hx hb dX10_talks_92 (by decide) (fun c2 => ?_) (fun c2 => ?_)
            · have hf := if_t c2 hf
              refine lv_iinc (v := (x5 + 1)) (lv' := [(5, .int (x5 + 1)), (0, .ref Ta), (2, .int x2), (3, .int x3), (4, .int x4)]) hx hb dX10_talks_165 hl (k := 4) rfl rfl (by decide) rfl (fun ls hl => ?_)
              refine lv_goto (tgt := 77) hx hb dX10_talks_168 (by decide) ?_
              exact ih77 (x5 + 1) T_known T_learned _ _ _ hf hP hD hS (lv_sub hl [1, 2, 3, 4, 0] rfl)
            · have hf := if_f c2 hf
              refine lv_iload_n hx hb dX10_talks_95 rfl (lv_at hl 2 rfl) ?_
              refine lv_iload hx hb dX10_talks_96 (lv_at hl 3 rfl) ?_
              refine lv_iload hx hb dX10_talks_98 (lv_at hl 4 rfl) ?_
              refine cs_i (As := [.int x4, .int x5]) (rest := [.int x3]) hx hb hml hown hts hK hP hD hA hS (kX10_pair l D cI cC cS  x4 x5  (fX10_pair x4 x5) rfl) (va_cwS 2 hts gX10_talks_X10_pair rfl rfl rfl (by decide +kernel) (by subst hR; exact ⟨Nat.le_of_ble_eq_true rfl, Nat.le_of_ble_eq_true rfl⟩)) rfl hl.1 rfl (Nat.le_of_ble_eq_true rfl) ⟨Nat.zero_le _, Nat.zero_le _⟩ dX10_talks_100 (fun H locs hP hD hS => ?_)
              refine lv_iand hx hb dX10_talks_103 ?_
              refine lv_if_eq (tgt := 165) hx hb dX10_talks_104 (by decide) (fun c3 => ?_) (fun c3 => ?_)
              · have hf := if_t c3 hf
                refine lv_iinc (v := (x5 + 1)) (lv' := [(5, .int (x5 + 1)), (0, .ref Ta), (2, .int x2), (3, .int x3), (4, .int x4)]) hx hb dX10_talks_165 hl (k := 4) rfl rfl (by decide) rfl (fun ls hl => ?_)
                refine lv_goto (tgt := 77) hx hb dX10_talks_168 (by decide) ?_
                exact ih77 (x5 + 1) T_known T_learned _ _ _ hf hP hD hS (lv_sub hl [1, 2, 3, 4, 0] rfl)
              · have hf := if_f c3 hf
                refine lv_aload_n hx hb dX10_talks_107 rfl (lv_at hl 0 rfl) ?_
                refine va_get (D := D) (ci := 7) (v := .ref Ta_known) (C := RX10) (T := TX10) (N := 19) hx hb hts hi_X10 hown hK hP 0 rfl rfl 12 (by decide) q22 (fun _ h9 => h9) rfl dX10_talks_108 ?_
                refine lv_iload hx hb dX10_talks_111 (lv_at hl 4 rfl) ?_
                obtain ⟨hz, hf⟩ := ck_some hf
                refine sx_iald (j := x5.toNatClampNeg) hx hb hK hP 5 0 rfl rfl (inb_vp hz) rfl dX10_talks_113 ?_
                refine lv_aload_n hx hb dX10_talks_114 rfl (lv_at hl 0 rfl) ?_
                refine va_get (D := D) (ci := 7) (v := .ref Ta_chosen) (C := RX10) (T := TX10) (N := 19) hx hb hts hi_X10 hown hK hP 0 rfl rfl 17 (by decide) q37 (fun _ h9 => h9) rfl dX10_talks_115 ?_
                refine lv_iload hx hb dX10_talks_118 (lv_at hl 3 rfl) ?_
                obtain ⟨hz, hf⟩ := ck_some hf
                refine sx_iald (j := x4.toNatClampNeg) hx hb hK hP 10 0 rfl rfl (inb_vp hz) rfl dX10_talks_120 ?_
                refine lv_ishr hx hb dX10_talks_121 ?_
                refine lv_iconst (v := (1 : Int32)) hx hb dX10_talks_122 (by decide) ?_
                refine lv_iand hx hb dX10_talks_123 ?_
                refine lv_if_ne (tgt := 165) hx hb dX10_talks_124 (by decide) (fun c4 => ?_) (fun c4 => ?_)
                · have hf := if_f c4 hf
                  refine lv_iinc (v := (x5 + 1)) (lv' := [(5, .int (x5 + 1)), (0, .ref Ta), (2, .int x2), (3, .int x3), (4, .int x4)]) hx hb dX10_talks_165 hl (k := 4) rfl rfl (by decide) rfl (fun ls hl => ?_)
                  refine lv_goto (tgt := 77) hx hb dX10_talks_168 (by decide) ?_
                  exact ih77 (x5 + 1) T_known T_learned _ _ _ hf hP hD hS (lv_sub hl [1, 2, 3, 4, 0] rfl)
                · have hf := if_t c4 hf
                  refine lv_aload_n hx hb dX10_talks_127 rfl (lv_at hl 0 rfl) ?_
                  refine va_get (D := D) (ci := 7) (v := .ref Ta_known) (C := RX10) (T := TX10) (N := 19) hx hb hts hi_X10 hown hK hP 0 rfl rfl 12 (by decide) q22 (fun _ h9 => h9) rfl dX10_talks_128 ?_
                  refine lv_iload hx hb dX10_talks_131 (lv_at hl 4 rfl) ?_
                  refine lv_dup2_11 hx hb dX10_talks_133 rfl rfl ?_
                  obtain ⟨hz, hf⟩ := ck_some hf
                  refine sx_iald (j := x5.toNatClampNeg) hx hb hK hP 5 0 rfl rfl (inb_vp hz) rfl dX10_talks_134 ?_
                  refine lv_iconst (v := (1 : Int32)) hx hb dX10_talks_135 (by decide) ?_
                  refine lv_aload_n hx hb dX10_talks_136 rfl (lv_at hl 0 rfl) ?_
                  refine va_get (D := D) (ci := 7) (v := .ref Ta_chosen) (C := RX10) (T := TX10) (N := 19) hx hb hts hi_X10 hown hK hP 0 rfl rfl 17 (by decide) q37 (fun _ h9 => h9) rfl dX10_talks_137 ?_
                  refine lv_iload hx hb dX10_talks_140 (lv_at hl 3 rfl) ?_
                  obtain ⟨hz, hf⟩ := ck_some hf
                  refine sx_iald (j := x4.toNatClampNeg) hx hb hK hP 10 0 rfl rfl (inb_vp hz) rfl dX10_talks_142 ?_
                  refine lv_ishl hx hb dX10_talks_143 ?_
                  refine lv_ior hx hb dX10_talks_144 ?_
                  obtain ⟨hz, hf⟩ := ck_some hf
                  refine sx_iast (j := x5.toNatClampNeg) hx hb hK hP hD hS 5 0 rfl rfl (inb_vp hz) rfl dX10_talks_145 (sh_X10 Ta Ta_s Ta_past Ta_aside Ta_text Ta_known Ta_then Ta_trip Ta_sent Ta_learned Ta_chosen Ta_decided cI cC cS T_s T_past T_aside T_pasts T_text T_typed T_at T_from T_token T_many T_letters T_number (upd T_known x5.toNatClampNeg ((T_known x5.toNatClampNeg) ||| ((1 : Int32) <<< ((T_chosen x4.toNatClampNeg) &&& 31)))) T_then T_trip T_sent T_learned T_chosen T_decided) rfl (fun H locs hP hD hS => ?_)
                  refine lv_aload_n hx hb dX10_talks_146 rfl (lv_at hl 0 rfl) ?_
                  refine va_get (D := D) (ci := 7) (v := .ref Ta_learned) (C := RX10) (T := TX10) (N := 19) hx hb hts hi_X10 hown hK hP 0 rfl rfl 16 (by decide) q34 (fun _ h9 => h9) rfl dX10_talks_147 ?_
                  refine lv_bipush (v := (8 : Int32)) hx hb dX10_talks_150 (by decide) ?_
                  refine lv_iload hx hb dX10_talks_152 (lv_at hl 4 rfl) ?_
                  refine lv_imul hx hb dX10_talks_154 ?_
                  refine lv_aload_n hx hb dX10_talks_155 rfl (lv_at hl 0 rfl) ?_
                  refine va_get (D := D) (ci := 7) (v := .ref Ta_chosen) (C := RX10) (T := TX10) (N := 19) hx hb hts hi_X10 hown hK hP 0 rfl rfl 17 (by decide) q37 (fun _ h9 => h9) rfl dX10_talks_156 ?_
                  refine lv_iload hx hb dX10_talks_159 (lv_at hl 3 rfl) ?_
                  obtain ⟨hz, hf⟩ := ck_some hf
                  refine sx_iald (j := x4.toNatClampNeg) hx hb hK hP 10 0 rfl rfl (inb_vp hz) rfl dX10_talks_161 ?_
                  refine lv_iadd hx hb dX10_talks_162 ?_
                  refine lv_iload_n hx hb dX10_talks_163 rfl (lv_at hl 1 rfl) ?_
                  obtain ⟨hz, hf⟩ := ck_some hf
                  refine sx_iast (j := (((8 : Int32) * x5) + (T_chosen x4.toNatClampNeg)).toNatClampNeg) hx hb hK hP hD hS 9 0 rfl rfl (inb_vp hz) rfl dX10_talks_164 (sh_X10 Ta Ta_s Ta_past Ta_aside Ta_text Ta_known Ta_then Ta_trip Ta_sent Ta_learned Ta_chosen Ta_decided cI cC cS T_s T_past T_aside T_pasts T_text T_typed T_at T_from T_token T_many T_letters T_number (upd T_known x5.toNatClampNeg ((T_known x5.toNatClampNeg) ||| ((1 : Int32) <<< ((T_chosen x4.toNatClampNeg) &&& 31)))) T_then T_trip T_sent (upd T_learned ((((8 : Int32) * x5) + (T_chosen x4.toNatClampNeg)).toNatClampNeg) x2) T_chosen T_decided) rfl (fun H locs hP hD hS => ?_)
                  refine lv_iinc (v := (x5 + 1)) (lv' := [(5, .int (x5 + 1)), (0, .ref Ta), (2, .int x2), (3, .int x3), (4, .int x4)]) hx hb dX10_talks_165 hl (k := 4) rfl rfl (by decide) rfl (fun ls hl => ?_)
                  refine lv_goto (tgt := 77) hx hb dX10_talks_168 (by decide) ?_
                  exact ih77 (x5 + 1) (upd T_known x5.toNatClampNeg ((T_known x5.toNatClampNeg) ||| ((1 : Int32) <<< ((T_chosen x4.toNatClampNeg) &&& 31)))) (upd T_learned ((((8 : Int32) * x5) + (T_chosen x4.toNatClampNeg)).toNatClampNeg) x2) _ _ _ hf hP hD hS (lv_sub hl [1, 2, 3, 4, 0] rfl)
      intro x4 T_known T_learned H locs ls hf hP hD hS hl
      rw [fX10_talks_l63] at hf
      refine lv_iload hx hb dX10_talks_63 (lv_at hl 3 rfl) ?_
      refine lv_aload_n hx hb dX10_talks_65 rfl (lv_at hl 0 rfl) ?_
      refine va_get (D := D) (ci := 7) (v := .ref Ta_s) (C := RX10) (T := TX10) (N := 19) hx hb hts hi_X10 hown hK hP 0 rfl rfl 0 (by decide) q7 (fun _ h9 => h9) rfl dX10_talks_66 ?_
      refine lv_iconst (v := (0 : Int32)) hx hb dX10_talks_69 (by decide) ?_
      refine sx_iald (j := 0) hx hb hK hP 1 0 rfl rfl (inb_vp (by decide)) (by decide) dX10_talks_70 ?_
      refine lv_icmp_ge (tgt := 177) hx hb dX10_talks_71 (by decide) (fun c5 => ?_) (fun c5 => ?_)
      · have hf := if_t c5 hf
        have hf := Option.some.inj hf
        subst hf
        exact rt_v hx hb hr hlocks hQ hK hP hD hS dX10_talks_177
      · have hf := if_f c5 hf
        refine lv_iconst (v := (0 : Int32)) hx hb dX10_talks_74 (by decide) ?_
        refine lv_istore (lv' := [(5, .int (0 : Int32)), (0, .ref Ta), (2, .int x2), (3, .int x3), (4, .int x4)]) hx hb dX10_talks_75 hl (by decide) rfl (fun ls hl => ?_)
        exact L77 x4 fuel (0 : Int32) T_known T_learned _ _ _ hf hP hD hS (lv_sub hl [1, 2, 3, 4, 0] rfl)
  have L9 : ∀ (x3 : Int32) (T_known : Nat → Int32) (T_learned : Nat → Int32) (n9 : Nat) (x4 : Int32) (T_sent : Nat → Int32) (T_chosen : Nat → Int32) (H : Heap) (locs : List Loc) (ls : Array Slot), fX10_talks_l9 x1 x2 x3 T_s T_known T_learned n9 x4 T_sent T_chosen = some o → va_P D vwCl (sh_X10 Ta Ta_s Ta_past Ta_aside Ta_text Ta_known Ta_then Ta_trip Ta_sent Ta_learned Ta_chosen Ta_decided cI cC cS T_s T_past T_aside T_pasts T_text T_typed T_at T_from T_token T_many T_letters T_number T_known T_then T_trip T_sent T_learned T_chosen T_decided) H → va_D A (sh_X10 Ta Ta_s Ta_past Ta_aside Ta_text Ta_known Ta_then Ta_trip Ta_sent Ta_learned Ta_chosen Ta_decided cI cC cS T_s T_past T_aside T_pasts T_text T_typed T_at T_from T_token T_many T_letters T_number T_known T_then T_trip T_sent T_learned T_chosen T_decided) → va_S A s.heap H locs → lv_has ls 6 [(0, .ref Ta), (1, .int x1), (2, .int x2), (3, .int x3), (4, .int x4)] → W p l e R s m args below meth c H locs 0 0 Q (F0 m 9 ls []) := by
    intro x3 T_known T_learned n9
    induction n9 with
    | zero => intro x4 T_sent T_chosen H locs ls hf; cases (show (none : Option _) = some _ from hf)
    | succ n9 ih9 =>
      intro x4 T_sent T_chosen H locs ls hf hP hD hS hl
      rw [fX10_talks_l9] at hf
      refine lv_iload hx hb dX10_talks_9 (lv_at hl 4 rfl) ?_
      refine lv_aload_n hx hb dX10_talks_11 rfl (lv_at hl 0 rfl) ?_
      refine va_get (D := D) (ci := 7) (v := .ref Ta_s) (C := RX10) (T := TX10) (N := 19) hx hb hts hi_X10 hown hK hP 0 rfl rfl 0 (by decide) q7 (fun _ h9 => h9) rfl dX10_talks_12 ?_
      refine lv_iconst (v := (0 : Int32)) hx hb dX10_talks_15 (by decide) ?_
      refine sx_iald (j := 0) hx hb hK hP 1 0 rfl rfl (inb_vp (by decide)) (by decide) dX10_talks_16 ?_
      refine lv_icmp_ge (tgt := 60) hx hb dX10_talks_17 (by decide) (fun c6 => ?_) (fun c6 => ?_)
      · have hf := if_t c6 hf
        refine lv_iconst (v := (0 : Int32)) hx hb dX10_talks_60 (by decide) ?_
        refine lv_istore (lv' := [(4, .int (0 : Int32)), (0, .ref Ta), (1, .int x1), (2, .int x2), (3, .int x3)]) hx hb dX10_talks_61 hl (by decide) rfl (fun ls hl => ?_)
        exact L63 x3 T_sent T_chosen fuel (0 : Int32) T_known T_learned _ _ _ hf hP hD hS (lv_sub hl [1, 3, 4, 0] rfl)
      · have hf := if_f c6 hf
        refine lv_aload_n hx hb dX10_talks_20 rfl (lv_at hl 0 rfl) ?_
        refine va_get (D := D) (ci := 7) (v := .ref Ta_chosen) (C := RX10) (T := TX10) (N := 19) hx hb hts hi_X10 hown hK hP 0 rfl rfl 17 (by decide) q37 (fun _ h9 => h9) rfl dX10_talks_21 ?_
        refine lv_iload hx hb dX10_talks_24 (lv_at hl 4 rfl) ?_
        refine lv_aload_n hx hb dX10_talks_26 rfl (lv_at hl 0 rfl) ?_
        refine lv_iload_n hx hb dX10_talks_27 rfl (lv_at hl 1 rfl) ?_
        refine lv_iload hx hb dX10_talks_28 (lv_at hl 4 rfl) ?_
        refine lv_iload_n hx hb dX10_talks_30 rfl (lv_at hl 2 rfl) ?_
        obtain ⟨o7, ho7, hf⟩ := bd_some hf
        refine cv_i (ci := 7) (q := (RX10, TX10, 19)) (As := [.int x1, .int x4, .int x2]) (rest := [.int x4, .ref Ta_chosen]) hx hb hml hown hts hK hP hD hA hS (kX10_choice l D cI cC cS Ta Ta_s Ta_past Ta_aside Ta_text Ta_known Ta_then Ta_trip Ta_sent Ta_learned Ta_chosen Ta_decided x1 x4 x2 T_s T_past T_aside T_pasts T_text T_typed T_at T_from T_token T_many T_letters T_number T_known T_then T_trip T_sent T_learned T_chosen T_decided o7 ho7) (cwV 3 hts gX10_talks_X10_choice rfl rfl rfl (by decide +kernel) (by subst hR; exact ⟨Nat.le_of_ble_eq_true rfl, Nat.le_of_ble_eq_true rfl⟩)) [0, 1, 2, 3, 4, 5, 6, 7, 8, 9, 10, 11] [] [0, 1, 2, 3, 4, 5, 6, 7, 8, 9, 10, 11] [] (sh_X10 Ta Ta_s Ta_past Ta_aside Ta_text Ta_known Ta_then Ta_trip Ta_sent Ta_learned Ta_chosen Ta_decided cI cC cS T_s T_past T_aside T_pasts T_text T_typed T_at T_from T_token T_many T_letters T_number T_known T_then T_trip T_sent T_learned T_chosen T_decided) rfl rfl rfl rfl (by decide) rfl rfl rfl rfl rfl rfl hl.1 rfl (Nat.le_of_ble_eq_true rfl) ⟨Nat.zero_le _, Nat.zero_le _⟩ dX10_talks_31 (fun H locs hP hD hS => ?_)
        obtain ⟨hz, hf⟩ := ck_some hf
        refine sx_iast (j := x4.toNatClampNeg) hx hb hK hP hD hS 10 0 rfl rfl (inb_vp hz) rfl dX10_talks_34 (sh_X10 Ta Ta_s Ta_past Ta_aside Ta_text Ta_known Ta_then Ta_trip Ta_sent Ta_learned Ta_chosen Ta_decided cI cC cS T_s T_past T_aside T_pasts T_text T_typed T_at T_from T_token T_many T_letters T_number T_known T_then T_trip T_sent T_learned (upd T_chosen x4.toNatClampNeg o7) T_decided) rfl (fun H locs hP hD hS => ?_)
        refine lv_aload_n hx hb dX10_talks_35 rfl (lv_at hl 0 rfl) ?_
        refine va_get (D := D) (ci := 7) (v := .ref Ta_sent) (C := RX10) (T := TX10) (N := 19) hx hb hts hi_X10 hown hK hP 0 rfl rfl 15 (by decide) q31 (fun _ h9 => h9) rfl dX10_talks_36 ?_
        refine lv_iload hx hb dX10_talks_39 (lv_at hl 4 rfl) ?_
        refine lv_dup2_11 hx hb dX10_talks_41 rfl rfl ?_
        obtain ⟨hz, hf⟩ := ck_some hf
        refine sx_iald (j := x4.toNatClampNeg) hx hb hK hP 8 0 rfl rfl (inb_vp hz) rfl dX10_talks_42 ?_
        refine lv_iconst (v := (1 : Int32)) hx hb dX10_talks_43 (by decide) ?_
        refine lv_aload_n hx hb dX10_talks_44 rfl (lv_at hl 0 rfl) ?_
        refine va_get (D := D) (ci := 7) (v := .ref Ta_chosen) (C := RX10) (T := TX10) (N := 19) hx hb hts hi_X10 hown hK hP 0 rfl rfl 17 (by decide) q37 (fun _ h9 => h9) rfl dX10_talks_45 ?_
        refine lv_iload hx hb dX10_talks_48 (lv_at hl 4 rfl) ?_
        obtain ⟨hz, hf⟩ := ck_some hf
        refine sx_iald (j := x4.toNatClampNeg) hx hb hK hP 10 0 rfl rfl (inb_vp hz) rfl dX10_talks_50 ?_
        refine lv_ishl hx hb dX10_talks_51 ?_
        refine lv_ior hx hb dX10_talks_52 ?_
        obtain ⟨hz, hf⟩ := ck_some hf
        refine sx_iast (j := x4.toNatClampNeg) hx hb hK hP hD hS 8 0 rfl rfl (inb_vp hz) rfl dX10_talks_53 (sh_X10 Ta Ta_s Ta_past Ta_aside Ta_text Ta_known Ta_then Ta_trip Ta_sent Ta_learned Ta_chosen Ta_decided cI cC cS T_s T_past T_aside T_pasts T_text T_typed T_at T_from T_token T_many T_letters T_number T_known T_then T_trip (upd T_sent x4.toNatClampNeg ((T_sent x4.toNatClampNeg) ||| ((1 : Int32) <<< (((upd T_chosen x4.toNatClampNeg o7) x4.toNatClampNeg) &&& 31)))) T_learned (upd T_chosen x4.toNatClampNeg o7) T_decided) rfl (fun H locs hP hD hS => ?_)
        refine lv_iinc (v := (x4 + 1)) (lv' := [(4, .int (x4 + 1)), (0, .ref Ta), (1, .int x1), (2, .int x2), (3, .int x3)]) hx hb dX10_talks_54 hl (k := 4) rfl rfl (by decide) rfl (fun ls hl => ?_)
        refine lv_goto (tgt := 9) hx hb dX10_talks_57 (by decide) ?_
        exact ih9 (x4 + 1) (upd T_sent x4.toNatClampNeg ((T_sent x4.toNatClampNeg) ||| ((1 : Int32) <<< (((upd T_chosen x4.toNatClampNeg o7) x4.toNatClampNeg) &&& 31)))) (upd T_chosen x4.toNatClampNeg o7) _ _ _ hf hP hD hS (lv_sub hl [1, 2, 3, 4, 0] rfl)
  refine lv_aload_n hx hb dX10_talks_0 rfl (lv_at hl 0 rfl) ?_
  refine lv_iload_n hx hb dX10_talks_1 rfl (lv_at hl 2 rfl) ?_
  obtain ⟨o8, ho8, hf⟩ := bd_some hf
  refine cv_i (ci := 7) (q := (RX10, TX10, 19)) (As := [.int x2]) (rest := []) hx hb hml hown hts hK hP hD hA hS (kX10_edgesAt l D cI cC cS Ta Ta_s Ta_past Ta_aside Ta_text Ta_known Ta_then Ta_trip Ta_sent Ta_learned Ta_chosen Ta_decided x2 T_s T_past T_aside T_pasts T_text T_typed T_at T_from T_token T_many T_letters T_number T_known T_then T_trip T_sent T_learned T_chosen T_decided o8 ho8) (cwV 1 hts gX10_talks_X10_edgesAt rfl rfl rfl (by decide +kernel) (by subst hR; exact ⟨Nat.le_of_ble_eq_true rfl, Nat.le_of_ble_eq_true rfl⟩)) [0, 1, 2, 3, 4, 5, 6, 7, 8, 9, 10, 11] [] [0, 1, 2, 3, 4, 5, 6, 7, 8, 9, 10, 11] [] (sh_X10 Ta Ta_s Ta_past Ta_aside Ta_text Ta_known Ta_then Ta_trip Ta_sent Ta_learned Ta_chosen Ta_decided cI cC cS T_s T_past T_aside T_pasts T_text T_typed T_at T_from T_token T_many T_letters T_number T_known T_then T_trip T_sent T_learned T_chosen T_decided) rfl rfl rfl rfl (by decide) rfl rfl rfl rfl rfl rfl hl.1 rfl (Nat.le_of_ble_eq_true rfl) ⟨Nat.zero_le _, Nat.zero_le _⟩ dX10_talks_2 (fun H locs hP hD hS => ?_)
  refine lv_istore_n (lv' := [(3, .int o8), (0, .ref Ta), (1, .int x1), (2, .int x2)]) hx hb dX10_talks_5 rfl hl (by decide) rfl (fun ls hl => ?_)
  refine lv_iconst (v := (0 : Int32)) hx hb dX10_talks_6 (by decide) ?_
  refine lv_istore (lv' := [(4, .int (0 : Int32)), (3, .int o8), (0, .ref Ta), (1, .int x1), (2, .int x2)]) hx hb dX10_talks_7 hl (by decide) rfl (fun ls hl => ?_)
  exact L9 o8 T_known T_learned fuel (0 : Int32) T_sent T_chosen _ _ _ hf hP hD hS (lv_sub hl [2, 3, 4, 1, 0] rfl)
set_option maxRecDepth 100000 in
set_option maxHeartbeats 4000000 in
theorem kX10_starts (l : Launch) (D : va_G) (cI cC cS : ClassId) (Ta Ta_s Ta_past Ta_aside Ta_text Ta_known Ta_then Ta_trip Ta_sent Ta_learned Ta_chosen Ta_decided : Nat) (T_s : Nat → Int32) (T_past : Nat → Int32) (T_aside : Nat → Int32) (T_pasts : Int32) (T_text : Nat → Int32) (T_typed : Int32) (T_at : Int32) (T_from : Int32) (T_token : Int32) (T_many : Int32) (T_letters : Int64) (T_number : Int32) (T_known : Nat → Int32) (T_then : Nat → Int32) (T_trip : Nat → Int32) (T_sent : Nat → Int32) (T_learned : Nat → Int32) (T_chosen : Nat → Int32) (T_decided : Nat → Int32) (o : (Nat → Int32) × (Nat → Int32) × (Nat → Int32)) (hf : fX10_starts T_known T_sent T_learned = some o) : CV l D yX10_starts wsX10_starts ({ frames := 1, cells := 0, slots := 0, locals := 21 } : Room) (tysK cI cC cS) [.ref Ta] (sh_X10 Ta Ta_s Ta_past Ta_aside Ta_text Ta_known Ta_then Ta_trip Ta_sent Ta_learned Ta_chosen Ta_decided cI cC cS T_s T_past T_aside T_pasts T_text T_typed T_at T_from T_token T_many T_letters T_number T_known T_then T_trip T_sent T_learned T_chosen T_decided) (sh_X10 Ta Ta_s Ta_past Ta_aside Ta_text Ta_known Ta_then Ta_trip Ta_sent Ta_learned Ta_chosen Ta_decided cI cC cS T_s T_past T_aside T_pasts T_text T_typed T_at T_from T_token T_many T_letters T_number o.1 T_then T_trip o.2.1 o.2.2 T_chosen T_decided) := by
  refine met_v (cc := cX10_starts) (maxL := 2) (ret := none) (by decide) rfl (Nat.le_of_ble_eq_true rfl) ?_
  intro p e s m args below meth c R Q A F hR hQ hP hK hD hA hS ls hl
  obtain ⟨hx, hb, hr, hts, hml, hlocks, hown⟩ := F
  have hown : s.vm.findClass RX10 = some m.cls := hown
  have hi_X10 : ∀ w ∈ u_ws RX10 TX10 19, w ∈ wsX10_starts := fun w h => List.mem_cons_of_mem _ (List.mem_append_right _ h)
  have q31 := hts (.fieldLink RX10 31 "ChangingRoundsModel" "sent" "[I") (by decide +kernel)
  have q34 := hts (.fieldLink RX10 34 "ChangingRoundsModel" "learned" "[I") (by decide +kernel)
  have hl : lv_has ls 2 [(0, .ref Ta)] := hl
  unfold fX10_starts at hf
  have L6 : ∀ (T_known : Nat → Int32) (n6 : Nat) (x1 : Int32) (T_sent : Nat → Int32) (T_learned : Nat → Int32) (H : Heap) (locs : List Loc) (ls : Array Slot), fX10_starts_l6 T_known n6 x1 T_sent T_learned = some o → va_P D vwCl (sh_X10 Ta Ta_s Ta_past Ta_aside Ta_text Ta_known Ta_then Ta_trip Ta_sent Ta_learned Ta_chosen Ta_decided cI cC cS T_s T_past T_aside T_pasts T_text T_typed T_at T_from T_token T_many T_letters T_number T_known T_then T_trip T_sent T_learned T_chosen T_decided) H → va_D A (sh_X10 Ta Ta_s Ta_past Ta_aside Ta_text Ta_known Ta_then Ta_trip Ta_sent Ta_learned Ta_chosen Ta_decided cI cC cS T_s T_past T_aside T_pasts T_text T_typed T_at T_from T_token T_many T_letters T_number T_known T_then T_trip T_sent T_learned T_chosen T_decided) → va_S A s.heap H locs → lv_has ls 2 [(0, .ref Ta), (1, .int x1)] → W p l e R s m args below meth c H locs 0 0 Q (F0 m 6 ls []) := by
    intro T_known n6
    induction n6 with
    | zero => intro x1 T_sent T_learned H locs ls hf; cases (show (none : Option _) = some _ from hf)
    | succ n6 ih6 =>
      intro x1 T_sent T_learned H locs ls hf hP hD hS hl
      rw [fX10_starts_l6] at hf
      refine lv_iload_n hx hb dX10_starts_6 rfl (lv_at hl 1 rfl) ?_
      refine lv_bipush (v := (8 : Int32)) hx hb dX10_starts_7 (by decide) ?_
      refine lv_icmp_ge (tgt := 35) hx hb dX10_starts_9 (by decide) (fun c1 => ?_) (fun c1 => ?_)
      · have hf := if_t c1 hf
        have hf := Option.some.inj hf
        subst hf
        exact rt_v hx hb hr hlocks hQ hK hP hD hS dX10_starts_35
      · have hf := if_f c1 hf
        refine lv_aload_n hx hb dX10_starts_12 rfl (lv_at hl 0 rfl) ?_
        refine va_get (D := D) (ci := 7) (v := .ref Ta_sent) (C := RX10) (T := TX10) (N := 19) hx hb hts hi_X10 hown hK hP 0 rfl rfl 15 (by decide) q31 (fun _ h9 => h9) rfl dX10_starts_13 ?_
        refine lv_iload_n hx hb dX10_starts_16 rfl (lv_at hl 1 rfl) ?_
        refine lv_iconst (v := (0 : Int32)) hx hb dX10_starts_17 (by decide) ?_
        obtain ⟨hz, hf⟩ := ck_some hf
        refine sx_iast (j := x1.toNatClampNeg) hx hb hK hP hD hS 8 0 rfl rfl (inb_vp hz) rfl dX10_starts_18 (sh_X10 Ta Ta_s Ta_past Ta_aside Ta_text Ta_known Ta_then Ta_trip Ta_sent Ta_learned Ta_chosen Ta_decided cI cC cS T_s T_past T_aside T_pasts T_text T_typed T_at T_from T_token T_many T_letters T_number T_known T_then T_trip (upd T_sent x1.toNatClampNeg (0 : Int32)) T_learned T_chosen T_decided) rfl (fun H locs hP hD hS => ?_)
        refine lv_aload_n hx hb dX10_starts_19 rfl (lv_at hl 0 rfl) ?_
        refine va_get (D := D) (ci := 7) (v := .ref Ta_learned) (C := RX10) (T := TX10) (N := 19) hx hb hts hi_X10 hown hK hP 0 rfl rfl 16 (by decide) q34 (fun _ h9 => h9) rfl dX10_starts_20 ?_
        refine lv_bipush (v := (9 : Int32)) hx hb dX10_starts_23 (by decide) ?_
        refine lv_iload_n hx hb dX10_starts_25 rfl (lv_at hl 1 rfl) ?_
        refine lv_imul hx hb dX10_starts_26 ?_
        refine lv_iconst (v := (-1 : Int32)) hx hb dX10_starts_27 (by decide) ?_
        obtain ⟨hz, hf⟩ := ck_some hf
        refine sx_iast (j := ((9 : Int32) * x1).toNatClampNeg) hx hb hK hP hD hS 9 0 rfl rfl (inb_vp hz) rfl dX10_starts_28 (sh_X10 Ta Ta_s Ta_past Ta_aside Ta_text Ta_known Ta_then Ta_trip Ta_sent Ta_learned Ta_chosen Ta_decided cI cC cS T_s T_past T_aside T_pasts T_text T_typed T_at T_from T_token T_many T_letters T_number T_known T_then T_trip (upd T_sent x1.toNatClampNeg (0 : Int32)) (upd T_learned (((9 : Int32) * x1).toNatClampNeg) (-1 : Int32)) T_chosen T_decided) rfl (fun H locs hP hD hS => ?_)
        refine lv_iinc (v := (x1 + 1)) (lv' := [(1, .int (x1 + 1)), (0, .ref Ta)]) hx hb dX10_starts_29 hl (k := 1) rfl rfl (by decide) rfl (fun ls hl => ?_)
        refine lv_goto (tgt := 6) hx hb dX10_starts_32 (by decide) ?_
        exact ih6 (x1 + 1) (upd T_sent x1.toNatClampNeg (0 : Int32)) (upd T_learned (((9 : Int32) * x1).toNatClampNeg) (-1 : Int32)) _ _ _ hf hP hD hS (lv_sub hl [1, 0] rfl)
  refine lv_aload_n hx hb dX10_starts_0 rfl (lv_at hl 0 rfl) ?_
  obtain ⟨o2, ho2, hf⟩ := bd_some hf
  refine cv_v (ci := 7) (q := (RX10, TX10, 19)) (As := []) (rest := []) hx hb hml hown hts hK hP hD hA hS (kX10_alone l D cI cC cS Ta Ta_s Ta_past Ta_aside Ta_text Ta_known Ta_then Ta_trip Ta_sent Ta_learned Ta_chosen Ta_decided  T_s T_past T_aside T_pasts T_text T_typed T_at T_from T_token T_many T_letters T_number T_known T_then T_trip T_sent T_learned T_chosen T_decided o2 ho2) (cwV 0 hts gX10_starts_X10_alone rfl rfl rfl (by decide +kernel) (by subst hR; exact ⟨Nat.le_of_ble_eq_true rfl, Nat.le_of_ble_eq_true rfl⟩)) [0, 1, 2, 3, 4, 5, 6, 7, 8, 9, 10, 11] [] [0, 1, 2, 3, 4, 5, 6, 7, 8, 9, 10, 11] [] (sh_X10 Ta Ta_s Ta_past Ta_aside Ta_text Ta_known Ta_then Ta_trip Ta_sent Ta_learned Ta_chosen Ta_decided cI cC cS T_s T_past T_aside T_pasts T_text T_typed T_at T_from T_token T_many T_letters T_number o2 T_then T_trip T_sent T_learned T_chosen T_decided) rfl rfl rfl rfl (by decide) rfl rfl rfl rfl rfl rfl hl.1 rfl (Nat.le_of_ble_eq_true rfl) ⟨Nat.zero_le _, Nat.zero_le _⟩ dX10_starts_1 (fun H locs hP hD hS => ?_)
  refine lv_iconst (v := (0 : Int32)) hx hb dX10_starts_4 (by decide) ?_
  refine lv_istore_n (lv' := [(1, .int (0 : Int32)), (0, .ref Ta)]) hx hb dX10_starts_5 rfl hl (by decide) rfl (fun ls hl => ?_)
  exact L6 o2 fuel (0 : Int32) T_sent T_learned _ _ _ hf hP hD hS (lv_sub hl [1, 0] rfl)
set_option maxRecDepth 100000 in
set_option maxHeartbeats 4000000 in
theorem kX10_allKnow (l : Launch) (D : va_G) (cI cC cS : ClassId) (Ta Ta_s Ta_past Ta_aside Ta_text Ta_known Ta_then Ta_trip Ta_sent Ta_learned Ta_chosen Ta_decided : Nat) (T_s : Nat → Int32) (T_past : Nat → Int32) (T_aside : Nat → Int32) (T_pasts : Int32) (T_text : Nat → Int32) (T_typed : Int32) (T_at : Int32) (T_from : Int32) (T_token : Int32) (T_many : Int32) (T_letters : Int64) (T_number : Int32) (T_known : Nat → Int32) (T_then : Nat → Int32) (T_trip : Nat → Int32) (T_sent : Nat → Int32) (T_learned : Nat → Int32) (T_chosen : Nat → Int32) (T_decided : Nat → Int32) (o : Bool) (hf : fX10_allKnow T_s T_known = some o) : CI l D yX10_allKnow wsX10_allKnow ({ frames := 1, cells := 0, slots := 0, locals := 20 } : Room) (tysK cI cC cS) [.ref Ta] (sh_X10 Ta Ta_s Ta_past Ta_aside Ta_text Ta_known Ta_then Ta_trip Ta_sent Ta_learned Ta_chosen Ta_decided cI cC cS T_s T_past T_aside T_pasts T_text T_typed T_at T_from T_token T_many T_letters T_number T_known T_then T_trip T_sent T_learned T_chosen T_decided) (b2i o) (sh_X10 Ta Ta_s Ta_past Ta_aside Ta_text Ta_known Ta_then Ta_trip Ta_sent Ta_learned Ta_chosen Ta_decided cI cC cS T_s T_past T_aside T_pasts T_text T_typed T_at T_from T_token T_many T_letters T_number T_known T_then T_trip T_sent T_learned T_chosen T_decided) := by
  refine met_i (cc := cX10_allKnow) (maxL := 3) (ret := (some .boolean)) (by decide) rfl (Nat.le_of_ble_eq_true rfl) ?_
  intro p e s m args below meth c R Q A F hR hQ hP hK hD hA hS ls hl
  obtain ⟨hx, hb, hr, hts, hml, hlocks, hown⟩ := F
  have hown : s.vm.findClass RX10 = some m.cls := hown
  have hi_X10 : ∀ w ∈ u_ws RX10 TX10 19, w ∈ wsX10_allKnow := fun w h => List.mem_cons_of_mem _ (List.mem_append_right _ h)
  have q7 := hts (.fieldLink RX10 7 "ChangingRoundsModel" "s" "[I") (by decide +kernel)
  have q22 := hts (.fieldLink RX10 22 "ChangingRoundsModel" "known" "[I") (by decide +kernel)
  have hl : lv_has ls 3 [(0, .ref Ta)] := hl
  unfold fX10_allKnow at hf
  have L4 : ∀ (n4 : Nat) (x1 : Int32) (x2 : Int32) (H : Heap) (locs : List Loc) (ls : Array Slot), fX10_allKnow_l4 T_s T_known n4 x1 x2 = some o → va_P D vwCl (sh_X10 Ta Ta_s Ta_past Ta_aside Ta_text Ta_known Ta_then Ta_trip Ta_sent Ta_learned Ta_chosen Ta_decided cI cC cS T_s T_past T_aside T_pasts T_text T_typed T_at T_from T_token T_many T_letters T_number T_known T_then T_trip T_sent T_learned T_chosen T_decided) H → va_D A (sh_X10 Ta Ta_s Ta_past Ta_aside Ta_text Ta_known Ta_then Ta_trip Ta_sent Ta_learned Ta_chosen Ta_decided cI cC cS T_s T_past T_aside T_pasts T_text T_typed T_at T_from T_token T_many T_letters T_number T_known T_then T_trip T_sent T_learned T_chosen T_decided) → va_S A s.heap H locs → lv_has ls 3 [(0, .ref Ta), (1, .int x1), (2, .int x2)] → W p l e R s m args below meth c H locs 0 0 Q (F0 m 4 ls []) := by
    intro n4
    induction n4 with
    | zero => intro x1 x2 H locs ls hf; cases (show (none : Option _) = some _ from hf)
    | succ n4 ih4 =>
      intro x1 x2 H locs ls hf hP hD hS hl
      rw [fX10_allKnow_l4] at hf
      refine lv_iload_n hx hb dX10_allKnow_4 rfl (lv_at hl 2 rfl) ?_
      refine lv_aload_n hx hb dX10_allKnow_5 rfl (lv_at hl 0 rfl) ?_
      refine va_get (D := D) (ci := 7) (v := .ref Ta_s) (C := RX10) (T := TX10) (N := 19) hx hb hts hi_X10 hown hK hP 0 rfl rfl 0 (by decide) q7 (fun _ h9 => h9) rfl dX10_allKnow_6 ?_
      refine lv_iconst (v := (0 : Int32)) hx hb dX10_allKnow_9 (by decide) ?_
      refine sx_iald (j := 0) hx hb hK hP 1 0 rfl rfl (inb_vp (by decide)) (by decide) dX10_allKnow_10 ?_
      refine lv_icmp_ge (tgt := 43) hx hb dX10_allKnow_11 (by decide) (fun c1 => ?_) (fun c1 => ?_)
      · have hf := if_t c1 hf
        refine lv_iload_n hx hb dX10_allKnow_43 rfl (lv_at hl 1 rfl) ?_
        obtain ⟨hz, hf⟩ := ck_some hf
        have hf := Option.some.inj hf
        subst hf
        exact rt_z (ty := .boolean) hx hb hr (by rw [isb_eq hz]; exact b2i_nar _) hlocks hQ hK hP hD hS (isb_eq hz) dX10_allKnow_44
      · have hf := if_f c1 hf
        refine lv_iload_n hx hb dX10_allKnow_14 rfl (lv_at hl 1 rfl) ?_
        refine lv_if_eq (tgt := 35) hx hb dX10_allKnow_15 (by decide) (fun c2 => ?_) (fun c2 => ?_)
        · have hf := if_t c2 hf
          refine lv_iconst (v := (0 : Int32)) hx hb dX10_allKnow_35 (by decide) ?_
          refine lv_istore_n (lv' := [(1, .int (0 : Int32)), (0, .ref Ta), (2, .int x2)]) hx hb dX10_allKnow_36 rfl hl (by decide) rfl (fun ls hl => ?_)
          refine lv_iinc (v := (x2 + 1)) (lv' := [(2, .int (x2 + 1)), (1, .int (0 : Int32)), (0, .ref Ta)]) hx hb dX10_allKnow_37 hl (k := 2) rfl rfl (by decide) rfl (fun ls hl => ?_)
          refine lv_goto (tgt := 4) hx hb dX10_allKnow_40 (by decide) ?_
          exact ih4 (0 : Int32) (x2 + 1) _ _ _ hf hP hD hS (lv_sub hl [2, 1, 0] rfl)
        · have hf := if_f c2 hf
          refine lv_aload_n hx hb dX10_allKnow_18 rfl (lv_at hl 0 rfl) ?_
          refine va_get (D := D) (ci := 7) (v := .ref Ta_known) (C := RX10) (T := TX10) (N := 19) hx hb hts hi_X10 hown hK hP 0 rfl rfl 12 (by decide) q22 (fun _ h9 => h9) rfl dX10_allKnow_19 ?_
          refine lv_iload_n hx hb dX10_allKnow_22 rfl (lv_at hl 2 rfl) ?_
          obtain ⟨hz, hf⟩ := ck_some hf
          refine sx_iald (j := x2.toNatClampNeg) hx hb hK hP 5 0 rfl rfl (inb_vp hz) rfl dX10_allKnow_23 ?_
          refine lv_aload_n hx hb dX10_allKnow_24 rfl (lv_at hl 0 rfl) ?_
          refine cv_i (ci := 7) (q := (RX10, TX10, 19)) (As := []) (rest := [.int (T_known x2.toNatClampNeg)]) hx hb hml hown hts hK hP hD hA hS (kX10_all l D cI cC cS Ta Ta_s Ta_past Ta_aside Ta_text Ta_known Ta_then Ta_trip Ta_sent Ta_learned Ta_chosen Ta_decided  T_s T_past T_aside T_pasts T_text T_typed T_at T_from T_token T_many T_letters T_number T_known T_then T_trip T_sent T_learned T_chosen T_decided (fX10_all T_s) rfl) (cwV 0 hts gX10_allKnow_X10_all rfl rfl rfl (by decide +kernel) (by subst hR; exact ⟨Nat.le_of_ble_eq_true rfl, Nat.le_of_ble_eq_true rfl⟩)) [0, 1, 2, 3, 4, 5, 6, 7, 8, 9, 10, 11] [] [0, 1, 2, 3, 4, 5, 6, 7, 8, 9, 10, 11] [] (sh_X10 Ta Ta_s Ta_past Ta_aside Ta_text Ta_known Ta_then Ta_trip Ta_sent Ta_learned Ta_chosen Ta_decided cI cC cS T_s T_past T_aside T_pasts T_text T_typed T_at T_from T_token T_many T_letters T_number T_known T_then T_trip T_sent T_learned T_chosen T_decided) rfl rfl rfl rfl (by decide) rfl rfl rfl rfl rfl rfl hl.1 rfl (Nat.le_of_ble_eq_true rfl) ⟨Nat.zero_le _, Nat.zero_le _⟩ dX10_allKnow_25 (fun H locs hP hD hS => ?_)
          refine lv_icmp_ne (tgt := 35) hx hb dX10_allKnow_28 (by decide) (fun c3 => ?_) (fun c3 => ?_)
          · have hf := if_f c3 hf
            refine lv_iconst (v := (0 : Int32)) hx hb dX10_allKnow_35 (by decide) ?_
            refine lv_istore_n (lv' := [(1, .int (0 : Int32)), (0, .ref Ta), (2, .int x2)]) hx hb dX10_allKnow_36 rfl hl (by decide) rfl (fun ls hl => ?_)
            refine lv_iinc (v := (x2 + 1)) (lv' := [(2, .int (x2 + 1)), (1, .int (0 : Int32)), (0, .ref Ta)]) hx hb dX10_allKnow_37 hl (k := 2) rfl rfl (by decide) rfl (fun ls hl => ?_)
            refine lv_goto (tgt := 4) hx hb dX10_allKnow_40 (by decide) ?_
            exact ih4 (0 : Int32) (x2 + 1) _ _ _ hf hP hD hS (lv_sub hl [2, 1, 0] rfl)
          · have hf := if_t c3 hf
            refine lv_iconst (v := (1 : Int32)) hx hb dX10_allKnow_31 (by decide) ?_
            refine lv_goto (tgt := 36) hx hb dX10_allKnow_32 (by decide) ?_
            refine lv_istore_n (lv' := [(1, .int (1 : Int32)), (0, .ref Ta), (2, .int x2)]) hx hb dX10_allKnow_36 rfl hl (by decide) rfl (fun ls hl => ?_)
            refine lv_iinc (v := (x2 + 1)) (lv' := [(2, .int (x2 + 1)), (1, .int (1 : Int32)), (0, .ref Ta)]) hx hb dX10_allKnow_37 hl (k := 2) rfl rfl (by decide) rfl (fun ls hl => ?_)
            refine lv_goto (tgt := 4) hx hb dX10_allKnow_40 (by decide) ?_
            exact ih4 (1 : Int32) (x2 + 1) _ _ _ hf hP hD hS (lv_sub hl [2, 1, 0] rfl)
  refine lv_iconst (v := (1 : Int32)) hx hb dX10_allKnow_0 (by decide) ?_
  refine lv_istore_n (lv' := [(1, .int (1 : Int32)), (0, .ref Ta)]) hx hb dX10_allKnow_1 rfl hl (by decide) rfl (fun ls hl => ?_)
  refine lv_iconst (v := (0 : Int32)) hx hb dX10_allKnow_2 (by decide) ?_
  refine lv_istore_n (lv' := [(2, .int (0 : Int32)), (1, .int (1 : Int32)), (0, .ref Ta)]) hx hb dX10_allKnow_3 rfl hl (by decide) rfl (fun ls hl => ?_)
  exact L4  fuel (1 : Int32) (0 : Int32) _ _ _ hf hP hD hS (lv_sub hl [2, 1, 0] rfl)
set_option maxRecDepth 100000 in
set_option maxHeartbeats 4000000 in
theorem kX10_gossip (l : Launch) (D : va_G) (cI cC cS : ClassId) (Ta Ta_s Ta_past Ta_aside Ta_text Ta_known Ta_then Ta_trip Ta_sent Ta_learned Ta_chosen Ta_decided : Nat) (x1 : Int32) (x2 : Int32) (x3 : Int32) (T_s : Nat → Int32) (T_past : Nat → Int32) (T_aside : Nat → Int32) (T_pasts : Int32) (T_text : Nat → Int32) (T_typed : Int32) (T_at : Int32) (T_from : Int32) (T_token : Int32) (T_many : Int32) (T_letters : Int64) (T_number : Int32) (T_known : Nat → Int32) (T_then : Nat → Int32) (T_trip : Nat → Int32) (T_sent : Nat → Int32) (T_learned : Nat → Int32) (T_chosen : Nat → Int32) (T_decided : Nat → Int32) (o : Int32 × (Nat → Int32) × (Nat → Int32) × (Nat → Int32) × (Nat → Int32)) (hf : fX10_gossip x1 x2 x3 T_s T_known T_sent T_learned T_chosen = some o) : CI l D yX10_gossip wsX10_gossip ({ frames := 3, cells := 0, slots := 0, locals := 73 } : Room) (tysK cI cC cS) [.ref Ta, .int x1, .int x2, .int x3] (sh_X10 Ta Ta_s Ta_past Ta_aside Ta_text Ta_known Ta_then Ta_trip Ta_sent Ta_learned Ta_chosen Ta_decided cI cC cS T_s T_past T_aside T_pasts T_text T_typed T_at T_from T_token T_many T_letters T_number T_known T_then T_trip T_sent T_learned T_chosen T_decided) o.1 (sh_X10 Ta Ta_s Ta_past Ta_aside Ta_text Ta_known Ta_then Ta_trip Ta_sent Ta_learned Ta_chosen Ta_decided cI cC cS T_s T_past T_aside T_pasts T_text T_typed T_at T_from T_token T_many T_letters T_number o.2.1 T_then T_trip o.2.2.1 o.2.2.2.1 o.2.2.2.2 T_decided) := by
  refine met_i (cc := cX10_gossip) (maxL := 5) (ret := (some .int)) (by decide) rfl (Nat.le_of_ble_eq_true rfl) ?_
  intro p e s m args below meth c R Q A F hR hQ hP hK hD hA hS ls hl
  obtain ⟨hx, hb, hr, hts, hml, hlocks, hown⟩ := F
  have hown : s.vm.findClass RX10 = some m.cls := hown
  have hi_X10 : ∀ w ∈ u_ws RX10 TX10 19, w ∈ wsX10_gossip := fun w h => List.mem_cons_of_mem _ (List.mem_append_right _ h)
  have q22 := hts (.fieldLink RX10 22 "ChangingRoundsModel" "known" "[I") (by decide +kernel)
  have hl : lv_has ls 5 [(0, .ref Ta), (1, .int x1), (2, .int x2), (3, .int x3)] := hl
  unfold fX10_gossip at hf
  have L33 : ∀ (n33 : Nat) (x4 : Int32) (T_known : Nat → Int32) (T_sent : Nat → Int32) (T_learned : Nat → Int32) (T_chosen : Nat → Int32) (H : Heap) (locs : List Loc) (ls : Array Slot), fX10_gossip_l33 x1 x2 x3 T_s n33 x4 T_known T_sent T_learned T_chosen = some o → va_P D vwCl (sh_X10 Ta Ta_s Ta_past Ta_aside Ta_text Ta_known Ta_then Ta_trip Ta_sent Ta_learned Ta_chosen Ta_decided cI cC cS T_s T_past T_aside T_pasts T_text T_typed T_at T_from T_token T_many T_letters T_number T_known T_then T_trip T_sent T_learned T_chosen T_decided) H → va_D A (sh_X10 Ta Ta_s Ta_past Ta_aside Ta_text Ta_known Ta_then Ta_trip Ta_sent Ta_learned Ta_chosen Ta_decided cI cC cS T_s T_past T_aside T_pasts T_text T_typed T_at T_from T_token T_many T_letters T_number T_known T_then T_trip T_sent T_learned T_chosen T_decided) → va_S A s.heap H locs → lv_has ls 5 [(0, .ref Ta), (1, .int x1), (2, .int x2), (3, .int x3), (4, .int x4)] → W p l e R s m args below meth c H locs 0 0 Q (F0 m 33 ls []) := by
    intro n33
    induction n33 with
    | zero => intro x4 T_known T_sent T_learned T_chosen H locs ls hf; cases (show (none : Option _) = some _ from hf)
    | succ n33 ih33 =>
      intro x4 T_known T_sent T_learned T_chosen H locs ls hf hP hD hS hl
      rw [fX10_gossip_l33] at hf
      refine lv_iload hx hb dX10_gossip_33 (lv_at hl 4 rfl) ?_
      refine lv_iload_n hx hb dX10_gossip_35 rfl (lv_at hl 3 rfl) ?_
      refine lv_icmp_ge (tgt := 52) hx hb dX10_gossip_36 (by decide) (fun c1 => ?_) (fun c1 => ?_)
      · have hf := if_t c1 hf
        refine lv_aload_n hx hb dX10_gossip_52 rfl (lv_at hl 0 rfl) ?_
        refine va_get (D := D) (ci := 7) (v := .ref Ta_known) (C := RX10) (T := TX10) (N := 19) hx hb hts hi_X10 hown hK hP 0 rfl rfl 12 (by decide) q22 (fun _ h9 => h9) rfl dX10_gossip_53 ?_
        refine lv_iload_n hx hb dX10_gossip_56 rfl (lv_at hl 2 rfl) ?_
        obtain ⟨hz, hf⟩ := ck_some hf
        refine sx_iald (j := x2.toNatClampNeg) hx hb hK hP 5 0 rfl rfl (inb_vp hz) rfl dX10_gossip_57 ?_
        have hf := Option.some.inj hf
        subst hf
        exact rt_i hx hb hr hlocks hQ hK hP hD hS rfl dX10_gossip_58
      · have hf := if_f c1 hf
        refine lv_aload_n hx hb dX10_gossip_39 rfl (lv_at hl 0 rfl) ?_
        refine lv_iload_n hx hb dX10_gossip_40 rfl (lv_at hl 1 rfl) ?_
        refine lv_iload hx hb dX10_gossip_41 (lv_at hl 4 rfl) ?_
        obtain ⟨o2, ho2, hf⟩ := bd_some hf
        refine cv_v (ci := 7) (q := (RX10, TX10, 19)) (As := [.int x1, .int x4]) (rest := []) hx hb hml hown hts hK hP hD hA hS (kX10_talks l D cI cC cS Ta Ta_s Ta_past Ta_aside Ta_text Ta_known Ta_then Ta_trip Ta_sent Ta_learned Ta_chosen Ta_decided x1 x4 T_s T_past T_aside T_pasts T_text T_typed T_at T_from T_token T_many T_letters T_number T_known T_then T_trip T_sent T_learned T_chosen T_decided o2 ho2) (cwV 2 hts gX10_gossip_X10_talks rfl rfl rfl (by decide +kernel) (by subst hR; exact ⟨Nat.le_of_ble_eq_true rfl, Nat.le_of_ble_eq_true rfl⟩)) [0, 1, 2, 3, 4, 5, 6, 7, 8, 9, 10, 11] [] [0, 1, 2, 3, 4, 5, 6, 7, 8, 9, 10, 11] [] (sh_X10 Ta Ta_s Ta_past Ta_aside Ta_text Ta_known Ta_then Ta_trip Ta_sent Ta_learned Ta_chosen Ta_decided cI cC cS T_s T_past T_aside T_pasts T_text T_typed T_at T_from T_token T_many T_letters T_number o2.1 T_then T_trip o2.2.1 o2.2.2.1 o2.2.2.2 T_decided) rfl rfl rfl rfl (by decide) rfl rfl rfl rfl rfl rfl hl.1 rfl (Nat.le_of_ble_eq_true rfl) ⟨Nat.zero_le _, Nat.zero_le _⟩ dX10_gossip_43 (fun H locs hP hD hS => ?_)
        refine lv_iinc (v := (x4 + 1)) (lv' := [(4, .int (x4 + 1)), (0, .ref Ta), (1, .int x1), (2, .int x2), (3, .int x3)]) hx hb dX10_gossip_46 hl (k := 4) rfl rfl (by decide) rfl (fun ls hl => ?_)
        refine lv_goto (tgt := 33) hx hb dX10_gossip_49 (by decide) ?_
        exact ih33 (x4 + 1) o2.1 o2.2.1 o2.2.2.1 o2.2.2.2 _ _ _ hf hP hD hS (lv_sub hl [1, 2, 3, 4, 0] rfl)
  refine lv_iload_n hx hb dX10_gossip_0 rfl (lv_at hl 1 rfl) ?_
  refine lv_iconst (v := (0 : Int32)) hx hb dX10_gossip_1 (by decide) ?_
  refine lv_iconst (v := (2 : Int32)) hx hb dX10_gossip_2 (by decide) ?_
  refine cs_i (As := [.int x1, .int (0 : Int32), .int (2 : Int32)]) (rest := []) hx hb hml hown hts hK hP hD hA hS (kX10_in l D cI cC cS  x1 (0 : Int32) (2 : Int32)  (fX10_in x1 (0 : Int32) (2 : Int32)) rfl) (va_cwS 3 hts gX10_gossip_X10_in rfl rfl rfl (by decide +kernel) (by subst hR; exact ⟨Nat.le_of_ble_eq_true rfl, Nat.le_of_ble_eq_true rfl⟩)) rfl hl.1 rfl (Nat.le_of_ble_eq_true rfl) ⟨Nat.zero_le _, Nat.zero_le _⟩ dX10_gossip_3 (fun H locs hP hD hS => ?_)
  refine lv_if_eq (tgt := 24) hx hb dX10_gossip_6 (by decide) (fun c3 => ?_) (fun c3 => ?_)
  · have hf := if_t c3 hf
    refine lv_iconst (v := (-1 : Int32)) hx hb dX10_gossip_24 (by decide) ?_
    have hf := Option.some.inj hf
    subst hf
    exact rt_i hx hb hr hlocks hQ hK hP hD hS rfl dX10_gossip_25
  · have hf := if_f c3 hf
    refine lv_aload_n hx hb dX10_gossip_9 rfl (lv_at hl 0 rfl) ?_
    refine lv_iload_n hx hb dX10_gossip_10 rfl (lv_at hl 2 rfl) ?_
    refine cv_i (ci := 7) (q := (RX10, TX10, 19)) (As := [.int x2]) (rest := []) hx hb hml hown hts hK hP hD hA hS (kX10_isNode l D cI cC cS Ta Ta_s Ta_past Ta_aside Ta_text Ta_known Ta_then Ta_trip Ta_sent Ta_learned Ta_chosen Ta_decided x2 T_s T_past T_aside T_pasts T_text T_typed T_at T_from T_token T_many T_letters T_number T_known T_then T_trip T_sent T_learned T_chosen T_decided (fX10_isNode x2 T_s) rfl) (cwV 1 hts gX10_gossip_X10_isNode rfl rfl rfl (by decide +kernel) (by subst hR; exact ⟨Nat.le_of_ble_eq_true rfl, Nat.le_of_ble_eq_true rfl⟩)) [0, 1, 2, 3, 4, 5, 6, 7, 8, 9, 10, 11] [] [0, 1, 2, 3, 4, 5, 6, 7, 8, 9, 10, 11] [] (sh_X10 Ta Ta_s Ta_past Ta_aside Ta_text Ta_known Ta_then Ta_trip Ta_sent Ta_learned Ta_chosen Ta_decided cI cC cS T_s T_past T_aside T_pasts T_text T_typed T_at T_from T_token T_many T_letters T_number T_known T_then T_trip T_sent T_learned T_chosen T_decided) rfl rfl rfl rfl (by decide) rfl rfl rfl rfl rfl rfl hl.1 rfl (Nat.le_of_ble_eq_true rfl) ⟨Nat.zero_le _, Nat.zero_le _⟩ dX10_gossip_11 (fun H locs hP hD hS => ?_)
    refine lv_if_eq (tgt := 24) hx hb dX10_gossip_14 (by decide) (fun c4 => ?_) (fun c4 => ?_)
    · have hf := if_t c4 hf
      refine lv_iconst (v := (-1 : Int32)) hx hb dX10_gossip_24 (by decide) ?_
      have hf := Option.some.inj hf
      subst hf
      exact rt_i hx hb hr hlocks hQ hK hP hD hS rfl dX10_gossip_25
    · have hf := if_f c4 hf
      refine lv_iload_n hx hb dX10_gossip_17 rfl (lv_at hl 3 rfl) ?_
      refine cs_i (As := [.int x3]) (rest := []) hx hb hml hown hts hK hP hD hA hS (kX10_isTime l D cI cC cS  x3  (fX10_isTime x3) rfl) (va_cwS 1 hts gX10_gossip_X10_isTime rfl rfl rfl (by decide +kernel) (by subst hR; exact ⟨Nat.le_of_ble_eq_true rfl, Nat.le_of_ble_eq_true rfl⟩)) rfl hl.1 rfl (Nat.le_of_ble_eq_true rfl) ⟨Nat.zero_le _, Nat.zero_le _⟩ dX10_gossip_18 (fun H locs hP hD hS => ?_)
      refine lv_if_ne (tgt := 26) hx hb dX10_gossip_21 (by decide) (fun c5 => ?_) (fun c5 => ?_)
      · have hf := if_f c5 hf
        refine lv_aload_n hx hb dX10_gossip_26 rfl (lv_at hl 0 rfl) ?_
        obtain ⟨o6, ho6, hf⟩ := bd_some hf
        refine cv_v (ci := 7) (q := (RX10, TX10, 19)) (As := []) (rest := []) hx hb hml hown hts hK hP hD hA hS (kX10_starts l D cI cC cS Ta Ta_s Ta_past Ta_aside Ta_text Ta_known Ta_then Ta_trip Ta_sent Ta_learned Ta_chosen Ta_decided  T_s T_past T_aside T_pasts T_text T_typed T_at T_from T_token T_many T_letters T_number T_known T_then T_trip T_sent T_learned T_chosen T_decided o6 ho6) (cwV 0 hts gX10_gossip_X10_starts rfl rfl rfl (by decide +kernel) (by subst hR; exact ⟨Nat.le_of_ble_eq_true rfl, Nat.le_of_ble_eq_true rfl⟩)) [0, 1, 2, 3, 4, 5, 6, 7, 8, 9, 10, 11] [] [0, 1, 2, 3, 4, 5, 6, 7, 8, 9, 10, 11] [] (sh_X10 Ta Ta_s Ta_past Ta_aside Ta_text Ta_known Ta_then Ta_trip Ta_sent Ta_learned Ta_chosen Ta_decided cI cC cS T_s T_past T_aside T_pasts T_text T_typed T_at T_from T_token T_many T_letters T_number o6.1 T_then T_trip o6.2.1 o6.2.2 T_chosen T_decided) rfl rfl rfl rfl (by decide) rfl rfl rfl rfl rfl rfl hl.1 rfl (Nat.le_of_ble_eq_true rfl) ⟨Nat.zero_le _, Nat.zero_le _⟩ dX10_gossip_27 (fun H locs hP hD hS => ?_)
        refine lv_iconst (v := (0 : Int32)) hx hb dX10_gossip_30 (by decide) ?_
        refine lv_istore (lv' := [(4, .int (0 : Int32)), (0, .ref Ta), (1, .int x1), (2, .int x2), (3, .int x3)]) hx hb dX10_gossip_31 hl (by decide) rfl (fun ls hl => ?_)
        exact L33  fuel (0 : Int32) o6.1 o6.2.1 o6.2.2 T_chosen _ _ _ hf hP hD hS (lv_sub hl [1, 2, 3, 4, 0] rfl)
      · have hf := if_t c5 hf
        refine lv_iconst (v := (-1 : Int32)) hx hb dX10_gossip_24 (by decide) ?_
        have hf := Option.some.inj hf
        subst hf
        exact rt_i hx hb hr hlocks hQ hK hP hD hS rfl dX10_gossip_25
set_option maxRecDepth 100000 in
set_option maxHeartbeats 4000000 in
theorem kX10_gossipTime (l : Launch) (D : va_G) (cI cC cS : ClassId) (Ta Ta_s Ta_past Ta_aside Ta_text Ta_known Ta_then Ta_trip Ta_sent Ta_learned Ta_chosen Ta_decided : Nat) (x1 : Int32) (T_s : Nat → Int32) (T_past : Nat → Int32) (T_aside : Nat → Int32) (T_pasts : Int32) (T_text : Nat → Int32) (T_typed : Int32) (T_at : Int32) (T_from : Int32) (T_token : Int32) (T_many : Int32) (T_letters : Int64) (T_number : Int32) (T_known : Nat → Int32) (T_then : Nat → Int32) (T_trip : Nat → Int32) (T_sent : Nat → Int32) (T_learned : Nat → Int32) (T_chosen : Nat → Int32) (T_decided : Nat → Int32) (o : Int32 × (Nat → Int32) × (Nat → Int32) × (Nat → Int32) × (Nat → Int32)) (hf : fX10_gossipTime x1 T_s T_known T_sent T_learned T_chosen = some o) : CI l D yX10_gossipTime wsX10_gossipTime ({ frames := 3, cells := 0, slots := 0, locals := 73 } : Room) (tysK cI cC cS) [.ref Ta, .int x1] (sh_X10 Ta Ta_s Ta_past Ta_aside Ta_text Ta_known Ta_then Ta_trip Ta_sent Ta_learned Ta_chosen Ta_decided cI cC cS T_s T_past T_aside T_pasts T_text T_typed T_at T_from T_token T_many T_letters T_number T_known T_then T_trip T_sent T_learned T_chosen T_decided) o.1 (sh_X10 Ta Ta_s Ta_past Ta_aside Ta_text Ta_known Ta_then Ta_trip Ta_sent Ta_learned Ta_chosen Ta_decided cI cC cS T_s T_past T_aside T_pasts T_text T_typed T_at T_from T_token T_many T_letters T_number o.2.1 T_then T_trip o.2.2.1 o.2.2.2.1 o.2.2.2.2 T_decided) := by
  refine met_i (cc := cX10_gossipTime) (maxL := 3) (ret := (some .int)) (by decide) rfl (Nat.le_of_ble_eq_true rfl) ?_
  intro p e s m args below meth c R Q A F hR hQ hP hK hD hA hS ls hl
  obtain ⟨hx, hb, hr, hts, hml, hlocks, hown⟩ := F
  have hown : s.vm.findClass RX10 = some m.cls := hown
  have hl : lv_has ls 3 [(0, .ref Ta), (1, .int x1)] := hl
  unfold fX10_gossipTime at hf
  have J42 : ∀ (x2 : Int32) (T_known : Nat → Int32) (T_sent : Nat → Int32) (T_learned : Nat → Int32) (T_chosen : Nat → Int32) (H : Heap) (locs : List Loc) (ls : Array Slot), fX10_gossipTime_b42 x2 T_known T_sent T_learned T_chosen = some o → va_P D vwCl (sh_X10 Ta Ta_s Ta_past Ta_aside Ta_text Ta_known Ta_then Ta_trip Ta_sent Ta_learned Ta_chosen Ta_decided cI cC cS T_s T_past T_aside T_pasts T_text T_typed T_at T_from T_token T_many T_letters T_number T_known T_then T_trip T_sent T_learned T_chosen T_decided) H → va_D A (sh_X10 Ta Ta_s Ta_past Ta_aside Ta_text Ta_known Ta_then Ta_trip Ta_sent Ta_learned Ta_chosen Ta_decided cI cC cS T_s T_past T_aside T_pasts T_text T_typed T_at T_from T_token T_many T_letters T_number T_known T_then T_trip T_sent T_learned T_chosen T_decided) → va_S A s.heap H locs → lv_has ls 3 [(2, .int x2)] → W p l e R s m args below meth c H locs 0 0 Q (F0 m 42 ls []) := by
    intro x2 T_known T_sent T_learned T_chosen H locs ls hf hP hD hS hl
    unfold fX10_gossipTime_b42 at hf
    refine lv_iload_n hx hb dX10_gossipTime_42 rfl (lv_at hl 0 rfl) ?_
    refine lv_bipush (v := (99 : Int32)) hx hb dX10_gossipTime_43 (by decide) ?_
    refine lv_icmp_gt (tgt := 52) hx hb dX10_gossipTime_45 (by decide) (fun c1 => ?_) (fun c1 => ?_)
    · have hf := if_t c1 hf
      refine lv_bipush (v := (-9 : Int32)) hx hb dX10_gossipTime_52 (by decide) ?_
      have hf := Option.some.inj hf
      subst hf
      exact rt_i hx hb hr hlocks hQ hK hP hD hS rfl dX10_gossipTime_54
    · have hf := if_f c1 hf
      refine lv_iload_n hx hb dX10_gossipTime_48 rfl (lv_at hl 0 rfl) ?_
      refine lv_goto (tgt := 54) hx hb dX10_gossipTime_49 (by decide) ?_
      have hf := Option.some.inj hf
      subst hf
      exact rt_i hx hb hr hlocks hQ hK hP hD hS rfl dX10_gossipTime_54
  have L17 : ∀ (n17 : Nat) (x2 : Int32) (T_known : Nat → Int32) (T_sent : Nat → Int32) (T_learned : Nat → Int32) (T_chosen : Nat → Int32) (H : Heap) (locs : List Loc) (ls : Array Slot), fX10_gossipTime_l17 x1 T_s n17 x2 T_known T_sent T_learned T_chosen = some o → va_P D vwCl (sh_X10 Ta Ta_s Ta_past Ta_aside Ta_text Ta_known Ta_then Ta_trip Ta_sent Ta_learned Ta_chosen Ta_decided cI cC cS T_s T_past T_aside T_pasts T_text T_typed T_at T_from T_token T_many T_letters T_number T_known T_then T_trip T_sent T_learned T_chosen T_decided) H → va_D A (sh_X10 Ta Ta_s Ta_past Ta_aside Ta_text Ta_known Ta_then Ta_trip Ta_sent Ta_learned Ta_chosen Ta_decided cI cC cS T_s T_past T_aside T_pasts T_text T_typed T_at T_from T_token T_many T_letters T_number T_known T_then T_trip T_sent T_learned T_chosen T_decided) → va_S A s.heap H locs → lv_has ls 3 [(0, .ref Ta), (1, .int x1), (2, .int x2)] → W p l e R s m args below meth c H locs 0 0 Q (F0 m 17 ls []) := by
    intro n17
    induction n17 with
    | zero => intro x2 T_known T_sent T_learned T_chosen H locs ls hf; cases (show (none : Option _) = some _ from hf)
    | succ n17 ih17 =>
      intro x2 T_known T_sent T_learned T_chosen H locs ls hf hP hD hS hl
      rw [fX10_gossipTime_l17] at hf
      refine lv_iload_n hx hb dX10_gossipTime_17 rfl (lv_at hl 2 rfl) ?_
      refine lv_bipush (v := (99 : Int32)) hx hb dX10_gossipTime_18 (by decide) ?_
      refine lv_icmp_gt (tgt := 42) hx hb dX10_gossipTime_20 (by decide) (fun c2 => ?_) (fun c2 => ?_)
      · have hf := if_t c2 hf
        exact J42 x2 T_known T_sent T_learned T_chosen _ _ _ hf hP hD hS (lv_sub hl [2] rfl)
      · have hf := if_f c2 hf
        refine lv_aload_n hx hb dX10_gossipTime_23 rfl (lv_at hl 0 rfl) ?_
        obtain ⟨o3, ho3, hf⟩ := bd_some hf
        refine cv_i (ci := 7) (q := (RX10, TX10, 19)) (As := []) (rest := []) hx hb hml hown hts hK hP hD hA hS (kX10_allKnow l D cI cC cS Ta Ta_s Ta_past Ta_aside Ta_text Ta_known Ta_then Ta_trip Ta_sent Ta_learned Ta_chosen Ta_decided  T_s T_past T_aside T_pasts T_text T_typed T_at T_from T_token T_many T_letters T_number T_known T_then T_trip T_sent T_learned T_chosen T_decided o3 ho3) (cwV 0 hts gX10_gossipTime_X10_allKnow rfl rfl rfl (by decide +kernel) (by subst hR; exact ⟨Nat.le_of_ble_eq_true rfl, Nat.le_of_ble_eq_true rfl⟩)) [0, 1, 2, 3, 4, 5, 6, 7, 8, 9, 10, 11] [] [0, 1, 2, 3, 4, 5, 6, 7, 8, 9, 10, 11] [] (sh_X10 Ta Ta_s Ta_past Ta_aside Ta_text Ta_known Ta_then Ta_trip Ta_sent Ta_learned Ta_chosen Ta_decided cI cC cS T_s T_past T_aside T_pasts T_text T_typed T_at T_from T_token T_many T_letters T_number T_known T_then T_trip T_sent T_learned T_chosen T_decided) rfl rfl rfl rfl (by decide) rfl rfl rfl rfl rfl rfl hl.1 rfl (Nat.le_of_ble_eq_true rfl) ⟨Nat.zero_le _, Nat.zero_le _⟩ dX10_gossipTime_24 (fun H locs hP hD hS => ?_)
        refine lv_if_ne (tgt := 42) hx hb dX10_gossipTime_27 (by decide) (fun c4 => ?_) (fun c4 => ?_)
        · have hf := if_f c4 hf
          exact J42 x2 T_known T_sent T_learned T_chosen _ _ _ hf hP hD hS (lv_sub hl [2] rfl)
        · have hf := if_t c4 hf
          refine lv_aload_n hx hb dX10_gossipTime_30 rfl (lv_at hl 0 rfl) ?_
          refine lv_iload_n hx hb dX10_gossipTime_31 rfl (lv_at hl 1 rfl) ?_
          refine lv_iload_n hx hb dX10_gossipTime_32 rfl (lv_at hl 2 rfl) ?_
          obtain ⟨o5, ho5, hf⟩ := bd_some hf
          refine cv_v (ci := 7) (q := (RX10, TX10, 19)) (As := [.int x1, .int x2]) (rest := []) hx hb hml hown hts hK hP hD hA hS (kX10_talks l D cI cC cS Ta Ta_s Ta_past Ta_aside Ta_text Ta_known Ta_then Ta_trip Ta_sent Ta_learned Ta_chosen Ta_decided x1 x2 T_s T_past T_aside T_pasts T_text T_typed T_at T_from T_token T_many T_letters T_number T_known T_then T_trip T_sent T_learned T_chosen T_decided o5 ho5) (cwV 2 hts gX10_gossipTime_X10_talks rfl rfl rfl (by decide +kernel) (by subst hR; exact ⟨Nat.le_of_ble_eq_true rfl, Nat.le_of_ble_eq_true rfl⟩)) [0, 1, 2, 3, 4, 5, 6, 7, 8, 9, 10, 11] [] [0, 1, 2, 3, 4, 5, 6, 7, 8, 9, 10, 11] [] (sh_X10 Ta Ta_s Ta_past Ta_aside Ta_text Ta_known Ta_then Ta_trip Ta_sent Ta_learned Ta_chosen Ta_decided cI cC cS T_s T_past T_aside T_pasts T_text T_typed T_at T_from T_token T_many T_letters T_number o5.1 T_then T_trip o5.2.1 o5.2.2.1 o5.2.2.2 T_decided) rfl rfl rfl rfl (by decide) rfl rfl rfl rfl rfl rfl hl.1 rfl (Nat.le_of_ble_eq_true rfl) ⟨Nat.zero_le _, Nat.zero_le _⟩ dX10_gossipTime_33 (fun H locs hP hD hS => ?_)
          refine lv_iinc (v := (x2 + 1)) (lv' := [(2, .int (x2 + 1)), (0, .ref Ta), (1, .int x1)]) hx hb dX10_gossipTime_36 hl (k := 2) rfl rfl (by decide) rfl (fun ls hl => ?_)
          refine lv_goto (tgt := 17) hx hb dX10_gossipTime_39 (by decide) ?_
          exact ih17 (x2 + 1) o5.1 o5.2.1 o5.2.2.1 o5.2.2.2 _ _ _ hf hP hD hS (lv_sub hl [1, 2, 0] rfl)
  refine lv_iload_n hx hb dX10_gossipTime_0 rfl (lv_at hl 1 rfl) ?_
  refine lv_iconst (v := (0 : Int32)) hx hb dX10_gossipTime_1 (by decide) ?_
  refine lv_iconst (v := (2 : Int32)) hx hb dX10_gossipTime_2 (by decide) ?_
  refine cs_i (As := [.int x1, .int (0 : Int32), .int (2 : Int32)]) (rest := []) hx hb hml hown hts hK hP hD hA hS (kX10_in l D cI cC cS  x1 (0 : Int32) (2 : Int32)  (fX10_in x1 (0 : Int32) (2 : Int32)) rfl) (va_cwS 3 hts gX10_gossipTime_X10_in rfl rfl rfl (by decide +kernel) (by subst hR; exact ⟨Nat.le_of_ble_eq_true rfl, Nat.le_of_ble_eq_true rfl⟩)) rfl hl.1 rfl (Nat.le_of_ble_eq_true rfl) ⟨Nat.zero_le _, Nat.zero_le _⟩ dX10_gossipTime_3 (fun H locs hP hD hS => ?_)
  refine lv_if_ne (tgt := 11) hx hb dX10_gossipTime_6 (by decide) (fun c6 => ?_) (fun c6 => ?_)
  · have hf := if_f c6 hf
    refine lv_aload_n hx hb dX10_gossipTime_11 rfl (lv_at hl 0 rfl) ?_
    obtain ⟨o7, ho7, hf⟩ := bd_some hf
    refine cv_v (ci := 7) (q := (RX10, TX10, 19)) (As := []) (rest := []) hx hb hml hown hts hK hP hD hA hS (kX10_starts l D cI cC cS Ta Ta_s Ta_past Ta_aside Ta_text Ta_known Ta_then Ta_trip Ta_sent Ta_learned Ta_chosen Ta_decided  T_s T_past T_aside T_pasts T_text T_typed T_at T_from T_token T_many T_letters T_number T_known T_then T_trip T_sent T_learned T_chosen T_decided o7 ho7) (cwV 0 hts gX10_gossipTime_X10_starts rfl rfl rfl (by decide +kernel) (by subst hR; exact ⟨Nat.le_of_ble_eq_true rfl, Nat.le_of_ble_eq_true rfl⟩)) [0, 1, 2, 3, 4, 5, 6, 7, 8, 9, 10, 11] [] [0, 1, 2, 3, 4, 5, 6, 7, 8, 9, 10, 11] [] (sh_X10 Ta Ta_s Ta_past Ta_aside Ta_text Ta_known Ta_then Ta_trip Ta_sent Ta_learned Ta_chosen Ta_decided cI cC cS T_s T_past T_aside T_pasts T_text T_typed T_at T_from T_token T_many T_letters T_number o7.1 T_then T_trip o7.2.1 o7.2.2 T_chosen T_decided) rfl rfl rfl rfl (by decide) rfl rfl rfl rfl rfl rfl hl.1 rfl (Nat.le_of_ble_eq_true rfl) ⟨Nat.zero_le _, Nat.zero_le _⟩ dX10_gossipTime_12 (fun H locs hP hD hS => ?_)
    refine lv_iconst (v := (0 : Int32)) hx hb dX10_gossipTime_15 (by decide) ?_
    refine lv_istore_n (lv' := [(2, .int (0 : Int32)), (0, .ref Ta), (1, .int x1)]) hx hb dX10_gossipTime_16 rfl hl (by decide) rfl (fun ls hl => ?_)
    exact L17  fuel (0 : Int32) o7.1 o7.2.1 o7.2.2 T_chosen _ _ _ hf hP hD hS (lv_sub hl [1, 2, 0] rfl)
  · have hf := if_t c6 hf
    refine lv_iconst (v := (-1 : Int32)) hx hb dX10_gossipTime_9 (by decide) ?_
    have hf := Option.some.inj hf
    subst hf
    exact rt_i hx hb hr hlocks hQ hK hP hD hS rfl dX10_gossipTime_10
