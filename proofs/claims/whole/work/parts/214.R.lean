set_option maxRecDepth 100000 in
set_option maxHeartbeats 4000000 in
theorem kX10_phase (l : Launch) (D : va_G) (cI cC cS : ClassId) (Ta Ta_s Ta_past Ta_aside Ta_text Ta_known Ta_then Ta_trip Ta_sent Ta_learned Ta_chosen Ta_decided : Nat) (x1 : Int32) (x2 : Int32) (T_s : Nat → Int32) (T_past : Nat → Int32) (T_aside : Nat → Int32) (T_pasts : Int32) (T_text : Nat → Int32) (T_typed : Int32) (T_at : Int32) (T_from : Int32) (T_token : Int32) (T_many : Int32) (T_letters : Int64) (T_number : Int32) (T_known : Nat → Int32) (T_then : Nat → Int32) (T_trip : Nat → Int32) (T_sent : Nat → Int32) (T_learned : Nat → Int32) (T_chosen : Nat → Int32) (T_decided : Nat → Int32) (o : (Nat → Int32) × (Nat → Int32) × (Nat → Int32)) (hf : fX10_phase x1 x2 T_s T_known T_then T_decided = some o) : CV l D yX10_phase wsX10_phase ({ frames := 3, cells := 0, slots := 0, locals := 68 } : Room) (tysK cI cC cS) [.ref Ta, .int x1, .int x2] (sh_X10 Ta Ta_s Ta_past Ta_aside Ta_text Ta_known Ta_then Ta_trip Ta_sent Ta_learned Ta_chosen Ta_decided cI cC cS T_s T_past T_aside T_pasts T_text T_typed T_at T_from T_token T_many T_letters T_number T_known T_then T_trip T_sent T_learned T_chosen T_decided) (sh_X10 Ta Ta_s Ta_past Ta_aside Ta_text Ta_known Ta_then Ta_trip Ta_sent Ta_learned Ta_chosen Ta_decided cI cC cS T_s T_past T_aside T_pasts T_text T_typed T_at T_from T_token T_many T_letters T_number o.1 o.2.1 T_trip T_sent T_learned T_chosen o.2.2) := by
  refine met_v (cc := cX10_phase) (maxL := 6) (ret := none) (by decide) rfl (Nat.le_of_ble_eq_true rfl) ?_
  intro p e s m args below meth c R Q A F hR hQ hP hK hD hA hS ls hl
  obtain ⟨hx, hb, hr, hts, hml, hlocks, hown⟩ := F
  have hown : s.vm.findClass RX10 = some m.cls := hown
  have hi_X10 : ∀ w ∈ u_ws RX10 TX10 19, w ∈ wsX10_phase := fun w h => List.mem_cons_of_mem _ (List.mem_append_right _ h)
  have q7 := hts (.fieldLink RX10 7 "ChangingRoundsModel" "s" "[I") (by decide +kernel)
  have q22 := hts (.fieldLink RX10 22 "ChangingRoundsModel" "known" "[I") (by decide +kernel)
  have q40 := hts (.fieldLink RX10 40 "ChangingRoundsModel" "decided" "[I") (by decide +kernel)
  have hl : lv_has ls 6 [(0, .ref Ta), (1, .int x1), (2, .int x2)] := hl
  unfold fX10_phase at hf
  have L87 : ∀ (x3 : Int32) (T_known : Nat → Int32) (T_then : Nat → Int32) (n87 : Nat) (x4 : Int32) (T_decided : Nat → Int32) (H : Heap) (locs : List Loc) (ls : Array Slot), fX10_phase_l87 x3 T_s T_known T_then n87 x4 T_decided = some o → va_P D vwCl (sh_X10 Ta Ta_s Ta_past Ta_aside Ta_text Ta_known Ta_then Ta_trip Ta_sent Ta_learned Ta_chosen Ta_decided cI cC cS T_s T_past T_aside T_pasts T_text T_typed T_at T_from T_token T_many T_letters T_number T_known T_then T_trip T_sent T_learned T_chosen T_decided) H → va_D A (sh_X10 Ta Ta_s Ta_past Ta_aside Ta_text Ta_known Ta_then Ta_trip Ta_sent Ta_learned Ta_chosen Ta_decided cI cC cS T_s T_past T_aside T_pasts T_text T_typed T_at T_from T_token T_many T_letters T_number T_known T_then T_trip T_sent T_learned T_chosen T_decided) → va_S A s.heap H locs → lv_has ls 6 [(0, .ref Ta), (3, .int x3), (4, .int x4)] → W p l e R s m args below meth c H locs 0 0 Q (F0 m 87 ls []) := by
    intro x3 T_known T_then n87
    induction n87 with
    | zero => intro x4 T_decided H locs ls hf; cases (show (none : Option _) = some _ from hf)
    | succ n87 ih87 =>
      have J122 : ∀ (x4 : Int32) (y0 : Int32) (T_decided : Nat → Int32) (H : Heap) (locs : List Loc) (ls : Array Slot), fX10_phase_b122 (fX10_phase_l87 x3 T_s T_known T_then n87) x3 x4 y0 T_s T_known T_then T_decided = some o → va_P D vwCl (sh_X10 Ta Ta_s Ta_past Ta_aside Ta_text Ta_known Ta_then Ta_trip Ta_sent Ta_learned Ta_chosen Ta_decided cI cC cS T_s T_past T_aside T_pasts T_text T_typed T_at T_from T_token T_many T_letters T_number T_known T_then T_trip T_sent T_learned T_chosen T_decided) H → va_D A (sh_X10 Ta Ta_s Ta_past Ta_aside Ta_text Ta_known Ta_then Ta_trip Ta_sent Ta_learned Ta_chosen Ta_decided cI cC cS T_s T_past T_aside T_pasts T_text T_typed T_at T_from T_token T_many T_letters T_number T_known T_then T_trip T_sent T_learned T_chosen T_decided) → va_S A s.heap H locs → lv_has ls 6 [(0, .ref Ta), (3, .int x3), (4, .int x4)] → W p l e R s m args below meth c H locs 0 0 Q (F0 m 122 ls [.int y0]) := by
        intro x4 y0 T_decided H locs ls hf hP hD hS hl
        unfold fX10_phase_b122 at hf
        refine lv_istore (lv' := [(5, .int y0), (0, .ref Ta), (3, .int x3), (4, .int x4)]) hx hb dX10_phase_122 hl (by decide) rfl (fun ls hl => ?_)
        refine lv_aload_n hx hb dX10_phase_124 rfl (lv_at hl 1 rfl) ?_
        refine va_get (D := D) (ci := 7) (v := .ref Ta_decided) (C := RX10) (T := TX10) (N := 19) hx hb hts hi_X10 hown hK hP 0 rfl rfl 18 (by decide) q40 (fun _ h9 => h9) rfl dX10_phase_125 ?_
        refine lv_iload hx hb dX10_phase_128 (lv_at hl 3 rfl) ?_
        refine lv_iload hx hb dX10_phase_130 (lv_at hl 0 rfl) ?_
        refine lv_if_eq (tgt := 148) hx hb dX10_phase_132 (by decide) (fun c1 => ?_) (fun c1 => ?_)
        · have hf := if_t c1 hf
          refine lv_aload_n hx hb dX10_phase_148 rfl (lv_at hl 1 rfl) ?_
          refine va_get (D := D) (ci := 7) (v := .ref Ta_decided) (C := RX10) (T := TX10) (N := 19) hx hb hts hi_X10 hown hK hP 0 rfl rfl 18 (by decide) q40 (fun _ h9 => h9) rfl dX10_phase_149 ?_
          refine lv_iload hx hb dX10_phase_152 (lv_at hl 3 rfl) ?_
          obtain ⟨hz, hf⟩ := ck_some hf
          refine sx_iald (j := x4.toNatClampNeg) hx hb hK hP 11 0 rfl rfl (inb_vp hz) rfl dX10_phase_154 ?_
          obtain ⟨hz, hf⟩ := ck_some hf
          refine sx_iast (j := x4.toNatClampNeg) hx hb hK hP hD hS 11 0 rfl rfl (inb_vp hz) rfl dX10_phase_155 (sh_X10 Ta Ta_s Ta_past Ta_aside Ta_text Ta_known Ta_then Ta_trip Ta_sent Ta_learned Ta_chosen Ta_decided cI cC cS T_s T_past T_aside T_pasts T_text T_typed T_at T_from T_token T_many T_letters T_number T_known T_then T_trip T_sent T_learned T_chosen (upd T_decided x4.toNatClampNeg (T_decided x4.toNatClampNeg))) rfl (fun H locs hP hD hS => ?_)
          refine lv_iinc (v := (x4 + 1)) (lv' := [(4, .int (x4 + 1)), (5, .int y0), (0, .ref Ta), (3, .int x3)]) hx hb dX10_phase_156 hl (k := 3) rfl rfl (by decide) rfl (fun ls hl => ?_)
          refine lv_goto (tgt := 87) hx hb dX10_phase_159 (by decide) ?_
          exact ih87 (x4 + 1) (upd T_decided x4.toNatClampNeg (T_decided x4.toNatClampNeg)) _ _ _ hf hP hD hS (lv_sub hl [2, 3, 0] rfl)
        · have hf := if_f c1 hf
          refine lv_aload_n hx hb dX10_phase_135 rfl (lv_at hl 1 rfl) ?_
          refine va_get (D := D) (ci := 7) (v := .ref Ta_known) (C := RX10) (T := TX10) (N := 19) hx hb hts hi_X10 hown hK hP 0 rfl rfl 12 (by decide) q22 (fun _ h9 => h9) rfl dX10_phase_136 ?_
          refine lv_iload hx hb dX10_phase_139 (lv_at hl 3 rfl) ?_
          obtain ⟨hz, hf⟩ := ck_some hf
          refine sx_iald (j := x4.toNatClampNeg) hx hb hK hP 5 0 rfl rfl (inb_vp hz) rfl dX10_phase_141 ?_
          obtain ⟨o2, ho2, hf⟩ := bd_some hf
          refine cs_i (As := [.int (T_known x4.toNatClampNeg)]) (rest := [.int x4, .ref Ta_decided]) hx hb hml hown hts hK hP hD hA hS (kX10_size l D cI cC cS  (T_known x4.toNatClampNeg)  o2 ho2) (va_cwS 1 hts gX10_phase_X10_size rfl rfl rfl (by decide +kernel) (by subst hR; exact ⟨Nat.le_of_ble_eq_true rfl, Nat.le_of_ble_eq_true rfl⟩)) rfl hl.1 rfl (Nat.le_of_ble_eq_true rfl) ⟨Nat.zero_le _, Nat.zero_le _⟩ dX10_phase_142 (fun H locs hP hD hS => ?_)
          refine lv_goto (tgt := 155) hx hb dX10_phase_145 (by decide) ?_
          obtain ⟨hz, hf⟩ := ck_some hf
          refine sx_iast (j := x4.toNatClampNeg) hx hb hK hP hD hS 11 0 rfl rfl (inb_vp hz) rfl dX10_phase_155 (sh_X10 Ta Ta_s Ta_past Ta_aside Ta_text Ta_known Ta_then Ta_trip Ta_sent Ta_learned Ta_chosen Ta_decided cI cC cS T_s T_past T_aside T_pasts T_text T_typed T_at T_from T_token T_many T_letters T_number T_known T_then T_trip T_sent T_learned T_chosen (upd T_decided x4.toNatClampNeg o2)) rfl (fun H locs hP hD hS => ?_)
          refine lv_iinc (v := (x4 + 1)) (lv' := [(4, .int (x4 + 1)), (5, .int y0), (0, .ref Ta), (3, .int x3)]) hx hb dX10_phase_156 hl (k := 3) rfl rfl (by decide) rfl (fun ls hl => ?_)
          refine lv_goto (tgt := 87) hx hb dX10_phase_159 (by decide) ?_
          exact ih87 (x4 + 1) (upd T_decided x4.toNatClampNeg o2) _ _ _ hf hP hD hS (lv_sub hl [2, 3, 0] rfl)
      intro x4 T_decided H locs ls hf hP hD hS hl
      rw [fX10_phase_l87] at hf
      refine lv_iload hx hb dX10_phase_87 (lv_at hl 2 rfl) ?_
      refine lv_aload_n hx hb dX10_phase_89 rfl (lv_at hl 0 rfl) ?_
      refine va_get (D := D) (ci := 7) (v := .ref Ta_s) (C := RX10) (T := TX10) (N := 19) hx hb hts hi_X10 hown hK hP 0 rfl rfl 0 (by decide) q7 (fun _ h9 => h9) rfl dX10_phase_90 ?_
      refine lv_iconst (v := (0 : Int32)) hx hb dX10_phase_93 (by decide) ?_
      refine sx_iald (j := 0) hx hb hK hP 1 0 rfl rfl (inb_vp (by decide)) (by decide) dX10_phase_94 ?_
      refine lv_icmp_ge (tgt := 162) hx hb dX10_phase_95 (by decide) (fun c3 => ?_) (fun c3 => ?_)
      · have hf := if_t c3 hf
        have hf := Option.some.inj hf
        subst hf
        exact rt_v hx hb hr hlocks hQ hK hP hD hS dX10_phase_162
      · have hf := if_f c3 hf
        refine lv_iload_n hx hb dX10_phase_98 rfl (lv_at hl 1 rfl) ?_
        refine lv_iload hx hb dX10_phase_99 (lv_at hl 2 rfl) ?_
        refine lv_ishr hx hb dX10_phase_101 ?_
        refine lv_iconst (v := (1 : Int32)) hx hb dX10_phase_102 (by decide) ?_
        refine lv_iand hx hb dX10_phase_103 ?_
        refine lv_if_ne (tgt := 121) hx hb dX10_phase_104 (by decide) (fun c4 => ?_) (fun c4 => ?_)
        · have hf := if_f c4 hf
          refine lv_iconst (v := (0 : Int32)) hx hb dX10_phase_121 (by decide) ?_
          exact J122 x4 (0 : Int32) T_decided _ _ _ hf hP hD hS (lv_sub hl [0, 1, 2] rfl)
        · have hf := if_t c4 hf
          refine lv_aload_n hx hb dX10_phase_107 rfl (lv_at hl 0 rfl) ?_
          refine va_get (D := D) (ci := 7) (v := .ref Ta_decided) (C := RX10) (T := TX10) (N := 19) hx hb hts hi_X10 hown hK hP 0 rfl rfl 18 (by decide) q40 (fun _ h9 => h9) rfl dX10_phase_108 ?_
          refine lv_iload hx hb dX10_phase_111 (lv_at hl 2 rfl) ?_
          obtain ⟨hz, hf⟩ := ck_some hf
          refine sx_iald (j := x4.toNatClampNeg) hx hb hK hP 11 0 rfl rfl (inb_vp hz) rfl dX10_phase_113 ?_
          refine lv_if_ne (tgt := 121) hx hb dX10_phase_114 (by decide) (fun c5 => ?_) (fun c5 => ?_)
          · have hf := if_f c5 hf
            refine lv_iconst (v := (0 : Int32)) hx hb dX10_phase_121 (by decide) ?_
            exact J122 x4 (0 : Int32) T_decided _ _ _ hf hP hD hS (lv_sub hl [0, 1, 2] rfl)
          · have hf := if_t c5 hf
            refine lv_iconst (v := (1 : Int32)) hx hb dX10_phase_117 (by decide) ?_
            refine lv_goto (tgt := 122) hx hb dX10_phase_118 (by decide) ?_
            exact J122 x4 (1 : Int32) T_decided _ _ _ hf hP hD hS (lv_sub hl [0, 1, 2] rfl)
  have L56 : ∀ (T_known : Nat → Int32) (T_then : Nat → Int32) (T_decided : Nat → Int32) (n56 : Nat) (x3 : Int32) (x4 : Int32) (H : Heap) (locs : List Loc) (ls : Array Slot), fX10_phase_l56 x1 x2 T_s T_known T_then T_decided n56 x3 x4 = some o → va_P D vwCl (sh_X10 Ta Ta_s Ta_past Ta_aside Ta_text Ta_known Ta_then Ta_trip Ta_sent Ta_learned Ta_chosen Ta_decided cI cC cS T_s T_past T_aside T_pasts T_text T_typed T_at T_from T_token T_many T_letters T_number T_known T_then T_trip T_sent T_learned T_chosen T_decided) H → va_D A (sh_X10 Ta Ta_s Ta_past Ta_aside Ta_text Ta_known Ta_then Ta_trip Ta_sent Ta_learned Ta_chosen Ta_decided cI cC cS T_s T_past T_aside T_pasts T_text T_typed T_at T_from T_token T_many T_letters T_number T_known T_then T_trip T_sent T_learned T_chosen T_decided) → va_S A s.heap H locs → lv_has ls 6 [(0, .ref Ta), (1, .int x1), (2, .int x2), (3, .int x3), (4, .int x4)] → W p l e R s m args below meth c H locs 0 0 Q (F0 m 56 ls []) := by
    intro T_known T_then T_decided n56
    induction n56 with
    | zero => intro x3 x4 H locs ls hf; cases (show (none : Option _) = some _ from hf)
    | succ n56 ih56 =>
      intro x3 x4 H locs ls hf hP hD hS hl
      rw [fX10_phase_l56] at hf
      refine lv_iload hx hb dX10_phase_56 (lv_at hl 4 rfl) ?_
      refine lv_iconst (v := (2 : Int32)) hx hb dX10_phase_58 (by decide) ?_
      refine lv_iload_n hx hb dX10_phase_59 rfl (lv_at hl 1 rfl) ?_
      refine lv_imul hx hb dX10_phase_60 ?_
      refine lv_icmp_ge (tgt := 84) hx hb dX10_phase_61 (by decide) (fun c6 => ?_) (fun c6 => ?_)
      · have hf := if_t c6 hf
        refine lv_iconst (v := (0 : Int32)) hx hb dX10_phase_84 (by decide) ?_
        refine lv_istore (lv' := [(4, .int (0 : Int32)), (0, .ref Ta), (1, .int x1), (2, .int x2), (3, .int x3)]) hx hb dX10_phase_85 hl (by decide) rfl (fun ls hl => ?_)
        exact L87 x3 T_known T_then fuel (0 : Int32) T_decided _ _ _ hf hP hD hS (lv_sub hl [1, 4, 0] rfl)
      · have hf := if_f c6 hf
        refine lv_aload_n hx hb dX10_phase_64 rfl (lv_at hl 0 rfl) ?_
        refine lv_aload_n hx hb dX10_phase_65 rfl (lv_at hl 0 rfl) ?_
        refine lv_iload_n hx hb dX10_phase_66 rfl (lv_at hl 2 rfl) ?_
        refine lv_iload hx hb dX10_phase_67 (lv_at hl 4 rfl) ?_
        refine lv_iadd hx hb dX10_phase_69 ?_
        obtain ⟨o7, ho7, hf⟩ := bd_some hf
        refine cv_i (ci := 7) (q := (RX10, TX10, 19)) (As := [.int (x2 + x4)]) (rest := [.ref Ta]) hx hb hml hown hts hK hP hD hA hS (kX10_edgesAt l D cI cC cS Ta Ta_s Ta_past Ta_aside Ta_text Ta_known Ta_then Ta_trip Ta_sent Ta_learned Ta_chosen Ta_decided (x2 + x4) T_s T_past T_aside T_pasts T_text T_typed T_at T_from T_token T_many T_letters T_number T_known T_then T_trip T_sent T_learned T_chosen T_decided o7 ho7) (cwV 1 hts gX10_phase_X10_edgesAt rfl rfl rfl (by decide +kernel) (by subst hR; exact ⟨Nat.le_of_ble_eq_true rfl, Nat.le_of_ble_eq_true rfl⟩)) [0, 1, 2, 3, 4, 5, 6, 7, 8, 9, 10, 11] [] [0, 1, 2, 3, 4, 5, 6, 7, 8, 9, 10, 11] [] (sh_X10 Ta Ta_s Ta_past Ta_aside Ta_text Ta_known Ta_then Ta_trip Ta_sent Ta_learned Ta_chosen Ta_decided cI cC cS T_s T_past T_aside T_pasts T_text T_typed T_at T_from T_token T_many T_letters T_number T_known T_then T_trip T_sent T_learned T_chosen T_decided) rfl rfl rfl rfl (by decide) rfl rfl rfl rfl rfl rfl hl.1 rfl (Nat.le_of_ble_eq_true rfl) ⟨Nat.zero_le _, Nat.zero_le _⟩ dX10_phase_70 (fun H locs hP hD hS => ?_)
        refine lv_iload_n hx hb dX10_phase_73 rfl (lv_at hl 3 rfl) ?_
        obtain ⟨o8, ho8, hf⟩ := bd_some hf
        refine cv_i (ci := 7) (q := (RX10, TX10, 19)) (As := [.int o7, .int x3]) (rest := []) hx hb hml hown hts hK hP hD hA hS (kX10_around l D cI cC cS Ta Ta_s Ta_past Ta_aside Ta_text Ta_known Ta_then Ta_trip Ta_sent Ta_learned Ta_chosen Ta_decided o7 x3 T_s T_past T_aside T_pasts T_text T_typed T_at T_from T_token T_many T_letters T_number T_known T_then T_trip T_sent T_learned T_chosen T_decided o8 ho8) (cwV 2 hts gX10_phase_X10_around rfl rfl rfl (by decide +kernel) (by subst hR; exact ⟨Nat.le_of_ble_eq_true rfl, Nat.le_of_ble_eq_true rfl⟩)) [0, 1, 2, 3, 4, 5, 6, 7, 8, 9, 10, 11] [] [0, 1, 2, 3, 4, 5, 6, 7, 8, 9, 10, 11] [] (sh_X10 Ta Ta_s Ta_past Ta_aside Ta_text Ta_known Ta_then Ta_trip Ta_sent Ta_learned Ta_chosen Ta_decided cI cC cS T_s T_past T_aside T_pasts T_text T_typed T_at T_from T_token T_many T_letters T_number T_known T_then T_trip T_sent T_learned T_chosen T_decided) rfl rfl rfl rfl (by decide) rfl rfl rfl rfl rfl rfl hl.1 rfl (Nat.le_of_ble_eq_true rfl) ⟨Nat.zero_le _, Nat.zero_le _⟩ dX10_phase_74 (fun H locs hP hD hS => ?_)
        refine lv_istore_n (lv' := [(3, .int o8), (0, .ref Ta), (1, .int x1), (2, .int x2), (4, .int x4)]) hx hb dX10_phase_77 rfl hl (by decide) rfl (fun ls hl => ?_)
        refine lv_iinc (v := (x4 + 1)) (lv' := [(4, .int (x4 + 1)), (3, .int o8), (0, .ref Ta), (1, .int x1), (2, .int x2)]) hx hb dX10_phase_78 hl (k := 4) rfl rfl (by decide) rfl (fun ls hl => ?_)
        refine lv_goto (tgt := 56) hx hb dX10_phase_81 (by decide) ?_
        exact ih56 o8 (x4 + 1) _ _ _ hf hP hD hS (lv_sub hl [2, 3, 4, 1, 0] rfl)
  have L11 : ∀ (T_known : Nat → Int32) (T_then : Nat → Int32) (T_decided : Nat → Int32) (n11 : Nat) (x3 : Int32) (x4 : Int32) (H : Heap) (locs : List Loc) (ls : Array Slot), fX10_phase_l11 x1 x2 T_s T_known T_then T_decided n11 x3 x4 = some o → va_P D vwCl (sh_X10 Ta Ta_s Ta_past Ta_aside Ta_text Ta_known Ta_then Ta_trip Ta_sent Ta_learned Ta_chosen Ta_decided cI cC cS T_s T_past T_aside T_pasts T_text T_typed T_at T_from T_token T_many T_letters T_number T_known T_then T_trip T_sent T_learned T_chosen T_decided) H → va_D A (sh_X10 Ta Ta_s Ta_past Ta_aside Ta_text Ta_known Ta_then Ta_trip Ta_sent Ta_learned Ta_chosen Ta_decided cI cC cS T_s T_past T_aside T_pasts T_text T_typed T_at T_from T_token T_many T_letters T_number T_known T_then T_trip T_sent T_learned T_chosen T_decided) → va_S A s.heap H locs → lv_has ls 6 [(0, .ref Ta), (1, .int x1), (2, .int x2), (3, .int x3), (4, .int x4)] → W p l e R s m args below meth c H locs 0 0 Q (F0 m 11 ls []) := by
    intro T_known T_then T_decided n11
    induction n11 with
    | zero => intro x3 x4 H locs ls hf; cases (show (none : Option _) = some _ from hf)
    | succ n11 ih11 =>
      intro x3 x4 H locs ls hf hP hD hS hl
      rw [fX10_phase_l11] at hf
      refine lv_iload hx hb dX10_phase_11 (lv_at hl 4 rfl) ?_
      refine lv_aload_n hx hb dX10_phase_13 rfl (lv_at hl 0 rfl) ?_
      refine va_get (D := D) (ci := 7) (v := .ref Ta_s) (C := RX10) (T := TX10) (N := 19) hx hb hts hi_X10 hown hK hP 0 rfl rfl 0 (by decide) q7 (fun _ h9 => h9) rfl dX10_phase_14 ?_
      refine lv_iconst (v := (0 : Int32)) hx hb dX10_phase_17 (by decide) ?_
      refine sx_iald (j := 0) hx hb hK hP 1 0 rfl rfl (inb_vp (by decide)) (by decide) dX10_phase_18 ?_
      refine lv_icmp_ge (tgt := 53) hx hb dX10_phase_19 (by decide) (fun c9 => ?_) (fun c9 => ?_)
      · have hf := if_t c9 hf
        refine lv_iload_n hx hb dX10_phase_53 rfl (lv_at hl 1 rfl) ?_
        refine lv_istore (lv' := [(4, .int x1), (0, .ref Ta), (1, .int x1), (2, .int x2), (3, .int x3)]) hx hb dX10_phase_54 hl (by decide) rfl (fun ls hl => ?_)
        exact L56 T_known T_then T_decided fuel x3 x1 _ _ _ hf hP hD hS (lv_sub hl [1, 2, 3, 4, 0] rfl)
      · have hf := if_f c9 hf
        refine lv_iload_n hx hb dX10_phase_22 rfl (lv_at hl 3 rfl) ?_
        refine lv_aload_n hx hb dX10_phase_23 rfl (lv_at hl 0 rfl) ?_
        refine va_get (D := D) (ci := 7) (v := .ref Ta_known) (C := RX10) (T := TX10) (N := 19) hx hb hts hi_X10 hown hK hP 0 rfl rfl 12 (by decide) q22 (fun _ h9 => h9) rfl dX10_phase_24 ?_
        refine lv_iload hx hb dX10_phase_27 (lv_at hl 4 rfl) ?_
        obtain ⟨hz, hf⟩ := ck_some hf
        refine sx_iald (j := x4.toNatClampNeg) hx hb hK hP 5 0 rfl rfl (inb_vp hz) rfl dX10_phase_29 ?_
        obtain ⟨o10, ho10, hf⟩ := bd_some hf
        refine cs_i (As := [.int (T_known x4.toNatClampNeg)]) (rest := [.int x3]) hx hb hml hown hts hK hP hD hA hS (kX10_size l D cI cC cS  (T_known x4.toNatClampNeg)  o10 ho10) (va_cwS 1 hts gX10_phase_X10_size rfl rfl rfl (by decide +kernel) (by subst hR; exact ⟨Nat.le_of_ble_eq_true rfl, Nat.le_of_ble_eq_true rfl⟩)) rfl hl.1 rfl (Nat.le_of_ble_eq_true rfl) ⟨Nat.zero_le _, Nat.zero_le _⟩ dX10_phase_30 (fun H locs hP hD hS => ?_)
        refine lv_iload_n hx hb dX10_phase_33 rfl (lv_at hl 1 rfl) ?_
        refine lv_icmp_le (tgt := 44) hx hb dX10_phase_34 (by decide) (fun c11 => ?_) (fun c11 => ?_)
        · have hf := if_t c11 hf
          refine lv_iconst (v := (0 : Int32)) hx hb dX10_phase_44 (by decide) ?_
          refine lv_ior hx hb dX10_phase_45 ?_
          refine lv_istore_n (lv' := [(3, .int (x3 ||| (0 : Int32))), (0, .ref Ta), (1, .int x1), (2, .int x2), (4, .int x4)]) hx hb dX10_phase_46 rfl hl (by decide) rfl (fun ls hl => ?_)
          refine lv_iinc (v := (x4 + 1)) (lv' := [(4, .int (x4 + 1)), (3, .int (x3 ||| (0 : Int32))), (0, .ref Ta), (1, .int x1), (2, .int x2)]) hx hb dX10_phase_47 hl (k := 4) rfl rfl (by decide) rfl (fun ls hl => ?_)
          refine lv_goto (tgt := 11) hx hb dX10_phase_50 (by decide) ?_
          exact ih11 (x3 ||| (0 : Int32)) (x4 + 1) _ _ _ hf hP hD hS (lv_sub hl [2, 3, 4, 1, 0] rfl)
        · have hf := if_f c11 hf
          refine lv_iconst (v := (1 : Int32)) hx hb dX10_phase_37 (by decide) ?_
          refine lv_iload hx hb dX10_phase_38 (lv_at hl 4 rfl) ?_
          refine lv_ishl hx hb dX10_phase_40 ?_
          refine lv_goto (tgt := 45) hx hb dX10_phase_41 (by decide) ?_
          refine lv_ior hx hb dX10_phase_45 ?_
          refine lv_istore_n (lv' := [(3, .int (x3 ||| ((1 : Int32) <<< (x4 &&& 31)))), (0, .ref Ta), (1, .int x1), (2, .int x2), (4, .int x4)]) hx hb dX10_phase_46 rfl hl (by decide) rfl (fun ls hl => ?_)
          refine lv_iinc (v := (x4 + 1)) (lv' := [(4, .int (x4 + 1)), (3, .int (x3 ||| ((1 : Int32) <<< (x4 &&& 31)))), (0, .ref Ta), (1, .int x1), (2, .int x2)]) hx hb dX10_phase_47 hl (k := 4) rfl rfl (by decide) rfl (fun ls hl => ?_)
          refine lv_goto (tgt := 11) hx hb dX10_phase_50 (by decide) ?_
          exact ih11 (x3 ||| ((1 : Int32) <<< (x4 &&& 31))) (x4 + 1) _ _ _ hf hP hD hS (lv_sub hl [2, 3, 4, 1, 0] rfl)
  refine lv_aload_n hx hb dX10_phase_0 rfl (lv_at hl 0 rfl) ?_
  refine lv_iload_n hx hb dX10_phase_1 rfl (lv_at hl 2 rfl) ?_
  refine lv_iload_n hx hb dX10_phase_2 rfl (lv_at hl 1 rfl) ?_
  obtain ⟨o12, ho12, hf⟩ := bd_some hf
  refine cv_v (ci := 7) (q := (RX10, TX10, 19)) (As := [.int x2, .int x1]) (rest := []) hx hb hml hown hts hK hP hD hA hS (kX10_floods l D cI cC cS Ta Ta_s Ta_past Ta_aside Ta_text Ta_known Ta_then Ta_trip Ta_sent Ta_learned Ta_chosen Ta_decided x2 x1 T_s T_past T_aside T_pasts T_text T_typed T_at T_from T_token T_many T_letters T_number T_known T_then T_trip T_sent T_learned T_chosen T_decided o12 ho12) (cwV 2 hts gX10_phase_X10_floods rfl rfl rfl (by decide +kernel) (by subst hR; exact ⟨Nat.le_of_ble_eq_true rfl, Nat.le_of_ble_eq_true rfl⟩)) [0, 1, 2, 3, 4, 5, 6, 7, 8, 9, 10, 11] [] [0, 1, 2, 3, 4, 5, 6, 7, 8, 9, 10, 11] [] (sh_X10 Ta Ta_s Ta_past Ta_aside Ta_text Ta_known Ta_then Ta_trip Ta_sent Ta_learned Ta_chosen Ta_decided cI cC cS T_s T_past T_aside T_pasts T_text T_typed T_at T_from T_token T_many T_letters T_number o12.1 o12.2 T_trip T_sent T_learned T_chosen T_decided) rfl rfl rfl rfl (by decide) rfl rfl rfl rfl rfl rfl hl.1 rfl (Nat.le_of_ble_eq_true rfl) ⟨Nat.zero_le _, Nat.zero_le _⟩ dX10_phase_3 (fun H locs hP hD hS => ?_)
  refine lv_iconst (v := (0 : Int32)) hx hb dX10_phase_6 (by decide) ?_
  refine lv_istore_n (lv' := [(3, .int (0 : Int32)), (0, .ref Ta), (1, .int x1), (2, .int x2)]) hx hb dX10_phase_7 rfl hl (by decide) rfl (fun ls hl => ?_)
  refine lv_iconst (v := (0 : Int32)) hx hb dX10_phase_8 (by decide) ?_
  refine lv_istore (lv' := [(4, .int (0 : Int32)), (3, .int (0 : Int32)), (0, .ref Ta), (1, .int x1), (2, .int x2)]) hx hb dX10_phase_9 hl (by decide) rfl (fun ls hl => ?_)
  exact L11 o12.1 o12.2 T_decided fuel (0 : Int32) (0 : Int32) _ _ _ hf hP hD hS (lv_sub hl [2, 3, 4, 1, 0] rfl)
set_option maxRecDepth 100000 in
set_option maxHeartbeats 4000000 in
theorem kX10_counts (l : Launch) (D : va_G) (cI cC cS : ClassId) (Ta Ta_s Ta_past Ta_aside Ta_text Ta_known Ta_then Ta_trip Ta_sent Ta_learned Ta_chosen Ta_decided : Nat) (T_s : Nat → Int32) (T_past : Nat → Int32) (T_aside : Nat → Int32) (T_pasts : Int32) (T_text : Nat → Int32) (T_typed : Int32) (T_at : Int32) (T_from : Int32) (T_token : Int32) (T_many : Int32) (T_letters : Int64) (T_number : Int32) (T_known : Nat → Int32) (T_then : Nat → Int32) (T_trip : Nat → Int32) (T_sent : Nat → Int32) (T_learned : Nat → Int32) (T_chosen : Nat → Int32) (T_decided : Nat → Int32) (o : Int32 × (Nat → Int32) × (Nat → Int32) × (Nat → Int32)) (hf : fX10_counts T_s T_known T_then T_decided = some o) : CI l D yX10_counts wsX10_counts ({ frames := 4, cells := 0, slots := 0, locals := 93 } : Room) (tysK cI cC cS) [.ref Ta] (sh_X10 Ta Ta_s Ta_past Ta_aside Ta_text Ta_known Ta_then Ta_trip Ta_sent Ta_learned Ta_chosen Ta_decided cI cC cS T_s T_past T_aside T_pasts T_text T_typed T_at T_from T_token T_many T_letters T_number T_known T_then T_trip T_sent T_learned T_chosen T_decided) o.1 (sh_X10 Ta Ta_s Ta_past Ta_aside Ta_text Ta_known Ta_then Ta_trip Ta_sent Ta_learned Ta_chosen Ta_decided cI cC cS T_s T_past T_aside T_pasts T_text T_typed T_at T_from T_token T_many T_letters T_number o.2.1 o.2.2.1 T_trip T_sent T_learned T_chosen o.2.2.2) := by
  refine met_i (cc := cX10_counts) (maxL := 3) (ret := (some .int)) (by decide) rfl (Nat.le_of_ble_eq_true rfl) ?_
  intro p e s m args below meth c R Q A F hR hQ hP hK hD hA hS ls hl
  obtain ⟨hx, hb, hr, hts, hml, hlocks, hown⟩ := F
  have hown : s.vm.findClass RX10 = some m.cls := hown
  have hi_X10 : ∀ w ∈ u_ws RX10 TX10 19, w ∈ wsX10_counts := fun w h => List.mem_cons_of_mem _ (List.mem_append_right _ h)
  have q40 := hts (.fieldLink RX10 40 "ChangingRoundsModel" "decided" "[I") (by decide +kernel)
  have hl : lv_has ls 3 [(0, .ref Ta)] := hl
  unfold fX10_counts at hf
  have L25 : ∀ (n25 : Nat) (x1 : Int32) (x2 : Int32) (T_known : Nat → Int32) (T_then : Nat → Int32) (T_decided : Nat → Int32) (H : Heap) (locs : List Loc) (ls : Array Slot), fX10_counts_l25 T_s n25 x1 x2 T_known T_then T_decided = some o → va_P D vwCl (sh_X10 Ta Ta_s Ta_past Ta_aside Ta_text Ta_known Ta_then Ta_trip Ta_sent Ta_learned Ta_chosen Ta_decided cI cC cS T_s T_past T_aside T_pasts T_text T_typed T_at T_from T_token T_many T_letters T_number T_known T_then T_trip T_sent T_learned T_chosen T_decided) H → va_D A (sh_X10 Ta Ta_s Ta_past Ta_aside Ta_text Ta_known Ta_then Ta_trip Ta_sent Ta_learned Ta_chosen Ta_decided cI cC cS T_s T_past T_aside T_pasts T_text T_typed T_at T_from T_token T_many T_letters T_number T_known T_then T_trip T_sent T_learned T_chosen T_decided) → va_S A s.heap H locs → lv_has ls 3 [(0, .ref Ta), (1, .int x1), (2, .int x2)] → W p l e R s m args below meth c H locs 0 0 Q (F0 m 25 ls []) := by
    intro n25
    induction n25 with
    | zero => intro x1 x2 T_known T_then T_decided H locs ls hf; cases (show (none : Option _) = some _ from hf)
    | succ n25 ih25 =>
      intro x1 x2 T_known T_then T_decided H locs ls hf hP hD hS hl
      rw [fX10_counts_l25] at hf
      refine lv_iload_n hx hb dX10_counts_25 rfl (lv_at hl 2 rfl) ?_
      refine lv_bipush (v := (9 : Int32)) hx hb dX10_counts_26 (by decide) ?_
      refine lv_icmp_ge (tgt := 57) hx hb dX10_counts_28 (by decide) (fun c1 => ?_) (fun c1 => ?_)
      · have hf := if_t c1 hf
        refine lv_iload_n hx hb dX10_counts_57 rfl (lv_at hl 1 rfl) ?_
        have hf := Option.some.inj hf
        subst hf
        exact rt_i hx hb hr hlocks hQ hK hP hD hS rfl dX10_counts_58
      · have hf := if_f c1 hf
        refine lv_aload_n hx hb dX10_counts_31 rfl (lv_at hl 0 rfl) ?_
        obtain ⟨o2, ho2, hf⟩ := bd_some hf
        refine cv_i (ci := 7) (q := (RX10, TX10, 19)) (As := []) (rest := []) hx hb hml hown hts hK hP hD hA hS (kX10_allDecided l D cI cC cS Ta Ta_s Ta_past Ta_aside Ta_text Ta_known Ta_then Ta_trip Ta_sent Ta_learned Ta_chosen Ta_decided  T_s T_past T_aside T_pasts T_text T_typed T_at T_from T_token T_many T_letters T_number T_known T_then T_trip T_sent T_learned T_chosen T_decided o2 ho2) (cwV 0 hts gX10_counts_X10_allDecided rfl rfl rfl (by decide +kernel) (by subst hR; exact ⟨Nat.le_of_ble_eq_true rfl, Nat.le_of_ble_eq_true rfl⟩)) [0, 1, 2, 3, 4, 5, 6, 7, 8, 9, 10, 11] [] [0, 1, 2, 3, 4, 5, 6, 7, 8, 9, 10, 11] [] (sh_X10 Ta Ta_s Ta_past Ta_aside Ta_text Ta_known Ta_then Ta_trip Ta_sent Ta_learned Ta_chosen Ta_decided cI cC cS T_s T_past T_aside T_pasts T_text T_typed T_at T_from T_token T_many T_letters T_number T_known T_then T_trip T_sent T_learned T_chosen T_decided) rfl rfl rfl rfl (by decide) rfl rfl rfl rfl rfl rfl hl.1 rfl (Nat.le_of_ble_eq_true rfl) ⟨Nat.zero_le _, Nat.zero_le _⟩ dX10_counts_32 (fun H locs hP hD hS => ?_)
        refine lv_if_ne (tgt := 57) hx hb dX10_counts_35 (by decide) (fun c3 => ?_) (fun c3 => ?_)
        · have hf := if_f c3 hf
          refine lv_iload_n hx hb dX10_counts_57 rfl (lv_at hl 1 rfl) ?_
          have hf := Option.some.inj hf
          subst hf
          exact rt_i hx hb hr hlocks hQ hK hP hD hS rfl dX10_counts_58
        · have hf := if_t c3 hf
          refine lv_aload_n hx hb dX10_counts_38 rfl (lv_at hl 0 rfl) ?_
          refine lv_iload_n hx hb dX10_counts_39 rfl (lv_at hl 2 rfl) ?_
          refine lv_iload_n hx hb dX10_counts_40 rfl (lv_at hl 1 rfl) ?_
          obtain ⟨o4, ho4, hf⟩ := bd_some hf
          refine cv_v (ci := 7) (q := (RX10, TX10, 19)) (As := [.int x2, .int x1]) (rest := []) hx hb hml hown hts hK hP hD hA hS (kX10_phase l D cI cC cS Ta Ta_s Ta_past Ta_aside Ta_text Ta_known Ta_then Ta_trip Ta_sent Ta_learned Ta_chosen Ta_decided x2 x1 T_s T_past T_aside T_pasts T_text T_typed T_at T_from T_token T_many T_letters T_number T_known T_then T_trip T_sent T_learned T_chosen T_decided o4 ho4) (cwV 2 hts gX10_counts_X10_phase rfl rfl rfl (by decide +kernel) (by subst hR; exact ⟨Nat.le_of_ble_eq_true rfl, Nat.le_of_ble_eq_true rfl⟩)) [0, 1, 2, 3, 4, 5, 6, 7, 8, 9, 10, 11] [] [0, 1, 2, 3, 4, 5, 6, 7, 8, 9, 10, 11] [] (sh_X10 Ta Ta_s Ta_past Ta_aside Ta_text Ta_known Ta_then Ta_trip Ta_sent Ta_learned Ta_chosen Ta_decided cI cC cS T_s T_past T_aside T_pasts T_text T_typed T_at T_from T_token T_many T_letters T_number o4.1 o4.2.1 T_trip T_sent T_learned T_chosen o4.2.2) rfl rfl rfl rfl (by decide) rfl rfl rfl rfl rfl rfl hl.1 rfl (Nat.le_of_ble_eq_true rfl) ⟨Nat.zero_le _, Nat.zero_le _⟩ dX10_counts_41 (fun H locs hP hD hS => ?_)
          refine lv_iload_n hx hb dX10_counts_44 rfl (lv_at hl 1 rfl) ?_
          refine lv_iconst (v := (2 : Int32)) hx hb dX10_counts_45 (by decide) ?_
          refine lv_iload_n hx hb dX10_counts_46 rfl (lv_at hl 2 rfl) ?_
          refine lv_imul hx hb dX10_counts_47 ?_
          refine lv_iadd hx hb dX10_counts_48 ?_
          refine lv_istore_n (lv' := [(1, .int (x1 + ((2 : Int32) * x2))), (0, .ref Ta), (2, .int x2)]) hx hb dX10_counts_49 rfl hl (by decide) rfl (fun ls hl => ?_)
          refine lv_iload_n hx hb dX10_counts_50 rfl (lv_at hl 2 rfl) ?_
          refine lv_iconst (v := (2 : Int32)) hx hb dX10_counts_51 (by decide) ?_
          refine lv_imul hx hb dX10_counts_52 ?_
          refine lv_istore_n (lv' := [(2, .int (x2 * (2 : Int32))), (1, .int (x1 + ((2 : Int32) * x2))), (0, .ref Ta)]) hx hb dX10_counts_53 rfl hl (by decide) rfl (fun ls hl => ?_)
          refine lv_goto (tgt := 25) hx hb dX10_counts_54 (by decide) ?_
          exact ih25 (x1 + ((2 : Int32) * x2)) (x2 * (2 : Int32)) o4.1 o4.2.1 o4.2.2 _ _ _ hf hP hD hS (lv_sub hl [2, 1, 0] rfl)
  have L2 : ∀ (T_known : Nat → Int32) (T_then : Nat → Int32) (n2 : Nat) (x1 : Int32) (T_decided : Nat → Int32) (H : Heap) (locs : List Loc) (ls : Array Slot), fX10_counts_l2 T_s T_known T_then n2 x1 T_decided = some o → va_P D vwCl (sh_X10 Ta Ta_s Ta_past Ta_aside Ta_text Ta_known Ta_then Ta_trip Ta_sent Ta_learned Ta_chosen Ta_decided cI cC cS T_s T_past T_aside T_pasts T_text T_typed T_at T_from T_token T_many T_letters T_number T_known T_then T_trip T_sent T_learned T_chosen T_decided) H → va_D A (sh_X10 Ta Ta_s Ta_past Ta_aside Ta_text Ta_known Ta_then Ta_trip Ta_sent Ta_learned Ta_chosen Ta_decided cI cC cS T_s T_past T_aside T_pasts T_text T_typed T_at T_from T_token T_many T_letters T_number T_known T_then T_trip T_sent T_learned T_chosen T_decided) → va_S A s.heap H locs → lv_has ls 3 [(0, .ref Ta), (1, .int x1)] → W p l e R s m args below meth c H locs 0 0 Q (F0 m 2 ls []) := by
    intro T_known T_then n2
    induction n2 with
    | zero => intro x1 T_decided H locs ls hf; cases (show (none : Option _) = some _ from hf)
    | succ n2 ih2 =>
      intro x1 T_decided H locs ls hf hP hD hS hl
      rw [fX10_counts_l2] at hf
      refine lv_iload_n hx hb dX10_counts_2 rfl (lv_at hl 1 rfl) ?_
      refine lv_bipush (v := (8 : Int32)) hx hb dX10_counts_3 (by decide) ?_
      refine lv_icmp_ge (tgt := 21) hx hb dX10_counts_5 (by decide) (fun c5 => ?_) (fun c5 => ?_)
      · have hf := if_t c5 hf
        refine lv_iconst (v := (0 : Int32)) hx hb dX10_counts_21 (by decide) ?_
        refine lv_istore_n (lv' := [(1, .int (0 : Int32)), (0, .ref Ta)]) hx hb dX10_counts_22 rfl hl (by decide) rfl (fun ls hl => ?_)
        refine lv_iconst (v := (1 : Int32)) hx hb dX10_counts_23 (by decide) ?_
        refine lv_istore_n (lv' := [(2, .int (1 : Int32)), (1, .int (0 : Int32)), (0, .ref Ta)]) hx hb dX10_counts_24 rfl hl (by decide) rfl (fun ls hl => ?_)
        exact L25  fuel (0 : Int32) (1 : Int32) T_known T_then T_decided _ _ _ hf hP hD hS (lv_sub hl [2, 1, 0] rfl)
      · have hf := if_f c5 hf
        refine lv_aload_n hx hb dX10_counts_8 rfl (lv_at hl 0 rfl) ?_
        refine va_get (D := D) (ci := 7) (v := .ref Ta_decided) (C := RX10) (T := TX10) (N := 19) hx hb hts hi_X10 hown hK hP 0 rfl rfl 18 (by decide) q40 (fun _ h9 => h9) rfl dX10_counts_9 ?_
        refine lv_iload_n hx hb dX10_counts_12 rfl (lv_at hl 1 rfl) ?_
        refine lv_iconst (v := (0 : Int32)) hx hb dX10_counts_13 (by decide) ?_
        obtain ⟨hz, hf⟩ := ck_some hf
        refine sx_iast (j := x1.toNatClampNeg) hx hb hK hP hD hS 11 0 rfl rfl (inb_vp hz) rfl dX10_counts_14 (sh_X10 Ta Ta_s Ta_past Ta_aside Ta_text Ta_known Ta_then Ta_trip Ta_sent Ta_learned Ta_chosen Ta_decided cI cC cS T_s T_past T_aside T_pasts T_text T_typed T_at T_from T_token T_many T_letters T_number T_known T_then T_trip T_sent T_learned T_chosen (upd T_decided x1.toNatClampNeg (0 : Int32))) rfl (fun H locs hP hD hS => ?_)
        refine lv_iinc (v := (x1 + 1)) (lv' := [(1, .int (x1 + 1)), (0, .ref Ta)]) hx hb dX10_counts_15 hl (k := 1) rfl rfl (by decide) rfl (fun ls hl => ?_)
        refine lv_goto (tgt := 2) hx hb dX10_counts_18 (by decide) ?_
        exact ih2 (x1 + 1) (upd T_decided x1.toNatClampNeg (0 : Int32)) _ _ _ hf hP hD hS (lv_sub hl [1, 0] rfl)
  refine lv_iconst (v := (0 : Int32)) hx hb dX10_counts_0 (by decide) ?_
  refine lv_istore_n (lv' := [(1, .int (0 : Int32)), (0, .ref Ta)]) hx hb dX10_counts_1 rfl hl (by decide) rfl (fun ls hl => ?_)
  exact L2 T_known T_then fuel (0 : Int32) T_decided _ _ _ hf hP hD hS (lv_sub hl [1, 0] rfl)
set_option maxRecDepth 100000 in
set_option maxHeartbeats 4000000 in
theorem kX10_counted (l : Launch) (D : va_G) (cI cC cS : ClassId) (Ta Ta_s Ta_past Ta_aside Ta_text Ta_known Ta_then Ta_trip Ta_sent Ta_learned Ta_chosen Ta_decided : Nat) (x1 : Int32) (T_s : Nat → Int32) (T_past : Nat → Int32) (T_aside : Nat → Int32) (T_pasts : Int32) (T_text : Nat → Int32) (T_typed : Int32) (T_at : Int32) (T_from : Int32) (T_token : Int32) (T_many : Int32) (T_letters : Int64) (T_number : Int32) (T_known : Nat → Int32) (T_then : Nat → Int32) (T_trip : Nat → Int32) (T_sent : Nat → Int32) (T_learned : Nat → Int32) (T_chosen : Nat → Int32) (T_decided : Nat → Int32) (o : Int32 × (Nat → Int32) × (Nat → Int32) × (Nat → Int32)) (hf : fX10_counted x1 T_s T_known T_then T_decided = some o) : CI l D yX10_counted wsX10_counted ({ frames := 5, cells := 0, slots := 0, locals := 115 } : Room) (tysK cI cC cS) [.ref Ta, .int x1] (sh_X10 Ta Ta_s Ta_past Ta_aside Ta_text Ta_known Ta_then Ta_trip Ta_sent Ta_learned Ta_chosen Ta_decided cI cC cS T_s T_past T_aside T_pasts T_text T_typed T_at T_from T_token T_many T_letters T_number T_known T_then T_trip T_sent T_learned T_chosen T_decided) o.1 (sh_X10 Ta Ta_s Ta_past Ta_aside Ta_text Ta_known Ta_then Ta_trip Ta_sent Ta_learned Ta_chosen Ta_decided cI cC cS T_s T_past T_aside T_pasts T_text T_typed T_at T_from T_token T_many T_letters T_number o.2.1 o.2.2.1 T_trip T_sent T_learned T_chosen o.2.2.2) := by
  refine met_i (cc := cX10_counted) (maxL := 3) (ret := (some .int)) (by decide) rfl (Nat.le_of_ble_eq_true rfl) ?_
  intro p e s m args below meth c R Q A F hR hQ hP hK hD hA hS ls hl
  obtain ⟨hx, hb, hr, hts, hml, hlocks, hown⟩ := F
  have hown : s.vm.findClass RX10 = some m.cls := hown
  have hi_X10 : ∀ w ∈ u_ws RX10 TX10 19, w ∈ wsX10_counted := fun w h => List.mem_cons_of_mem _ (List.mem_append_right _ h)
  have q40 := hts (.fieldLink RX10 40 "ChangingRoundsModel" "decided" "[I") (by decide +kernel)
  have hl : lv_has ls 3 [(0, .ref Ta), (1, .int x1)] := hl
  unfold fX10_counted at hf
  refine lv_aload_n hx hb dX10_counted_0 rfl (lv_at hl 0 rfl) ?_
  refine lv_iload_n hx hb dX10_counted_1 rfl (lv_at hl 1 rfl) ?_
  refine cv_i (ci := 7) (q := (RX10, TX10, 19)) (As := [.int x1]) (rest := []) hx hb hml hown hts hK hP hD hA hS (kX10_isNode l D cI cC cS Ta Ta_s Ta_past Ta_aside Ta_text Ta_known Ta_then Ta_trip Ta_sent Ta_learned Ta_chosen Ta_decided x1 T_s T_past T_aside T_pasts T_text T_typed T_at T_from T_token T_many T_letters T_number T_known T_then T_trip T_sent T_learned T_chosen T_decided (fX10_isNode x1 T_s) rfl) (cwV 1 hts gX10_counted_X10_isNode rfl rfl rfl (by decide +kernel) (by subst hR; exact ⟨Nat.le_of_ble_eq_true rfl, Nat.le_of_ble_eq_true rfl⟩)) [0, 1, 2, 3, 4, 5, 6, 7, 8, 9, 10, 11] [] [0, 1, 2, 3, 4, 5, 6, 7, 8, 9, 10, 11] [] (sh_X10 Ta Ta_s Ta_past Ta_aside Ta_text Ta_known Ta_then Ta_trip Ta_sent Ta_learned Ta_chosen Ta_decided cI cC cS T_s T_past T_aside T_pasts T_text T_typed T_at T_from T_token T_many T_letters T_number T_known T_then T_trip T_sent T_learned T_chosen T_decided) rfl rfl rfl rfl (by decide) rfl rfl rfl rfl rfl rfl hl.1 rfl (Nat.le_of_ble_eq_true rfl) ⟨Nat.zero_le _, Nat.zero_le _⟩ dX10_counted_2 (fun H locs hP hD hS => ?_)
  refine lv_if_ne (tgt := 10) hx hb dX10_counted_5 (by decide) (fun c1 => ?_) (fun c1 => ?_)
  · have hf := if_f c1 hf
    refine lv_aload_n hx hb dX10_counted_10 rfl (lv_at hl 0 rfl) ?_
    obtain ⟨o2, ho2, hf⟩ := bd_some hf
    refine cv_i (ci := 7) (q := (RX10, TX10, 19)) (As := []) (rest := []) hx hb hml hown hts hK hP hD hA hS (kX10_counts l D cI cC cS Ta Ta_s Ta_past Ta_aside Ta_text Ta_known Ta_then Ta_trip Ta_sent Ta_learned Ta_chosen Ta_decided  T_s T_past T_aside T_pasts T_text T_typed T_at T_from T_token T_many T_letters T_number T_known T_then T_trip T_sent T_learned T_chosen T_decided o2 ho2) (cwV 0 hts gX10_counted_X10_counts rfl rfl rfl (by decide +kernel) (by subst hR; exact ⟨Nat.le_of_ble_eq_true rfl, Nat.le_of_ble_eq_true rfl⟩)) [0, 1, 2, 3, 4, 5, 6, 7, 8, 9, 10, 11] [] [0, 1, 2, 3, 4, 5, 6, 7, 8, 9, 10, 11] [] (sh_X10 Ta Ta_s Ta_past Ta_aside Ta_text Ta_known Ta_then Ta_trip Ta_sent Ta_learned Ta_chosen Ta_decided cI cC cS T_s T_past T_aside T_pasts T_text T_typed T_at T_from T_token T_many T_letters T_number o2.2.1 o2.2.2.1 T_trip T_sent T_learned T_chosen o2.2.2.2) rfl rfl rfl rfl (by decide) rfl rfl rfl rfl rfl rfl hl.1 rfl (Nat.le_of_ble_eq_true rfl) ⟨Nat.zero_le _, Nat.zero_le _⟩ dX10_counted_11 (fun H locs hP hD hS => ?_)
    refine lv_istore_n (lv' := [(2, .int o2.1), (0, .ref Ta), (1, .int x1)]) hx hb dX10_counted_14 rfl hl (by decide) rfl (fun ls hl => ?_)
    refine lv_iload_n hx hb dX10_counted_15 rfl (lv_at hl 0 rfl) ?_
    refine lv_if_ge (tgt := 23) hx hb dX10_counted_16 (by decide) (fun c3 => ?_) (fun c3 => ?_)
    · have hf := if_t c3 hf
      refine lv_aload_n hx hb dX10_counted_23 rfl (lv_at hl 1 rfl) ?_
      refine va_get (D := D) (ci := 7) (v := .ref Ta_decided) (C := RX10) (T := TX10) (N := 19) hx hb hts hi_X10 hown hK hP 0 rfl rfl 18 (by decide) q40 (fun _ h9 => h9) rfl dX10_counted_24 ?_
      refine lv_iload_n hx hb dX10_counted_27 rfl (lv_at hl 2 rfl) ?_
      obtain ⟨hz, hf⟩ := ck_some hf
      refine sx_iald (j := x1.toNatClampNeg) hx hb hK hP 11 0 rfl rfl (inb_vp hz) rfl dX10_counted_28 ?_
      have hf := Option.some.inj hf
      subst hf
      exact rt_i hx hb hr hlocks hQ hK hP hD hS rfl dX10_counted_29
    · have hf := if_f c3 hf
      refine lv_iload_n hx hb dX10_counted_19 rfl (lv_at hl 0 rfl) ?_
      refine lv_goto (tgt := 29) hx hb dX10_counted_20 (by decide) ?_
      have hf := Option.some.inj hf
      subst hf
      exact rt_i hx hb hr hlocks hQ hK hP hD hS rfl dX10_counted_29
  · have hf := if_t c1 hf
    refine lv_iconst (v := (-1 : Int32)) hx hb dX10_counted_8 (by decide) ?_
    have hf := Option.some.inj hf
    subst hf
    exact rt_i hx hb hr hlocks hQ hK hP hD hS rfl dX10_counted_9
set_option maxRecDepth 100000 in
set_option maxHeartbeats 4000000 in
theorem kX10_countingSteps (l : Launch) (D : va_G) (cI cC cS : ClassId) (Ta Ta_s Ta_past Ta_aside Ta_text Ta_known Ta_then Ta_trip Ta_sent Ta_learned Ta_chosen Ta_decided : Nat) (T_s : Nat → Int32) (T_past : Nat → Int32) (T_aside : Nat → Int32) (T_pasts : Int32) (T_text : Nat → Int32) (T_typed : Int32) (T_at : Int32) (T_from : Int32) (T_token : Int32) (T_many : Int32) (T_letters : Int64) (T_number : Int32) (T_known : Nat → Int32) (T_then : Nat → Int32) (T_trip : Nat → Int32) (T_sent : Nat → Int32) (T_learned : Nat → Int32) (T_chosen : Nat → Int32) (T_decided : Nat → Int32) (o : Int32 × (Nat → Int32) × (Nat → Int32) × (Nat → Int32)) (hf : fX10_countingSteps T_s T_known T_then T_decided = some o) : CI l D yX10_countingSteps wsX10_countingSteps ({ frames := 5, cells := 0, slots := 0, locals := 115 } : Room) (tysK cI cC cS) [.ref Ta] (sh_X10 Ta Ta_s Ta_past Ta_aside Ta_text Ta_known Ta_then Ta_trip Ta_sent Ta_learned Ta_chosen Ta_decided cI cC cS T_s T_past T_aside T_pasts T_text T_typed T_at T_from T_token T_many T_letters T_number T_known T_then T_trip T_sent T_learned T_chosen T_decided) o.1 (sh_X10 Ta Ta_s Ta_past Ta_aside Ta_text Ta_known Ta_then Ta_trip Ta_sent Ta_learned Ta_chosen Ta_decided cI cC cS T_s T_past T_aside T_pasts T_text T_typed T_at T_from T_token T_many T_letters T_number o.2.1 o.2.2.1 T_trip T_sent T_learned T_chosen o.2.2.2) := by
  refine met_i (cc := cX10_countingSteps) (maxL := 1) (ret := (some .int)) (by decide) rfl (Nat.le_of_ble_eq_true rfl) ?_
  intro p e s m args below meth c R Q A F hR hQ hP hK hD hA hS ls hl
  obtain ⟨hx, hb, hr, hts, hml, hlocks, hown⟩ := F
  have hown : s.vm.findClass RX10 = some m.cls := hown
  have hl : lv_has ls 1 [(0, .ref Ta)] := hl
  unfold fX10_countingSteps at hf
  refine lv_aload_n hx hb dX10_countingSteps_0 rfl (lv_at hl 0 rfl) ?_
  obtain ⟨o1, ho1, hf⟩ := bd_some hf
  refine cv_i (ci := 7) (q := (RX10, TX10, 19)) (As := []) (rest := []) hx hb hml hown hts hK hP hD hA hS (kX10_counts l D cI cC cS Ta Ta_s Ta_past Ta_aside Ta_text Ta_known Ta_then Ta_trip Ta_sent Ta_learned Ta_chosen Ta_decided  T_s T_past T_aside T_pasts T_text T_typed T_at T_from T_token T_many T_letters T_number T_known T_then T_trip T_sent T_learned T_chosen T_decided o1 ho1) (cwV 0 hts gX10_countingSteps_X10_counts rfl rfl rfl (by decide +kernel) (by subst hR; exact ⟨Nat.le_of_ble_eq_true rfl, Nat.le_of_ble_eq_true rfl⟩)) [0, 1, 2, 3, 4, 5, 6, 7, 8, 9, 10, 11] [] [0, 1, 2, 3, 4, 5, 6, 7, 8, 9, 10, 11] [] (sh_X10 Ta Ta_s Ta_past Ta_aside Ta_text Ta_known Ta_then Ta_trip Ta_sent Ta_learned Ta_chosen Ta_decided cI cC cS T_s T_past T_aside T_pasts T_text T_typed T_at T_from T_token T_many T_letters T_number o1.2.1 o1.2.2.1 T_trip T_sent T_learned T_chosen o1.2.2.2) rfl rfl rfl rfl (by decide) rfl rfl rfl rfl rfl rfl hl.1 rfl (Nat.le_of_ble_eq_true rfl) ⟨Nat.zero_le _, Nat.zero_le _⟩ dX10_countingSteps_1 (fun H locs hP hD hS => ?_)
  have hf := Option.some.inj hf
  subst hf
  exact rt_i hx hb hr hlocks hQ hK hP hD hS rfl dX10_countingSteps_4
set_option maxRecDepth 100000 in
set_option maxHeartbeats 4000000 in
theorem kX10_wrongCounts (l : Launch) (D : va_G) (cI cC cS : ClassId) (Ta Ta_s Ta_past Ta_aside Ta_text Ta_known Ta_then Ta_trip Ta_sent Ta_learned Ta_chosen Ta_decided : Nat) (T_s : Nat → Int32) (T_past : Nat → Int32) (T_aside : Nat → Int32) (T_pasts : Int32) (T_text : Nat → Int32) (T_typed : Int32) (T_at : Int32) (T_from : Int32) (T_token : Int32) (T_many : Int32) (T_letters : Int64) (T_number : Int32) (T_known : Nat → Int32) (T_then : Nat → Int32) (T_trip : Nat → Int32) (T_sent : Nat → Int32) (T_learned : Nat → Int32) (T_chosen : Nat → Int32) (T_decided : Nat → Int32) (o : Int32 × (Nat → Int32) × (Nat → Int32) × (Nat → Int32)) (hf : fX10_wrongCounts T_s T_known T_then T_decided = some o) : CI l D yX10_wrongCounts wsX10_wrongCounts ({ frames := 5, cells := 0, slots := 0, locals := 115 } : Room) (tysK cI cC cS) [.ref Ta] (sh_X10 Ta Ta_s Ta_past Ta_aside Ta_text Ta_known Ta_then Ta_trip Ta_sent Ta_learned Ta_chosen Ta_decided cI cC cS T_s T_past T_aside T_pasts T_text T_typed T_at T_from T_token T_many T_letters T_number T_known T_then T_trip T_sent T_learned T_chosen T_decided) o.1 (sh_X10 Ta Ta_s Ta_past Ta_aside Ta_text Ta_known Ta_then Ta_trip Ta_sent Ta_learned Ta_chosen Ta_decided cI cC cS T_s T_past T_aside T_pasts T_text T_typed T_at T_from T_token T_many T_letters T_number o.2.1 o.2.2.1 T_trip T_sent T_learned T_chosen o.2.2.2) := by
  refine met_i (cc := cX10_wrongCounts) (maxL := 3) (ret := (some .int)) (by decide) rfl (Nat.le_of_ble_eq_true rfl) ?_
  intro p e s m args below meth c R Q A F hR hQ hP hK hD hA hS ls hl
  obtain ⟨hx, hb, hr, hts, hml, hlocks, hown⟩ := F
  have hown : s.vm.findClass RX10 = some m.cls := hown
  have hi_X10 : ∀ w ∈ u_ws RX10 TX10 19, w ∈ wsX10_wrongCounts := fun w h => List.mem_cons_of_mem _ (List.mem_append_right _ h)
  have q7 := hts (.fieldLink RX10 7 "ChangingRoundsModel" "s" "[I") (by decide +kernel)
  have q40 := hts (.fieldLink RX10 40 "ChangingRoundsModel" "decided" "[I") (by decide +kernel)
  have hl : lv_has ls 3 [(0, .ref Ta)] := hl
  unfold fX10_wrongCounts at hf
  have L15 : ∀ (T_known : Nat → Int32) (T_then : Nat → Int32) (T_decided : Nat → Int32) (n15 : Nat) (x1 : Int32) (x2 : Int32) (H : Heap) (locs : List Loc) (ls : Array Slot), fX10_wrongCounts_l15 T_s T_known T_then T_decided n15 x1 x2 = some o → va_P D vwCl (sh_X10 Ta Ta_s Ta_past Ta_aside Ta_text Ta_known Ta_then Ta_trip Ta_sent Ta_learned Ta_chosen Ta_decided cI cC cS T_s T_past T_aside T_pasts T_text T_typed T_at T_from T_token T_many T_letters T_number T_known T_then T_trip T_sent T_learned T_chosen T_decided) H → va_D A (sh_X10 Ta Ta_s Ta_past Ta_aside Ta_text Ta_known Ta_then Ta_trip Ta_sent Ta_learned Ta_chosen Ta_decided cI cC cS T_s T_past T_aside T_pasts T_text T_typed T_at T_from T_token T_many T_letters T_number T_known T_then T_trip T_sent T_learned T_chosen T_decided) → va_S A s.heap H locs → lv_has ls 3 [(0, .ref Ta), (1, .int x1), (2, .int x2)] → W p l e R s m args below meth c H locs 0 0 Q (F0 m 15 ls []) := by
    intro T_known T_then T_decided n15
    induction n15 with
    | zero => intro x1 x2 H locs ls hf; cases (show (none : Option _) = some _ from hf)
    | succ n15 ih15 =>
      intro x1 x2 H locs ls hf hP hD hS hl
      rw [fX10_wrongCounts_l15] at hf
      refine lv_iload_n hx hb dX10_wrongCounts_15 rfl (lv_at hl 2 rfl) ?_
      refine lv_aload_n hx hb dX10_wrongCounts_16 rfl (lv_at hl 0 rfl) ?_
      refine va_get (D := D) (ci := 7) (v := .ref Ta_s) (C := RX10) (T := TX10) (N := 19) hx hb hts hi_X10 hown hK hP 0 rfl rfl 0 (by decide) q7 (fun _ h9 => h9) rfl dX10_wrongCounts_17 ?_
      refine lv_iconst (v := (0 : Int32)) hx hb dX10_wrongCounts_20 (by decide) ?_
      refine sx_iald (j := 0) hx hb hK hP 1 0 rfl rfl (inb_vp (by decide)) (by decide) dX10_wrongCounts_21 ?_
      refine lv_icmp_ge (tgt := 54) hx hb dX10_wrongCounts_22 (by decide) (fun c1 => ?_) (fun c1 => ?_)
      · have hf := if_t c1 hf
        refine lv_iload_n hx hb dX10_wrongCounts_54 rfl (lv_at hl 1 rfl) ?_
        have hf := Option.some.inj hf
        subst hf
        exact rt_i hx hb hr hlocks hQ hK hP hD hS rfl dX10_wrongCounts_55
      · have hf := if_f c1 hf
        refine lv_iload_n hx hb dX10_wrongCounts_25 rfl (lv_at hl 1 rfl) ?_
        refine lv_aload_n hx hb dX10_wrongCounts_26 rfl (lv_at hl 0 rfl) ?_
        refine va_get (D := D) (ci := 7) (v := .ref Ta_decided) (C := RX10) (T := TX10) (N := 19) hx hb hts hi_X10 hown hK hP 0 rfl rfl 18 (by decide) q40 (fun _ h9 => h9) rfl dX10_wrongCounts_27 ?_
        refine lv_iload_n hx hb dX10_wrongCounts_30 rfl (lv_at hl 2 rfl) ?_
        obtain ⟨hz, hf⟩ := ck_some hf
        refine sx_iald (j := x2.toNatClampNeg) hx hb hK hP 11 0 rfl rfl (inb_vp hz) rfl dX10_wrongCounts_31 ?_
        refine lv_aload_n hx hb dX10_wrongCounts_32 rfl (lv_at hl 0 rfl) ?_
        refine va_get (D := D) (ci := 7) (v := .ref Ta_s) (C := RX10) (T := TX10) (N := 19) hx hb hts hi_X10 hown hK hP 0 rfl rfl 0 (by decide) q7 (fun _ h9 => h9) rfl dX10_wrongCounts_33 ?_
        refine lv_iconst (v := (0 : Int32)) hx hb dX10_wrongCounts_36 (by decide) ?_
        refine sx_iald (j := 0) hx hb hK hP 1 0 rfl rfl (inb_vp (by decide)) (by decide) dX10_wrongCounts_37 ?_
        refine lv_icmp_ne (tgt := 45) hx hb dX10_wrongCounts_38 (by decide) (fun c2 => ?_) (fun c2 => ?_)
        · have hf := if_f c2 hf
          refine lv_iconst (v := (1 : Int32)) hx hb dX10_wrongCounts_45 (by decide) ?_
          refine lv_iadd hx hb dX10_wrongCounts_46 ?_
          refine lv_istore_n (lv' := [(1, .int (x1 + (1 : Int32))), (0, .ref Ta), (2, .int x2)]) hx hb dX10_wrongCounts_47 rfl hl (by decide) rfl (fun ls hl => ?_)
          refine lv_iinc (v := (x2 + 1)) (lv' := [(2, .int (x2 + 1)), (1, .int (x1 + (1 : Int32))), (0, .ref Ta)]) hx hb dX10_wrongCounts_48 hl (k := 2) rfl rfl (by decide) rfl (fun ls hl => ?_)
          refine lv_goto (tgt := 15) hx hb dX10_wrongCounts_51 (by decide) ?_
          exact ih15 (x1 + (1 : Int32)) (x2 + 1) _ _ _ hf hP hD hS (lv_sub hl [2, 1, 0] rfl)
        · have hf := if_t c2 hf
          refine lv_iconst (v := (0 : Int32)) hx hb dX10_wrongCounts_41 (by decide) ?_
          refine lv_goto (tgt := 46) hx hb dX10_wrongCounts_42 (by decide) ?_
          refine lv_iadd hx hb dX10_wrongCounts_46 ?_
          refine lv_istore_n (lv' := [(1, .int (x1 + (0 : Int32))), (0, .ref Ta), (2, .int x2)]) hx hb dX10_wrongCounts_47 rfl hl (by decide) rfl (fun ls hl => ?_)
          refine lv_iinc (v := (x2 + 1)) (lv' := [(2, .int (x2 + 1)), (1, .int (x1 + (0 : Int32))), (0, .ref Ta)]) hx hb dX10_wrongCounts_48 hl (k := 2) rfl rfl (by decide) rfl (fun ls hl => ?_)
          refine lv_goto (tgt := 15) hx hb dX10_wrongCounts_51 (by decide) ?_
          exact ih15 (x1 + (0 : Int32)) (x2 + 1) _ _ _ hf hP hD hS (lv_sub hl [2, 1, 0] rfl)
  refine lv_aload_n hx hb dX10_wrongCounts_0 rfl (lv_at hl 0 rfl) ?_
  obtain ⟨o3, ho3, hf⟩ := bd_some hf
  refine cv_i (ci := 7) (q := (RX10, TX10, 19)) (As := []) (rest := []) hx hb hml hown hts hK hP hD hA hS (kX10_counts l D cI cC cS Ta Ta_s Ta_past Ta_aside Ta_text Ta_known Ta_then Ta_trip Ta_sent Ta_learned Ta_chosen Ta_decided  T_s T_past T_aside T_pasts T_text T_typed T_at T_from T_token T_many T_letters T_number T_known T_then T_trip T_sent T_learned T_chosen T_decided o3 ho3) (cwV 0 hts gX10_wrongCounts_X10_counts rfl rfl rfl (by decide +kernel) (by subst hR; exact ⟨Nat.le_of_ble_eq_true rfl, Nat.le_of_ble_eq_true rfl⟩)) [0, 1, 2, 3, 4, 5, 6, 7, 8, 9, 10, 11] [] [0, 1, 2, 3, 4, 5, 6, 7, 8, 9, 10, 11] [] (sh_X10 Ta Ta_s Ta_past Ta_aside Ta_text Ta_known Ta_then Ta_trip Ta_sent Ta_learned Ta_chosen Ta_decided cI cC cS T_s T_past T_aside T_pasts T_text T_typed T_at T_from T_token T_many T_letters T_number o3.2.1 o3.2.2.1 T_trip T_sent T_learned T_chosen o3.2.2.2) rfl rfl rfl rfl (by decide) rfl rfl rfl rfl rfl rfl hl.1 rfl (Nat.le_of_ble_eq_true rfl) ⟨Nat.zero_le _, Nat.zero_le _⟩ dX10_wrongCounts_1 (fun H locs hP hD hS => ?_)
  refine lv_if_ge (tgt := 11) hx hb dX10_wrongCounts_4 (by decide) (fun c4 => ?_) (fun c4 => ?_)
  · have hf := if_t c4 hf
    refine lv_iconst (v := (0 : Int32)) hx hb dX10_wrongCounts_11 (by decide) ?_
    refine lv_istore_n (lv' := [(1, .int (0 : Int32)), (0, .ref Ta)]) hx hb dX10_wrongCounts_12 rfl hl (by decide) rfl (fun ls hl => ?_)
    refine lv_iconst (v := (0 : Int32)) hx hb dX10_wrongCounts_13 (by decide) ?_
    refine lv_istore_n (lv' := [(2, .int (0 : Int32)), (1, .int (0 : Int32)), (0, .ref Ta)]) hx hb dX10_wrongCounts_14 rfl hl (by decide) rfl (fun ls hl => ?_)
    exact L15 o3.2.1 o3.2.2.1 o3.2.2.2 fuel (0 : Int32) (0 : Int32) _ _ _ hf hP hD hS (lv_sub hl [2, 1, 0] rfl)
  · have hf := if_f c4 hf
    refine lv_iconst (v := (1 : Int32)) hx hb dX10_wrongCounts_7 (by decide) ?_
    refine lv_goto (tgt := 12) hx hb dX10_wrongCounts_8 (by decide) ?_
    refine lv_istore_n (lv' := [(1, .int (1 : Int32)), (0, .ref Ta)]) hx hb dX10_wrongCounts_12 rfl hl (by decide) rfl (fun ls hl => ?_)
    refine lv_iconst (v := (0 : Int32)) hx hb dX10_wrongCounts_13 (by decide) ?_
    refine lv_istore_n (lv' := [(2, .int (0 : Int32)), (1, .int (1 : Int32)), (0, .ref Ta)]) hx hb dX10_wrongCounts_14 rfl hl (by decide) rfl (fun ls hl => ?_)
    exact L15 o3.2.1 o3.2.2.1 o3.2.2.2 fuel (1 : Int32) (0 : Int32) _ _ _ hf hP hD hS (lv_sub hl [2, 1, 0] rfl)
