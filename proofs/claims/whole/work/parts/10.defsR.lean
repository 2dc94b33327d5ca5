def fX10_in (x0 : Int32) (x1 : Int32) (x2 : Int32) : (Bool) :=
  if x0 < x1 then false else (if x2 < x0 then false else true)
def sh_X10 (Ta Ta_s Ta_past Ta_aside Ta_text Ta_known Ta_then Ta_trip Ta_sent Ta_learned Ta_chosen Ta_decided : Nat) (cI cC cS : ClassId) (T_s : Nat → Int32) (T_past : Nat → Int32) (T_aside : Nat → Int32) (T_pasts : Int32) (T_text : Nat → Int32) (T_typed : Int32) (T_at : Int32) (T_from : Int32) (T_token : Int32) (T_many : Int32) (T_letters : Int64) (T_number : Int32) (T_known : Nat → Int32) (T_then : Nat → Int32) (T_trip : Nat → Int32) (T_sent : Nat → Int32) (T_learned : Nat → Int32) (T_chosen : Nat → Int32) (T_decided : Nat → Int32) : va_W := [(Ta, .inr (7, [.ref Ta_s, .ref Ta_past, .ref Ta_aside, .int T_pasts, .ref Ta_text, .int T_typed, .int T_at, .int T_from, .int T_token, .int T_many, .long T_letters, .int T_number, .ref Ta_known, .ref Ta_then, .ref Ta_trip, .ref Ta_sent, .ref Ta_learned, .ref Ta_chosen, .ref Ta_decided])), (Ta_s, .inl (cI, 26, .inl T_s)), (Ta_past, .inl (cI, 156, .inl T_past)), (Ta_aside, .inl (cI, 26, .inl T_aside)), (Ta_text, .inl (cI, 120, .inl T_text)), (Ta_known, .inl (cI, 8, .inl T_known)), (Ta_then, .inl (cI, 8, .inl T_then)), (Ta_trip, .inl (cI, 64, .inl T_trip)), (Ta_sent, .inl (cI, 8, .inl T_sent)), (Ta_learned, .inl (cI, 64, .inl T_learned)), (Ta_chosen, .inl (cI, 8, .inl T_chosen)), (Ta_decided, .inl (cI, 8, .inl T_decided))]
def fX10_begins_l16 : Nat → Int32 → (Nat → Int32) → Option ((Nat → Int32))
  | 0, _, _ => none
  | n16 + 1, x2, T_s =>
    if (8 : Int32) ≤ x2 then (some T_s) else (ck (inb ((18 : Int32) + x2) 26) ((fX10_begins_l16 n16) (x2 + 1) (upd T_s (((18 : Int32) + x2).toNatClampNeg) x2)))
def fX10_begins (x1 : Int32) (T_s : Nat → Int32) : Option ((Nat → Int32)) :=
  fX10_begins_l16 fuel (0 : Int32) (upd (upd T_s 0 x1) 1 (0 : Int32))
def fX10_hold_l2 (T_s : Nat → Int32) : Nat → Int32 → (Nat → Int32) → Option ((Nat → Int32))
  | 0, _, _ => none
  | n2 + 1, x1, T_aside =>
    if (26 : Int32) ≤ x1 then (some T_aside) else (ck (inb x1 26) (ck (inb x1 26) ((fX10_hold_l2 T_s n2) (x1 + 1) (upd T_aside x1.toNatClampNeg (T_s x1.toNatClampNeg)))))
def fX10_hold (T_s : Nat → Int32) (T_aside : Nat → Int32) : Option ((Nat → Int32)) :=
  fX10_hold_l2 T_s fuel (0 : Int32) T_aside
def fX10_restore_l2 (T_aside : Nat → Int32) : Nat → Int32 → (Nat → Int32) → Option ((Nat → Int32))
  | 0, _, _ => none
  | n2 + 1, x1, T_s =>
    if (26 : Int32) ≤ x1 then (some T_s) else (ck (inb x1 26) (ck (inb x1 26) ((fX10_restore_l2 T_aside n2) (x1 + 1) (upd T_s x1.toNatClampNeg (T_aside x1.toNatClampNeg)))))
def fX10_restore (T_s : Nat → Int32) (T_aside : Nat → Int32) : Option ((Nat → Int32)) :=
  fX10_restore_l2 T_aside fuel (0 : Int32) T_s
def fX10_ends_l51 (x1 : Int32) (T_aside : Nat → Int32) (T_pasts : Int32) : Nat → Int32 → (Nat → Int32) → Option (Int32 × (Nat → Int32) × Int32)
  | 0, _, _ => none
  | n51 + 1, x2, T_past =>
    if (26 : Int32) ≤ x2 then (some (x1, T_past, (T_pasts + (1 : Int32)))) else (ck (inb x2 26) (ck (inb (((26 : Int32) * T_pasts) + x2) 156) ((fX10_ends_l51 x1 T_aside T_pasts n51) (x2 + 1) (upd T_past ((((26 : Int32) * T_pasts) + x2).toNatClampNeg) (T_aside x2.toNatClampNeg)))))
def fX10_ends_l11 (x1 : Int32) (T_aside : Nat → Int32) (T_pasts : Int32) : Nat → Int32 → (Nat → Int32) → Option (Int32 × (Nat → Int32) × Int32)
  | 0, _, _ => none
  | n11 + 1, x2, T_past =>
    if (130 : Int32) ≤ x2 then (fX10_ends_l51 x1 T_aside (T_pasts - (1 : Int32)) fuel (0 : Int32) T_past) else (ck (inb (x2 + (26 : Int32)) 156) (ck (inb x2 156) ((fX10_ends_l11 x1 T_aside T_pasts n11) (x2 + 1) (upd T_past x2.toNatClampNeg (T_past ((x2 + (26 : Int32)).toNatClampNeg))))))
def fX10_ends (x1 : Int32) (T_past : Nat → Int32) (T_aside : Nat → Int32) (T_pasts : Int32) : Option (Int32 × (Nat → Int32) × Int32) :=
  if T_pasts = (6 : Int32) then (fX10_ends_l11 x1 T_aside T_pasts fuel (0 : Int32) T_past) else (fX10_ends_l51 x1 T_aside T_pasts fuel (0 : Int32) T_past)
def fX10_isNode (x1 : Int32) (T_s : Nat → Int32) : (Bool) :=
  (fX10_in x1 (0 : Int32) ((T_s 0) - (1 : Int32)))
def fX10_isRound (x1 : Int32) (T_s : Nat → Int32) : (Bool) :=
  (fX10_in x1 (0 : Int32) ((T_s 1) - (1 : Int32)))
def fX10_pair (x0 : Int32) (x1 : Int32) : (Int32) :=
  if x1 ≤ x0 then ((1 : Int32) <<< ((((x0 * (x0 - (1 : Int32))) / (2 : Int32)) + x1) &&& 31)) else ((1 : Int32) <<< ((((x1 * (x1 - (1 : Int32))) / (2 : Int32)) + x0) &&& 31))
def fX10_isPair (x1 : Int32) (x2 : Int32) (T_s : Nat → Int32) : (Bool) :=
  if (b2i (fX10_isNode x1 T_s)) = 0 then false else (if (b2i (fX10_isNode x2 T_s)) = 0 then false else (if x1 = x2 then false else true))
def fX10_size_l4 (x0 : Int32) : Nat → Int32 → Int32 → Option (Int32)
  | 0, _, _ => none
  | n4 + 1, x1, x2 =>
    if (28 : Int32) ≤ x2 then (some x1) else ((fX10_size_l4 x0 n4) (x1 + ((x0 >>> (x2 &&& 31)) &&& (1 : Int32))) (x2 + 1))
def fX10_size (x0 : Int32) : Option (Int32) :=
  fX10_size_l4 x0 fuel (0 : Int32) (0 : Int32)
def fX10_all (T_s : Nat → Int32) : (Int32) :=
  (((1 : Int32) <<< ((T_s 0) &&& 31)) - (1 : Int32))
def fX10_setNodes (x1 : Int32) (T_s : Nat → Int32) (T_past : Nat → Int32) (T_aside : Nat → Int32) (T_pasts : Int32) : Option (Int32 × (Nat → Int32) × (Nat → Int32) × (Nat → Int32) × Int32) :=
  if (b2i (fX10_in x1 (2 : Int32) (8 : Int32))) = 0 then (some ((-1 : Int32), T_s, T_past, T_aside, T_pasts)) else ((fX10_hold T_s T_aside).bind (fun o2 => (fX10_begins x1 T_s).bind (fun o3 => (fX10_ends (T_s 0) T_past o2 T_pasts).bind (fun o4 => some (o4.1, o3, o4.2.1, o2, o4.2.2)))))
def fX10_adds (x1 : Int32) (T_s : Nat → Int32) : Option ((Nat → Int32)) :=
  ck (inb ((2 : Int32) + (T_s 1)) 26) (some (upd (upd T_s (((2 : Int32) + (T_s 1)).toNatClampNeg) x1) 1 (((upd T_s (((2 : Int32) + (T_s 1)).toNatClampNeg) x1) 1) + (1 : Int32))))
def fX10_addRound (T_s : Nat → Int32) (T_past : Nat → Int32) (T_aside : Nat → Int32) (T_pasts : Int32) : Option (Int32 × (Nat → Int32) × (Nat → Int32) × (Nat → Int32) × Int32) :=
  if (T_s 1) = (16 : Int32) then (some ((-3 : Int32), T_s, T_past, T_aside, T_pasts)) else ((fX10_hold T_s T_aside).bind (fun o2 => (fX10_adds (0 : Int32) T_s).bind (fun o3 => (fX10_ends ((o3 1) - (1 : Int32)) T_past o2 T_pasts).bind (fun o4 => some (o4.1, o3, o4.2.1, o2, o4.2.2)))))
def fX10_setEdge_b66 (x1 : Int32) (x2 : Int32) (x3 : Int32) (y0 : Int32) (y1 : Int32) (T_s : Nat → Int32) (T_past : Nat → Int32) (T_aside : Nat → Int32) (T_pasts : Int32) : Option (Int32 × (Nat → Int32) × (Nat → Int32) × (Nat → Int32) × Int32) :=
  if y0 = y1 then (some ((-2 : Int32), T_s, T_past, T_aside, T_pasts)) else ((fX10_hold T_s T_aside).bind (fun o2 => ck (inb ((2 : Int32) + x1) 26) (ck (inb ((2 : Int32) + x1) 26) (ck (inb ((2 : Int32) + x1) 26) ((fX10_size ((upd T_s (((2 : Int32) + x1).toNatClampNeg) ((T_s (((2 : Int32) + x1).toNatClampNeg)) ^^^ (fX10_pair x2 x3))) (((2 : Int32) + x1).toNatClampNeg))).bind (fun o3 => (fX10_ends o3 T_past o2 T_pasts).bind (fun o4 => some (o4.1, (upd T_s (((2 : Int32) + x1).toNatClampNeg) ((T_s (((2 : Int32) + x1).toNatClampNeg)) ^^^ (fX10_pair x2 x3))), o4.2.1, o2, o4.2.2))))))))
def fX10_setEdge_b51 (x1 : Int32) (x2 : Int32) (x3 : Int32) (x4 : Int32) (y0 : Int32) (T_s : Nat → Int32) (T_past : Nat → Int32) (T_aside : Nat → Int32) (T_pasts : Int32) : Option (Int32 × (Nat → Int32) × (Nat → Int32) × (Nat → Int32) × Int32) :=
  if x4 = (1 : Int32) then (fX10_setEdge_b66 x1 x2 x3 y0 (1 : Int32) T_s T_past T_aside T_pasts) else (fX10_setEdge_b66 x1 x2 x3 y0 (0 : Int32) T_s T_past T_aside T_pasts)
def fX10_setEdge (x1 : Int32) (x2 : Int32) (x3 : Int32) (x4 : Int32) (T_s : Nat → Int32) (T_past : Nat → Int32) (T_aside : Nat → Int32) (T_pasts : Int32) : Option (Int32 × (Nat → Int32) × (Nat → Int32) × (Nat → Int32) × Int32) :=
  if (b2i (fX10_isRound x1 T_s)) = 0 then (some ((-1 : Int32), T_s, T_past, T_aside, T_pasts)) else (if (b2i (fX10_isPair x2 x3 T_s)) = 0 then (some ((-1 : Int32), T_s, T_past, T_aside, T_pasts)) else (if (b2i (fX10_in x4 (0 : Int32) (1 : Int32))) = 0 then (some ((-1 : Int32), T_s, T_past, T_aside, T_pasts)) else (ck (inb ((2 : Int32) + x1) 26) (if ((T_s (((2 : Int32) + x1).toNatClampNeg)) &&& (fX10_pair x2 x3)) = 0 then (fX10_setEdge_b51 x1 x2 x3 x4 (0 : Int32) T_s T_past T_aside T_pasts) else (fX10_setEdge_b51 x1 x2 x3 x4 (1 : Int32) T_s T_past T_aside T_pasts)))))
def fX10_removeRound_l26 (T_past : Nat → Int32) (T_aside : Nat → Int32) (T_pasts : Int32) : Nat → Int32 → (Nat → Int32) → Option (Int32 × (Nat → Int32) × (Nat → Int32) × (Nat → Int32) × Int32)
  | 0, _, _ => none
  | n26 + 1, x2, T_s =>
    if (T_s 1) ≤ x2 then ((fX10_ends (T_s 1) T_past T_aside T_pasts).bind (fun o2 => some (o2.1, T_s, o2.2.1, T_aside, o2.2.2))) else (ck (inb (((2 : Int32) + x2) + (1 : Int32)) 26) (ck (inb ((2 : Int32) + x2) 26) ((fX10_removeRound_l26 T_past T_aside T_pasts n26) (x2 + 1) (upd T_s (((2 : Int32) + x2).toNatClampNeg) (T_s ((((2 : Int32) + x2) + (1 : Int32)).toNatClampNeg))))))
def fX10_removeRound (x1 : Int32) (T_s : Nat → Int32) (T_past : Nat → Int32) (T_aside : Nat → Int32) (T_pasts : Int32) : Option (Int32 × (Nat → Int32) × (Nat → Int32) × (Nat → Int32) × Int32) :=
  if (b2i (fX10_isRound x1 T_s)) = 0 then (some ((-1 : Int32), T_s, T_past, T_aside, T_pasts)) else ((fX10_hold T_s T_aside).bind (fun o4 => fX10_removeRound_l26 T_past o4 T_pasts fuel x1 (upd T_s 1 ((T_s 1) - (1 : Int32)))))
def fX10_swapRounds (x1 : Int32) (x2 : Int32) (T_s : Nat → Int32) (T_past : Nat → Int32) (T_aside : Nat → Int32) (T_pasts : Int32) : Option (Int32 × (Nat → Int32) × (Nat → Int32) × (Nat → Int32) × Int32) :=
  if (b2i (fX10_isRound x1 T_s)) = 0 then (some ((-1 : Int32), T_s, T_past, T_aside, T_pasts)) else (if (b2i (fX10_isRound x2 T_s)) = 0 then (some ((-1 : Int32), T_s, T_past, T_aside, T_pasts)) else ((fX10_hold T_s T_aside).bind (fun o3 => ck (inb ((2 : Int32) + x1) 26) (ck (inb ((2 : Int32) + x2) 26) (ck (inb ((2 : Int32) + x1) 26) (ck (inb ((2 : Int32) + x2) 26) (ck (inb ((2 : Int32) + x1) 26) ((fX10_size ((T_s (((2 : Int32) + x1).toNatClampNeg)) ^^^ ((upd (upd T_s (((2 : Int32) + x1).toNatClampNeg) (T_s (((2 : Int32) + x2).toNatClampNeg))) (((2 : Int32) + x2).toNatClampNeg) (T_s (((2 : Int32) + x1).toNatClampNeg))) (((2 : Int32) + x1).toNatClampNeg)))).bind (fun o4 => (fX10_ends o4 T_past o3 T_pasts).bind (fun o5 => some (o5.1, (upd (upd T_s (((2 : Int32) + x1).toNatClampNeg) (T_s (((2 : Int32) + x2).toNatClampNeg))) (((2 : Int32) + x2).toNatClampNeg) (T_s (((2 : Int32) + x1).toNatClampNeg))), o5.2.1, o3, o5.2.2)))))))))))
def fX10_clique_l17 (k4 : Int32 → Int32 → Option (Int32)) (x1 : Int32) (x3 : Int32) (T_s : Nat → Int32) : Nat → Int32 → Int32 → Option (Int32)
  | 0, _, _ => none
  | n17 + 1, x2, x4 =>
    if x3 ≤ x4 then (k4 x2 (x3 + 1)) else (if (((x1 >>> (x4 &&& 31)) &&& (x1 >>> (x3 &&& 31))) &&& (1 : Int32)) = (1 : Int32) then ((fX10_clique_l17 k4 x1 x3 T_s n17) (x2 ||| (fX10_pair x4 x3)) (x4 + 1)) else ((fX10_clique_l17 k4 x1 x3 T_s n17) (x2 ||| (0 : Int32)) (x4 + 1)))
def fX10_clique_l4 (x1 : Int32) (T_s : Nat → Int32) : Nat → Int32 → Int32 → Option (Int32)
  | 0, _, _ => none
  | n4 + 1, x2, x3 =>
    if (T_s 0) ≤ x3 then (some x2) else (fX10_clique_l17 (fX10_clique_l4 x1 T_s n4) x1 x3 T_s fuel x2 (0 : Int32))
def fX10_clique (x1 : Int32) (T_s : Nat → Int32) : Option (Int32) :=
  fX10_clique_l4 x1 T_s fuel (0 : Int32) (0 : Int32)
def fX10_star_l4 (x1 : Int32) (T_s : Nat → Int32) : Nat → Int32 → Int32 → Option (Int32)
  | 0, _, _ => none
  | n4 + 1, x2, x3 =>
    if (T_s 0) ≤ x3 then (some x2) else (if x3 = x1 then ((fX10_star_l4 x1 T_s n4) (x2 ||| (0 : Int32)) (x3 + 1)) else ((fX10_star_l4 x1 T_s n4) (x2 ||| (fX10_pair x3 x1)) (x3 + 1)))
def fX10_star (x1 : Int32) (T_s : Nat → Int32) : Option (Int32) :=
  fX10_star_l4 x1 T_s fuel (0 : Int32) (0 : Int32)
def fX10_lowest_l2 (x0 : Int32) : Nat → Int32 → Option (Int32)
  | 0, _ => none
  | n2 + 1, x1 =>
    if ((x0 >>> (x1 &&& 31)) &&& (1 : Int32)) = 0 then ((fX10_lowest_l2 x0 n2) (x1 + 1)) else (some x1)
def fX10_lowest (x0 : Int32) : Option (Int32) :=
  fX10_lowest_l2 x0 fuel (0 : Int32)
def fX10_highest_l3 (x0 : Int32) : Nat → Int32 → Option (Int32)
  | 0, _ => none
  | n3 + 1, x1 =>
    if ((x0 >>> (x1 &&& 31)) &&& (1 : Int32)) = 0 then ((fX10_highest_l3 x0 n3) (x1 + (-1))) else (some x1)
def fX10_highest (x0 : Int32) : Option (Int32) :=
  fX10_highest_l3 x0 fuel (7 : Int32)
def fX10_pathOf_l8 (x1 : Int32) (T_s : Nat → Int32) : Nat → Int32 → Int32 → Int32 → Option (Int32)
  | 0, _, _, _ => none
  | n8 + 1, x2, x3, x4 =>
    if (T_s 0) ≤ x4 then (some x2) else (if ((x1 >>> (x4 &&& 31)) &&& (1 : Int32)) = (1 : Int32) then (if x3 = (-9 : Int32) then ((fX10_pathOf_l8 x1 T_s n8) (x2 ||| (0 : Int32)) x4 (x4 + 1)) else ((fX10_pathOf_l8 x1 T_s n8) (x2 ||| (fX10_pair x3 x4)) x4 (x4 + 1))) else ((fX10_pathOf_l8 x1 T_s n8) x2 x3 (x4 + 1)))
def fX10_pathOf (x1 : Int32) (T_s : Nat → Int32) : Option (Int32) :=
  fX10_pathOf_l8 x1 T_s fuel (0 : Int32) (-9 : Int32) (0 : Int32)
def fX10_alone_l2 : Nat → Int32 → (Nat → Int32) → Option ((Nat → Int32))
  | 0, _, _ => none
  | n2 + 1, x1, T_known =>
    if (8 : Int32) ≤ x1 then (some T_known) else (ck (inb x1 8) ((fX10_alone_l2 n2) (x1 + 1) (upd T_known x1.toNatClampNeg ((1 : Int32) <<< (x1 &&& 31)))))
def fX10_alone (T_known : Nat → Int32) : Option ((Nat → Int32)) :=
  fX10_alone_l2 fuel (0 : Int32) T_known
def fX10_edgesAt (x1 : Int32) (T_s : Nat → Int32) : Option (Int32) :=
  if (T_s 1) = 0 then (some (0 : Int32)) else (ck (nz (T_s 1)) (ck (inb ((2 : Int32) + (x1 - x1 / (T_s 1) * (T_s 1))) 26) (some (T_s (((2 : Int32) + (x1 - x1 / (T_s 1) * (T_s 1))).toNatClampNeg)))))
def fX10_spreads_l95 (T_s : Nat → Int32) (T_then : Nat → Int32) : Nat → Int32 → (Nat → Int32) → Option ((Nat → Int32) × (Nat → Int32))
  | 0, _, _ => none
  | n95 + 1, x3, T_known =>
    if (T_s 0) ≤ x3 then (some (T_known, T_then)) else (ck (inb x3 8) (ck (inb x3 8) ((fX10_spreads_l95 T_s T_then n95) (x3 + 1) (upd T_known x3.toNatClampNeg (T_then x3.toNatClampNeg)))))
def fX10_spreads_l33 (k8 : Int32 → (Nat → Int32) → Option ((Nat → Int32) × (Nat → Int32))) (x2 : Int32) (x3 : Int32) (T_s : Nat → Int32) (T_known : Nat → Int32) : Nat → Int32 → (Nat → Int32) → Option ((Nat → Int32) × (Nat → Int32))
  | 0, _, _ => none
  | n33 + 1, x4, T_then =>
    if (T_s 0) ≤ x4 then (k8 (x3 + 1) T_then) else (ck (inb x3 8) (if x3 = x4 then (ck (inb x3 8) ((fX10_spreads_l33 k8 x2 x3 T_s T_known n33) (x4 + 1) (upd T_then x3.toNatClampNeg ((T_then x3.toNatClampNeg) ||| (0 : Int32))))) else (if (x2 &&& (fX10_pair x3 x4)) = 0 then (ck (inb x3 8) ((fX10_spreads_l33 k8 x2 x3 T_s T_known n33) (x4 + 1) (upd T_then x3.toNatClampNeg ((T_then x3.toNatClampNeg) ||| (0 : Int32))))) else (ck (inb x4 8) (ck (inb x3 8) ((fX10_spreads_l33 k8 x2 x3 T_s T_known n33) (x4 + 1) (upd T_then x3.toNatClampNeg ((T_then x3.toNatClampNeg) ||| (T_known x4.toNatClampNeg)))))))))
def fX10_spreads_l8 (x2 : Int32) (T_s : Nat → Int32) (T_known : Nat → Int32) : Nat → Int32 → (Nat → Int32) → Option ((Nat → Int32) × (Nat → Int32))
  | 0, _, _ => none
  | n8 + 1, x3, T_then =>
    if (T_s 0) ≤ x3 then (fX10_spreads_l95 T_s T_then fuel (0 : Int32) T_known) else (ck (inb x3 8) (ck (inb x3 8) (fX10_spreads_l33 (fX10_spreads_l8 x2 T_s T_known n8) x2 x3 T_s T_known fuel (0 : Int32) (upd T_then x3.toNatClampNeg (T_known x3.toNatClampNeg)))))
def fX10_spreads (x1 : Int32) (T_s : Nat → Int32) (T_known : Nat → Int32) (T_then : Nat → Int32) : Option ((Nat → Int32) × (Nat → Int32)) :=
  (fX10_edgesAt x1 T_s).bind (fun o6 => fX10_spreads_l8 o6 T_s T_known fuel (0 : Int32) T_then)
def fX10_floods_l6 (x1 : Int32) (x2 : Int32) (T_s : Nat → Int32) : Nat → Int32 → (Nat → Int32) → (Nat → Int32) → Option ((Nat → Int32) × (Nat → Int32))
  | 0, _, _, _ => none
  | n6 + 1, x3, T_known, T_then =>
    if x2 ≤ x3 then (some (T_known, T_then)) else ((fX10_spreads (x1 + x3) T_s T_known T_then).bind (fun o2 => (fX10_floods_l6 x1 x2 T_s n6) (x3 + 1) o2.1 o2.2))
def fX10_floods (x1 : Int32) (x2 : Int32) (T_s : Nat → Int32) (T_known : Nat → Int32) (T_then : Nat → Int32) : Option ((Nat → Int32) × (Nat → Int32)) :=
  (fX10_alone T_known).bind (fun o3 => fX10_floods_l6 x1 x2 T_s fuel (0 : Int32) o3 T_then)
def fX10_against_b123 (y1 : Int32) (T_s : Nat → Int32) (T_known : Nat → Int32) (T_then : Nat → Int32) : Option (Int32 × (Nat → Int32) × (Nat → Int32)) :=
  (fX10_star y1 T_s).bind (fun o1 => some (o1, T_known, T_then))
def fX10_against_b81 (x1 : Int32) (x2 : Int32) (x3 : Int32) (x4 : Int32) (y0 : Int32) (T_s : Nat → Int32) (T_known : Nat → Int32) (T_then : Nat → Int32) : Option (Int32 × (Nat → Int32) × (Nat → Int32)) :=
  if x1 = 0 then ((fX10_pathOf x3 T_s).bind (fun o8 => (fX10_pathOf x4 T_s).bind (fun o9 => some (((o8 ||| y0) ||| o9), T_known, T_then)))) else (if x1 = (1 : Int32) then (if x4 = 0 then (fX10_against_b123 x2 T_s T_known T_then) else ((fX10_lowest x4).bind (fun o7 => fX10_against_b123 o7 T_s T_known T_then))) else ((fX10_clique x3 T_s).bind (fun o4 => (fX10_clique x4 T_s).bind (fun o5 => some (((o4 ||| o5) ||| y0), T_known, T_then)))))
def fX10_against_l16 (x1 : Int32) (x2 : Int32) (T_s : Nat → Int32) (T_known : Nat → Int32) (T_then : Nat → Int32) : Nat → Int32 → Int32 → Option (Int32 × (Nat → Int32) × (Nat → Int32))
  | 0, _, _ => none
  | n16 + 1, x3, x4 =>
    if (T_s 0) ≤ x4 then (if ((fX10_all T_s) &&& (x3 ^^^ (-1 : Int32))) = 0 then (fX10_against_b81 x1 x2 x3 ((fX10_all T_s) &&& (x3 ^^^ (-1 : Int32))) (0 : Int32) T_s T_known T_then) else ((fX10_highest x3).bind (fun o12 => (fX10_lowest ((fX10_all T_s) &&& (x3 ^^^ (-1 : Int32)))).bind (fun o13 => fX10_against_b81 x1 x2 x3 ((fX10_all T_s) &&& (x3 ^^^ (-1 : Int32))) (fX10_pair o12 o13) T_s T_known T_then)))) else (ck (inb x4 8) ((fX10_against_l16 x1 x2 T_s T_known T_then n16) (x3 ||| ((((T_known x4.toNatClampNeg) >>> (x2 &&& 31)) &&& (1 : Int32)) <<< (x4 &&& 31))) (x4 + 1)))
def fX10_against (x1 : Int32) (x2 : Int32) (T_s : Nat → Int32) (T_known : Nat → Int32) (T_then : Nat → Int32) : Option (Int32 × (Nat → Int32) × (Nat → Int32)) :=
  (fX10_floods (0 : Int32) (T_s 1) T_s T_known T_then).bind (fun o14 => fX10_against_l16 x1 x2 T_s o14.1 o14.2 fuel (0 : Int32) (0 : Int32))
def fX10_addAdversary (x1 : Int32) (x2 : Int32) (T_s : Nat → Int32) (T_past : Nat → Int32) (T_aside : Nat → Int32) (T_pasts : Int32) (T_known : Nat → Int32) (T_then : Nat → Int32) : Option (Int32 × (Nat → Int32) × (Nat → Int32) × (Nat → Int32) × Int32 × (Nat → Int32) × (Nat → Int32)) :=
  if (b2i (fX10_in x1 (0 : Int32) (2 : Int32))) = 0 then (some ((-1 : Int32), T_s, T_past, T_aside, T_pasts, T_known, T_then)) else (if (b2i (fX10_isNode x2 T_s)) = 0 then (some ((-1 : Int32), T_s, T_past, T_aside, T_pasts, T_known, T_then)) else (if (T_s 1) = (16 : Int32) then (some ((-3 : Int32), T_s, T_past, T_aside, T_pasts, T_known, T_then)) else ((fX10_hold T_s T_aside).bind (fun o4 => (fX10_against x1 x2 T_s T_known T_then).bind (fun o5 => (fX10_adds o5.1 T_s).bind (fun o6 => (fX10_size o5.1).bind (fun o7 => (fX10_ends o7 T_past o4 T_pasts).bind (fun o8 => some (o8.1, o6, o8.2.1, o4, o8.2.2, o5.2.1, o5.2.2)))))))))
def fX10_setValue (x1 : Int32) (x2 : Int32) (T_s : Nat → Int32) (T_past : Nat → Int32) (T_aside : Nat → Int32) (T_pasts : Int32) : Option (Int32 × (Nat → Int32) × (Nat → Int32) × (Nat → Int32) × Int32) :=
  if (b2i (fX10_isNode x1 T_s)) = 0 then (some ((-1 : Int32), T_s, T_past, T_aside, T_pasts)) else (if (b2i (fX10_in x2 (0 : Int32) (99 : Int32))) = 0 then (some ((-1 : Int32), T_s, T_past, T_aside, T_pasts)) else ((fX10_hold T_s T_aside).bind (fun o3 => ck (inb ((18 : Int32) + x1) 26) (ck (inb ((18 : Int32) + x1) 26) ((fX10_ends (T_s (((18 : Int32) + x1).toNatClampNeg)) T_past o3 T_pasts).bind (fun o4 => some (o4.1, (upd T_s (((18 : Int32) + x1).toNatClampNeg) x2), o4.2.1, o3, o4.2.2)))))))
def fX10_edge (x1 : Int32) (x2 : Int32) (x3 : Int32) (T_s : Nat → Int32) : Option (Int32) :=
  if (b2i (fX10_isRound x1 T_s)) = 0 then (some (-1 : Int32)) else (if (b2i (fX10_isPair x2 x3 T_s)) = 0 then (some (-1 : Int32)) else (ck (inb ((2 : Int32) + x1) 26) (if ((T_s (((2 : Int32) + x1).toNatClampNeg)) &&& (fX10_pair x2 x3)) = 0 then (some (0 : Int32)) else (some (1 : Int32)))))
def fX10_around_l19 (k5 : Int32 → Int32 → Option (Int32)) (x1 : Int32) (x2 : Int32) (x4 : Int32) (T_s : Nat → Int32) : Nat → Int32 → Int32 → Option (Int32)
  | 0, _, _ => none
  | n19 + 1, x3, x5 =>
    if x4 ≤ x5 then (k5 x3 (x4 + 1)) else (if (x1 &&& (fX10_pair x5 x4)) = 0 then ((fX10_around_l19 k5 x1 x2 x4 T_s n19) x3 (x5 + 1)) else ((fX10_around_l19 k5 x1 x2 x4 T_s n19) (x3 ||| ((((x2 >>> (x5 &&& 31)) &&& (1 : Int32)) <<< (x4 &&& 31)) ||| (((x2 >>> (x4 &&& 31)) &&& (1 : Int32)) <<< (x5 &&& 31)))) (x5 + 1)))
def fX10_around_l5 (x1 : Int32) (x2 : Int32) (T_s : Nat → Int32) : Nat → Int32 → Int32 → Option (Int32)
  | 0, _, _ => none
  | n5 + 1, x3, x4 =>
    if (T_s 0) ≤ x4 then (some x3) else (fX10_around_l19 (fX10_around_l5 x1 x2 T_s n5) x1 x2 x4 T_s fuel x3 (0 : Int32))
def fX10_around (x1 : Int32) (x2 : Int32) (T_s : Nat → Int32) : Option (Int32) :=
  fX10_around_l5 x1 x2 T_s fuel x2 (0 : Int32)
def fX10_componentOf_l7 (x1 : Int32) (T_s : Nat → Int32) : Nat → Int32 → Int32 → Option (Int32)
  | 0, _, _ => none
  | n7 + 1, x3, x4 =>
    if (T_s 0) ≤ x4 then (some x3) else ((fX10_around x1 x3 T_s).bind (fun o2 => (fX10_componentOf_l7 x1 T_s n7) o2 (x4 + 1)))
def fX10_componentOf (x1 : Int32) (x2 : Int32) (T_s : Nat → Int32) : Option (Int32) :=
  fX10_componentOf_l7 x1 T_s fuel ((1 : Int32) <<< (x2 &&& 31)) (0 : Int32)
def fX10_isConnected (x1 : Int32) (T_s : Nat → Int32) : Option (Bool) :=
  (fX10_componentOf x1 (0 : Int32) T_s).bind (fun o1 => if o1 = (fX10_all T_s) then (some true) else (some false))
def fX10_sumOf_l4 (x1 : Int32) (T_s : Nat → Int32) : Nat → Int32 → Int32 → Option (Int32)
  | 0, _, _ => none
  | n4 + 1, x2, x3 =>
    if (T_s 1) ≤ x3 then (some x2) else (if x1 = 0 then (ck (inb ((2 : Int32) + x3) 26) ((fX10_size (T_s (((2 : Int32) + x3).toNatClampNeg))).bind (fun o5 => (fX10_sumOf_l4 x1 T_s n4) (x2 + o5) (x3 + 1)))) else (ck (inb ((2 : Int32) + x3) 26) ((fX10_isConnected (T_s (((2 : Int32) + x3).toNatClampNeg)) T_s).bind (fun o3 => if (b2i o3) = 0 then ((fX10_sumOf_l4 x1 T_s n4) (x2 + (0 : Int32)) (x3 + 1)) else ((fX10_sumOf_l4 x1 T_s n4) (x2 + (1 : Int32)) (x3 + 1))))))
def fX10_sumOf (x1 : Int32) (T_s : Nat → Int32) : Option (Int32) :=
  fX10_sumOf_l4 x1 T_s fuel (0 : Int32) (0 : Int32)
def fX10_count (x1 : Int32) (T_s : Nat → Int32) (T_pasts : Int32) (T_typed : Int32) : Option (Int32) :=
  if x1 = 0 then (some (T_s 0)) else (if x1 = 1 then (some (T_s 1)) else (if x1 = 2 then ((fX10_sumOf (0 : Int32) T_s).bind (fun o4 => some o4)) else (if x1 = 3 then ((fX10_sumOf (1 : Int32) T_s).bind (fun o6 => some o6)) else (if x1 = 4 then (some T_typed) else (if x1 = 5 then (some T_pasts) else (some (-1 : Int32)))))))
def fX10_value (x1 : Int32) (T_s : Nat → Int32) : Option (Int32) :=
  if (b2i (fX10_isNode x1 T_s)) = 0 then (some (-1 : Int32)) else (ck (inb ((18 : Int32) + x1) 26) (some (T_s (((18 : Int32) + x1).toNatClampNeg))))
def fX10_appendCharacter (x1 : Int32) (T_text : Nat → Int32) (T_typed : Int32) : Option (Int32 × (Nat → Int32) × Int32) :=
  if (b2i (fX10_in x1 (0 : Int32) (255 : Int32))) = 0 then (some ((-1 : Int32), T_text, T_typed)) else (if T_typed = (120 : Int32) then (some ((-3 : Int32), T_text, T_typed)) else (ck (inb T_typed 120) (some ((T_typed + (1 : Int32)), (upd T_text T_typed.toNatClampNeg x1), (T_typed + (1 : Int32))))))
def fX10_clearText (T_typed : Int32) : (Int32 × Int32) :=
  (T_typed, (0 : Int32))
def fX10_isHere (x1 : Int32) (x2 : Int32) (T_text : Nat → Int32) (T_typed : Int32) (T_at : Int32) : Option (Bool) :=
  if T_typed ≤ T_at then (some false) else (ck (inb T_at 120) (if (b2i (fX10_in (T_text T_at.toNatClampNeg) x1 x2)) = 0 then (some false) else (some true)))
def fX10_reads_b238 (y1 : Int32) (y2 : Int32) (T_at : Int32) (T_from : Int32) (T_token : Int32) (T_many : Int32) (T_letters : Int64) (T_number : Int32) : Option (Int32 × Int32 × Int32 × Int32 × Int64 × Int32) :=
  some ((y1 + y2), T_from, T_token, ((y1 + y2) - T_from), T_letters, T_number)
def fX10_reads_b220 (T_at : Int32) (T_from : Int32) (T_token : Int32) (T_many : Int32) (T_letters : Int64) (T_number : Int32) : Option (Int32 × Int32 × Int32 × Int32 × Int64 × Int32) :=
  if T_token ≤ (2 : Int32) then (fX10_reads_b238 T_at (0 : Int32) T_at T_from T_token T_many T_letters T_number) else (fX10_reads_b238 T_at (1 : Int32) T_at T_from T_token T_many T_letters T_number)
def fX10_reads_l161 (T_text : Nat → Int32) (T_typed : Int32) (T_from : Int32) (T_token : Int32) (T_many : Int32) (T_letters : Int64) : Nat → Int32 → Int32 → Option (Int32 × Int32 × Int32 × Int32 × Int64 × Int32)
  | 0, _, _ => none
  | n161 + 1, T_at, T_number =>
    if T_token = (2 : Int32) then ((fX10_isHere (48 : Int32) (57 : Int32) T_text T_typed T_at).bind (fun o3 => if (b2i o3) = 0 then (fX10_reads_b220 T_at T_from T_token T_many T_letters T_number) else (ck (inb T_at 120) ((fX10_reads_l161 T_text T_typed T_from T_token T_many T_letters n161) (T_at + (1 : Int32)) (((((10 : Int32) * T_number) + (T_text T_at.toNatClampNeg)) - (48 : Int32)) - ((((10 : Int32) * T_number) + (T_text T_at.toNatClampNeg)) - (48 : Int32)) / (1000000 : Int32) * (1000000 : Int32)))))) else (fX10_reads_b220 T_at T_from T_token T_many T_letters T_number)
def fX10_reads_l107 (T_text : Nat → Int32) (T_typed : Int32) (T_from : Int32) (T_token : Int32) (T_many : Int32) (T_number : Int32) : Nat → Int32 → Int64 → Option (Int32 × Int32 × Int32 × Int32 × Int64 × Int32)
  | 0, _, _ => none
  | n107 + 1, T_at, T_letters =>
    if T_token = (1 : Int32) then ((fX10_isHere (97 : Int32) (122 : Int32) T_text T_typed T_at).bind (fun o6 => if (b2i o6) = 0 then (fX10_reads_l161 T_text T_typed T_from T_token T_many T_letters fuel T_at T_number) else (ck (inb T_at 120) ((fX10_reads_l107 T_text T_typed T_from T_token T_many T_number n107) (T_at + (1 : Int32)) ((T_letters <<< ((8 : Int32).toInt64 &&& 63)) ||| ((T_text T_at.toNatClampNeg).toInt64)))))) else (fX10_reads_l161 T_text T_typed T_from T_token T_many T_letters fuel T_at T_number)
def fX10_reads_l0 (T_text : Nat → Int32) (T_typed : Int32) (T_from : Int32) (T_token : Int32) (T_many : Int32) (T_letters : Int64) (T_number : Int32) : Nat → Int32 → Option (Int32 × Int32 × Int32 × Int32 × Int64 × Int32)
  | 0, _ => none
  | n0 + 1, T_at =>
    (fX10_isHere (32 : Int32) (32 : Int32) T_text T_typed T_at).bind (fun o8 => if (b2i o8) = 0 then (if T_at = T_typed then (fX10_reads_l107 T_text T_typed T_at (0 : Int32) T_many (0 : Int32) fuel T_at (0 : Int64)) else ((fX10_isHere (97 : Int32) (122 : Int32) T_text T_typed T_at).bind (fun o11 => if (b2i o11) = 0 then ((fX10_isHere (48 : Int32) (57 : Int32) T_text T_typed T_at).bind (fun o13 => if (b2i o13) = 0 then ((fX10_isHere (59 : Int32) (59 : Int32) T_text T_typed T_at).bind (fun o15 => if (b2i o15) = 0 then (fX10_reads_l107 T_text T_typed T_at (4 : Int32) T_many (0 : Int32) fuel T_at (0 : Int64)) else (fX10_reads_l107 T_text T_typed T_at (3 : Int32) T_many (0 : Int32) fuel T_at (0 : Int64)))) else (fX10_reads_l107 T_text T_typed T_at (2 : Int32) T_many (0 : Int32) fuel T_at (0 : Int64)))) else (fX10_reads_l107 T_text T_typed T_at (1 : Int32) T_many (0 : Int32) fuel T_at (0 : Int64))))) else ((fX10_reads_l0 T_text T_typed T_from T_token T_many T_letters T_number n0) (T_at + (1 : Int32))))
def fX10_reads (T_text : Nat → Int32) (T_typed : Int32) (T_at : Int32) (T_from : Int32) (T_token : Int32) (T_many : Int32) (T_letters : Int64) (T_number : Int32) : Option (Int32 × Int32 × Int32 × Int32 × Int64 × Int32) :=
  fX10_reads_l0 T_text T_typed T_from T_token T_many T_letters T_number fuel T_at
def fX10_isDigit (x1 : Int32) (x2 : Int32) (T_token : Int32) (T_many : Int32) (T_number : Int32) : (Bool) :=
  if T_token = (2 : Int32) then (if T_many = (1 : Int32) then (if (b2i (fX10_in T_number x1 x2)) = 0 then false else true) else false) else false
def fX10_isEdge (T_s : Nat → Int32) (T_token : Int32) (T_many : Int32) (T_number : Int32) : (Bool) :=
  if T_token = (2 : Int32) then (if T_many = (2 : Int32) then (if (b2i (fX10_isPair (T_number / (10 : Int32)) (T_number - T_number / (10 : Int32) * (10 : Int32)) T_s)) = 0 then false else true) else false) else false
def fX10_isWord (x1 : Int32) (x2 : Int64) (T_token : Int32) (T_many : Int32) (T_letters : Int64) : (Bool) :=
  if T_token = (1 : Int32) then (if T_many = x1 then (if (lg_cmp T_letters x2) = 0 then true else false) else false) else false
def fX10_roundOf (T_s : Nat → Int32) (T_token : Int32) (T_many : Int32) (T_letters : Int64) : Option (Int32) :=
  (fX10_pathOf (fX10_all T_s) T_s).bind (fun o1 => if (b2i (fX10_isWord (4 : Int32) (1852796517 : Int64) T_token T_many T_letters)) = 0 then (if (b2i (fX10_isWord (4 : Int32) (1718971500 : Int64) T_token T_many T_letters)) = 0 then (if (b2i (fX10_isWord (4 : Int32) (1885434984 : Int64) T_token T_many T_letters)) = 0 then (if (b2i (fX10_isWord (4 : Int32) (1919512167 : Int64) T_token T_many T_letters)) = 0 then (some (-9 : Int32)) else (if (T_s 0) ≤ (2 : Int32) then (some (o1 ||| (0 : Int32))) else (some (o1 ||| (fX10_pair (0 : Int32) ((T_s 0) - (1 : Int32))))))) else (some o1)) else ((fX10_clique (fX10_all T_s) T_s).bind (fun o7 => some o7))) else (some (0 : Int32)))
def fX10_isRepeat_l39 (x1 : Int32) (T_text : Nat → Int32) (T_typed : Int32) (T_at : Int32) (T_from : Int32) (T_token : Int32) (T_many : Int32) (T_letters : Int64) (T_number : Int32) : Nat → Int32 → (Nat → Int32) → Option (Bool × (Nat → Int32) × Int32 × Int32 × Int32 × Int32 × Int64 × Int32)
  | 0, _, _ => none
  | n39 + 1, x2, T_s =>
    if x1 ≤ x2 then ((fX10_reads T_text T_typed T_at T_from T_token T_many T_letters T_number).bind (fun o2 => if o2.2.2.1 = (3 : Int32) then (some (true, T_s, o2.1, o2.2.1, o2.2.2.1, o2.2.2.2.1, o2.2.2.2.2.1, o2.2.2.2.2.2)) else (some (false, T_s, o2.1, o2.2.1, o2.2.2.1, o2.2.2.2.1, o2.2.2.2.2.1, o2.2.2.2.2.2)))) else (ck (inb (((2 : Int32) + (T_s 1)) - (1 : Int32)) 26) ((fX10_adds (T_s ((((2 : Int32) + (T_s 1)) - (1 : Int32)).toNatClampNeg)) T_s).bind (fun o4 => (fX10_isRepeat_l39 x1 T_text T_typed T_at T_from T_token T_many T_letters T_number n39) (x2 + 1) o4)))
def fX10_isRepeat (T_s : Nat → Int32) (T_text : Nat → Int32) (T_typed : Int32) (T_at : Int32) (T_from : Int32) (T_token : Int32) (T_many : Int32) (T_letters : Int64) (T_number : Int32) : Option (Bool × (Nat → Int32) × Int32 × Int32 × Int32 × Int32 × Int64 × Int32) :=
  (fX10_reads T_text T_typed T_at T_from T_token T_many T_letters T_number).bind (fun o5 => if (b2i (fX10_isDigit (1 : Int32) (9 : Int32) o5.2.2.1 o5.2.2.2.1 o5.2.2.2.2.2)) = 0 then (some (false, T_s, o5.1, o5.2.1, o5.2.2.1, o5.2.2.2.1, o5.2.2.2.2.1, o5.2.2.2.2.2)) else (if ((T_s 1) + o5.2.2.2.2.2) ≤ (16 : Int32) then (fX10_isRepeat_l39 o5.2.2.2.2.2 T_text T_typed o5.1 o5.2.1 o5.2.2.1 o5.2.2.2.1 o5.2.2.2.2.1 o5.2.2.2.2.2 fuel (0 : Int32) T_s) else (some (false, T_s, o5.1, o5.2.1, o5.2.2.1, o5.2.2.2.1, o5.2.2.2.2.1, o5.2.2.2.2.2))))
def fX10_areEdges_l2 (T_s : Nat → Int32) (T_text : Nat → Int32) (T_typed : Int32) : Nat → Int32 → Int32 → Int32 → Int32 → Int32 → Int64 → Int32 → Option (Bool × (Nat → Int32) × Int32 × Int32 × Int32 × Int32 × Int64 × Int32)
  | 0, _, _, _, _, _, _, _ => none
  | n2 + 1, x1, T_at, T_from, T_token, T_many, T_letters, T_number =>
    if (b2i (fX10_isEdge T_s T_token T_many T_number)) = 0 then ((fX10_adds x1 T_s).bind (fun o2 => if T_token = (3 : Int32) then (some (true, o2, T_at, T_from, T_token, T_many, T_letters, T_number)) else (some (false, o2, T_at, T_from, T_token, T_many, T_letters, T_number)))) else ((fX10_reads T_text T_typed T_at T_from T_token T_many T_letters T_number).bind (fun o4 => (fX10_areEdges_l2 T_s T_text T_typed n2) (x1 ||| (fX10_pair (T_number / (10 : Int32)) (T_number - T_number / (10 : Int32) * (10 : Int32)))) o4.1 o4.2.1 o4.2.2.1 o4.2.2.2.1 o4.2.2.2.2.1 o4.2.2.2.2.2))
def fX10_areEdges (T_s : Nat → Int32) (T_text : Nat → Int32) (T_typed : Int32) (T_at : Int32) (T_from : Int32) (T_token : Int32) (T_many : Int32) (T_letters : Int64) (T_number : Int32) : Option (Bool × (Nat → Int32) × Int32 × Int32 × Int32 × Int32 × Int64 × Int32) :=
  fX10_areEdges_l2 T_s T_text T_typed fuel (0 : Int32) T_at T_from T_token T_many T_letters T_number
def fX10_isItem_b57 (T_s : Nat → Int32) (T_text : Nat → Int32) (T_typed : Int32) (T_at : Int32) (T_from : Int32) (T_token : Int32) (T_many : Int32) (T_letters : Int64) (T_number : Int32) : Option (Bool × (Nat → Int32) × Int32 × Int32 × Int32 × Int32 × Int64 × Int32) :=
  if (b2i (fX10_isWord (6 : Int32) (125780002955636 : Int64) T_token T_many T_letters)) = 0 then (if (T_s 1) = (16 : Int32) then (some (false, T_s, T_at, T_from, T_token, T_many, T_letters, T_number)) else (if (b2i (fX10_isWord (4 : Int32) (1937006962 : Int64) T_token T_many T_letters)) = 0 then ((fX10_roundOf T_s T_token T_many T_letters).bind (fun o4 => if o4 = (-9 : Int32) then (if (b2i (fX10_isEdge T_s T_token T_many T_number)) = 0 then (some (false, T_s, T_at, T_from, T_token, T_many, T_letters, T_number)) else ((fX10_areEdges T_s T_text T_typed T_at T_from T_token T_many T_letters T_number).bind (fun o7 => if (b2i o7.1) = 0 then (some (false, o7.2.1, o7.2.2.1, o7.2.2.2.1, o7.2.2.2.2.1, o7.2.2.2.2.2.1, o7.2.2.2.2.2.2.1, o7.2.2.2.2.2.2.2)) else (some (true, o7.2.1, o7.2.2.1, o7.2.2.2.1, o7.2.2.2.2.1, o7.2.2.2.2.2.1, o7.2.2.2.2.2.2.1, o7.2.2.2.2.2.2.2))))) else ((fX10_adds o4 T_s).bind (fun o9 => (fX10_reads T_text T_typed T_at T_from T_token T_many T_letters T_number).bind (fun o10 => if o10.2.2.1 = (3 : Int32) then (some (true, o9, o10.1, o10.2.1, o10.2.2.1, o10.2.2.2.1, o10.2.2.2.2.1, o10.2.2.2.2.2)) else (some (false, o9, o10.1, o10.2.1, o10.2.2.1, o10.2.2.2.1, o10.2.2.2.2.1, o10.2.2.2.2.2))))))) else ((fX10_reads T_text T_typed T_at T_from T_token T_many T_letters T_number).bind (fun o12 => if (b2i (fX10_isDigit (0 : Int32) ((T_s 0) - (1 : Int32)) o12.2.2.1 o12.2.2.2.1 o12.2.2.2.2.2)) = 0 then (some (false, T_s, o12.1, o12.2.1, o12.2.2.1, o12.2.2.2.1, o12.2.2.2.2.1, o12.2.2.2.2.2)) else ((fX10_star o12.2.2.2.2.2 T_s).bind (fun o14 => (fX10_adds o14 T_s).bind (fun o15 => (fX10_reads T_text T_typed o12.1 o12.2.1 o12.2.2.1 o12.2.2.2.1 o12.2.2.2.2.1 o12.2.2.2.2.2).bind (fun o16 => if o16.2.2.1 = (3 : Int32) then (some (true, o15, o16.1, o16.2.1, o16.2.2.1, o16.2.2.2.1, o16.2.2.2.2.1, o16.2.2.2.2.2)) else (some (false, o15, o16.1, o16.2.1, o16.2.2.1, o16.2.2.2.1, o16.2.2.2.2.1, o16.2.2.2.2.2)))))))))) else (if (T_s 1) ≤ 0 then (some (false, T_s, T_at, T_from, T_token, T_many, T_letters, T_number)) else ((fX10_isRepeat T_s T_text T_typed T_at T_from T_token T_many T_letters T_number).bind (fun o19 => if (b2i o19.1) = 0 then (some (false, o19.2.1, o19.2.2.1, o19.2.2.2.1, o19.2.2.2.2.1, o19.2.2.2.2.2.1, o19.2.2.2.2.2.2.1, o19.2.2.2.2.2.2.2)) else (some (true, o19.2.1, o19.2.2.1, o19.2.2.2.1, o19.2.2.2.2.1, o19.2.2.2.2.2.1, o19.2.2.2.2.2.2.1, o19.2.2.2.2.2.2.2)))))
def fX10_isItem (x1 : Int32) (T_s : Nat → Int32) (T_text : Nat → Int32) (T_typed : Int32) (T_at : Int32) (T_from : Int32) (T_token : Int32) (T_many : Int32) (T_letters : Int64) (T_number : Int32) : Option (Bool × (Nat → Int32) × Int32 × Int32 × Int32 × Int32 × Int64 × Int32) :=
  if x1 = 0 then (fX10_isItem_b57 T_s T_text T_typed T_at T_from T_token T_many T_letters T_number) else (if (b2i (fX10_isWord (5 : Int32) (474315253107 : Int64) T_token T_many T_letters)) = 0 then (fX10_isItem_b57 T_s T_text T_typed T_at T_from T_token T_many T_letters T_number) else ((fX10_reads T_text T_typed T_at T_from T_token T_many T_letters T_number).bind (fun o23 => if (b2i (fX10_isDigit (2 : Int32) (8 : Int32) o23.2.2.1 o23.2.2.2.1 o23.2.2.2.2.2)) = 0 then (some (false, T_s, o23.1, o23.2.1, o23.2.2.1, o23.2.2.2.1, o23.2.2.2.2.1, o23.2.2.2.2.2)) else ((fX10_begins o23.2.2.2.2.2 T_s).bind (fun o25 => (fX10_reads T_text T_typed o23.1 o23.2.1 o23.2.2.1 o23.2.2.2.1 o23.2.2.2.2.1 o23.2.2.2.2.2).bind (fun o26 => if o26.2.2.1 = (3 : Int32) then (some (true, o25, o26.1, o26.2.1, o26.2.2.1, o26.2.2.2.1, o26.2.2.2.2.1, o26.2.2.2.2.2)) else (some (false, o25, o26.1, o26.2.1, o26.2.2.1, o26.2.2.2.1, o26.2.2.2.2.1, o26.2.2.2.2.2))))))))
def fX10_load_l20 (T_past : Nat → Int32) (T_aside : Nat → Int32) (T_pasts : Int32) (T_text : Nat → Int32) (T_typed : Int32) : Nat → Int32 → (Nat → Int32) → Int32 → Int32 → Int32 → Int32 → Int64 → Int32 → Option (Int32 × (Nat → Int32) × (Nat → Int32) × (Nat → Int32) × Int32 × Int32 × Int32 × Int32 × Int32 × Int32 × Int64 × Int32)
  | 0, _, _, _, _, _, _, _, _ => none
  | n20 + 1, x1, T_s, T_at, T_from, T_token, T_many, T_letters, T_number =>
    if T_token = 0 then ((fX10_ends (T_s 1) T_past T_aside T_pasts).bind (fun o2 => some (o2.1, T_s, o2.2.1, T_aside, o2.2.2, (0 : Int32), T_at, T_from, T_token, T_many, T_letters, T_number))) else ((fX10_isItem x1 T_s T_text T_typed T_at T_from T_token T_many T_letters T_number).bind (fun o3 => if (b2i o3.1) = 0 then ((fX10_restore o3.2.1 T_aside).bind (fun o6 => some (((-10 : Int32) - o3.2.2.2.1), o6, T_past, T_aside, T_pasts, T_typed, o3.2.2.1, o3.2.2.2.1, o3.2.2.2.2.1, o3.2.2.2.2.2.1, o3.2.2.2.2.2.2.1, o3.2.2.2.2.2.2.2))) else ((fX10_reads T_text T_typed o3.2.2.1 o3.2.2.2.1 o3.2.2.2.2.1 o3.2.2.2.2.2.1 o3.2.2.2.2.2.2.1 o3.2.2.2.2.2.2.2).bind (fun o5 => (fX10_load_l20 T_past T_aside T_pasts T_text T_typed n20) (0 : Int32) o3.2.1 o5.1 o5.2.1 o5.2.2.1 o5.2.2.2.1 o5.2.2.2.2.1 o5.2.2.2.2.2))))
def fX10_load (T_s : Nat → Int32) (T_past : Nat → Int32) (T_aside : Nat → Int32) (T_pasts : Int32) (T_text : Nat → Int32) (T_typed : Int32) (T_at : Int32) (T_from : Int32) (T_token : Int32) (T_many : Int32) (T_letters : Int64) (T_number : Int32) : Option (Int32 × (Nat → Int32) × (Nat → Int32) × (Nat → Int32) × Int32 × Int32 × Int32 × Int32 × Int32 × Int32 × Int64 × Int32) :=
  (fX10_hold T_s T_aside).bind (fun o7 => (fX10_begins (4 : Int32) T_s).bind (fun o8 => (fX10_reads T_text T_typed (0 : Int32) T_from T_token T_many T_letters T_number).bind (fun o9 => fX10_load_l20 T_past o7 T_pasts T_text T_typed fuel (1 : Int32) o8 o9.1 o9.2.1 o9.2.2.1 o9.2.2.2.1 o9.2.2.2.2.1 o9.2.2.2.2.2)))
def fX10_components_l4 (x1 : Int32) (T_s : Nat → Int32) : Nat → Int32 → Int32 → Option (Int32)
  | 0, _, _ => none
  | n4 + 1, x2, x3 =>
    if (T_s 0) ≤ x3 then (some x2) else ((fX10_componentOf x1 x3 T_s).bind (fun o2 => (fX10_lowest o2).bind (fun o3 => if o3 = x3 then ((fX10_components_l4 x1 T_s n4) (x2 + (1 : Int32)) (x3 + 1)) else ((fX10_components_l4 x1 T_s n4) (x2 + (0 : Int32)) (x3 + 1)))))
def fX10_components (x1 : Int32) (T_s : Nat → Int32) : Option (Int32) :=
  fX10_components_l4 x1 T_s fuel (0 : Int32) (0 : Int32)
def fX10_degree_l4 (x1 : Int32) (T_s : Nat → Int32) : Nat → Int32 → Int32 → Option (Int32)
  | 0, _, _ => none
  | n4 + 1, x2, x3 =>
    if (T_s 0) ≤ x3 then (some x2) else ((fX10_around x1 ((1 : Int32) <<< (x3 &&& 31)) T_s).bind (fun o2 => (fX10_size o2).bind (fun o3 => if (o3 - (1 : Int32)) ≤ x2 then ((fX10_degree_l4 x1 T_s n4) x2 (x3 + 1)) else ((fX10_degree_l4 x1 T_s n4) (o3 - (1 : Int32)) (x3 + 1)))))
def fX10_degree (x1 : Int32) (T_s : Nat → Int32) : Option (Int32) :=
  fX10_degree_l4 x1 T_s fuel (0 : Int32) (0 : Int32)
def fX10_round (x1 : Int32) (x2 : Int32) (T_s : Nat → Int32) : Option (Int32) :=
  if (b2i (fX10_isRound x1 T_s)) = 0 then (some (-1 : Int32)) else (ck (inb ((2 : Int32) + x1) 26) (if x2 = 0 then ((fX10_size (T_s (((2 : Int32) + x1).toNatClampNeg))).bind (fun o3 => some o3)) else (if x2 = 1 then ((fX10_isConnected (T_s (((2 : Int32) + x1).toNatClampNeg)) T_s).bind (fun o5 => if (b2i o5) = 0 then (some (0 : Int32)) else (some (1 : Int32)))) else (if x2 = 2 then ((fX10_components (T_s (((2 : Int32) + x1).toNatClampNeg)) T_s).bind (fun o8 => some o8)) else (if x2 = 3 then ((fX10_degree (T_s (((2 : Int32) + x1).toNatClampNeg)) T_s).bind (fun o10 => some o10)) else (some (-1 : Int32)))))))
def fX10_stay_l6 (x1 : Int32) (x2 : Int32) (T_s : Nat → Int32) : Nat → Int32 → Int32 → Option (Int32)
  | 0, _, _ => none
  | n6 + 1, x3, x4 =>
    if x2 ≤ x4 then (some x3) else (ck (inb (((2 : Int32) + x1) + x4) 26) ((fX10_stay_l6 x1 x2 T_s n6) (x3 &&& (T_s ((((2 : Int32) + x1) + x4).toNatClampNeg))) (x4 + 1)))
def fX10_stay (x1 : Int32) (x2 : Int32) (T_s : Nat → Int32) : Option (Int32) :=
  fX10_stay_l6 x1 x2 T_s fuel (268435455 : Int32) (0 : Int32)
def fX10_staying (x1 : Int32) (x2 : Int32) (T_s : Nat → Int32) : Option (Int32) :=
  if (b2i (fX10_isRound x1 T_s)) = 0 then (some (-1 : Int32)) else (if x2 < (1 : Int32) then (some (-1 : Int32)) else (if x2 ≤ ((T_s 1) - x1) then ((fX10_stay x1 x2 T_s).bind (fun o4 => (fX10_size o4).bind (fun o5 => some o5))) else (some (-1 : Int32))))
def fX10_areStable_l4 (x1 : Int32) (T_s : Nat → Int32) : Nat → Int32 → Int32 → Option (Bool)
  | 0, _, _ => none
  | n4 + 1, x2, x3 =>
    if (T_s 1) < (x3 + x1) then (ck (isb x2) (some (i2b x2))) else (if x2 = 0 then ((fX10_areStable_l4 x1 T_s n4) (0 : Int32) (x3 + 1)) else ((fX10_stay x3 x1 T_s).bind (fun o3 => (fX10_isConnected o3 T_s).bind (fun o4 => if (b2i o4) = 0 then ((fX10_areStable_l4 x1 T_s n4) (0 : Int32) (x3 + 1)) else ((fX10_areStable_l4 x1 T_s n4) (1 : Int32) (x3 + 1))))))
def fX10_areStable (x1 : Int32) (T_s : Nat → Int32) : Option (Bool) :=
  fX10_areStable_l4 x1 T_s fuel (1 : Int32) (0 : Int32)
def fX10_isStable (x1 : Int32) (T_s : Nat → Int32) : Option (Int32) :=
  if (b2i (fX10_in x1 (1 : Int32) (T_s 1))) = 0 then (some (-1 : Int32)) else ((fX10_areStable x1 T_s).bind (fun o2 => if (b2i o2) = 0 then (some (0 : Int32)) else (some (1 : Int32))))
def fX10_greatestStable_l7 (T_s : Nat → Int32) : Nat → Int32 → Option (Int32)
  | 0, _ => none
  | n7 + 1, x1 =>
    if x1 ≤ 0 then (some x1) else ((fX10_areStable x1 T_s).bind (fun o2 => if (b2i o2) = 0 then ((fX10_greatestStable_l7 T_s n7) (x1 + (-1))) else (some x1)))
def fX10_greatestStable (T_s : Nat → Int32) : Option (Int32) :=
  fX10_greatestStable_l7 T_s fuel (T_s 1)
def fX10_window_l12 (x1 : Int32) (T_s : Nat → Int32) : Nat → Int32 → Option (Int32)
  | 0, _ => none
  | n12 + 1, x2 =>
    if (T_s 1) ≤ (x1 + x2) then (some x2) else ((fX10_stay x1 (x2 + (1 : Int32)) T_s).bind (fun o2 => (fX10_isConnected o2 T_s).bind (fun o3 => if (b2i o3) = 0 then (some x2) else ((fX10_window_l12 x1 T_s n12) (x2 + 1)))))
def fX10_window (x1 : Int32) (T_s : Nat → Int32) : Option (Int32) :=
  if (b2i (fX10_isRound x1 T_s)) = 0 then (some (-1 : Int32)) else (fX10_window_l12 x1 T_s fuel (0 : Int32))
def fX10_isTime (x0 : Int32) : (Bool) :=
  (fX10_in x0 (0 : Int32) (99 : Int32))
def fX10_heard (x1 : Int32) (x2 : Int32) (x3 : Int32) (T_s : Nat → Int32) (T_known : Nat → Int32) (T_then : Nat → Int32) : Option (Int32 × (Nat → Int32) × (Nat → Int32)) :=
  if (b2i (fX10_isNode x1 T_s)) = 0 then (some ((-1 : Int32), T_known, T_then)) else (if (b2i (fX10_isTime x2)) = 0 then (some ((-1 : Int32), T_known, T_then)) else (if (b2i (fX10_isTime x3)) = 0 then (some ((-1 : Int32), T_known, T_then)) else ((fX10_floods x2 x3 T_s T_known T_then).bind (fun o4 => ck (inb x1 8) (some ((o4.1 x1.toNatClampNeg), o4.1, o4.2))))))
def fX10_travels_l37 (k28 : Int32 → (Nat → Int32) → (Nat → Int32) → (Nat → Int32) → Option ((Nat → Int32) × (Nat → Int32) × (Nat → Int32))) (x1 : Int32) (x2 : Int32) (T_s : Nat → Int32) (T_known : Nat → Int32) (T_then : Nat → Int32) : Nat → Int32 → (Nat → Int32) → Option ((Nat → Int32) × (Nat → Int32) × (Nat → Int32))
  | 0, _, _ => none
  | n37 + 1, x3, T_trip =>
    if (64 : Int32) ≤ x3 then ((fX10_spreads (x1 + x2) T_s T_known T_then).bind (fun o2 => k28 (x2 + 1) o2.1 o2.2 T_trip)) else (ck (inb x3 64) (if (T_trip x3.toNatClampNeg) = (-9 : Int32) then (ck (inb (x3 - x3 / (8 : Int32) * (8 : Int32)) 8) (if (((T_known ((x3 - x3 / (8 : Int32) * (8 : Int32)).toNatClampNeg)) >>> ((x3 / (8 : Int32)) &&& 31)) &&& (1 : Int32)) = (1 : Int32) then (ck (inb x3 64) ((fX10_travels_l37 k28 x1 x2 T_s T_known T_then n37) (x3 + 1) (upd T_trip x3.toNatClampNeg x2))) else (ck (inb x3 64) (ck (inb x3 64) ((fX10_travels_l37 k28 x1 x2 T_s T_known T_then n37) (x3 + 1) (upd T_trip x3.toNatClampNeg (T_trip x3.toNatClampNeg))))))) else (ck (inb x3 64) (ck (inb x3 64) ((fX10_travels_l37 k28 x1 x2 T_s T_known T_then n37) (x3 + 1) (upd T_trip x3.toNatClampNeg (T_trip x3.toNatClampNeg)))))))
def fX10_travels_l28 (x1 : Int32) (T_s : Nat → Int32) : Nat → Int32 → (Nat → Int32) → (Nat → Int32) → (Nat → Int32) → Option ((Nat → Int32) × (Nat → Int32) × (Nat → Int32))
  | 0, _, _, _, _ => none
  | n28 + 1, x2, T_known, T_then, T_trip =>
    if (130 : Int32) < x2 then (some (T_known, T_then, T_trip)) else (fX10_travels_l37 (fX10_travels_l28 x1 T_s n28) x1 x2 T_s T_known T_then fuel (0 : Int32) T_trip)
def fX10_travels_l6 (x1 : Int32) (T_s : Nat → Int32) (T_known : Nat → Int32) (T_then : Nat → Int32) : Nat → Int32 → (Nat → Int32) → Option ((Nat → Int32) × (Nat → Int32) × (Nat → Int32))
  | 0, _, _ => none
  | n6 + 1, x2, T_trip =>
    if (64 : Int32) ≤ x2 then (fX10_travels_l28 x1 T_s fuel (0 : Int32) T_known T_then T_trip) else (ck (inb x2 64) ((fX10_travels_l6 x1 T_s T_known T_then n6) (x2 + 1) (upd T_trip x2.toNatClampNeg (-9 : Int32))))
def fX10_travels (x1 : Int32) (T_s : Nat → Int32) (T_known : Nat → Int32) (T_then : Nat → Int32) (T_trip : Nat → Int32) : Option ((Nat → Int32) × (Nat → Int32) × (Nat → Int32)) :=
  (fX10_alone T_known).bind (fun o7 => fX10_travels_l6 x1 T_s o7 T_then fuel (0 : Int32) T_trip)
def fX10_farthest_l4 (x1 : Int32) (T_s : Nat → Int32) (T_trip : Nat → Int32) : Nat → Int32 → Int32 → Option (Int32)
  | 0, _, _ => none
  | n4 + 1, x2, x3 =>
    if (T_s 0) ≤ x3 then (some x2) else (ck (inb (((8 : Int32) * x1) + x3) 64) (if x2 = (-9 : Int32) then ((fX10_farthest_l4 x1 T_s T_trip n4) (-9 : Int32) (x3 + 1)) else (if (T_trip ((((8 : Int32) * x1) + x3).toNatClampNeg)) = (-9 : Int32) then ((fX10_farthest_l4 x1 T_s T_trip n4) (-9 : Int32) (x3 + 1)) else (if (T_trip ((((8 : Int32) * x1) + x3).toNatClampNeg)) ≤ x2 then ((fX10_farthest_l4 x1 T_s T_trip n4) x2 (x3 + 1)) else ((fX10_farthest_l4 x1 T_s T_trip n4) (T_trip ((((8 : Int32) * x1) + x3).toNatClampNeg)) (x3 + 1))))))
def fX10_farthest (x1 : Int32) (T_s : Nat → Int32) (T_trip : Nat → Int32) : Option (Int32) :=
  fX10_farthest_l4 x1 T_s T_trip fuel (0 : Int32) (0 : Int32)
def fX10_journey (x1 : Int32) (x2 : Int32) (x3 : Int32) (T_s : Nat → Int32) (T_known : Nat → Int32) (T_then : Nat → Int32) (T_trip : Nat → Int32) : Option (Int32 × (Nat → Int32) × (Nat → Int32) × (Nat → Int32)) :=
  if (b2i (fX10_isNode x1 T_s)) = 0 then (some ((-1 : Int32), T_known, T_then, T_trip)) else (if (b2i (fX10_isNode x2 T_s)) = 0 then (some ((-1 : Int32), T_known, T_then, T_trip)) else (if (b2i (fX10_isTime x3)) = 0 then (some ((-1 : Int32), T_known, T_then, T_trip)) else ((fX10_travels x3 T_s T_known T_then T_trip).bind (fun o4 => ck (inb (((8 : Int32) * x1) + x2) 64) (some ((o4.2.2 ((((8 : Int32) * x1) + x2).toNatClampNeg)), o4.1, o4.2.1, o4.2.2))))))
def fX10_diameter_l18 (T_s : Nat → Int32) (T_known : Nat → Int32) (T_then : Nat → Int32) (T_trip : Nat → Int32) : Nat → Int32 → Int32 → Option (Int32 × (Nat → Int32) × (Nat → Int32) × (Nat → Int32))
  | 0, _, _ => none
  | n18 + 1, x2, x3 =>
    if (T_s 0) ≤ x3 then (some (x2, T_known, T_then, T_trip)) else ((fX10_farthest x3 T_s T_trip).bind (fun o2 => if x2 = (-9 : Int32) then ((fX10_diameter_l18 T_s T_known T_then T_trip n18) (-9 : Int32) (x3 + 1)) else (if o2 = (-9 : Int32) then ((fX10_diameter_l18 T_s T_known T_then T_trip n18) (-9 : Int32) (x3 + 1)) else (if o2 ≤ x2 then ((fX10_diameter_l18 T_s T_known T_then T_trip n18) x2 (x3 + 1)) else ((fX10_diameter_l18 T_s T_known T_then T_trip n18) o2 (x3 + 1))))))
def fX10_diameter (x1 : Int32) (T_s : Nat → Int32) (T_known : Nat → Int32) (T_then : Nat → Int32) (T_trip : Nat → Int32) : Option (Int32 × (Nat → Int32) × (Nat → Int32) × (Nat → Int32)) :=
  if (b2i (fX10_isTime x1)) = 0 then (some ((-1 : Int32), T_known, T_then, T_trip)) else ((fX10_travels x1 T_s T_known T_then T_trip).bind (fun o7 => fX10_diameter_l18 T_s o7.1 o7.2.1 o7.2.2 fuel (0 : Int32) (0 : Int32)))
def fX10_center_l13 (T_s : Nat → Int32) (T_known : Nat → Int32) (T_then : Nat → Int32) (T_trip : Nat → Int32) : Nat → Int32 → Int32 → Int32 → Option (Int32 × (Nat → Int32) × (Nat → Int32) × (Nat → Int32))
  | 0, _, _, _ => none
  | n13 + 1, x1, x2, x3 =>
    if (T_s 0) ≤ x3 then (some (x1, T_known, T_then, T_trip)) else ((fX10_farthest x3 T_s T_trip).bind (fun o2 => if o2 = (-9 : Int32) then ((fX10_center_l13 T_s T_known T_then T_trip n13) x1 x2 (x3 + 1)) else (if x1 = (-9 : Int32) then ((fX10_center_l13 T_s T_known T_then T_trip n13) x3 o2 (x3 + 1)) else (if x2 ≤ o2 then ((fX10_center_l13 T_s T_known T_then T_trip n13) x1 x2 (x3 + 1)) else ((fX10_center_l13 T_s T_known T_then T_trip n13) x3 o2 (x3 + 1))))))
def fX10_center (T_s : Nat → Int32) (T_known : Nat → Int32) (T_then : Nat → Int32) (T_trip : Nat → Int32) : Option (Int32 × (Nat → Int32) × (Nat → Int32) × (Nat → Int32)) :=
  (fX10_travels (0 : Int32) T_s T_known T_then T_trip).bind (fun o6 => fX10_center_l13 T_s o6.1 o6.2.1 o6.2.2 fuel (-9 : Int32) (-9 : Int32) (0 : Int32))
def fX10_newest_b33 (k4 : Int32 → Int32 → Option (Int32)) (x1 : Int32) (x2 : Int32) (x3 : Int32) (y0 : Int32) (T_s : Nat → Int32) (T_known : Nat → Int32) (T_learned : Nat → Int32) : Option (Int32) :=
  if y0 = 0 then (k4 x2 (x3 + 1)) else (ck (inb (((8 : Int32) * x1) + x3) 64) (ck (inb (((8 : Int32) * x1) + x2) 64) (if (T_learned ((((8 : Int32) * x1) + x2).toNatClampNeg)) < (T_learned ((((8 : Int32) * x1) + x3).toNatClampNeg)) then (k4 x3 (x3 + 1)) else (ck (inb (((8 : Int32) * x1) + x3) 64) (ck (inb (((8 : Int32) * x1) + x2) 64) (if (T_learned ((((8 : Int32) * x1) + x3).toNatClampNeg)) = (T_learned ((((8 : Int32) * x1) + x2).toNatClampNeg)) then (if x3 ≤ x2 then (k4 x2 (x3 + 1)) else (k4 x3 (x3 + 1))) else (k4 x2 (x3 + 1))))))))
def fX10_newest_l4 (x1 : Int32) (T_s : Nat → Int32) (T_known : Nat → Int32) (T_learned : Nat → Int32) : Nat → Int32 → Int32 → Option (Int32)
  | 0, _, _ => none
  | n4 + 1, x2, x3 =>
    if (T_s 0) ≤ x3 then (some x2) else (ck (inb x1 8) (if (((T_known x1.toNatClampNeg) >>> (x3 &&& 31)) &&& (1 : Int32)) = (1 : Int32) then (fX10_newest_b33 (fX10_newest_l4 x1 T_s T_known T_learned n4) x1 x2 x3 (1 : Int32) T_s T_known T_learned) else (fX10_newest_b33 (fX10_newest_l4 x1 T_s T_known T_learned n4) x1 x2 x3 (0 : Int32) T_s T_known T_learned)))
def fX10_newest (x1 : Int32) (T_s : Nat → Int32) (T_known : Nat → Int32) (T_learned : Nat → Int32) : Option (Int32) :=
  fX10_newest_l4 x1 T_s T_known T_learned fuel x1 (0 : Int32)
def fX10_choice_b37 (y0 : Int32) : Option (Int32) :=
  (fX10_lowest y0).bind (fun o1 => some o1)
def fX10_choice (x1 : Int32) (x2 : Int32) (x3 : Int32) (T_s : Nat → Int32) (T_known : Nat → Int32) (T_sent : Nat → Int32) (T_learned : Nat → Int32) : Option (Int32) :=
  if x1 = 0 then (ck (inb x2 8) (ck (inb x2 8) (if ((T_known x2.toNatClampNeg) &&& ((T_sent x2.toNatClampNeg) ^^^ (-1 : Int32))) = 0 then (ck (inb x2 8) (fX10_choice_b37 (T_known x2.toNatClampNeg))) else (fX10_choice_b37 ((T_known x2.toNatClampNeg) &&& ((T_sent x2.toNatClampNeg) ^^^ (-1 : Int32))))))) else (if x1 = (1 : Int32) then ((fX10_newest x2 T_s T_known T_learned).bind (fun o5 => some o5)) else (ck (nz (T_s 0)) (ck (inb x2 8) (if (((T_known x2.toNatClampNeg) >>> ((x3 - x3 / (T_s 0) * (T_s 0)) &&& 31)) &&& (1 : Int32)) = (1 : Int32) then (some (x3 - x3 / (T_s 0) * (T_s 0))) else (some x2)))))
def fX10_talks_l77 (k63 : Int32 → (Nat → Int32) → (Nat → Int32) → Option ((Nat → Int32) × (Nat → Int32) × (Nat → Int32) × (Nat → Int32))) (x2 : Int32) (x3 : Int32) (x4 : Int32) (T_s : Nat → Int32) (T_sent : Nat → Int32) (T_chosen : Nat → Int32) : Nat → Int32 → (Nat → Int32) → (Nat → Int32) → Option ((Nat → Int32) × (Nat → Int32) × (Nat → Int32) × (Nat → Int32))
  | 0, _, _, _ => none
  | n77 + 1, x5, T_known, T_learned =>
    if (T_s 0) ≤ x5 then (k63 (x4 + 1) T_known T_learned) else (if x4 = x5 then ((fX10_talks_l77 k63 x2 x3 x4 T_s T_sent T_chosen n77) (x5 + 1) T_known T_learned) else (if (x3 &&& (fX10_pair x4 x5)) = 0 then ((fX10_talks_l77 k63 x2 x3 x4 T_s T_sent T_chosen n77) (x5 + 1) T_known T_learned) else (ck (inb x5 8) (ck (inb x4 8) (if (((T_known x5.toNatClampNeg) >>> ((T_chosen x4.toNatClampNeg) &&& 31)) &&& (1 : Int32)) = 0 then (ck (inb x5 8) (ck (inb x4 8) (ck (inb x5 8) (ck (inb x4 8) (ck (inb (((8 : Int32) * x5) + (T_chosen x4.toNatClampNeg)) 64) ((fX10_talks_l77 k63 x2 x3 x4 T_s T_sent T_chosen n77) (x5 + 1) (upd T_known x5.toNatClampNeg ((T_known x5.toNatClampNeg) ||| ((1 : Int32) <<< ((T_chosen x4.toNatClampNeg) &&& 31)))) (upd T_learned ((((8 : Int32) * x5) + (T_chosen x4.toNatClampNeg)).toNatClampNeg) x2))))))) else ((fX10_talks_l77 k63 x2 x3 x4 T_s T_sent T_chosen n77) (x5 + 1) T_known T_learned))))))
def fX10_talks_l63 (x2 : Int32) (x3 : Int32) (T_s : Nat → Int32) (T_sent : Nat → Int32) (T_chosen : Nat → Int32) : Nat → Int32 → (Nat → Int32) → (Nat → Int32) → Option ((Nat → Int32) × (Nat → Int32) × (Nat → Int32) × (Nat → Int32))
  | 0, _, _, _ => none
  | n63 + 1, x4, T_known, T_learned =>
    if (T_s 0) ≤ x4 then (some (T_known, T_sent, T_learned, T_chosen)) else (fX10_talks_l77 (fX10_talks_l63 x2 x3 T_s T_sent T_chosen n63) x2 x3 x4 T_s T_sent T_chosen fuel (0 : Int32) T_known T_learned)
def fX10_talks_l9 (x1 : Int32) (x2 : Int32) (x3 : Int32) (T_s : Nat → Int32) (T_known : Nat → Int32) (T_learned : Nat → Int32) : Nat → Int32 → (Nat → Int32) → (Nat → Int32) → Option ((Nat → Int32) × (Nat → Int32) × (Nat → Int32) × (Nat → Int32))
  | 0, _, _, _ => none
  | n9 + 1, x4, T_sent, T_chosen =>
    if (T_s 0) ≤ x4 then (fX10_talks_l63 x2 x3 T_s T_sent T_chosen fuel (0 : Int32) T_known T_learned) else ((fX10_choice x1 x4 x2 T_s T_known T_sent T_learned).bind (fun o7 => ck (inb x4 8) (ck (inb x4 8) (ck (inb x4 8) (ck (inb x4 8) ((fX10_talks_l9 x1 x2 x3 T_s T_known T_learned n9) (x4 + 1) (upd T_sent x4.toNatClampNeg ((T_sent x4.toNatClampNeg) ||| ((1 : Int32) <<< (((upd T_chosen x4.toNatClampNeg o7) x4.toNatClampNeg) &&& 31)))) (upd T_chosen x4.toNatClampNeg o7)))))))
def fX10_talks (x1 : Int32) (x2 : Int32) (T_s : Nat → Int32) (T_known : Nat → Int32) (T_sent : Nat → Int32) (T_learned : Nat → Int32) (T_chosen : Nat → Int32) : Option ((Nat → Int32) × (Nat → Int32) × (Nat → Int32) × (Nat → Int32)) :=
  (fX10_edgesAt x2 T_s).bind (fun o8 => fX10_talks_l9 x1 x2 o8 T_s T_known T_learned fuel (0 : Int32) T_sent T_chosen)
def fX10_starts_l6 (T_known : Nat → Int32) : Nat → Int32 → (Nat → Int32) → (Nat → Int32) → Option ((Nat → Int32) × (Nat → Int32) × (Nat → Int32))
  | 0, _, _, _ => none
  | n6 + 1, x1, T_sent, T_learned =>
    if (8 : Int32) ≤ x1 then (some (T_known, T_sent, T_learned)) else (ck (inb x1 8) (ck (inb ((9 : Int32) * x1) 64) ((fX10_starts_l6 T_known n6) (x1 + 1) (upd T_sent x1.toNatClampNeg (0 : Int32)) (upd T_learned (((9 : Int32) * x1).toNatClampNeg) (-1 : Int32)))))
def fX10_starts (T_known : Nat → Int32) (T_sent : Nat → Int32) (T_learned : Nat → Int32) : Option ((Nat → Int32) × (Nat → Int32) × (Nat → Int32)) :=
  (fX10_alone T_known).bind (fun o2 => fX10_starts_l6 o2 fuel (0 : Int32) T_sent T_learned)
def fX10_allKnow_l4 (T_s : Nat → Int32) (T_known : Nat → Int32) : Nat → Int32 → Int32 → Option (Bool)
  | 0, _, _ => none
  | n4 + 1, x1, x2 =>
    if (T_s 0) ≤ x2 then (ck (isb x1) (some (i2b x1))) else (if x1 = 0 then ((fX10_allKnow_l4 T_s T_known n4) (0 : Int32) (x2 + 1)) else (ck (inb x2 8) (if (T_known x2.toNatClampNeg) = (fX10_all T_s) then ((fX10_allKnow_l4 T_s T_known n4) (1 : Int32) (x2 + 1)) else ((fX10_allKnow_l4 T_s T_known n4) (0 : Int32) (x2 + 1)))))
def fX10_allKnow (T_s : Nat → Int32) (T_known : Nat → Int32) : Option (Bool) :=
  fX10_allKnow_l4 T_s T_known fuel (1 : Int32) (0 : Int32)
def fX10_gossip_l33 (x1 : Int32) (x2 : Int32) (x3 : Int32) (T_s : Nat → Int32) : Nat → Int32 → (Nat → Int32) → (Nat → Int32) → (Nat → Int32) → (Nat → Int32) → Option (Int32 × (Nat → Int32) × (Nat → Int32) × (Nat → Int32) × (Nat → Int32))
  | 0, _, _, _, _, _ => none
  | n33 + 1, x4, T_known, T_sent, T_learned, T_chosen =>
    if x3 ≤ x4 then (ck (inb x2 8) (some ((T_known x2.toNatClampNeg), T_known, T_sent, T_learned, T_chosen))) else ((fX10_talks x1 x4 T_s T_known T_sent T_learned T_chosen).bind (fun o2 => (fX10_gossip_l33 x1 x2 x3 T_s n33) (x4 + 1) o2.1 o2.2.1 o2.2.2.1 o2.2.2.2))
def fX10_gossip (x1 : Int32) (x2 : Int32) (x3 : Int32) (T_s : Nat → Int32) (T_known : Nat → Int32) (T_sent : Nat → Int32) (T_learned : Nat → Int32) (T_chosen : Nat → Int32) : Option (Int32 × (Nat → Int32) × (Nat → Int32) × (Nat → Int32) × (Nat → Int32)) :=
  if (b2i (fX10_in x1 (0 : Int32) (2 : Int32))) = 0 then (some ((-1 : Int32), T_known, T_sent, T_learned, T_chosen)) else (if (b2i (fX10_isNode x2 T_s)) = 0 then (some ((-1 : Int32), T_known, T_sent, T_learned, T_chosen)) else (if (b2i (fX10_isTime x3)) = 0 then (some ((-1 : Int32), T_known, T_sent, T_learned, T_chosen)) else ((fX10_starts T_known T_sent T_learned).bind (fun o6 => fX10_gossip_l33 x1 x2 x3 T_s fuel (0 : Int32) o6.1 o6.2.1 o6.2.2 T_chosen))))
def fX10_gossipTime_b42 (x2 : Int32) (T_known : Nat → Int32) (T_sent : Nat → Int32) (T_learned : Nat → Int32) (T_chosen : Nat → Int32) : Option (Int32 × (Nat → Int32) × (Nat → Int32) × (Nat → Int32) × (Nat → Int32)) :=
  if (99 : Int32) < x2 then (some ((-9 : Int32), T_known, T_sent, T_learned, T_chosen)) else (some (x2, T_known, T_sent, T_learned, T_chosen))
def fX10_gossipTime_l17 (x1 : Int32) (T_s : Nat → Int32) : Nat → Int32 → (Nat → Int32) → (Nat → Int32) → (Nat → Int32) → (Nat → Int32) → Option (Int32 × (Nat → Int32) × (Nat → Int32) × (Nat → Int32) × (Nat → Int32))
  | 0, _, _, _, _, _ => none
  | n17 + 1, x2, T_known, T_sent, T_learned, T_chosen =>
    if (99 : Int32) < x2 then (fX10_gossipTime_b42 x2 T_known T_sent T_learned T_chosen) else ((fX10_allKnow T_s T_known).bind (fun o3 => if (b2i o3) = 0 then ((fX10_talks x1 x2 T_s T_known T_sent T_learned T_chosen).bind (fun o5 => (fX10_gossipTime_l17 x1 T_s n17) (x2 + 1) o5.1 o5.2.1 o5.2.2.1 o5.2.2.2)) else (fX10_gossipTime_b42 x2 T_known T_sent T_learned T_chosen)))
def fX10_gossipTime (x1 : Int32) (T_s : Nat → Int32) (T_known : Nat → Int32) (T_sent : Nat → Int32) (T_learned : Nat → Int32) (T_chosen : Nat → Int32) : Option (Int32 × (Nat → Int32) × (Nat → Int32) × (Nat → Int32) × (Nat → Int32)) :=
  if (b2i (fX10_in x1 (0 : Int32) (2 : Int32))) = 0 then (some ((-1 : Int32), T_known, T_sent, T_learned, T_chosen)) else ((fX10_starts T_known T_sent T_learned).bind (fun o7 => fX10_gossipTime_l17 x1 T_s fuel (0 : Int32) o7.1 o7.2.1 o7.2.2 T_chosen))
def fX10_least_b47 (k5 : Int32 → Int32 → Option (Int32)) (x1 : Int32) (x2 : Int32) (x3 : Int32) (y0 : Int32) (T_s : Nat → Int32) (T_known : Nat → Int32) : Option (Int32) :=
  if y0 = 0 then (k5 x2 (x3 + 1)) else (ck (inb ((18 : Int32) + x3) 26) (k5 (T_s (((18 : Int32) + x3).toNatClampNeg)) (x3 + 1)))
def fX10_least_l5 (x1 : Int32) (T_s : Nat → Int32) (T_known : Nat → Int32) : Nat → Int32 → Int32 → Option (Int32)
  | 0, _, _ => none
  | n5 + 1, x2, x3 =>
    if (T_s 0) ≤ x3 then (some x2) else (ck (inb x1 8) (if (((T_known x1.toNatClampNeg) >>> (x3 &&& 31)) &&& (1 : Int32)) = (1 : Int32) then (ck (inb ((18 : Int32) + x3) 26) (if x2 ≤ (T_s (((18 : Int32) + x3).toNatClampNeg)) then (fX10_least_b47 (fX10_least_l5 x1 T_s T_known n5) x1 x2 x3 (0 : Int32) T_s T_known) else (fX10_least_b47 (fX10_least_l5 x1 T_s T_known n5) x1 x2 x3 (1 : Int32) T_s T_known))) else (fX10_least_b47 (fX10_least_l5 x1 T_s T_known n5) x1 x2 x3 (0 : Int32) T_s T_known)))
def fX10_least (x1 : Int32) (T_s : Nat → Int32) (T_known : Nat → Int32) : Option (Int32) :=
  fX10_least_l5 x1 T_s T_known fuel (100 : Int32) (0 : Int32)
def fX10_decision (x1 : Int32) (x2 : Int32) (T_s : Nat → Int32) (T_known : Nat → Int32) (T_then : Nat → Int32) : Option (Int32 × (Nat → Int32) × (Nat → Int32)) :=
  if (b2i (fX10_isNode x1 T_s)) = 0 then (some ((-1 : Int32), T_known, T_then)) else (if (b2i (fX10_isTime x2)) = 0 then (some ((-1 : Int32), T_known, T_then)) else ((fX10_floods (0 : Int32) x2 T_s T_known T_then).bind (fun o3 => (fX10_least x1 T_s o3.1).bind (fun o4 => some (o4, o3.1, o3.2)))))
def fX10_agree_l4 (T_s : Nat → Int32) (T_known : Nat → Int32) : Nat → Int32 → Int32 → Option (Bool)
  | 0, _, _ => none
  | n4 + 1, x1, x2 =>
    if (T_s 0) ≤ x2 then (ck (isb x1) (some (i2b x1))) else (if x1 = 0 then ((fX10_agree_l4 T_s T_known n4) (0 : Int32) (x2 + 1)) else ((fX10_least x2 T_s T_known).bind (fun o3 => (fX10_least (0 : Int32) T_s T_known).bind (fun o4 => if o3 = o4 then ((fX10_agree_l4 T_s T_known n4) (1 : Int32) (x2 + 1)) else ((fX10_agree_l4 T_s T_known n4) (0 : Int32) (x2 + 1))))))
def fX10_agree (T_s : Nat → Int32) (T_known : Nat → Int32) : Option (Bool) :=
  fX10_agree_l4 T_s T_known fuel (1 : Int32) (1 : Int32)
def fX10_agreement_l6 (T_s : Nat → Int32) : Nat → Int32 → (Nat → Int32) → (Nat → Int32) → Option (Int32 × (Nat → Int32) × (Nat → Int32))
  | 0, _, _, _ => none
  | n6 + 1, x1, T_known, T_then =>
    if (130 : Int32) < x1 then (some ((-9 : Int32), T_known, T_then)) else ((fX10_agree T_s T_known).bind (fun o2 => if (b2i o2) = 0 then ((fX10_spreads x1 T_s T_known T_then).bind (fun o4 => (fX10_agreement_l6 T_s n6) (x1 + 1) o4.1 o4.2)) else (some (x1, T_known, T_then))))
def fX10_agreement (T_s : Nat → Int32) (T_known : Nat → Int32) (T_then : Nat → Int32) : Option (Int32 × (Nat → Int32) × (Nat → Int32)) :=
  (fX10_alone T_known).bind (fun o5 => fX10_agreement_l6 T_s fuel (0 : Int32) o5 T_then)
def fX10_allDecided_l4 (T_s : Nat → Int32) (T_decided : Nat → Int32) : Nat → Int32 → Int32 → Option (Bool)
  | 0, _, _ => none
  | n4 + 1, x1, x2 =>
    if (T_s 0) ≤ x2 then (ck (isb x1) (some (i2b x1))) else (if x1 = 0 then ((fX10_allDecided_l4 T_s T_decided n4) (0 : Int32) (x2 + 1)) else (ck (inb x2 8) (if (T_decided x2.toNatClampNeg) ≤ 0 then ((fX10_allDecided_l4 T_s T_decided n4) (0 : Int32) (x2 + 1)) else ((fX10_allDecided_l4 T_s T_decided n4) (1 : Int32) (x2 + 1)))))
def fX10_allDecided (T_s : Nat → Int32) (T_decided : Nat → Int32) : Option (Bool) :=
  fX10_allDecided_l4 T_s T_decided fuel (1 : Int32) (0 : Int32)
def fX10_phase_b122 (k87 : Int32 → (Nat → Int32) → Option ((Nat → Int32) × (Nat → Int32) × (Nat → Int32))) (x3 : Int32) (x4 : Int32) (y0 : Int32) (T_s : Nat → Int32) (T_known : Nat → Int32) (T_then : Nat → Int32) (T_decided : Nat → Int32) : Option ((Nat → Int32) × (Nat → Int32) × (Nat → Int32)) :=
  if y0 = 0 then (ck (inb x4 8) (ck (inb x4 8) (k87 (x4 + 1) (upd T_decided x4.toNatClampNeg (T_decided x4.toNatClampNeg))))) else (ck (inb x4 8) ((fX10_size (T_known x4.toNatClampNeg)).bind (fun o2 => ck (inb x4 8) (k87 (x4 + 1) (upd T_decided x4.toNatClampNeg o2)))))
def fX10_phase_l87 (x3 : Int32) (T_s : Nat → Int32) (T_known : Nat → Int32) (T_then : Nat → Int32) : Nat → Int32 → (Nat → Int32) → Option ((Nat → Int32) × (Nat → Int32) × (Nat → Int32))
  | 0, _, _ => none
  | n87 + 1, x4, T_decided =>
    if (T_s 0) ≤ x4 then (some (T_known, T_then, T_decided)) else (if ((x3 >>> (x4 &&& 31)) &&& (1 : Int32)) = 0 then (ck (inb x4 8) (if (T_decided x4.toNatClampNeg) = 0 then (fX10_phase_b122 (fX10_phase_l87 x3 T_s T_known T_then n87) x3 x4 (1 : Int32) T_s T_known T_then T_decided) else (fX10_phase_b122 (fX10_phase_l87 x3 T_s T_known T_then n87) x3 x4 (0 : Int32) T_s T_known T_then T_decided))) else (fX10_phase_b122 (fX10_phase_l87 x3 T_s T_known T_then n87) x3 x4 (0 : Int32) T_s T_known T_then T_decided))
def fX10_phase_l56 (x1 : Int32) (x2 : Int32) (T_s : Nat → Int32) (T_known : Nat → Int32) (T_then : Nat → Int32) (T_decided : Nat → Int32) : Nat → Int32 → Int32 → Option ((Nat → Int32) × (Nat → Int32) × (Nat → Int32))
  | 0, _, _ => none
  | n56 + 1, x3, x4 =>
    if ((2 : Int32) * x1) ≤ x4 then (fX10_phase_l87 x3 T_s T_known T_then fuel (0 : Int32) T_decided) else ((fX10_edgesAt (x2 + x4) T_s).bind (fun o7 => (fX10_around o7 x3 T_s).bind (fun o8 => (fX10_phase_l56 x1 x2 T_s T_known T_then T_decided n56) o8 (x4 + 1))))
def fX10_phase_l11 (x1 : Int32) (x2 : Int32) (T_s : Nat → Int32) (T_known : Nat → Int32) (T_then : Nat → Int32) (T_decided : Nat → Int32) : Nat → Int32 → Int32 → Option ((Nat → Int32) × (Nat → Int32) × (Nat → Int32))
  | 0, _, _ => none
  | n11 + 1, x3, x4 =>
    if (T_s 0) ≤ x4 then (fX10_phase_l56 x1 x2 T_s T_known T_then T_decided fuel x3 x1) else (ck (inb x4 8) ((fX10_size (T_known x4.toNatClampNeg)).bind (fun o10 => if o10 ≤ x1 then ((fX10_phase_l11 x1 x2 T_s T_known T_then T_decided n11) (x3 ||| (0 : Int32)) (x4 + 1)) else ((fX10_phase_l11 x1 x2 T_s T_known T_then T_decided n11) (x3 ||| ((1 : Int32) <<< (x4 &&& 31))) (x4 + 1)))))
def fX10_phase (x1 : Int32) (x2 : Int32) (T_s : Nat → Int32) (T_known : Nat → Int32) (T_then : Nat → Int32) (T_decided : Nat → Int32) : Option ((Nat → Int32) × (Nat → Int32) × (Nat → Int32)) :=
  (fX10_floods x2 x1 T_s T_known T_then).bind (fun o12 => fX10_phase_l11 x1 x2 T_s o12.1 o12.2 T_decided fuel (0 : Int32) (0 : Int32))
def fX10_counts_l25 (T_s : Nat → Int32) : Nat → Int32 → Int32 → (Nat → Int32) → (Nat → Int32) → (Nat → Int32) → Option (Int32 × (Nat → Int32) × (Nat → Int32) × (Nat → Int32))
  | 0, _, _, _, _, _ => none
  | n25 + 1, x1, x2, T_known, T_then, T_decided =>
    if (9 : Int32) ≤ x2 then (some (x1, T_known, T_then, T_decided)) else ((fX10_allDecided T_s T_decided).bind (fun o2 => if (b2i o2) = 0 then ((fX10_phase x2 x1 T_s T_known T_then T_decided).bind (fun o4 => (fX10_counts_l25 T_s n25) (x1 + ((2 : Int32) * x2)) (x2 * (2 : Int32)) o4.1 o4.2.1 o4.2.2)) else (some (x1, T_known, T_then, T_decided))))
def fX10_counts_l2 (T_s : Nat → Int32) (T_known : Nat → Int32) (T_then : Nat → Int32) : Nat → Int32 → (Nat → Int32) → Option (Int32 × (Nat → Int32) × (Nat → Int32) × (Nat → Int32))
  | 0, _, _ => none
  | n2 + 1, x1, T_decided =>
    if (8 : Int32) ≤ x1 then (fX10_counts_l25 T_s fuel (0 : Int32) (1 : Int32) T_known T_then T_decided) else (ck (inb x1 8) ((fX10_counts_l2 T_s T_known T_then n2) (x1 + 1) (upd T_decided x1.toNatClampNeg (0 : Int32))))
def fX10_counts (T_s : Nat → Int32) (T_known : Nat → Int32) (T_then : Nat → Int32) (T_decided : Nat → Int32) : Option (Int32 × (Nat → Int32) × (Nat → Int32) × (Nat → Int32)) :=
  fX10_counts_l2 T_s T_known T_then fuel (0 : Int32) T_decided
def fX10_counted (x1 : Int32) (T_s : Nat → Int32) (T_known : Nat → Int32) (T_then : Nat → Int32) (T_decided : Nat → Int32) : Option (Int32 × (Nat → Int32) × (Nat → Int32) × (Nat → Int32)) :=
  if (b2i (fX10_isNode x1 T_s)) = 0 then (some ((-1 : Int32), T_known, T_then, T_decided)) else ((fX10_counts T_s T_known T_then T_decided).bind (fun o2 => if 0 ≤ o2.1 then (ck (inb x1 8) (some ((o2.2.2.2 x1.toNatClampNeg), o2.2.1, o2.2.2.1, o2.2.2.2))) else (some (o2.1, o2.2.1, o2.2.2.1, o2.2.2.2))))
def fX10_countingSteps (T_s : Nat → Int32) (T_known : Nat → Int32) (T_then : Nat → Int32) (T_decided : Nat → Int32) : Option (Int32 × (Nat → Int32) × (Nat → Int32) × (Nat → Int32)) :=
  (fX10_counts T_s T_known T_then T_decided).bind (fun o1 => some (o1.1, o1.2.1, o1.2.2.1, o1.2.2.2))
def fX10_wrongCounts_l15 (T_s : Nat → Int32) (T_known : Nat → Int32) (T_then : Nat → Int32) (T_decided : Nat → Int32) : Nat → Int32 → Int32 → Option (Int32 × (Nat → Int32) × (Nat → Int32) × (Nat → Int32))
  | 0, _, _ => none
  | n15 + 1, x1, x2 =>
    if (T_s 0) ≤ x2 then (some (x1, T_known, T_then, T_decided)) else (ck (inb x2 8) (if (T_decided x2.toNatClampNeg) = (T_s 0) then ((fX10_wrongCounts_l15 T_s T_known T_then T_decided n15) (x1 + (0 : Int32)) (x2 + 1)) else ((fX10_wrongCounts_l15 T_s T_known T_then T_decided n15) (x1 + (1 : Int32)) (x2 + 1))))
def fX10_wrongCounts (T_s : Nat → Int32) (T_known : Nat → Int32) (T_then : Nat → Int32) (T_decided : Nat → Int32) : Option (Int32 × (Nat → Int32) × (Nat → Int32) × (Nat → Int32)) :=
  (fX10_counts T_s T_known T_then T_decided).bind (fun o3 => if 0 ≤ o3.1 then (fX10_wrongCounts_l15 T_s o3.2.1 o3.2.2.1 o3.2.2.2 fuel (0 : Int32) (0 : Int32)) else (fX10_wrongCounts_l15 T_s o3.2.1 o3.2.2.1 o3.2.2.2 fuel (1 : Int32) (0 : Int32)))
def fX10_undo_l22 (T_past : Nat → Int32) (T_pasts : Int32) : Nat → Int32 → (Nat → Int32) → Option (Int32 × (Nat → Int32) × Int32)
  | 0, _, _ => none
  | n22 + 1, x1, T_s =>
    if (26 : Int32) ≤ x1 then (some (T_pasts, T_s, T_pasts)) else (ck (inb (((26 : Int32) * T_pasts) + x1) 156) (ck (inb x1 26) ((fX10_undo_l22 T_past T_pasts n22) (x1 + 1) (upd T_s x1.toNatClampNeg (T_past ((((26 : Int32) * T_pasts) + x1).toNatClampNeg))))))
def fX10_undo (T_s : Nat → Int32) (T_past : Nat → Int32) (T_pasts : Int32) : Option (Int32 × (Nat → Int32) × Int32) :=
  if T_pasts = 0 then (some ((-2 : Int32), T_s, T_pasts)) else (fX10_undo_l22 T_past (T_pasts - (1 : Int32)) fuel (0 : Int32) T_s)
