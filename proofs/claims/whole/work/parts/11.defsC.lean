def fJ6_bitCount_0f7a4 (x0 : Int32) : (Int32) :=
  nm (((x0 - (((x0.toUInt32 >>> ((1 : Int32).toUInt32 &&& Int32.toUInt32 31)).toInt32) &&& (1431655765 : Int32))) &&& (858993459 : Int32)) + ((((x0 - (((x0.toUInt32 >>> ((1 : Int32).toUInt32 &&& Int32.toUInt32 31)).toInt32) &&& (1431655765 : Int32))).toUInt32 >>> ((2 : Int32).toUInt32 &&& Int32.toUInt32 31)).toInt32) &&& (858993459 : Int32))) (fun v1 => nm (((v1 + ((v1.toUInt32 >>> ((4 : Int32).toUInt32 &&& Int32.toUInt32 31)).toInt32)) &&& (252645135 : Int32)) + ((((v1 + ((v1.toUInt32 >>> ((4 : Int32).toUInt32 &&& Int32.toUInt32 31)).toInt32)) &&& (252645135 : Int32)).toUInt32 >>> ((8 : Int32).toUInt32 &&& Int32.toUInt32 31)).toInt32)) (fun v2 => ((v2 + ((v2.toUInt32 >>> ((16 : Int32).toUInt32 &&& Int32.toUInt32 31)).toInt32)) &&& (63 : Int32))))
def fX6_of (x0 : Int32) : (Int32) :=
  ((1 : Int32) <<< (x0 &&& 31))
def fX6_firstOnes (x0 : Int32) : (Int32) :=
  (((1 : Int32) <<< (x0 &&& 31)) - (1 : Int32))
def fX6_has (x0 : Int32) (x1 : Int32) : (Bool) :=
  if (x0 &&& ((1 : Int32) <<< (x1 &&& 31))) = 0 then false else true
def fX6_smallest_l2 (x0 : Int32) : Nat → Int32 → Option (Int32)
  | 0, _ => none
  | n2 + 1, x1 =>
    if (7 : Int32) ≤ x1 then (some x1) else (if (b2i (fX6_has x0 x1)) = 0 then ((fX6_smallest_l2 x0 n2) (x1 + 1)) else (some x1))
def fX6_smallest (x0 : Int32) : Option (Int32) :=
  fX6_smallest_l2 x0 fuel (0 : Int32)
def fX6_greatest_l3 (x0 : Int32) : Nat → Int32 → Option (Int32)
  | 0, _ => none
  | n3 + 1, x1 =>
    if x1 ≤ 0 then (some x1) else (if (b2i (fX6_has x0 x1)) = 0 then ((fX6_greatest_l3 x0 n3) (x1 + (-1))) else (some x1))
def fX6_greatest (x0 : Int32) : Option (Int32) :=
  fX6_greatest_l3 x0 fuel (7 : Int32)
def fX2_between (x0 : Int32) (x1 : Int32) : (Int32) :=
  if x1 ≤ x0 then ((1 : Int32) <<< ((((x0 * (x0 - (1 : Int32))) / (2 : Int32)) + x1) &&& 31)) else ((1 : Int32) <<< ((((x1 * (x1 - (1 : Int32))) / (2 : Int32)) + x0) &&& 31))
def fX2_connects (x0 : Int32) (x1 : Int32) (x2 : Int32) : (Bool) :=
  if (x0 &&& (fX2_between x1 x2)) = 0 then false else true
def fX2_neighbours_l5 (x0 : Int32) (x1 : Int32) (x2 : Int32) : Nat → Int32 → Int32 → Option (Int32)
  | 0, _, _ => none
  | n5 + 1, x3, x4 =>
    if x2 ≤ x4 then (some x3) else (if x4 = x1 then ((fX2_neighbours_l5 x0 x1 x2 n5) x3 (x4 + 1)) else (if (b2i (fX2_connects x0 x1 x4)) = 0 then ((fX2_neighbours_l5 x0 x1 x2 n5) x3 (x4 + 1)) else ((fX2_neighbours_l5 x0 x1 x2 n5) (x3 ||| (fX6_of x4)) (x4 + 1))))
def fX2_neighbours (x0 : Int32) (x1 : Int32) (x2 : Int32) : Option (Int32) :=
  fX2_neighbours_l5 x0 x1 x2 fuel (0 : Int32) (0 : Int32)
def fX2_spread_b51 (k5 : Int32 → Int32 → Option (Int32)) (k14 : Int32 → Int32 → Option (Int32)) (x0 : Int32) (x1 : Int32) (x2 : Int32) (x4 : Int32) (x5 : Int32) (y0 : Int32) (y1 : Int32) : Option (Int32) :=
  if (b2i (fX6_has x1 x4)) = 0 then (k14 ((y0 ||| y1) ||| (0 : Int32)) (x5 + 1)) else (k14 ((y0 ||| y1) ||| (fX6_of x5)) (x5 + 1))
def fX2_spread_l14 (k5 : Int32 → Int32 → Option (Int32)) (x0 : Int32) (x1 : Int32) (x2 : Int32) (x4 : Int32) : Nat → Int32 → Int32 → Option (Int32)
  | 0, _, _ => none
  | n14 + 1, x3, x5 =>
    if x4 ≤ x5 then (k5 x3 (x4 + 1)) else (if (b2i (fX2_connects x0 x5 x4)) = 0 then ((fX2_spread_l14 k5 x0 x1 x2 x4 n14) x3 (x5 + 1)) else (if (b2i (fX6_has x1 x5)) = 0 then (fX2_spread_b51 k5 (fX2_spread_l14 k5 x0 x1 x2 x4 n14) x0 x1 x2 x4 x5 x3 (0 : Int32)) else (fX2_spread_b51 k5 (fX2_spread_l14 k5 x0 x1 x2 x4 n14) x0 x1 x2 x4 x5 x3 (fX6_of x4))))
def fX2_spread_l5 (x0 : Int32) (x1 : Int32) (x2 : Int32) : Nat → Int32 → Int32 → Option (Int32)
  | 0, _, _ => none
  | n5 + 1, x3, x4 =>
    if x2 ≤ x4 then (some x3) else (fX2_spread_l14 (fX2_spread_l5 x0 x1 x2 n5) x0 x1 x2 x4 fuel x3 (0 : Int32))
def fX2_spread (x0 : Int32) (x1 : Int32) (x2 : Int32) : Option (Int32) :=
  fX2_spread_l5 x0 x1 x2 fuel x1 (1 : Int32)
def fX2_component_l11 (x0 : Int32) (x2 : Int32) : Nat → Int32 → Int32 → Int32 → Option (Int32)
  | 0, _, _, _ => none
  | n11 + 1, x3, x4, x5 =>
    if x2 ≤ x5 then (some x4) else (if x4 = x3 then (some x4) else ((fX2_spread x0 x4 x2).bind (fun o3 => (fX2_component_l11 x0 x2 n11) x4 o3 (x5 + 1))))
def fX2_component (x0 : Int32) (x1 : Int32) (x2 : Int32) : Option (Int32) :=
  fX2_component_l11 x0 x2 fuel (0 : Int32) (fX6_of x1) (1 : Int32)
def fX2_components_l7 (x0 : Int32) (x1 : Int32) : Nat → Int32 → Int32 → Int32 → Option (Int32)
  | 0, _, _, _ => none
  | n7 + 1, x2, x3, x4 =>
    if x1 ≤ x4 then (some x2) else (if (b2i (fX6_has x3 x4)) = 0 then ((fX2_component x0 x4 x1).bind (fun o3 => (fX2_components_l7 x0 x1 n7) (x2 + 1) (x3 ||| o3) (x4 + 1))) else ((fX2_components_l7 x0 x1 n7) x2 x3 (x4 + 1)))
def fX2_components (x0 : Int32) (x1 : Int32) : Option (Int32) :=
  fX2_components_l7 x0 x1 fuel (0 : Int32) (0 : Int32) (0 : Int32)
def fX2_areConnected (x0 : Int32) (x1 : Int32) : Option (Bool) :=
  (fX2_component x0 (0 : Int32) x1).bind (fun o1 => if o1 = (fX6_firstOnes x1) then (some true) else (some false))
def fX2_greatestDegree_l4 (x0 : Int32) (x1 : Int32) : Nat → Int32 → Int32 → Option (Int32)
  | 0, _, _ => none
  | n4 + 1, x2, x3 =>
    if x1 ≤ x3 then (some x2) else ((fX2_neighbours x0 x3 x1).bind (fun o2 => (fX2_greatestDegree_l4 x0 x1 n4) (if x2 < (fJ6_bitCount_0f7a4 o2) then (fJ6_bitCount_0f7a4 o2) else x2) (x3 + 1)))
def fX2_greatestDegree (x0 : Int32) (x1 : Int32) : Option (Int32) :=
  fX2_greatestDegree_l4 x0 x1 fuel (0 : Int32) (0 : Int32)
def fX2_path_l4 (x0 : Int32) : Nat → Int32 → Int32 → Option (Int32)
  | 0, _, _ => none
  | n4 + 1, x1, x2 =>
    if x0 ≤ x2 then (some x1) else ((fX2_path_l4 x0 n4) (x1 ||| (fX2_between (x2 - (1 : Int32)) x2)) (x2 + 1))
def fX2_path (x0 : Int32) : Option (Int32) :=
  fX2_path_l4 x0 fuel (0 : Int32) (1 : Int32)
def fX2_ring (x0 : Int32) : Option (Int32) :=
  (fX2_path x0).bind (fun o1 => some (o1 ||| (fX2_between (0 : Int32) (x0 - (1 : Int32)))))
def fX2_star_l4 (x0 : Int32) (x1 : Int32) : Nat → Int32 → Int32 → Option (Int32)
  | 0, _, _ => none
  | n4 + 1, x2, x3 =>
    if x1 ≤ x3 then (some x2) else (if x3 = x0 then ((fX2_star_l4 x0 x1 n4) x2 (x3 + 1)) else ((fX2_star_l4 x0 x1 n4) (x2 ||| (fX2_between x0 x3)) (x3 + 1)))
def fX2_star (x0 : Int32) (x1 : Int32) : Option (Int32) :=
  fX2_star_l4 x0 x1 fuel (0 : Int32) (0 : Int32)
def fX2_clique_l12 (k4 : Int32 → Int32 → Option (Int32)) (x0 : Int32) (x2 : Int32) : Nat → Int32 → Int32 → Option (Int32)
  | 0, _, _ => none
  | n12 + 1, x1, x3 =>
    if x2 ≤ x3 then (k4 x1 (x2 + 1)) else (if (b2i (fX6_has x0 x3)) = 0 then ((fX2_clique_l12 k4 x0 x2 n12) x1 (x3 + 1)) else (if (b2i (fX6_has x0 x2)) = 0 then ((fX2_clique_l12 k4 x0 x2 n12) x1 (x3 + 1)) else ((fX2_clique_l12 k4 x0 x2 n12) (x1 ||| (fX2_between x3 x2)) (x3 + 1))))
def fX2_clique_l4 (x0 : Int32) : Nat → Int32 → Int32 → Option (Int32)
  | 0, _, _ => none
  | n4 + 1, x1, x2 =>
    if (8 : Int32) ≤ x2 then (some x1) else (fX2_clique_l12 (fX2_clique_l4 x0 n4) x0 x2 fuel x1 (0 : Int32))
def fX2_clique (x0 : Int32) : Option (Int32) :=
  fX2_clique_l4 x0 fuel (0 : Int32) (1 : Int32)
def fX0_chain_l6 (x0 : Int32) : Nat → Int32 → Int32 → Int32 → Option (Int32)
  | 0, _, _, _ => none
  | n6 + 1, x1, x2, x3 =>
    if (8 : Int32) ≤ x3 then (some x1) else (if (b2i (fX6_has x0 x3)) = 0 then ((fX0_chain_l6 x0 n6) x1 x2 (x3 + 1)) else (if x2 = (-1 : Int32) then ((fX0_chain_l6 x0 n6) (x1 ||| (0 : Int32)) x3 (x3 + 1)) else ((fX0_chain_l6 x0 n6) (x1 ||| (fX2_between x2 x3)) x3 (x3 + 1))))
def fX0_chain (x0 : Int32) : Option (Int32) :=
  fX0_chain_l6 x0 fuel (0 : Int32) (-1 : Int32) (0 : Int32)
def fX0_bridge (x0 : Int32) (x1 : Int32) : Option (Int32) :=
  if x1 = 0 then (some (0 : Int32)) else ((fX6_greatest x0).bind (fun o2 => (fX6_smallest x1).bind (fun o3 => some (fX2_between o2 o3))))
def fX0_path (x0 : Int32) (x1 : Int32) : Option (Int32) :=
  (fX0_chain x0).bind (fun o1 => (fX0_chain x1).bind (fun o2 => (fX0_bridge x0 x1).bind (fun o3 => some ((o1 ||| o2) ||| o3))))
def fX0_edges_b40 (x3 : Int32) (y0 : Int32) : Option (Int32) :=
  (fX2_star y0 x3).bind (fun o1 => some o1)
def fX0_edges (x0 : Int32) (x1 : Int32) (x2 : Int32) (x3 : Int32) : Option (Int32) :=
  if x0 = 0 then ((fX0_path x2 ((fX6_firstOnes x3) &&& (x2 ^^^ (-1 : Int32)))).bind (fun o9 => some o9)) else (if x0 = (1 : Int32) then (if ((fX6_firstOnes x3) &&& (x2 ^^^ (-1 : Int32))) = 0 then (fX0_edges_b40 x3 x1) else ((fX6_smallest ((fX6_firstOnes x3) &&& (x2 ^^^ (-1 : Int32)))).bind (fun o8 => fX0_edges_b40 x3 o8))) else ((fX2_clique x2).bind (fun o4 => (fX2_clique ((fX6_firstOnes x3) &&& (x2 ^^^ (-1 : Int32)))).bind (fun o5 => (fX0_bridge x2 ((fX6_firstOnes x3) &&& (x2 ^^^ (-1 : Int32)))).bind (fun o6 => some ((o4 ||| o5) ||| o6))))))
def sh_X7 (Sa Sa_roundEdges Sa_values : Nat) (cI cC cS : ClassId) (S_roundEdges : Nat → Int32) (S_values : Nat → Int32) (S_nodes : Int32) (S_rounds : Int32) : va_W := [(Sa, .inr (4, [.ref Sa_roundEdges, .ref Sa_values, .int S_nodes, .int S_rounds])), (Sa_roundEdges, .inl (cI, 16, .inl S_roundEdges)), (Sa_values, .inl (cI, 8, .inl S_values))]
def fX7_beginAnew_l12 (S_nodes : Int32) (S_rounds : Int32) : Nat → Int32 → (Nat → Int32) → Option ((Nat → Int32) × Int32 × Int32)
  | 0, _, _ => none
  | n12 + 1, x2, S_values =>
    if (8 : Int32) ≤ x2 then (some (S_values, S_nodes, S_rounds)) else (ck (inb x2 8) ((fX7_beginAnew_l12 S_nodes S_rounds n12) (x2 + 1) (upd S_values x2.toNatClampNeg x2)))
def fX7_beginAnew (x1 : Int32) (S_values : Nat → Int32) (S_nodes : Int32) (S_rounds : Int32) : Option ((Nat → Int32) × Int32 × Int32) :=
  fX7_beginAnew_l12 x1 (0 : Int32) fuel (0 : Int32) S_values
def sh_X7b (Sa Sa_roundEdges Sa_values Oa Oa_roundEdges Oa_values : Nat) (cI cC cS : ClassId) (S_roundEdges : Nat → Int32) (S_values : Nat → Int32) (S_nodes : Int32) (S_rounds : Int32) (O_roundEdges : Nat → Int32) (O_values : Nat → Int32) (O_nodes : Int32) (O_rounds : Int32) : va_W := [(Sa, .inr (4, [.ref Sa_roundEdges, .ref Sa_values, .int S_nodes, .int S_rounds])), (Sa_roundEdges, .inl (cI, 16, .inl S_roundEdges)), (Sa_values, .inl (cI, 8, .inl S_values)), (Oa, .inr (4, [.ref Oa_roundEdges, .ref Oa_values, .int O_nodes, .int O_rounds])), (Oa_roundEdges, .inl (cI, 16, .inl O_roundEdges)), (Oa_values, .inl (cI, 8, .inl O_values))]
def fX7_become_l44 (S_roundEdges : Nat → Int32) (S_nodes : Int32) (S_rounds : Int32) (O_values : Nat → Int32) : Nat → Int32 → (Nat → Int32) → Option ((Nat → Int32) × (Nat → Int32) × Int32 × Int32)
  | 0, _, _ => none
  | n44 + 1, x2, S_values =>
    if (8 : Int32) ≤ x2 then (some (S_roundEdges, S_values, S_nodes, S_rounds)) else (ck (inb x2 8) (ck (inb x2 8) ((fX7_become_l44 S_roundEdges S_nodes S_rounds O_values n44) (x2 + 1) (upd S_values x2.toNatClampNeg (O_values x2.toNatClampNeg)))))
def fX7_become_l18 (S_values : Nat → Int32) (S_nodes : Int32) (S_rounds : Int32) (O_roundEdges : Nat → Int32) (O_values : Nat → Int32) : Nat → Int32 → (Nat → Int32) → Option ((Nat → Int32) × (Nat → Int32) × Int32 × Int32)
  | 0, _, _ => none
  | n18 + 1, x2, S_roundEdges =>
    if (16 : Int32) ≤ x2 then (fX7_become_l44 S_roundEdges S_nodes S_rounds O_values fuel (0 : Int32) S_values) else (ck (inb x2 16) (ck (inb x2 16) ((fX7_become_l18 S_values S_nodes S_rounds O_roundEdges O_values n18) (x2 + 1) (upd S_roundEdges x2.toNatClampNeg (O_roundEdges x2.toNatClampNeg)))))
def fX7_become (S_roundEdges : Nat → Int32) (S_values : Nat → Int32) (S_nodes : Int32) (S_rounds : Int32) (O_roundEdges : Nat → Int32) (O_values : Nat → Int32) (O_nodes : Int32) (O_rounds : Int32) : Option ((Nat → Int32) × (Nat → Int32) × Int32 × Int32) :=
  fX7_become_l18 S_values O_nodes O_rounds O_roundEdges O_values fuel (0 : Int32) S_roundEdges
def fX7_nodes (S_nodes : Int32) : (Int32) :=
  S_nodes
def fX7_rounds (S_rounds : Int32) : (Int32) :=
  S_rounds
def fX7_isFull (S_rounds : Int32) : (Bool) :=
  if S_rounds < (16 : Int32) then false else true
def fX7_hasNode (x1 : Int32) (S_nodes : Int32) : (Bool) :=
  if x1 < 0 then false else (if S_nodes ≤ x1 then false else true)
def fX7_hasRound (x1 : Int32) (S_rounds : Int32) : (Bool) :=
  if x1 < 0 then false else (if S_rounds ≤ x1 then false else true)
def fX7_hasPlace (x1 : Int32) (x2 : Int32) (x3 : Int32) (S_nodes : Int32) (S_rounds : Int32) : (Bool) :=
  if (b2i (fX7_hasRound x1 S_rounds)) = 0 then false else (if (b2i (fX7_hasNode x2 S_nodes)) = 0 then false else (if (b2i (fX7_hasNode x3 S_nodes)) = 0 then false else (if x2 = x3 then false else true)))
def fX7_append (x1 : Int32) (S_roundEdges : Nat → Int32) (S_rounds : Int32) : Option ((Nat → Int32) × Int32) :=
  if (b2i (fX7_isFull S_rounds)) = 0 then (ck (inb S_rounds 16) (some ((upd S_roundEdges S_rounds.toNatClampNeg x1), (S_rounds + (1 : Int32))))) else (some (S_roundEdges, S_rounds))
def fX7_replace (x1 : Int32) (x2 : Int32) (S_roundEdges : Nat → Int32) (S_rounds : Int32) : Option ((Nat → Int32)) :=
  if (b2i (fX7_hasRound x1 S_rounds)) = 0 then (some S_roundEdges) else (ck (inb x1 16) (some (upd S_roundEdges x1.toNatClampNeg x2)))
def fX7_removeAt_l12 (S_rounds : Int32) : Nat → Int32 → (Nat → Int32) → Option ((Nat → Int32) × Int32)
  | 0, _, _ => none
  | n12 + 1, x2, S_roundEdges =>
    if S_rounds ≤ x2 then (some (S_roundEdges, (S_rounds - (1 : Int32)))) else (ck (inb x2 16) (ck (inb (x2 - (1 : Int32)) 16) ((fX7_removeAt_l12 S_rounds n12) (x2 + 1) (upd S_roundEdges ((x2 - (1 : Int32)).toNatClampNeg) (S_roundEdges x2.toNatClampNeg)))))
def fX7_removeAt (x1 : Int32) (S_roundEdges : Nat → Int32) (S_rounds : Int32) : Option ((Nat → Int32) × Int32) :=
  if (b2i (fX7_hasRound x1 S_rounds)) = 0 then (some (S_roundEdges, S_rounds)) else (fX7_removeAt_l12 S_rounds fuel (x1 + (1 : Int32)) S_roundEdges)
def fX7_edgesOf (x1 : Int32) (S_roundEdges : Nat → Int32) (S_rounds : Int32) : Option (Int32) :=
  if (b2i (fX7_hasRound x1 S_rounds)) = 0 then (some (0 : Int32)) else (ck (inb x1 16) (some (S_roundEdges x1.toNatClampNeg)))
def fX7_edgesAtStep (x1 : Int32) (S_roundEdges : Nat → Int32) (S_rounds : Int32) : Option (Int32) :=
  if S_rounds ≤ 0 then (some (0 : Int32)) else (if x1 < 0 then (some (0 : Int32)) else (ck (nz S_rounds) (ck (inb (x1 - x1 / S_rounds * S_rounds) 16) (some (S_roundEdges ((x1 - x1 / S_rounds * S_rounds).toNatClampNeg))))))
def fX7_longestFlooding (S_nodes : Int32) (S_rounds : Int32) : (Int32) :=
  (S_nodes * S_rounds)
def fX7_valueOf (x1 : Int32) (S_values : Nat → Int32) (S_nodes : Int32) : Option (Int32) :=
  if (b2i (fX7_hasNode x1 S_nodes)) = 0 then (some (0 : Int32)) else (ck (inb x1 8) (some (S_values x1.toNatClampNeg)))
def fX7_give (x1 : Int32) (x2 : Int32) (S_values : Nat → Int32) (S_nodes : Int32) : Option ((Nat → Int32)) :=
  if (b2i (fX7_hasNode x1 S_nodes)) = 0 then (some S_values) else (ck (inb x1 8) (some (upd S_values x1.toNatClampNeg x2)))
def fX7_smallestValue_l5 (x1 : Int32) (S_values : Nat → Int32) (S_nodes : Int32) : Nat → Int32 → Int32 → Option (Int32)
  | 0, _, _ => none
  | n5 + 1, x2, x3 =>
    if S_nodes ≤ x3 then (some x2) else (if (b2i (fX6_has x1 x3)) = 0 then ((fX7_smallestValue_l5 x1 S_values S_nodes n5) x2 (x3 + 1)) else (ck (inb x3 8) ((fX7_smallestValue_l5 x1 S_values S_nodes n5) (if (S_values x3.toNatClampNeg) < x2 then (S_values x3.toNatClampNeg) else x2) (x3 + 1))))
def fX7_smallestValue (x1 : Int32) (S_values : Nat → Int32) (S_nodes : Int32) : Option (Int32) :=
  fX7_smallestValue_l5 x1 S_values S_nodes fuel (99 : Int32) (0 : Int32)
def fX7_edgesInAll_l4 (S_roundEdges : Nat → Int32) (S_rounds : Int32) : Nat → Int32 → Int32 → Option (Int32)
  | 0, _, _ => none
  | n4 + 1, x1, x2 =>
    if S_rounds ≤ x2 then (some x1) else (ck (inb x2 16) ((fX7_edgesInAll_l4 S_roundEdges S_rounds n4) (x1 + (fJ6_bitCount_0f7a4 (S_roundEdges x2.toNatClampNeg))) (x2 + 1)))
def fX7_edgesInAll (S_roundEdges : Nat → Int32) (S_rounds : Int32) : Option (Int32) :=
  fX7_edgesInAll_l4 S_roundEdges S_rounds fuel (0 : Int32) (0 : Int32)
def fX7_connectedRounds_l4 (S_roundEdges : Nat → Int32) (S_nodes : Int32) (S_rounds : Int32) : Nat → Int32 → Int32 → Option (Int32)
  | 0, _, _ => none
  | n4 + 1, x1, x2 =>
    if S_rounds ≤ x2 then (some x1) else (ck (inb x2 16) ((fX2_areConnected (S_roundEdges x2.toNatClampNeg) S_nodes).bind (fun o2 => if (b2i o2) = 0 then ((fX7_connectedRounds_l4 S_roundEdges S_nodes S_rounds n4) x1 (x2 + 1)) else ((fX7_connectedRounds_l4 S_roundEdges S_nodes S_rounds n4) (x1 + 1) (x2 + 1)))))
def fX7_connectedRounds (S_roundEdges : Nat → Int32) (S_nodes : Int32) (S_rounds : Int32) : Option (Int32) :=
  fX7_connectedRounds_l4 S_roundEdges S_nodes S_rounds fuel (0 : Int32) (0 : Int32)
def fX7_edgesThatStay_l9 (x1 : Int32) (x2 : Int32) (S_roundEdges : Nat → Int32) (S_rounds : Int32) : Nat → Int32 → Int32 → Option (Int32)
  | 0, _, _ => none
  | n9 + 1, x3, x4 =>
    if x2 ≤ x4 then (some x3) else ((fX7_edgesOf (x1 + x4) S_roundEdges S_rounds).bind (fun o2 => (fX7_edgesThatStay_l9 x1 x2 S_roundEdges S_rounds n9) (x3 &&& o2) (x4 + 1)))
def fX7_edgesThatStay (x1 : Int32) (x2 : Int32) (S_roundEdges : Nat → Int32) (S_rounds : Int32) : Option (Int32) :=
  (fX7_edgesOf x1 S_roundEdges S_rounds).bind (fun o3 => fX7_edgesThatStay_l9 x1 x2 S_roundEdges S_rounds fuel o3 (1 : Int32))
def fX7_staysConnected_l2 (x1 : Int32) (S_roundEdges : Nat → Int32) (S_nodes : Int32) (S_rounds : Int32) : Nat → Int32 → Option (Bool)
  | 0, _ => none
  | n2 + 1, x2 =>
    if S_rounds < (x2 + x1) then (some true) else ((fX7_edgesThatStay x2 x1 S_roundEdges S_rounds).bind (fun o2 => (fX2_areConnected o2 S_nodes).bind (fun o3 => if (b2i o3) = 0 then (some false) else ((fX7_staysConnected_l2 x1 S_roundEdges S_nodes S_rounds n2) (x2 + 1)))))
def fX7_staysConnected (x1 : Int32) (S_roundEdges : Nat → Int32) (S_nodes : Int32) (S_rounds : Int32) : Option (Bool) :=
  fX7_staysConnected_l2 x1 S_roundEdges S_nodes S_rounds fuel (0 : Int32)
def fX7_longestWindow_l2 (x1 : Int32) (S_roundEdges : Nat → Int32) (S_nodes : Int32) (S_rounds : Int32) : Nat → Int32 → Option (Int32)
  | 0, _ => none
  | n2 + 1, x2 =>
    if S_rounds ≤ (x1 + x2) then (some x2) else ((fX7_edgesThatStay x1 (x2 + (1 : Int32)) S_roundEdges S_rounds).bind (fun o2 => (fX2_areConnected o2 S_nodes).bind (fun o3 => if (b2i o3) = 0 then (some x2) else ((fX7_longestWindow_l2 x1 S_roundEdges S_nodes S_rounds n2) (x2 + 1)))))
def fX7_longestWindow (x1 : Int32) (S_roundEdges : Nat → Int32) (S_nodes : Int32) (S_rounds : Int32) : Option (Int32) :=
  fX7_longestWindow_l2 x1 S_roundEdges S_nodes S_rounds fuel (0 : Int32)
def sh_X3 (Fa Fa_known Fa_knownBefore Sa Sa_roundEdges Sa_values : Nat) (cI cC cS : ClassId) (F_known : Nat → Int32) (F_knownBefore : Nat → Int32) (F_step : Int32) (S_roundEdges : Nat → Int32) (S_values : Nat → Int32) (S_nodes : Int32) (S_rounds : Int32) : va_W := [(Fa, .inr (1, [.ref Sa, .ref Fa_known, .ref Fa_knownBefore, .int F_step])), (Fa_known, .inl (cI, 8, .inl F_known)), (Fa_knownBefore, .inl (cI, 8, .inl F_knownBefore)), (Sa, .inr (4, [.ref Sa_roundEdges, .ref Sa_values, .int S_nodes, .int S_rounds])), (Sa_roundEdges, .inl (cI, 16, .inl S_roundEdges)), (Sa_values, .inl (cI, 8, .inl S_values))]
def fX3_begin_l7 (F_step : Int32) : Nat → Int32 → (Nat → Int32) → Option ((Nat → Int32) × Int32)
  | 0, _, _ => none
  | n7 + 1, x2, F_known =>
    if (8 : Int32) ≤ x2 then (some (F_known, F_step)) else (ck (inb x2 8) ((fX3_begin_l7 F_step n7) (x2 + 1) (upd F_known x2.toNatClampNeg (fX6_of x2))))
def fX3_begin (x1 : Int32) (F_known : Nat → Int32) (F_step : Int32) : Option ((Nat → Int32) × Int32) :=
  fX3_begin_l7 x1 fuel (0 : Int32) F_known
def fX3_advance_l53 (k40 : Int32 → (Nat → Int32) → Option ((Nat → Int32) × (Nat → Int32) × Int32)) (x1 : Int32) (x2 : Int32) (F_knownBefore : Nat → Int32) (F_step : Int32) (S_nodes : Int32) : Nat → Int32 → (Nat → Int32) → Option ((Nat → Int32) × (Nat → Int32) × Int32)
  | 0, _, _ => none
  | n53 + 1, x3, F_known =>
    if x2 ≤ x3 then (k40 (x2 + 1) F_known) else (if (b2i (fX2_connects x1 x3 x2)) = 0 then ((fX3_advance_l53 k40 x1 x2 F_knownBefore F_step S_nodes n53) (x3 + 1) F_known) else (ck (inb x3 8) (ck (inb x2 8) (ck (inb x3 8) (ck (inb x2 8) (ck (inb x3 8) (ck (inb x2 8) ((fX3_advance_l53 k40 x1 x2 F_knownBefore F_step S_nodes n53) (x3 + 1) (upd (upd F_known x3.toNatClampNeg ((F_known x3.toNatClampNeg) ||| (F_knownBefore x2.toNatClampNeg))) x2.toNatClampNeg (((upd F_known x3.toNatClampNeg ((F_known x3.toNatClampNeg) ||| (F_knownBefore x2.toNatClampNeg))) x2.toNatClampNeg) ||| (F_knownBefore x3.toNatClampNeg)))))))))))
def fX3_advance_l40 (x1 : Int32) (F_knownBefore : Nat → Int32) (F_step : Int32) (S_nodes : Int32) : Nat → Int32 → (Nat → Int32) → Option ((Nat → Int32) × (Nat → Int32) × Int32)
  | 0, _, _ => none
  | n40 + 1, x2, F_known =>
    if (fX7_nodes S_nodes) ≤ x2 then (some (F_known, F_knownBefore, (F_step + (1 : Int32)))) else (fX3_advance_l53 (fX3_advance_l40 x1 F_knownBefore F_step S_nodes n40) x1 x2 F_knownBefore F_step S_nodes fuel (0 : Int32) F_known)
def fX3_advance_l14 (x1 : Int32) (F_known : Nat → Int32) (F_step : Int32) (S_nodes : Int32) : Nat → Int32 → (Nat → Int32) → Option ((Nat → Int32) × (Nat → Int32) × Int32)
  | 0, _, _ => none
  | n14 + 1, x2, F_knownBefore =>
    if (8 : Int32) ≤ x2 then (fX3_advance_l40 x1 F_knownBefore F_step S_nodes fuel (1 : Int32) F_known) else (ck (inb x2 8) (ck (inb x2 8) ((fX3_advance_l14 x1 F_known F_step S_nodes n14) (x2 + 1) (upd F_knownBefore x2.toNatClampNeg (F_known x2.toNatClampNeg)))))
def fX3_advance (F_known : Nat → Int32) (F_knownBefore : Nat → Int32) (F_step : Int32) (S_roundEdges : Nat → Int32) (S_nodes : Int32) (S_rounds : Int32) : Option ((Nat → Int32) × (Nat → Int32) × Int32) :=
  (fX7_edgesAtStep F_step S_roundEdges S_rounds).bind (fun o5 => fX3_advance_l14 o5 F_known F_step S_nodes fuel (0 : Int32) F_knownBefore)
def fX3_advanceBy_l2 (x1 : Int32) (S_roundEdges : Nat → Int32) (S_nodes : Int32) (S_rounds : Int32) : Nat → Int32 → (Nat → Int32) → (Nat → Int32) → Int32 → Option ((Nat → Int32) × (Nat → Int32) × Int32)
  | 0, _, _, _, _ => none
  | n2 + 1, x2, F_known, F_knownBefore, F_step =>
    if x1 ≤ x2 then (some (F_known, F_knownBefore, F_step)) else ((fX3_advance F_known F_knownBefore F_step S_roundEdges S_nodes S_rounds).bind (fun o2 => (fX3_advanceBy_l2 x1 S_roundEdges S_nodes S_rounds n2) (x2 + 1) o2.1 o2.2.1 o2.2.2))
def fX3_advanceBy (x1 : Int32) (F_known : Nat → Int32) (F_knownBefore : Nat → Int32) (F_step : Int32) (S_roundEdges : Nat → Int32) (S_nodes : Int32) (S_rounds : Int32) : Option ((Nat → Int32) × (Nat → Int32) × Int32) :=
  fX3_advanceBy_l2 x1 S_roundEdges S_nodes S_rounds fuel (0 : Int32) F_known F_knownBefore F_step
def fX3_tokensOf (x1 : Int32) (F_known : Nat → Int32) (S_nodes : Int32) : Option (Int32) :=
  if (b2i (fX7_hasNode x1 S_nodes)) = 0 then (some (0 : Int32)) else (ck (inb x1 8) (some (F_known x1.toNatClampNeg)))
def fX3_tokensOfAll_l13 (F_known : Nat → Int32) (S_nodes : Int32) : Nat → Int32 → Int32 → Option (Int32)
  | 0, _, _ => none
  | n13 + 1, x1, x2 =>
    if (fX7_nodes S_nodes) ≤ x2 then (some x1) else (ck (inb x2 8) ((fX3_tokensOfAll_l13 F_known S_nodes n13) (x1 &&& (F_known x2.toNatClampNeg)) (x2 + 1)))
def fX3_tokensOfAll (F_known : Nat → Int32) (S_nodes : Int32) : Option (Int32) :=
  fX3_tokensOfAll_l13 F_known S_nodes fuel (fX6_firstOnes (fX7_nodes S_nodes)) (0 : Int32)
def fX3_knowersOf_l4 (x1 : Int32) (F_known : Nat → Int32) (S_nodes : Int32) : Nat → Int32 → Int32 → Option (Int32)
  | 0, _, _ => none
  | n4 + 1, x2, x3 =>
    if (fX7_nodes S_nodes) ≤ x3 then (some x2) else (ck (inb x3 8) (if (b2i (fX6_has (F_known x3.toNatClampNeg) x1)) = 0 then ((fX3_knowersOf_l4 x1 F_known S_nodes n4) x2 (x3 + 1)) else ((fX3_knowersOf_l4 x1 F_known S_nodes n4) (x2 ||| (fX6_of x3)) (x3 + 1))))
def fX3_knowersOf (x1 : Int32) (F_known : Nat → Int32) (S_nodes : Int32) : Option (Int32) :=
  fX3_knowersOf_l4 x1 F_known S_nodes fuel (0 : Int32) (0 : Int32)
def sh_X4 (Ga Ga_known Ga_sent Ga_newest Ga_chosen Sa Sa_roundEdges Sa_values : Nat) (cI cC cS : ClassId) (G_known : Nat → Int32) (G_sent : Nat → Int32) (G_newest : Nat → Int32) (G_chosen : Nat → Int32) (G_rule : Int32) (G_step : Int32) (S_roundEdges : Nat → Int32) (S_values : Nat → Int32) (S_nodes : Int32) (S_rounds : Int32) : va_W := [(Ga, .inr (2, [.ref Sa, .ref Ga_known, .ref Ga_sent, .ref Ga_newest, .ref Ga_chosen, .int G_rule, .int G_step])), (Ga_known, .inl (cI, 8, .inl G_known)), (Ga_sent, .inl (cI, 8, .inl G_sent)), (Ga_newest, .inl (cI, 8, .inl G_newest)), (Ga_chosen, .inl (cI, 8, .inl G_chosen)), (Sa, .inr (4, [.ref Sa_roundEdges, .ref Sa_values, .int S_nodes, .int S_rounds])), (Sa_roundEdges, .inl (cI, 16, .inl S_roundEdges)), (Sa_values, .inl (cI, 8, .inl S_values))]
def fX4_begin_l12 (G_rule : Int32) (G_step : Int32) : Nat → Int32 → (Nat → Int32) → (Nat → Int32) → (Nat → Int32) → Option ((Nat → Int32) × (Nat → Int32) × (Nat → Int32) × Int32 × Int32)
  | 0, _, _, _, _ => none
  | n12 + 1, x2, G_known, G_sent, G_newest =>
    if (8 : Int32) ≤ x2 then (some (G_known, G_sent, G_newest, G_rule, G_step)) else (ck (inb x2 8) (ck (inb x2 8) (ck (inb x2 8) ((fX4_begin_l12 G_rule G_step n12) (x2 + 1) (upd G_known x2.toNatClampNeg (fX6_of x2)) (upd G_sent x2.toNatClampNeg (0 : Int32)) (upd G_newest x2.toNatClampNeg x2)))))
def fX4_begin (x1 : Int32) (G_known : Nat → Int32) (G_sent : Nat → Int32) (G_newest : Nat → Int32) (G_rule : Int32) (G_step : Int32) : Option ((Nat → Int32) × (Nat → Int32) × (Nat → Int32) × Int32 × Int32) :=
  fX4_begin_l12 x1 (0 : Int32) fuel (0 : Int32) G_known G_sent G_newest
def fX4_choice_b82 (x1 : Int32) (y0 : Int32) (G_known : Nat → Int32) : Option (Int32) :=
  ck (inb x1 8) (if (b2i (fX6_has (G_known x1.toNatClampNeg) y0)) = 0 then (some x1) else (some y0))
def fX4_choice_b37 (y0 : Int32) : Option (Int32) :=
  (fX6_smallest y0).bind (fun o2 => some o2)
def fX4_choice (x1 : Int32) (G_known : Nat → Int32) (G_sent : Nat → Int32) (G_newest : Nat → Int32) (G_rule : Int32) (G_step : Int32) (S_nodes : Int32) : Option (Int32) :=
  if G_rule = 0 then (ck (inb x1 8) (ck (inb x1 8) (if ((G_known x1.toNatClampNeg) &&& ((G_sent x1.toNatClampNeg) ^^^ (-1 : Int32))) = 0 then (ck (inb x1 8) (fX4_choice_b37 (G_known x1.toNatClampNeg))) else (fX4_choice_b37 ((G_known x1.toNatClampNeg) &&& ((G_sent x1.toNatClampNeg) ^^^ (-1 : Int32))))))) else (if G_rule = (1 : Int32) then (ck (inb x1 8) (some (G_newest x1.toNatClampNeg))) else (if (fX7_nodes S_nodes) ≤ 0 then (fX4_choice_b82 x1 x1 G_known) else (ck (nz (fX7_nodes S_nodes)) (fX4_choice_b82 x1 (G_step - G_step / (fX7_nodes S_nodes) * (fX7_nodes S_nodes)) G_known))))
def fX4_tokensSentBy_l4 (x1 : Int32) (G_chosen : Nat → Int32) (S_nodes : Int32) : Nat → Int32 → Int32 → Option (Int32)
  | 0, _, _ => none
  | n4 + 1, x2, x3 =>
    if (fX7_nodes S_nodes) ≤ x3 then (some x2) else (if (b2i (fX6_has x1 x3)) = 0 then ((fX4_tokensSentBy_l4 x1 G_chosen S_nodes n4) x2 (x3 + 1)) else (ck (inb x3 8) ((fX4_tokensSentBy_l4 x1 G_chosen S_nodes n4) (x2 ||| (fX6_of (G_chosen x3.toNatClampNeg))) (x3 + 1))))
def fX4_tokensSentBy (x1 : Int32) (G_chosen : Nat → Int32) (S_nodes : Int32) : Option (Int32) :=
  fX4_tokensSentBy_l4 x1 G_chosen S_nodes fuel (0 : Int32) (0 : Int32)
def fX4_learn (x1 : Int32) (x2 : Int32) (G_known : Nat → Int32) (G_newest : Nat → Int32) : Option ((Nat → Int32) × (Nat → Int32)) :=
  ck (inb x1 8) (if (x2 &&& ((G_known x1.toNatClampNeg) ^^^ (-1 : Int32))) = 0 then (some (G_known, G_newest)) else (ck (inb x1 8) (ck (inb x1 8) ((fX6_greatest (x2 &&& ((G_known x1.toNatClampNeg) ^^^ (-1 : Int32)))).bind (fun o2 => ck (inb x1 8) (some ((upd G_known x1.toNatClampNeg ((G_known x1.toNatClampNeg) ||| (x2 &&& ((G_known x1.toNatClampNeg) ^^^ (-1 : Int32))))), (upd G_newest x1.toNatClampNeg o2))))))))
def fX4_advance_l62 (x1 : Int32) (G_sent : Nat → Int32) (G_chosen : Nat → Int32) (G_step : Int32) (S_nodes : Int32) : Nat → Int32 → (Nat → Int32) → (Nat → Int32) → Option ((Nat → Int32) × (Nat → Int32) × (Nat → Int32) × (Nat → Int32) × Int32)
  | 0, _, _, _ => none
  | n62 + 1, x2, G_known, G_newest =>
    if (fX7_nodes S_nodes) ≤ x2 then (some (G_known, G_sent, G_newest, G_chosen, (G_step + (1 : Int32)))) else ((fX2_neighbours x1 x2 (fX7_nodes S_nodes)).bind (fun o2 => (fX4_tokensSentBy o2 G_chosen S_nodes).bind (fun o3 => (fX4_learn x2 o3 G_known G_newest).bind (fun o4 => (fX4_advance_l62 x1 G_sent G_chosen G_step S_nodes n62) (x2 + 1) o4.1 o4.2))))
def fX4_advance_l2 (G_known : Nat → Int32) (G_newest : Nat → Int32) (G_rule : Int32) (G_step : Int32) (S_roundEdges : Nat → Int32) (S_nodes : Int32) (S_rounds : Int32) : Nat → Int32 → (Nat → Int32) → (Nat → Int32) → Option ((Nat → Int32) × (Nat → Int32) × (Nat → Int32) × (Nat → Int32) × Int32)
  | 0, _, _, _ => none
  | n2 + 1, x1, G_sent, G_chosen =>
    if (fX7_nodes S_nodes) ≤ x1 then ((fX7_edgesAtStep G_step S_roundEdges S_rounds).bind (fun o6 => fX4_advance_l62 o6 G_sent G_chosen G_step S_nodes fuel (0 : Int32) G_known G_newest)) else ((fX4_choice x1 G_known G_sent G_newest G_rule G_step S_nodes).bind (fun o7 => ck (inb x1 8) (ck (inb x1 8) (ck (inb x1 8) (ck (inb x1 8) ((fX4_advance_l2 G_known G_newest G_rule G_step S_roundEdges S_nodes S_rounds n2) (x1 + 1) (upd G_sent x1.toNatClampNeg ((G_sent x1.toNatClampNeg) ||| (fX6_of ((upd G_chosen x1.toNatClampNeg o7) x1.toNatClampNeg)))) (upd G_chosen x1.toNatClampNeg o7)))))))
def fX4_advance (G_known : Nat → Int32) (G_sent : Nat → Int32) (G_newest : Nat → Int32) (G_chosen : Nat → Int32) (G_rule : Int32) (G_step : Int32) (S_roundEdges : Nat → Int32) (S_nodes : Int32) (S_rounds : Int32) : Option ((Nat → Int32) × (Nat → Int32) × (Nat → Int32) × (Nat → Int32) × Int32) :=
  fX4_advance_l2 G_known G_newest G_rule G_step S_roundEdges S_nodes S_rounds fuel (0 : Int32) G_sent G_chosen
def fX4_tokensOf (x1 : Int32) (G_known : Nat → Int32) (S_nodes : Int32) : Option (Int32) :=
  if (b2i (fX7_hasNode x1 S_nodes)) = 0 then (some (0 : Int32)) else (ck (inb x1 8) (some (G_known x1.toNatClampNeg)))
def fX4_allKnowAll_l2 (G_known : Nat → Int32) (S_nodes : Int32) : Nat → Int32 → Option (Bool)
  | 0, _ => none
  | n2 + 1, x1 =>
    if (fX7_nodes S_nodes) ≤ x1 then (some true) else (ck (inb x1 8) (if (G_known x1.toNatClampNeg) = (fX6_firstOnes (fX7_nodes S_nodes)) then ((fX4_allKnowAll_l2 G_known S_nodes n2) (x1 + 1)) else (some false)))
def fX4_allKnowAll (G_known : Nat → Int32) (S_nodes : Int32) : Option (Bool) :=
  fX4_allKnowAll_l2 G_known S_nodes fuel (0 : Int32)
def sh_X1 (Ca Ca_answers Fa Fa_known Fa_knownBefore Sa Sa_roundEdges Sa_values : Nat) (cI cC cS : ClassId) (C_answers : Nat → Int32) (C_steps : Int32) (F_known : Nat → Int32) (F_knownBefore : Nat → Int32) (F_step : Int32) (S_roundEdges : Nat → Int32) (S_values : Nat → Int32) (S_nodes : Int32) (S_rounds : Int32) : va_W := [(Ca, .inr (0, [.ref Sa, .ref Fa, .ref Ca_answers, .int C_steps])), (Ca_answers, .inl (cI, 8, .inl C_answers)), (Fa, .inr (1, [.ref Sa, .ref Fa_known, .ref Fa_knownBefore, .int F_step])), (Fa_known, .inl (cI, 8, .inl F_known)), (Fa_knownBefore, .inl (cI, 8, .inl F_knownBefore)), (Sa, .inr (4, [.ref Sa_roundEdges, .ref Sa_values, .int S_nodes, .int S_rounds])), (Sa_roundEdges, .inl (cI, 16, .inl S_roundEdges)), (Sa_values, .inl (cI, 8, .inl S_values))]
def fX1_allHaveAnswers_l2 (C_answers : Nat → Int32) (S_nodes : Int32) : Nat → Int32 → Option (Bool)
  | 0, _ => none
  | n2 + 1, x1 =>
    if (fX7_nodes S_nodes) ≤ x1 then (some true) else (ck (inb x1 8) (if (C_answers x1.toNatClampNeg) = 0 then (some false) else ((fX1_allHaveAnswers_l2 C_answers S_nodes n2) (x1 + 1))))
def fX1_allHaveAnswers (C_answers : Nat → Int32) (S_nodes : Int32) : Option (Bool) :=
  fX1_allHaveAnswers_l2 C_answers S_nodes fuel (0 : Int32)
def fX1_nodesWithMoreThan_l4 (x1 : Int32) (F_known : Nat → Int32) (S_nodes : Int32) : Nat → Int32 → Int32 → Option (Int32)
  | 0, _, _ => none
  | n4 + 1, x2, x3 =>
    if (fX7_nodes S_nodes) ≤ x3 then (some x2) else ((fX3_tokensOf x3 F_known S_nodes).bind (fun o2 => if (fJ6_bitCount_0f7a4 o2) ≤ x1 then ((fX1_nodesWithMoreThan_l4 x1 F_known S_nodes n4) x2 (x3 + 1)) else ((fX1_nodesWithMoreThan_l4 x1 F_known S_nodes n4) (x2 ||| (fX6_of x3)) (x3 + 1))))
def fX1_nodesWithMoreThan (x1 : Int32) (F_known : Nat → Int32) (S_nodes : Int32) : Option (Int32) :=
  fX1_nodesWithMoreThan_l4 x1 F_known S_nodes fuel (0 : Int32) (0 : Int32)
def fX1_answerWithoutAlarm_l2 (x1 : Int32) (F_known : Nat → Int32) (S_nodes : Int32) : Nat → Int32 → (Nat → Int32) → Option ((Nat → Int32))
  | 0, _, _ => none
  | n2 + 1, x2, C_answers =>
    if (fX7_nodes S_nodes) ≤ x2 then (some C_answers) else (if (b2i (fX6_has x1 x2)) = 0 then (ck (inb x2 8) (if (C_answers x2.toNatClampNeg) = 0 then ((fX3_tokensOf x2 F_known S_nodes).bind (fun o4 => ck (inb x2 8) ((fX1_answerWithoutAlarm_l2 x1 F_known S_nodes n2) (x2 + 1) (upd C_answers x2.toNatClampNeg (fJ6_bitCount_0f7a4 o4))))) else ((fX1_answerWithoutAlarm_l2 x1 F_known S_nodes n2) (x2 + 1) C_answers))) else ((fX1_answerWithoutAlarm_l2 x1 F_known S_nodes n2) (x2 + 1) C_answers))
def fX1_answerWithoutAlarm (x1 : Int32) (C_answers : Nat → Int32) (F_known : Nat → Int32) (S_nodes : Int32) : Option ((Nat → Int32)) :=
  fX1_answerWithoutAlarm_l2 x1 F_known S_nodes fuel (0 : Int32) C_answers
def fX1_runPhase_l27 (x1 : Int32) (C_answers : Nat → Int32) (C_steps : Int32) (F_known : Nat → Int32) (F_knownBefore : Nat → Int32) (F_step : Int32) (S_roundEdges : Nat → Int32) (S_nodes : Int32) (S_rounds : Int32) : Nat → Int32 → Int32 → Option ((Nat → Int32) × Int32 × (Nat → Int32) × (Nat → Int32) × Int32)
  | 0, _, _ => none
  | n27 + 1, x2, x3 =>
    if ((2 : Int32) * x1) ≤ x3 then ((fX1_answerWithoutAlarm x2 C_answers F_known S_nodes).bind (fun o2 => some (o2, (C_steps + ((2 : Int32) * x1)), F_known, F_knownBefore, F_step))) else ((fX7_edgesAtStep (C_steps + x3) S_roundEdges S_rounds).bind (fun o3 => (fX2_spread o3 x2 (fX7_nodes S_nodes)).bind (fun o4 => (fX1_runPhase_l27 x1 C_answers C_steps F_known F_knownBefore F_step S_roundEdges S_nodes S_rounds n27) o4 (x3 + 1))))
def fX1_runPhase (x1 : Int32) (C_answers : Nat → Int32) (C_steps : Int32) (F_known : Nat → Int32) (F_knownBefore : Nat → Int32) (F_step : Int32) (S_roundEdges : Nat → Int32) (S_nodes : Int32) (S_rounds : Int32) : Option ((Nat → Int32) × Int32 × (Nat → Int32) × (Nat → Int32) × Int32) :=
  (fX3_begin C_steps F_known F_step).bind (fun o5 => (fX3_advanceBy x1 o5.1 F_knownBefore o5.2 S_roundEdges S_nodes S_rounds).bind (fun o6 => (fX1_nodesWithMoreThan x1 o6.1 S_nodes).bind (fun o7 => fX1_runPhase_l27 x1 C_answers C_steps o6.1 o6.2.1 o6.2.2 S_roundEdges S_nodes S_rounds fuel o7 x1)))
def fX1_run_l28 (S_roundEdges : Nat → Int32) (S_nodes : Int32) (S_rounds : Int32) : Nat → Int32 → (Nat → Int32) → Int32 → (Nat → Int32) → (Nat → Int32) → Int32 → Option ((Nat → Int32) × Int32 × (Nat → Int32) × (Nat → Int32) × Int32)
  | 0, _, _, _, _, _, _ => none
  | n28 + 1, x1, C_answers, C_steps, F_known, F_knownBefore, F_step =>
    if (8 : Int32) < x1 then (some (C_answers, C_steps, F_known, F_knownBefore, F_step)) else ((fX1_allHaveAnswers C_answers S_nodes).bind (fun o2 => if (b2i o2) = 0 then ((fX1_runPhase x1 C_answers C_steps F_known F_knownBefore F_step S_roundEdges S_nodes S_rounds).bind (fun o4 => (fX1_run_l28 S_roundEdges S_nodes S_rounds n28) (x1 * (2 : Int32)) o4.1 o4.2.1 o4.2.2.1 o4.2.2.2.1 o4.2.2.2.2)) else (some (C_answers, C_steps, F_known, F_knownBefore, F_step))))
def fX1_run_l7 (C_steps : Int32) (F_known : Nat → Int32) (F_knownBefore : Nat → Int32) (F_step : Int32) (S_roundEdges : Nat → Int32) (S_nodes : Int32) (S_rounds : Int32) : Nat → Int32 → (Nat → Int32) → Option ((Nat → Int32) × Int32 × (Nat → Int32) × (Nat → Int32) × Int32)
  | 0, _, _ => none
  | n7 + 1, x1, C_answers =>
    if (8 : Int32) ≤ x1 then (fX1_run_l28 S_roundEdges S_nodes S_rounds fuel (1 : Int32) C_answers C_steps F_known F_knownBefore F_step) else (ck (inb x1 8) ((fX1_run_l7 C_steps F_known F_knownBefore F_step S_roundEdges S_nodes S_rounds n7) (x1 + 1) (upd C_answers x1.toNatClampNeg (0 : Int32))))
def fX1_run (C_answers : Nat → Int32) (C_steps : Int32) (F_known : Nat → Int32) (F_knownBefore : Nat → Int32) (F_step : Int32) (S_roundEdges : Nat → Int32) (S_nodes : Int32) (S_rounds : Int32) : Option ((Nat → Int32) × Int32 × (Nat → Int32) × (Nat → Int32) × Int32) :=
  fX1_run_l7 (0 : Int32) F_known F_knownBefore F_step S_roundEdges S_nodes S_rounds fuel (0 : Int32) C_answers
def fX1_steps (C_steps : Int32) : (Int32) :=
  C_steps
def fX1_answerOf (x1 : Int32) (C_answers : Nat → Int32) (S_nodes : Int32) : Option (Int32) :=
  if (b2i (fX7_hasNode x1 S_nodes)) = 0 then (some (0 : Int32)) else (ck (inb x1 8) (some (C_answers x1.toNatClampNeg)))
def fX1_wrongAnswers_l4 (C_answers : Nat → Int32) (S_nodes : Int32) : Nat → Int32 → Int32 → Option (Int32)
  | 0, _, _ => none
  | n4 + 1, x1, x2 =>
    if (fX7_nodes S_nodes) ≤ x2 then (some x1) else (ck (inb x2 8) (if (C_answers x2.toNatClampNeg) = (fX7_nodes S_nodes) then ((fX1_wrongAnswers_l4 C_answers S_nodes n4) x1 (x2 + 1)) else ((fX1_wrongAnswers_l4 C_answers S_nodes n4) (x1 + 1) (x2 + 1))))
def fX1_wrongAnswers (C_answers : Nat → Int32) (S_nodes : Int32) : Option (Int32) :=
  fX1_wrongAnswers_l4 C_answers S_nodes fuel (0 : Int32) (0 : Int32)
def sh_X5 (Ha Ha_states : Nat) (cI cC cS : ClassId) (H_size : Int32) (H_b : Nat → Nat) (H_e : Nat → Nat) (H_v : Nat → Nat) (H_re : Nat → Nat → Int32) (H_va : Nat → Nat → Int32) (H_no : Nat → Int32) (H_ro : Nat → Int32) : va_W := [(Ha, .inr (3, [.ref Ha_states, .int H_size])), (Ha_states, .inl (cS, 6, .inr (.inr (.inr (.inr (fun i => some (H_b i))))))), (H_b 0, .inr (4, [.ref (H_e 0), .ref (H_v 0), .int (H_no 0), .int (H_ro 0)])), (H_e 0, .inl (cI, 16, .inl (H_re 0))), (H_v 0, .inl (cI, 8, .inl (H_va 0))), (H_b 1, .inr (4, [.ref (H_e 1), .ref (H_v 1), .int (H_no 1), .int (H_ro 1)])), (H_e 1, .inl (cI, 16, .inl (H_re 1))), (H_v 1, .inl (cI, 8, .inl (H_va 1))), (H_b 2, .inr (4, [.ref (H_e 2), .ref (H_v 2), .int (H_no 2), .int (H_ro 2)])), (H_e 2, .inl (cI, 16, .inl (H_re 2))), (H_v 2, .inl (cI, 8, .inl (H_va 2))), (H_b 3, .inr (4, [.ref (H_e 3), .ref (H_v 3), .int (H_no 3), .int (H_ro 3)])), (H_e 3, .inl (cI, 16, .inl (H_re 3))), (H_v 3, .inl (cI, 8, .inl (H_va 3))), (H_b 4, .inr (4, [.ref (H_e 4), .ref (H_v 4), .int (H_no 4), .int (H_ro 4)])), (H_e 4, .inl (cI, 16, .inl (H_re 4))), (H_v 4, .inl (cI, 8, .inl (H_va 4))), (H_b 5, .inr (4, [.ref (H_e 5), .ref (H_v 5), .int (H_no 5), .int (H_ro 5)])), (H_e 5, .inl (cI, 16, .inl (H_re 5))), (H_v 5, .inl (cI, 8, .inl (H_va 5)))]
def fX5_size (H_size : Int32) : (Int32) :=
  H_size
def sh_X8 (Xa Xa_characters : Nat) (cI cC cS : ClassId) (X_characters : Nat → Int32) (X_length : Int32) (X_kind : Int32) (X_start : Int32) (X_end : Int32) : va_W := [(Xa, .inr (5, [.ref Xa_characters, .int X_length, .int X_kind, .int X_start, .int X_end])), (Xa_characters, .inl (cC, 120, .inl X_characters))]
def fX8_length (X_length : Int32) : (Int32) :=
  X_length
def fX8_isFull (X_length : Int32) : (Bool) :=
  if X_length < (120 : Int32) then false else true
def fX8_append (x1 : Int32) (X_characters : Nat → Int32) (X_length : Int32) : Option ((Nat → Int32) × Int32) :=
  if (b2i (fX8_isFull X_length)) = 0 then (ck (inb X_length 120) (some ((upd X_characters X_length.toNatClampNeg (vp_nar .char ((x1.toUInt32 % 65536).toInt32))), (X_length + (1 : Int32))))) else (some (X_characters, X_length))
def fX8_clear (X_length : Int32) : (Int32) :=
  (0 : Int32)
def fX8_characterAt (x1 : Int32) (X_characters : Nat → Int32) (X_length : Int32) : Option (Int32) :=
  if x1 < 0 then (ck (isc (32 : Int32)) (some (32 : Int32))) else (if X_length ≤ x1 then (ck (isc (32 : Int32)) (some (32 : Int32))) else (ck (inb x1 120) (ck (isc (X_characters x1.toNatClampNeg)) (some (X_characters x1.toNatClampNeg)))))
def fX8_kindAt_b44 (x2 : Int32) : Option (Int32) :=
  if x2 = (59 : Int32) then (some (3 : Int32)) else (some (4 : Int32))
def fX8_kindAt_b30 (x2 : Int32) : Option (Int32) :=
  if x2 < (48 : Int32) then (fX8_kindAt_b44 x2) else (if (57 : Int32) < x2 then (fX8_kindAt_b44 x2) else (some (2 : Int32)))
def fX8_kindAt (x1 : Int32) (X_characters : Nat → Int32) (X_length : Int32) : Option (Int32) :=
  if x1 < X_length then ((fX8_characterAt x1 X_characters X_length).bind (fun o5 => if o5 < (97 : Int32) then (fX8_kindAt_b30 o5) else (if (122 : Int32) < o5 then (fX8_kindAt_b30 o5) else (some (1 : Int32))))) else (some (0 : Int32))
def fX8_nextToken_l81 (X_characters : Nat → Int32) (X_length : Int32) (X_kind : Int32) (X_start : Int32) : Nat → Int32 → Option (Int32 × Int32 × Int32)
  | 0, _ => none
  | n81 + 1, X_end =>
    if X_length ≤ X_end then (some (X_kind, X_start, X_end)) else ((fX8_kindAt X_end X_characters X_length).bind (fun o2 => if o2 = X_kind then ((fX8_nextToken_l81 X_characters X_length X_kind X_start n81) (X_end + (1 : Int32))) else (some (X_kind, X_start, X_end))))
def fX8_nextToken_b45 (X_characters : Nat → Int32) (X_length : Int32) (X_kind : Int32) (X_start : Int32) (X_end : Int32) : Option (Int32 × Int32 × Int32) :=
  (fX8_kindAt X_start X_characters X_length).bind (fun o4 => if o4 = (1 : Int32) then (fX8_nextToken_l81 X_characters X_length o4 X_start fuel X_start) else (if o4 = (2 : Int32) then (fX8_nextToken_l81 X_characters X_length o4 X_start fuel X_start) else (if o4 = 0 then (some (o4, X_start, X_start)) else (some (o4, X_start, (X_start + (1 : Int32)))))))
def fX8_nextToken_l8 (X_characters : Nat → Int32) (X_length : Int32) (X_kind : Int32) (X_end : Int32) : Nat → Int32 → Option (Int32 × Int32 × Int32)
  | 0, _ => none
  | n8 + 1, X_start =>
    if X_length ≤ X_start then (fX8_nextToken_b45 X_characters X_length X_kind X_start X_end) else ((fX8_characterAt X_start X_characters X_length).bind (fun o9 => if o9 = (32 : Int32) then ((fX8_nextToken_l8 X_characters X_length X_kind X_end n8) (X_start + (1 : Int32))) else (fX8_nextToken_b45 X_characters X_length X_kind X_start X_end)))
def fX8_nextToken (X_characters : Nat → Int32) (X_length : Int32) (X_kind : Int32) (X_start : Int32) (X_end : Int32) : Option (Int32 × Int32 × Int32) :=
  fX8_nextToken_l8 X_characters X_length X_kind X_end fuel X_end
def fX8_digitAt (x1 : Int32) (X_characters : Nat → Int32) (X_length : Int32) : Option (Int32) :=
  (fX8_characterAt x1 X_characters X_length).bind (fun o1 => some (o1 - (48 : Int32)))
def sh_X8d (Xa Xa_characters Da Da_roundEdges Da_values : Nat) (cI cC cS : ClassId) (X_characters : Nat → Int32) (X_length : Int32) (X_kind : Int32) (X_start : Int32) (X_end : Int32) (D_roundEdges : Nat → Int32) (D_values : Nat → Int32) (D_nodes : Int32) (D_rounds : Int32) : va_W := [(Xa, .inr (5, [.ref Xa_characters, .int X_length, .int X_kind, .int X_start, .int X_end])), (Xa_characters, .inl (cC, 120, .inl X_characters)), (Da, .inr (4, [.ref Da_roundEdges, .ref Da_values, .int D_nodes, .int D_rounds])), (Da_roundEdges, .inl (cI, 16, .inl D_roundEdges)), (Da_values, .inl (cI, 8, .inl D_values))]
def fX8_isEdge (X_characters : Nat → Int32) (X_length : Int32) (X_start : Int32) (X_end : Int32) (D_nodes : Int32) : Option (Bool) :=
  if (X_end - X_start) = (2 : Int32) then ((fX8_digitAt X_start X_characters X_length).bind (fun o2 => (fX8_digitAt (X_start + (1 : Int32)) X_characters X_length).bind (fun o3 => if (b2i (fX7_hasNode o2 D_nodes)) = 0 then (some false) else (if (b2i (fX7_hasNode o3 D_nodes)) = 0 then (some false) else (if o2 = o3 then (some false) else (some true)))))) else (some false)
def fX8_readEdges_b71 (x2 : Int32) (X_kind : Int32) (X_start : Int32) (X_end : Int32) (D_roundEdges : Nat → Int32) (D_rounds : Int32) : Option (Bool × Int32 × Int32 × Int32 × (Nat → Int32) × Int32) :=
  (fX7_append x2 D_roundEdges D_rounds).bind (fun o1 => some (true, X_kind, X_start, X_end, o1.1, o1.2))
def fX8_readEdges_l13 (X_characters : Nat → Int32) (X_length : Int32) (D_roundEdges : Nat → Int32) (D_nodes : Int32) (D_rounds : Int32) : Nat → Int32 → Int32 → Int32 → Int32 → Int32 → Option (Bool × Int32 × Int32 × Int32 × (Nat → Int32) × Int32)
  | 0, _, _, _, _, _ => none
  | n13 + 1, x2, x3, X_kind, X_start, X_end =>
    if (120 : Int32) ≤ x3 then (fX8_readEdges_b71 x2 X_kind X_start X_end D_roundEdges D_rounds) else (if X_kind = (2 : Int32) then ((fX8_isEdge X_characters X_length X_start X_end D_nodes).bind (fun o4 => if (b2i o4) = 0 then (some (false, X_kind, X_start, X_end, D_roundEdges, D_rounds)) else ((fX8_digitAt X_start X_characters X_length).bind (fun o6 => (fX8_digitAt (X_start + (1 : Int32)) X_characters X_length).bind (fun o7 => (fX8_nextToken X_characters X_length X_kind X_start X_end).bind (fun o8 => (fX8_readEdges_l13 X_characters X_length D_roundEdges D_nodes D_rounds n13) (x2 ||| (fX2_between o6 o7)) (x3 + 1) o8.1 o8.2.1 o8.2.2)))))) else (fX8_readEdges_b71 x2 X_kind X_start X_end D_roundEdges D_rounds))
def fX8_readEdges (X_characters : Nat → Int32) (X_length : Int32) (X_kind : Int32) (X_start : Int32) (X_end : Int32) (D_roundEdges : Nat → Int32) (D_nodes : Int32) (D_rounds : Int32) : Option (Bool × Int32 × Int32 × Int32 × (Nat → Int32) × Int32) :=
  if (b2i (fX7_isFull D_rounds)) = 0 then (fX8_readEdges_l13 X_characters X_length D_roundEdges D_nodes D_rounds fuel (0 : Int32) (0 : Int32) X_kind X_start X_end) else (some (false, X_kind, X_start, X_end, D_roundEdges, D_rounds))
def fX8_oneDigit (X_characters : Nat → Int32) (X_length : Int32) (X_kind : Int32) (X_start : Int32) (X_end : Int32) : Option (Int32) :=
  if X_kind = (2 : Int32) then (if (X_end - X_start) = (1 : Int32) then ((fX8_digitAt X_start X_characters X_length).bind (fun o3 => some o3)) else (some (-1 : Int32))) else (some (-1 : Int32))
def fX8_readNodes (X_characters : Nat → Int32) (X_length : Int32) (X_kind : Int32) (X_start : Int32) (X_end : Int32) (D_values : Nat → Int32) (D_nodes : Int32) (D_rounds : Int32) : Option (Bool × Int32 × Int32 × Int32 × (Nat → Int32) × Int32 × Int32) :=
  (fX8_nextToken X_characters X_length X_kind X_start X_end).bind (fun o1 => (fX8_oneDigit X_characters X_length o1.1 o1.2.1 o1.2.2).bind (fun o2 => if o2 < (2 : Int32) then (some (false, o1.1, o1.2.1, o1.2.2, D_values, D_nodes, D_rounds)) else (if o2 ≤ (8 : Int32) then ((fX7_beginAnew o2 D_values D_nodes D_rounds).bind (fun o5 => (fX8_nextToken X_characters X_length o1.1 o1.2.1 o1.2.2).bind (fun o6 => some (true, o6.1, o6.2.1, o6.2.2, o5.1, o5.2.1, o5.2.2)))) else (some (false, o1.1, o1.2.1, o1.2.2, D_values, D_nodes, D_rounds)))))
def fX8_readRepeat_l41 (x2 : Int32) (x3 : Int32) (X_characters : Nat → Int32) (X_length : Int32) (X_kind : Int32) (X_start : Int32) (X_end : Int32) : Nat → Int32 → (Nat → Int32) → Int32 → Option (Bool × Int32 × Int32 × Int32 × (Nat → Int32) × Int32)
  | 0, _, _, _ => none
  | n41 + 1, x4, D_roundEdges, D_rounds =>
    if x2 ≤ x4 then ((fX8_nextToken X_characters X_length X_kind X_start X_end).bind (fun o2 => some (true, o2.1, o2.2.1, o2.2.2, D_roundEdges, D_rounds))) else ((fX7_append x3 D_roundEdges D_rounds).bind (fun o3 => (fX8_readRepeat_l41 x2 x3 X_characters X_length X_kind X_start X_end n41) (x4 + 1) o3.1 o3.2))
def fX8_readRepeat (X_characters : Nat → Int32) (X_length : Int32) (X_kind : Int32) (X_start : Int32) (X_end : Int32) (D_roundEdges : Nat → Int32) (D_rounds : Int32) : Option (Bool × Int32 × Int32 × Int32 × (Nat → Int32) × Int32) :=
  (fX8_nextToken X_characters X_length X_kind X_start X_end).bind (fun o4 => (fX8_oneDigit X_characters X_length o4.1 o4.2.1 o4.2.2).bind (fun o5 => if o5 < (1 : Int32) then (some (false, o4.1, o4.2.1, o4.2.2, D_roundEdges, D_rounds)) else (if o5 ≤ ((16 : Int32) - (fX7_rounds D_rounds)) then ((fX7_edgesOf ((fX7_rounds D_rounds) - (1 : Int32)) D_roundEdges D_rounds).bind (fun o8 => fX8_readRepeat_l41 o5 o8 X_characters X_length o4.1 o4.2.1 o4.2.2 fuel (0 : Int32) D_roundEdges D_rounds)) else (some (false, o4.1, o4.2.1, o4.2.2, D_roundEdges, D_rounds)))))
def fX8_readStar (X_characters : Nat → Int32) (X_length : Int32) (X_kind : Int32) (X_start : Int32) (X_end : Int32) (D_roundEdges : Nat → Int32) (D_nodes : Int32) (D_rounds : Int32) : Option (Bool × Int32 × Int32 × Int32 × (Nat → Int32) × Int32) :=
  (fX8_nextToken X_characters X_length X_kind X_start X_end).bind (fun o1 => (fX8_oneDigit X_characters X_length o1.1 o1.2.1 o1.2.2).bind (fun o2 => if (b2i (fX7_hasNode o2 D_nodes)) = 0 then (some (false, o1.1, o1.2.1, o1.2.2, D_roundEdges, D_rounds)) else ((fX2_star o2 (fX7_nodes D_nodes)).bind (fun o4 => (fX7_append o4 D_roundEdges D_rounds).bind (fun o5 => (fX8_nextToken X_characters X_length o1.1 o1.2.1 o1.2.2).bind (fun o6 => some (true, o6.1, o6.2.1, o6.2.2, o5.1, o5.2)))))))
def fX9_oneIf (x0 : Int32) : (Int32) :=
  if x0 = 0 then (0 : Int32) else (1 : Int32)
def sh_X9S (Ta Sa Sa_roundEdges Sa_values Tr_draft Tr_history Tr_text Tr_flooding Tr_gossiping Tr_counting : Nat) (cI cC cS : ClassId) (S_roundEdges : Nat → Int32) (S_values : Nat → Int32) (S_nodes : Int32) (S_rounds : Int32) : va_W := [(Ta, .inr (6, [.ref Sa, .ref Tr_draft, .ref Tr_history, .ref Tr_text, .ref Tr_flooding, .ref Tr_gossiping, .ref Tr_counting])), (Sa, .inr (4, [.ref Sa_roundEdges, .ref Sa_values, .int S_nodes, .int S_rounds])), (Sa_roundEdges, .inl (cI, 16, .inl S_roundEdges)), (Sa_values, .inl (cI, 8, .inl S_values))]
def fX9_edge (x1 : Int32) (x2 : Int32) (x3 : Int32) (S_roundEdges : Nat → Int32) (S_nodes : Int32) (S_rounds : Int32) : Option (Int32) :=
  if (b2i (fX7_hasPlace x1 x2 x3 S_nodes S_rounds)) = 0 then (some (-1 : Int32)) else ((fX7_edgesOf x1 S_roundEdges S_rounds).bind (fun o2 => some (fX9_oneIf (b2i (fX2_connects o2 x2 x3)))))
def fX9_value (x1 : Int32) (S_values : Nat → Int32) (S_nodes : Int32) : Option (Int32) :=
  if (b2i (fX7_hasNode x1 S_nodes)) = 0 then (some (-1 : Int32)) else ((fX7_valueOf x1 S_values S_nodes).bind (fun o2 => some o2))
def sh_X9X (Ta Xa Xa_characters Tr_schedule Tr_draft Tr_history Tr_flooding Tr_gossiping Tr_counting : Nat) (cI cC cS : ClassId) (X_characters : Nat → Int32) (X_length : Int32) (X_kind : Int32) (X_start : Int32) (X_end : Int32) : va_W := [(Ta, .inr (6, [.ref Tr_schedule, .ref Tr_draft, .ref Tr_history, .ref Xa, .ref Tr_flooding, .ref Tr_gossiping, .ref Tr_counting])), (Xa, .inr (5, [.ref Xa_characters, .int X_length, .int X_kind, .int X_start, .int X_end])), (Xa_characters, .inl (cC, 120, .inl X_characters))]
def fX9_appendCharacter (x1 : Int32) (X_characters : Nat → Int32) (X_length : Int32) : Option (Int32 × (Nat → Int32) × Int32) :=
  if x1 < 0 then (some ((-1 : Int32), X_characters, X_length)) else (if x1 ≤ (255 : Int32) then (if (b2i (fX8_isFull X_length)) = 0 then ((fX8_append x1 X_characters X_length).bind (fun o4 => some ((fX8_length o4.2), o4.1, o4.2))) else (some ((-3 : Int32), X_characters, X_length))) else (some ((-1 : Int32), X_characters, X_length)))
def fX9_clearText (X_length : Int32) : (Int32 × Int32) :=
  ((fX8_length X_length), (fX8_clear X_length))
def fX9_round (x1 : Int32) (x2 : Int32) (S_roundEdges : Nat → Int32) (S_nodes : Int32) (S_rounds : Int32) : Option (Int32) :=
  if (b2i (fX7_hasRound x1 S_rounds)) = 0 then (some (-1 : Int32)) else ((fX7_edgesOf x1 S_roundEdges S_rounds).bind (fun o2 => if x2 = 0 then (some (fJ6_bitCount_0f7a4 o2)) else (if x2 = 1 then ((fX2_areConnected o2 (fX7_nodes S_nodes)).bind (fun o5 => some (fX9_oneIf (b2i o5)))) else (if x2 = 2 then ((fX2_components o2 (fX7_nodes S_nodes)).bind (fun o7 => some o7)) else (if x2 = 3 then ((fX2_greatestDegree o2 (fX7_nodes S_nodes)).bind (fun o9 => some o9)) else (some (-1 : Int32)))))))
def fX9_staying (x1 : Int32) (x2 : Int32) (S_roundEdges : Nat → Int32) (S_rounds : Int32) : Option (Int32) :=
  if (b2i (fX7_hasRound x1 S_rounds)) = 0 then (some (-1 : Int32)) else (if x2 < (1 : Int32) then (some (-1 : Int32)) else (if x2 ≤ ((fX7_rounds S_rounds) - x1) then ((fX7_edgesThatStay x1 x2 S_roundEdges S_rounds).bind (fun o4 => some (fJ6_bitCount_0f7a4 o4))) else (some (-1 : Int32))))
def fX9_isStable (x1 : Int32) (S_roundEdges : Nat → Int32) (S_nodes : Int32) (S_rounds : Int32) : Option (Int32) :=
  if x1 < (1 : Int32) then (some (-1 : Int32)) else (if x1 ≤ (fX7_rounds S_rounds) then ((fX7_staysConnected x1 S_roundEdges S_nodes S_rounds).bind (fun o3 => some (fX9_oneIf (b2i o3)))) else (some (-1 : Int32)))
def fX9_greatestStable_l8 (S_roundEdges : Nat → Int32) (S_nodes : Int32) (S_rounds : Int32) : Nat → Int32 → Option (Int32)
  | 0, _ => none
  | n8 + 1, x1 =>
    if x1 < (1 : Int32) then (some (0 : Int32)) else ((fX7_staysConnected x1 S_roundEdges S_nodes S_rounds).bind (fun o2 => if (b2i o2) = 0 then ((fX9_greatestStable_l8 S_roundEdges S_nodes S_rounds n8) (x1 + (-1))) else (some x1)))
def fX9_greatestStable (S_roundEdges : Nat → Int32) (S_nodes : Int32) (S_rounds : Int32) : Option (Int32) :=
  fX9_greatestStable_l8 S_roundEdges S_nodes S_rounds fuel (fX7_rounds S_rounds)
def fX9_window (x1 : Int32) (S_roundEdges : Nat → Int32) (S_nodes : Int32) (S_rounds : Int32) : Option (Int32) :=
  if (b2i (fX7_hasRound x1 S_rounds)) = 0 then (some (-1 : Int32)) else ((fX7_longestWindow x1 S_roundEdges S_nodes S_rounds).bind (fun o2 => some o2))
def fX9_isStep (x0 : Int32) : (Bool) :=
  if x0 < 0 then false else (if (99 : Int32) < x0 then false else true)
def sh_X9SF (Ta Sa Sa_roundEdges Sa_values Fa Fa_known Fa_knownBefore Tr_draft Tr_history Tr_text Tr_gossiping Tr_counting : Nat) (cI cC cS : ClassId) (S_roundEdges : Nat → Int32) (S_values : Nat → Int32) (S_nodes : Int32) (S_rounds : Int32) (F_known : Nat → Int32) (F_knownBefore : Nat → Int32) (F_step : Int32) : va_W := [(Ta, .inr (6, [.ref Sa, .ref Tr_draft, .ref Tr_history, .ref Tr_text, .ref Fa, .ref Tr_gossiping, .ref Tr_counting])), (Sa, .inr (4, [.ref Sa_roundEdges, .ref Sa_values, .int S_nodes, .int S_rounds])), (Sa_roundEdges, .inl (cI, 16, .inl S_roundEdges)), (Sa_values, .inl (cI, 8, .inl S_values)), (Fa, .inr (1, [.ref Sa, .ref Fa_known, .ref Fa_knownBefore, .int F_step])), (Fa_known, .inl (cI, 8, .inl F_known)), (Fa_knownBefore, .inl (cI, 8, .inl F_knownBefore))]
def fX9_heard (x1 : Int32) (x2 : Int32) (x3 : Int32) (S_roundEdges : Nat → Int32) (S_nodes : Int32) (S_rounds : Int32) (F_known : Nat → Int32) (F_knownBefore : Nat → Int32) (F_step : Int32) : Option (Int32 × (Nat → Int32) × (Nat → Int32) × Int32) :=
  if (b2i (fX7_hasNode x1 S_nodes)) = 0 then (some ((-1 : Int32), F_known, F_knownBefore, F_step)) else (if (b2i (fX9_isStep x2)) = 0 then (some ((-1 : Int32), F_known, F_knownBefore, F_step)) else (if (b2i (fX9_isStep x3)) = 0 then (some ((-1 : Int32), F_known, F_knownBefore, F_step)) else ((fX3_begin x2 F_known F_step).bind (fun o4 => (fX3_advanceBy x3 o4.1 F_knownBefore o4.2 S_roundEdges S_nodes S_rounds).bind (fun o5 => (fX3_tokensOf x1 o5.1 S_nodes).bind (fun o6 => some (o6, o5.1, o5.2.1, o5.2.2)))))))
def fX9_journey_l42 (x1 : Int32) (x2 : Int32) (S_roundEdges : Nat → Int32) (S_nodes : Int32) (S_rounds : Int32) : Nat → Int32 → (Nat → Int32) → (Nat → Int32) → Int32 → Option (Int32 × (Nat → Int32) × (Nat → Int32) × Int32)
  | 0, _, _, _, _ => none
  | n42 + 1, x4, F_known, F_knownBefore, F_step =>
    if (fX7_longestFlooding S_nodes S_rounds) < x4 then (some ((-9 : Int32), F_known, F_knownBefore, F_step)) else ((fX3_tokensOf x2 F_known S_nodes).bind (fun o2 => if (b2i (fX6_has o2 x1)) = 0 then ((fX3_advance F_known F_knownBefore F_step S_roundEdges S_nodes S_rounds).bind (fun o4 => (fX9_journey_l42 x1 x2 S_roundEdges S_nodes S_rounds n42) (x4 + 1) o4.1 o4.2.1 o4.2.2)) else (some (x4, F_known, F_knownBefore, F_step))))
def fX9_journey (x1 : Int32) (x2 : Int32) (x3 : Int32) (S_roundEdges : Nat → Int32) (S_nodes : Int32) (S_rounds : Int32) (F_known : Nat → Int32) (F_knownBefore : Nat → Int32) (F_step : Int32) : Option (Int32 × (Nat → Int32) × (Nat → Int32) × Int32) :=
  if (b2i (fX7_hasNode x1 S_nodes)) = 0 then (some ((-1 : Int32), F_known, F_knownBefore, F_step)) else (if (b2i (fX7_hasNode x2 S_nodes)) = 0 then (some ((-1 : Int32), F_known, F_knownBefore, F_step)) else (if (b2i (fX9_isStep x3)) = 0 then (some ((-1 : Int32), F_known, F_knownBefore, F_step)) else ((fX3_begin x3 F_known F_step).bind (fun o8 => fX9_journey_l42 x1 x2 S_roundEdges S_nodes S_rounds fuel (0 : Int32) o8.1 F_knownBefore o8.2))))
def fX9_diameter_l19 (S_roundEdges : Nat → Int32) (S_nodes : Int32) (S_rounds : Int32) : Nat → Int32 → (Nat → Int32) → (Nat → Int32) → Int32 → Option (Int32 × (Nat → Int32) × (Nat → Int32) × Int32)
  | 0, _, _, _, _ => none
  | n19 + 1, x2, F_known, F_knownBefore, F_step =>
    if (fX7_longestFlooding S_nodes S_rounds) < x2 then (some ((-9 : Int32), F_known, F_knownBefore, F_step)) else ((fX3_tokensOfAll F_known S_nodes).bind (fun o2 => if o2 = (fX6_firstOnes (fX7_nodes S_nodes)) then (some (x2, F_known, F_knownBefore, F_step)) else ((fX3_advance F_known F_knownBefore F_step S_roundEdges S_nodes S_rounds).bind (fun o4 => (fX9_diameter_l19 S_roundEdges S_nodes S_rounds n19) (x2 + 1) o4.1 o4.2.1 o4.2.2))))
def fX9_diameter (x1 : Int32) (S_roundEdges : Nat → Int32) (S_nodes : Int32) (S_rounds : Int32) (F_known : Nat → Int32) (F_knownBefore : Nat → Int32) (F_step : Int32) : Option (Int32 × (Nat → Int32) × (Nat → Int32) × Int32) :=
  if (b2i (fX9_isStep x1)) = 0 then (some ((-1 : Int32), F_known, F_knownBefore, F_step)) else ((fX3_begin x1 F_known F_step).bind (fun o6 => fX9_diameter_l19 S_roundEdges S_nodes S_rounds fuel (0 : Int32) o6.1 F_knownBefore o6.2))
def fX9_center_l10 (S_roundEdges : Nat → Int32) (S_nodes : Int32) (S_rounds : Int32) : Nat → Int32 → (Nat → Int32) → (Nat → Int32) → Int32 → Option (Int32 × (Nat → Int32) × (Nat → Int32) × Int32)
  | 0, _, _, _, _ => none
  | n10 + 1, x1, F_known, F_knownBefore, F_step =>
    if (fX7_longestFlooding S_nodes S_rounds) < x1 then (some ((-9 : Int32), F_known, F_knownBefore, F_step)) else ((fX3_tokensOfAll F_known S_nodes).bind (fun o2 => if o2 = 0 then ((fX3_advance F_known F_knownBefore F_step S_roundEdges S_nodes S_rounds).bind (fun o4 => (fX9_center_l10 S_roundEdges S_nodes S_rounds n10) (x1 + 1) o4.1 o4.2.1 o4.2.2)) else ((fX6_smallest o2).bind (fun o5 => some (o5, F_known, F_knownBefore, F_step)))))
def fX9_center (S_roundEdges : Nat → Int32) (S_nodes : Int32) (S_rounds : Int32) (F_known : Nat → Int32) (F_knownBefore : Nat → Int32) (F_step : Int32) : Option (Int32 × (Nat → Int32) × (Nat → Int32) × Int32) :=
  (fX3_begin (0 : Int32) F_known F_step).bind (fun o6 => fX9_center_l10 S_roundEdges S_nodes S_rounds fuel (0 : Int32) o6.1 F_knownBefore o6.2)
def fX9_isRule (x0 : Int32) : (Bool) :=
  if x0 < 0 then false else (if (2 : Int32) < x0 then false else true)
def sh_X9SG (Ta Sa Sa_roundEdges Sa_values Ga Ga_known Ga_sent Ga_newest Ga_chosen Tr_draft Tr_history Tr_text Tr_flooding Tr_counting : Nat) (cI cC cS : ClassId) (S_roundEdges : Nat → Int32) (S_values : Nat → Int32) (S_nodes : Int32) (S_rounds : Int32) (G_known : Nat → Int32) (G_sent : Nat → Int32) (G_newest : Nat → Int32) (G_chosen : Nat → Int32) (G_rule : Int32) (G_step : Int32) : va_W := [(Ta, .inr (6, [.ref Sa, .ref Tr_draft, .ref Tr_history, .ref Tr_text, .ref Tr_flooding, .ref Ga, .ref Tr_counting])), (Sa, .inr (4, [.ref Sa_roundEdges, .ref Sa_values, .int S_nodes, .int S_rounds])), (Sa_roundEdges, .inl (cI, 16, .inl S_roundEdges)), (Sa_values, .inl (cI, 8, .inl S_values)), (Ga, .inr (2, [.ref Sa, .ref Ga_known, .ref Ga_sent, .ref Ga_newest, .ref Ga_chosen, .int G_rule, .int G_step])), (Ga_known, .inl (cI, 8, .inl G_known)), (Ga_sent, .inl (cI, 8, .inl G_sent)), (Ga_newest, .inl (cI, 8, .inl G_newest)), (Ga_chosen, .inl (cI, 8, .inl G_chosen))]
def fX9_gossip_l38 (x2 : Int32) (x3 : Int32) (S_roundEdges : Nat → Int32) (S_nodes : Int32) (S_rounds : Int32) (G_rule : Int32) : Nat → Int32 → (Nat → Int32) → (Nat → Int32) → (Nat → Int32) → (Nat → Int32) → Int32 → Option (Int32 × (Nat → Int32) × (Nat → Int32) × (Nat → Int32) × (Nat → Int32) × Int32 × Int32)
  | 0, _, _, _, _, _, _ => none
  | n38 + 1, x4, G_known, G_sent, G_newest, G_chosen, G_step =>
    if x3 ≤ x4 then ((fX4_tokensOf x2 G_known S_nodes).bind (fun o2 => some (o2, G_known, G_sent, G_newest, G_chosen, G_rule, G_step))) else ((fX4_advance G_known G_sent G_newest G_chosen G_rule G_step S_roundEdges S_nodes S_rounds).bind (fun o3 => (fX9_gossip_l38 x2 x3 S_roundEdges S_nodes S_rounds G_rule n38) (x4 + 1) o3.1 o3.2.1 o3.2.2.1 o3.2.2.2.1 o3.2.2.2.2))
def fX9_gossip (x1 : Int32) (x2 : Int32) (x3 : Int32) (S_roundEdges : Nat → Int32) (S_nodes : Int32) (S_rounds : Int32) (G_known : Nat → Int32) (G_sent : Nat → Int32) (G_newest : Nat → Int32) (G_chosen : Nat → Int32) (G_rule : Int32) (G_step : Int32) : Option (Int32 × (Nat → Int32) × (Nat → Int32) × (Nat → Int32) × (Nat → Int32) × Int32 × Int32) :=
  if (b2i (fX9_isRule x1)) = 0 then (some ((-1 : Int32), G_known, G_sent, G_newest, G_chosen, G_rule, G_step)) else (if (b2i (fX7_hasNode x2 S_nodes)) = 0 then (some ((-1 : Int32), G_known, G_sent, G_newest, G_chosen, G_rule, G_step)) else (if (b2i (fX9_isStep x3)) = 0 then (some ((-1 : Int32), G_known, G_sent, G_newest, G_chosen, G_rule, G_step)) else ((fX4_begin x1 G_known G_sent G_newest G_rule G_step).bind (fun o7 => fX9_gossip_l38 x2 x3 S_roundEdges S_nodes S_rounds o7.2.2.2.1 fuel (0 : Int32) o7.1 o7.2.1 o7.2.2.1 G_chosen o7.2.2.2.2))))
def fX9_gossipTime_l19 (S_roundEdges : Nat → Int32) (S_nodes : Int32) (S_rounds : Int32) (G_rule : Int32) : Nat → Int32 → (Nat → Int32) → (Nat → Int32) → (Nat → Int32) → (Nat → Int32) → Int32 → Option (Int32 × (Nat → Int32) × (Nat → Int32) × (Nat → Int32) × (Nat → Int32) × Int32 × Int32)
  | 0, _, _, _, _, _, _ => none
  | n19 + 1, x2, G_known, G_sent, G_newest, G_chosen, G_step =>
    if (99 : Int32) < x2 then (some ((-9 : Int32), G_known, G_sent, G_newest, G_chosen, G_rule, G_step)) else ((fX4_allKnowAll G_known S_nodes).bind (fun o2 => if (b2i o2) = 0 then ((fX4_advance G_known G_sent G_newest G_chosen G_rule G_step S_roundEdges S_nodes S_rounds).bind (fun o4 => (fX9_gossipTime_l19 S_roundEdges S_nodes S_rounds G_rule n19) (x2 + 1) o4.1 o4.2.1 o4.2.2.1 o4.2.2.2.1 o4.2.2.2.2)) else (some (x2, G_known, G_sent, G_newest, G_chosen, G_rule, G_step))))
def fX9_gossipTime (x1 : Int32) (S_roundEdges : Nat → Int32) (S_nodes : Int32) (S_rounds : Int32) (G_known : Nat → Int32) (G_sent : Nat → Int32) (G_newest : Nat → Int32) (G_chosen : Nat → Int32) (G_rule : Int32) (G_step : Int32) : Option (Int32 × (Nat → Int32) × (Nat → Int32) × (Nat → Int32) × (Nat → Int32) × Int32 × Int32) :=
  if (b2i (fX9_isRule x1)) = 0 then (some ((-1 : Int32), G_known, G_sent, G_newest, G_chosen, G_rule, G_step)) else ((fX4_begin x1 G_known G_sent G_newest G_rule G_step).bind (fun o6 => fX9_gossipTime_l19 S_roundEdges S_nodes S_rounds o6.2.2.2.1 fuel (0 : Int32) o6.1 o6.2.1 o6.2.2.1 G_chosen o6.2.2.2.2))
def fX9_decision (x1 : Int32) (x2 : Int32) (S_roundEdges : Nat → Int32) (S_values : Nat → Int32) (S_nodes : Int32) (S_rounds : Int32) (F_known : Nat → Int32) (F_knownBefore : Nat → Int32) (F_step : Int32) : Option (Int32 × (Nat → Int32) × (Nat → Int32) × Int32) :=
  if (b2i (fX7_hasNode x1 S_nodes)) = 0 then (some ((-1 : Int32), F_known, F_knownBefore, F_step)) else (if (b2i (fX9_isStep x2)) = 0 then (some ((-1 : Int32), F_known, F_knownBefore, F_step)) else ((fX3_begin (0 : Int32) F_known F_step).bind (fun o3 => (fX3_advanceBy x2 o3.1 F_knownBefore o3.2 S_roundEdges S_nodes S_rounds).bind (fun o4 => (fX3_tokensOf x1 o4.1 S_nodes).bind (fun o5 => (fX7_smallestValue o5 S_values S_nodes).bind (fun o6 => some (o6, o4.1, o4.2.1, o4.2.2)))))))
def fX9_allDecideTheSame_l18 (x1 : Int32) (S_values : Nat → Int32) (S_nodes : Int32) (F_known : Nat → Int32) : Nat → Int32 → Option (Bool)
  | 0, _ => none
  | n18 + 1, x2 =>
    if (fX7_nodes S_nodes) ≤ x2 then (some true) else ((fX3_tokensOf x2 F_known S_nodes).bind (fun o2 => (fX7_smallestValue o2 S_values S_nodes).bind (fun o3 => if o3 = x1 then ((fX9_allDecideTheSame_l18 x1 S_values S_nodes F_known n18) (x2 + 1)) else (some false))))
def fX9_allDecideTheSame (S_values : Nat → Int32) (S_nodes : Int32) (F_known : Nat → Int32) : Option (Bool) :=
  (fX3_tokensOf (0 : Int32) F_known S_nodes).bind (fun o5 => (fX7_smallestValue o5 S_values S_nodes).bind (fun o6 => fX9_allDecideTheSame_l18 o6 S_values S_nodes F_known fuel (1 : Int32)))
def fX9_agreement_l10 (S_roundEdges : Nat → Int32) (S_values : Nat → Int32) (S_nodes : Int32) (S_rounds : Int32) : Nat → Int32 → (Nat → Int32) → (Nat → Int32) → Int32 → Option (Int32 × (Nat → Int32) × (Nat → Int32) × Int32)
  | 0, _, _, _, _ => none
  | n10 + 1, x1, F_known, F_knownBefore, F_step =>
    if (fX7_longestFlooding S_nodes S_rounds) < x1 then (some ((-9 : Int32), F_known, F_knownBefore, F_step)) else ((fX9_allDecideTheSame S_values S_nodes F_known).bind (fun o2 => if (b2i o2) = 0 then ((fX3_advance F_known F_knownBefore F_step S_roundEdges S_nodes S_rounds).bind (fun o4 => (fX9_agreement_l10 S_roundEdges S_values S_nodes S_rounds n10) (x1 + 1) o4.1 o4.2.1 o4.2.2)) else (some (x1, F_known, F_knownBefore, F_step))))
def fX9_agreement (S_roundEdges : Nat → Int32) (S_values : Nat → Int32) (S_nodes : Int32) (S_rounds : Int32) (F_known : Nat → Int32) (F_knownBefore : Nat → Int32) (F_step : Int32) : Option (Int32 × (Nat → Int32) × (Nat → Int32) × Int32) :=
  (fX3_begin (0 : Int32) F_known F_step).bind (fun o5 => fX9_agreement_l10 S_roundEdges S_values S_nodes S_rounds fuel (0 : Int32) o5.1 F_knownBefore o5.2)
def sh_X9SFC (Ta Sa Sa_roundEdges Sa_values Fa Fa_known Fa_knownBefore Ca Ca_answers Tr_draft Tr_history Tr_text Tr_gossiping : Nat) (cI cC cS : ClassId) (S_roundEdges : Nat → Int32) (S_values : Nat → Int32) (S_nodes : Int32) (S_rounds : Int32) (F_known : Nat → Int32) (F_knownBefore : Nat → Int32) (F_step : Int32) (C_answers : Nat → Int32) (C_steps : Int32) : va_W := [(Ta, .inr (6, [.ref Sa, .ref Tr_draft, .ref Tr_history, .ref Tr_text, .ref Fa, .ref Tr_gossiping, .ref Ca])), (Sa, .inr (4, [.ref Sa_roundEdges, .ref Sa_values, .int S_nodes, .int S_rounds])), (Sa_roundEdges, .inl (cI, 16, .inl S_roundEdges)), (Sa_values, .inl (cI, 8, .inl S_values)), (Fa, .inr (1, [.ref Sa, .ref Fa_known, .ref Fa_knownBefore, .int F_step])), (Fa_known, .inl (cI, 8, .inl F_known)), (Fa_knownBefore, .inl (cI, 8, .inl F_knownBefore)), (Ca, .inr (0, [.ref Sa, .ref Fa, .ref Ca_answers, .int C_steps])), (Ca_answers, .inl (cI, 8, .inl C_answers))]
def fX9_counted (x1 : Int32) (S_roundEdges : Nat → Int32) (S_nodes : Int32) (S_rounds : Int32) (F_known : Nat → Int32) (F_knownBefore : Nat → Int32) (F_step : Int32) (C_answers : Nat → Int32) (C_steps : Int32) : Option (Int32 × (Nat → Int32) × (Nat → Int32) × Int32 × (Nat → Int32) × Int32) :=
  if (b2i (fX7_hasNode x1 S_nodes)) = 0 then (some ((-1 : Int32), F_known, F_knownBefore, F_step, C_answers, C_steps)) else ((fX1_run C_answers C_steps F_known F_knownBefore F_step S_roundEdges S_nodes S_rounds).bind (fun o2 => (fX1_answerOf x1 o2.1 S_nodes).bind (fun o3 => some (o3, o2.2.2.1, o2.2.2.2.1, o2.2.2.2.2, o2.1, o2.2.1))))
def fX9_countingSteps (S_roundEdges : Nat → Int32) (S_nodes : Int32) (S_rounds : Int32) (F_known : Nat → Int32) (F_knownBefore : Nat → Int32) (F_step : Int32) (C_answers : Nat → Int32) (C_steps : Int32) : Option (Int32 × (Nat → Int32) × (Nat → Int32) × Int32 × (Nat → Int32) × Int32) :=
  (fX1_run C_answers C_steps F_known F_knownBefore F_step S_roundEdges S_nodes S_rounds).bind (fun o1 => some ((fX1_steps o1.2.1), o1.2.2.1, o1.2.2.2.1, o1.2.2.2.2, o1.1, o1.2.1))
def fX9_wrongCounts (S_roundEdges : Nat → Int32) (S_nodes : Int32) (S_rounds : Int32) (F_known : Nat → Int32) (F_knownBefore : Nat → Int32) (F_step : Int32) (C_answers : Nat → Int32) (C_steps : Int32) : Option (Int32 × (Nat → Int32) × (Nat → Int32) × Int32 × (Nat → Int32) × Int32) :=
  (fX1_run C_answers C_steps F_known F_knownBefore F_step S_roundEdges S_nodes S_rounds).bind (fun o1 => (fX1_wrongAnswers o1.1 S_nodes).bind (fun o2 => some (o2, o1.2.2.1, o1.2.2.2.1, o1.2.2.2.2, o1.1, o1.2.1)))
