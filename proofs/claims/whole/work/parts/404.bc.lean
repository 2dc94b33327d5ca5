theorem bcN_def (v : Nat) : bcN v = (let a := v - (v / 2 &&& 1431655765); let b := (a &&& 858993459) + (a / 4 &&& 858993459); let c := (b + b / 16) &&& 252645135; let d := c + c / 256; (d + d / 65536) &&& 63) := rfl
theorem bc_iA {v : Nat} (hv : v < 2 ^ 32) : nI v - (((nI v).toUInt32 >>> ((1 : Int32).toUInt32 &&& Int32.toUInt32 31)).toInt32 &&& (1431655765 : Int32)) = nI (v - (v / 2 &&& 1431655765)) := by
  have la : (v / 2 &&& 1431655765) ≤ v := Nat.le_trans Nat.and_le_left (by omega)
  rw [pk_ushrN hv (1 : Int32) 1 (by decide), Nat.pow_one, show (1431655765 : Int32) = nI 1431655765 from rfl, fa_and, pk_sub la]
theorem bc_iB {a : Nat} (ha : a < 2 ^ 32) : (nI a &&& (858993459 : Int32)) + (((nI a).toUInt32 >>> ((2 : Int32).toUInt32 &&& Int32.toUInt32 31)).toInt32 &&& (858993459 : Int32)) = nI ((a &&& 858993459) + (a / 4 &&& 858993459)) := by
  rw [pk_ushrN ha (2 : Int32) 2 (by decide), show (858993459 : Int32) = nI 858993459 from rfl, fa_and, fa_and, nI_add]
theorem bc_iC {b : Nat} (hb : b < 2 ^ 32) : (nI b + ((nI b).toUInt32 >>> ((4 : Int32).toUInt32 &&& Int32.toUInt32 31)).toInt32) &&& (252645135 : Int32) = nI ((b + b / 16) &&& 252645135) := by
  rw [pk_ushrN hb (4 : Int32) 4 (by decide), show (252645135 : Int32) = nI 252645135 from rfl, nI_add, fa_and]
theorem bc_iD {c : Nat} (hc : c < 2 ^ 32) : nI c + ((nI c).toUInt32 >>> ((8 : Int32).toUInt32 &&& Int32.toUInt32 31)).toInt32 = nI (c + c / 256) := by
  rw [pk_ushrN hc (8 : Int32) 8 (by decide), nI_add]
theorem bc_iE {d : Nat} (hd : d < 2 ^ 32) : (nI d + ((nI d).toUInt32 >>> ((16 : Int32).toUInt32 &&& Int32.toUInt32 31)).toInt32) &&& (63 : Int32) = nI ((d + d / 65536) &&& 63) := by
  rw [pk_ushrN hd (16 : Int32) 16 (by decide), show (63 : Int32) = nI 63 from rfl, nI_add, fa_and]
theorem bitCount_eq (x : Int32) : fJ6_bitCount_0f7a4 x = nI (fb_ct (bt x) 32) := by
  obtain ⟨v, hv, rfl⟩ := nI_all x
  rw [fb_ct_cong (fun k hk => bt_nI (v := v) hk), ← bcN_eq hv, bcN_def]
  unfold fJ6_bitCount_0f7a4 nm
  dsimp only
  rw [bc_iA hv]
  have ha : v - (v / 2 &&& 1431655765) < 2 ^ 32 := by omega
  generalize v - (v / 2 &&& 1431655765) = a at ha ⊢
  rw [bc_iB ha]
  have lb1 : (a &&& 858993459) ≤ 858993459 := Nat.and_le_right
  have lb2 : (a / 4 &&& 858993459) ≤ 858993459 := Nat.and_le_right
  have hb : (a &&& 858993459) + (a / 4 &&& 858993459) < 2 ^ 32 := by omega
  generalize (a &&& 858993459) + (a / 4 &&& 858993459) = b at hb ⊢
  rw [bc_iC hb]
  have lc : ((b + b / 16) &&& 252645135) ≤ 252645135 := Nat.and_le_right
  generalize ((b + b / 16) &&& 252645135) = c at lc ⊢
  rw [bc_iD (by omega), bc_iE (by omega)]
theorem ct_28 {e : Int32} (h : E28 e) : fb_ct (bt e) 32 = fb_ct (bt e) 28 := by
  rw [show (32 : Nat) = 28 + 4 from rfl, fb_ct_split, (fb_ct_zero (n := 4)).mpr (fun k hk => h (28 + k) (by omega)), Nat.add_zero]
/-- both count the edges alike -/
theorem count_eq {e : Int32} (h : E28 e) : fX10_size e = some (fJ6_bitCount_0f7a4 e) := by rw [size_eq, bitCount_eq, ct_28 h]
