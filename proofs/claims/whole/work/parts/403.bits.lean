/-! ===== pairs of nodes as bits; how many bits ===== -/
def pix (a b : Nat) : Nat := if b ≤ a then a * (a - 1) / 2 + b else b * (b - 1) / 2 + a
theorem bt_pair : ∀ a, a < 8 → ∀ b, b < 8 → ∀ i, i < 32 → bt (fX10_pair (nI a) (nI b)) i = decide (i = pix a b) := by decide +kernel
theorem pix_lt : ∀ a, a < 8 → ∀ b, b < 8 → a ≠ b → pix a b < 28 := by decide +kernel
theorem pix_le : ∀ a, a < 8 → ∀ b, b < 8 → pix a b < 32 := by decide +kernel
theorem pix_comm : ∀ a, a < 8 → ∀ b, b < 8 → a ≠ b → pix a b = pix b a := by decide +kernel
theorem between_eq (x y : Int32) : fX2_between x y = fX10_pair x y := rfl
theorem and_one {e m : Int32} {p : Nat} (hp : p < 32) (hm : ∀ i, i < 32 → bt m i = decide (i = p)) : (e &&& m = 0) ↔ bt e p = false := by
  constructor
  · intro h
    have h1 : bt (e &&& m) p = bt 0 p := by rw [h]
    rw [b_and, hm p hp, b_0, decide_eq_true rfl, Bool.and_true] at h1
    exact h1
  · intro h
    refine b_ext fun i hi => ?_
    rw [b_and, hm i hi, b_0]
    by_cases q : i = p
    · subst q; rw [h]; rfl
    · rw [decide_eq_false q, Bool.and_false]
theorem or_one {e m : Int32} {p : Nat} (hp : p < 32) (hm : ∀ i, i < 32 → bt m i = decide (i = p)) : (e ||| m = e) ↔ bt e p = true := by
  constructor
  · intro h
    have h1 : bt (e ||| m) p = bt e p := by rw [h]
    rw [b_or, hm p hp, decide_eq_true rfl, Bool.or_true] at h1
    exact h1.symm
  · intro h
    refine b_ext fun i hi => ?_
    rw [b_or, hm i hi]
    by_cases q : i = p
    · subst q; rw [h]; rfl
    · rw [decide_eq_false q, Bool.or_false]
theorem andn_one {e m : Int32} {p : Nat} (hp : p < 32) (hm : ∀ i, i < 32 → bt m i = decide (i = p)) : (e &&& (m ^^^ (-1 : Int32)) = e) ↔ bt e p = false := by
  constructor
  · intro h
    have h1 : bt (e &&& (m ^^^ (-1 : Int32))) p = bt e p := by rw [h]
    rw [b_and, b_xor, hm p hp, b_m1 p hp, decide_eq_true rfl] at h1
    simpa using h1.symm
  · intro h
    refine b_ext fun i hi => ?_
    rw [b_and, b_xor, hm i hi, b_m1 i hi]
    by_cases q : i = p
    · subst q; rw [h]; rfl
    · rw [decide_eq_false q]; simp
theorem xor_on {e m : Int32} {p : Nat} (hm : ∀ i, i < 32 → bt m i = decide (i = p)) (h : bt e p = false) : e ^^^ m = e ||| m := by
  refine b_ext fun i hi => ?_
  rw [b_xor, b_or, hm i hi]
  by_cases q : i = p
  · subst q; rw [h]; simp
  · rw [decide_eq_false q]; simp
theorem xor_off {e m : Int32} {p : Nat} (hm : ∀ i, i < 32 → bt m i = decide (i = p)) (h : bt e p = true) : e ^^^ m = e &&& (m ^^^ (-1 : Int32)) := by
  refine b_ext fun i hi => ?_
  rw [b_xor, b_and, b_xor, hm i hi, b_m1 i hi]
  by_cases q : i = p
  · subst q; rw [h]; simp
  · rw [decide_eq_false q]; simp
theorem bt_one (k : Nat) : bt 1 k = decide (k = 0) := by
  rcases Nat.lt_or_ge k 32 with h | h
  · exact (by decide +kernel : ∀ k, k < 32 → bt 1 k = decide (k = 0)) k h
  · rw [b_big h, decide_eq_false (by omega)]
/-- one bit, read by a shift -/
theorem sh1 (x : Int32) {i : Nat} (hi : i < 32) : ((x >>> (nI i &&& 31)) &&& (1 : Int32)) = if bt x i = true then 1 else 0 := by
  refine b_ext fun k hk => ?_
  rw [b_and, b_sshr i hi x hk, bt_one]
  by_cases q : k = 0
  · subst q
    rw [Nat.add_zero, if_pos hi, decide_eq_true rfl, Bool.and_true]
    cases bt x i <;> simp [b_0, bt_one]
  · rw [decide_eq_false q, Bool.and_false]
    cases bt x i <;> simp [b_0, bt_one, q]
theorem sh1_0 (x : Int32) {i : Nat} (hi : i < 32) : ((x >>> (nI i &&& 31)) &&& (1 : Int32)) = 0 ↔ bt x i = false := by
  rw [sh1 x hi]
  cases bt x i <;> simp
theorem size_eq (x : Int32) : fX10_size x = some (nI (fb_ct (bt x) 28)) := by
  unfold fX10_size
  have h0 : ∀ (n i : Nat) (s : Int32), i < 28 → s = nI (fb_ct (bt x) i) → ∃ s', s' = nI (fb_ct (bt x) (i + 1)) ∧ fX10_size_l4 x (n + 1) s (nI i) = fX10_size_l4 x n s' (nI (i + 1)) := by
    intro n i s hi hs
    refine ⟨_, rfl, ?_⟩
    rw [fX10_size_l4, if_neg (show ¬ (28 : Int32) ≤ nI i from nI_ge (b := 28) hi (by decide)), sh1 x (by omega), nI_1, hs, fb_ct_succ]
    congr 1
    cases bt x i
    · simp
    · simp; exact nI_1 _
  have h1 : ∀ (n : Nat) (s : Int32), s = nI (fb_ct (bt x) 28) → fX10_size_l4 x (n + 1) s (nI 28) = some s := by
    intro n s _
    rw [fX10_size_l4, if_pos (show (28 : Int32) ≤ nI 28 by decide)]
  obtain ⟨s', hs, e⟩ := cinv (fun n i s => fX10_size_l4 x n s (nI i)) 28 (fun i s => s = nI (fb_ct (bt x) i)) some h0 h1 fuel 0 0 (Nat.zero_le _) (by decide) rfl
  show fX10_size_l4 x fuel 0 (nI 0) = _
  rw [e, hs]
/-! ===== bitCount ===== -/
theorem and_split (a c m d : Nat) (hc : c < 256) (hd : d < 256) : (256 * a + c) &&& (256 * m + d) = 256 * (a &&& m) + (c &&& d) := by
  have hcd : c &&& d < 2 ^ 8 := Nat.lt_of_le_of_lt Nat.and_le_left hc
  apply Nat.eq_of_testBit_eq
  intro i
  rw [Nat.testBit_and, show (256 : Nat) = 2 ^ 8 from rfl, Nat.testBit_two_pow_mul_add a (show c < 2 ^ 8 from hc), Nat.testBit_two_pow_mul_add m (show d < 2 ^ 8 from hd), Nat.testBit_two_pow_mul_add _ hcd]
  by_cases h : i < 8
  · simp [h]
  · simp [h]
theorem bc_a : ∀ b, b < 256 → ∀ q, q < 2 → (b / 2 + 128 * q) &&& 85 = b / 2 &&& 85 := by decide +kernel
theorem bc_b : ∀ b, b < 256 → ∀ q, q < 4 → (b / 4 + 64 * q) &&& 51 = b / 4 &&& 51 := by decide +kernel
theorem bc_c : ∀ b, b < 69 → ∀ q, q < 5 → (b + b / 16 + 16 * q) &&& 15 = (b + b / 16) % 16 := by decide +kernel
def bcA (b : Nat) : Nat := b - (b / 2 &&& 85)
def bcB (a : Nat) : Nat := (a &&& 51) + (a / 4 &&& 51)
theorem bc_8 : ∀ b, b < 256 → bcB (bcA b) < 69 ∧ bcB (bcA b) % 16 ≤ 4 ∧ (bcB (bcA b) + bcB (bcA b) / 16) % 16 = fb_ct (Nat.testBit b) 8 := by decide +kernel
theorem bc_sA (w c m : Nat) (hc : c < 256) : (256 * w + c) - ((256 * w + c) / 2 &&& (256 * m + 85)) = 256 * (w - (w / 2 &&& m)) + bcA c := by
  have e : (256 * w + c) / 2 = 256 * (w / 2) + (c / 2 + 128 * (w % 2)) := by omega
  rw [e, and_split _ _ _ _ (by omega) (by omega), bc_a c hc _ (by omega)]
  have l1 : (w / 2 &&& m) ≤ w := Nat.le_trans Nat.and_le_left (by omega)
  have l2 : (c / 2 &&& 85) ≤ c := Nat.le_trans Nat.and_le_left (by omega)
  unfold bcA
  omega
theorem bc_sB (w c m : Nat) (hc : c < 256) : ((256 * w + c) &&& (256 * m + 51)) + ((256 * w + c) / 4 &&& (256 * m + 51)) = 256 * ((w &&& m) + (w / 4 &&& m)) + bcB c := by
  have e : (256 * w + c) / 4 = 256 * (w / 4) + (c / 4 + 64 * (w % 4)) := by omega
  rw [e, and_split _ _ _ _ (by omega) (by omega), and_split _ _ _ _ (by omega) (by omega), bc_b c hc _ (by omega)]
  unfold bcB
  omega
theorem bc_sC (w c m : Nat) (hc : c < 69) (hw : w % 16 < 5) : ((256 * w + c) + (256 * w + c) / 16) &&& (256 * m + 15) = 256 * ((w + w / 16) &&& m) + (c + c / 16) % 16 := by
  have e : (256 * w + c) + (256 * w + c) / 16 = 256 * (w + w / 16) + (c + c / 16 + 16 * (w % 16)) := by omega
  rw [e, and_split _ _ _ _ (by omega) (by omega), bc_c c hc _ hw]
theorem bcA_lt {c : Nat} (h : c < 256) : bcA c < 256 := by unfold bcA; omega
def bcN (v : Nat) : Nat :=
  let a := v - (v / 2 &&& 1431655765)
  let b := (a &&& 858993459) + (a / 4 &&& 858993459)
  let c := (b + b / 16) &&& 252645135
  let d := c + c / 256
  (d + d / 65536) &&& 63
theorem bc_end (s0 s1 s2 s3 : Nat) (h0 : s0 ≤ 8) (h1 : s1 ≤ 8) (h2 : s2 ≤ 8) (h3 : s3 ≤ 8) (c : Nat) (hc : c = 256 * (256 * (256 * s3 + s2) + s1) + s0) : (c + c / 256 + (c + c / 256) / 65536) &&& 63 = s0 + s1 + s2 + s3 := by
  rw [show (63 : Nat) = 2 ^ 6 - 1 from rfl, Nat.and_two_pow_sub_one_eq_mod]
  have e1 : c / 256 = 256 * (256 * s3 + s2) + s1 := by omega
  have e2 : (c + c / 256) / 65536 = 256 * s3 + (s2 + s3) := by rw [e1]; omega
  rw [e2, e1]
  omega
theorem bcN_bytes (b0 b1 b2 b3 : Nat) (h0 : b0 < 256) (h1 : b1 < 256) (h2 : b2 < 256) (h3 : b3 < 256) : bcN (256 * (256 * (256 * b3 + b2) + b1) + b0) = fb_ct (Nat.testBit b0) 8 + fb_ct (Nat.testBit b1) 8 + fb_ct (Nat.testBit b2) 8 + fb_ct (Nat.testBit b3) 8 := by
  obtain ⟨p0, q0, r0⟩ := bc_8 b0 h0
  obtain ⟨p1, q1, r1⟩ := bc_8 b1 h1
  obtain ⟨p2, q2, r2⟩ := bc_8 b2 h2
  obtain ⟨p3, q3, r3⟩ := bc_8 b3 h3
  have ea : (256 * (256 * (256 * b3 + b2) + b1) + b0) - ((256 * (256 * (256 * b3 + b2) + b1) + b0) / 2 &&& 1431655765) = 256 * (256 * (256 * bcA b3 + bcA b2) + bcA b1) + bcA b0 := by
    rw [show (1431655765 : Nat) = 256 * (256 * (256 * 85 + 85) + 85) + 85 from rfl, bc_sA _ _ _ h0, bc_sA _ _ _ h1, bc_sA _ _ _ h2]
    rfl
  have eb : ((256 * (256 * (256 * bcA b3 + bcA b2) + bcA b1) + bcA b0) &&& 858993459) + ((256 * (256 * (256 * bcA b3 + bcA b2) + bcA b1) + bcA b0) / 4 &&& 858993459) = 256 * (256 * (256 * bcB (bcA b3) + bcB (bcA b2)) + bcB (bcA b1)) + bcB (bcA b0) := by
    rw [show (858993459 : Nat) = 256 * (256 * (256 * 51 + 51) + 51) + 51 from rfl, bc_sB _ _ _ (bcA_lt h0), bc_sB _ _ _ (bcA_lt h1), bc_sB _ _ _ (bcA_lt h2)]
    rfl
  have ec : ((256 * (256 * (256 * bcB (bcA b3) + bcB (bcA b2)) + bcB (bcA b1)) + bcB (bcA b0)) + (256 * (256 * (256 * bcB (bcA b3) + bcB (bcA b2)) + bcB (bcA b1)) + bcB (bcA b0)) / 16) &&& 252645135 = 256 * (256 * (256 * fb_ct (Nat.testBit b3) 8 + fb_ct (Nat.testBit b2) 8) + fb_ct (Nat.testBit b1) 8) + fb_ct (Nat.testBit b0) 8 := by
    rw [show (252645135 : Nat) = 256 * (256 * (256 * 15 + 15) + 15) + 15 from rfl, bc_sC _ _ _ p0 (by omega), bc_sC _ _ _ p1 (by omega), bc_sC _ _ _ p2 (by omega), r0, r1, r2]
    have e3 : (bcB (bcA b3) + bcB (bcA b3) / 16) &&& 15 = fb_ct (Nat.testBit b3) 8 := by
      rw [← r3]
      exact bc_c _ p3 0 (by omega)
    rw [e3]
  unfold bcN
  dsimp only
  rw [ea, eb, ec, bc_end _ _ _ _ (fb_ct_le _ 8) (fb_ct_le _ 8) (fb_ct_le _ 8) (fb_ct_le _ 8) _ rfl]
theorem ct_byte (v : Nat) (m : Nat) : fb_ct (Nat.testBit v) (8 + m) = fb_ct (Nat.testBit (v % 256)) 8 + fb_ct (Nat.testBit (v / 256)) m := by
  rw [fb_ct_split]
  congr 1
  · refine fb_ct_cong fun k hk => ?_
    rw [show (256 : Nat) = 2 ^ 8 from rfl, Nat.testBit_mod_two_pow, decide_eq_true hk, Bool.true_and]
  · refine fb_ct_cong fun k hk => ?_
    rw [show (256 : Nat) = 2 ^ 8 from rfl, Nat.testBit_div_two_pow, Nat.add_comm]
theorem bcN_eq {v : Nat} (hv : v < 2 ^ 32) : bcN v = fb_ct (Nat.testBit v) 32 := by
  have e : v = 256 * (256 * (256 * (v / 256 / 256 / 256) + v / 256 / 256 % 256) + v / 256 % 256) + v % 256 := by omega
  have h := bcN_bytes (v % 256) (v / 256 % 256) (v / 256 / 256 % 256) (v / 256 / 256 / 256) (by omega) (by omega) (by omega) (by omega)
  rw [← e] at h
  rw [h, ct_byte v 24, ct_byte (v / 256) 16, ct_byte (v / 256 / 256) 8]
  omega
theorem bt_nI {v k : Nat} (hk : k < 32) : bt (nI v) k = Nat.testBit v k := by
  show (BitVec.ofNat 32 v).getLsbD k = _
  rw [BitVec.getLsbD_ofNat, decide_eq_true hk, Bool.true_and]
theorem nI_all (x : Int32) : ∃ v, v < 2 ^ 32 ∧ x = nI v := ⟨x.toBitVec.toNat, x.toBitVec.isLt, Int32.toBitVec_inj.mp (show x.toBitVec = BitVec.ofNat 32 x.toBitVec.toNat from (BitVec.ofNat_toNat 32 x.toBitVec ▸ (by simp)))⟩
