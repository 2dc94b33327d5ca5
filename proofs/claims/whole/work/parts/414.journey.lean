/-! ===== journey, diameter, center, agreement ===== -/
section JO
variable {N r : Nat} {re va : Nat → Int32} {no ro : Int32} {t : Nat → Int32}
theorem longest_eq (h : SRn N r re va no ro t) : fX7_longestFlooding no ro = nI (N * r) := by
  obtain ⟨a1, a2, a3, a4, a5, a6, a7, a8, a9⟩ := id h
  unfold fX7_longestFlooding
  rw [a4, a5, pk_mul]
theorem Nr_le (h : SRn N r re va no ro t) : N * r ≤ 128 := Nat.mul_le_mul h.2.1 h.2.2.1
theorem travels_eq (h : SRn N r re va no ro t) {f : Nat} (hf : f < 1000) (K Th Tr : Nat → Int32) : ∃ K' Th' Tr', fX10_travels (nI f) t K Th Tr = some (K', Th', Tr') ∧ ∀ a b, a < 8 → b < 8 → TP (fun k => bt (KK re r N f k b) a) 131 (Tr' (8 * a + b)) := by
  unfold fX10_travels
  rw [alone_eq, bd_s]
  have e6 : fX10_travels_l6 (nI f) t (fb_put K bit 0 8) Th fuel 0 Tr = fX10_travels_l28 (nI f) t fuel 0 (fb_put K bit 0 8) Th (fb_put Tr (fun _ => -9) 0 64) := by
    refine lput (fun n i g => fX10_travels_l6 (nI f) t (fb_put K bit 0 8) Th n (nI i) g) 64 0 (fun _ => -9) (fun g => fX10_travels_l28 (nI f) t fuel 0 (fb_put K bit 0 8) Th g) (fun n i g hi => ?_) (fun n g => ?_) fuel _ (by decide)
    · show fX10_travels_l6 (nI f) t (fb_put K bit 0 8) Th (n + 1) (nI i) g = _
      rw [fX10_travels_l6, if_neg (show ¬ (64 : Int32) ≤ nI i from nI_ge (b := 64) hi (by decide)), ck_t (inb_t hi (by decide)), nI_clamp (by omega), nI_1, Nat.zero_add]
    · show fX10_travels_l6 (nI f) t (fb_put K bit 0 8) Th (n + 1) (nI 64) g = _
      rw [fX10_travels_l6, if_pos (show (64 : Int32) ≤ nI 64 by decide)]
  rw [e6]
  let P : Nat → Nat → Bool := fun c k => bt (KK re r N f k (c % 8)) (c / 8)
  have hin : ∀ (kk : Int32 → (Nat → Int32) → (Nat → Int32) → (Nat → Int32) → Option ((Nat → Int32) × (Nat → Int32) × (Nat → Int32))) (s : Nat) (K T G : Nat → Int32), s < 131 → (∀ a, a < 8 → K a = KK re r N f s a) → (∀ c, c < 64 → TP (P c) s (G c)) → ∃ K' T' G', (∀ a, a < 8 → K' a = KK re r N f (s + 1) a) ∧ (∀ c, c < 64 → TP (P c) (s + 1) (G' c)) ∧ fX10_travels_l37 kk (nI f) (nI s) t K T fuel 0 G = kk (nI (s + 1)) K' T' G' := by
    intro kk s K T G hs hK hG
    obtain ⟨K', T', q1, q2⟩ := spreads_K h (f := f) (k := s) (by omega) T hK
    have g0 : ∀ (n c : Nat) (G : Nat → Int32), c < 64 → (∀ d, d < 64 → TP (P d) (if d < c then s + 1 else s) (G d)) → ∃ G', (∀ d, d < 64 → TP (P d) (if d < c + 1 then s + 1 else s) (G' d)) ∧ fX10_travels_l37 kk (nI f) (nI s) t K T (n + 1) (nI c) G = fX10_travels_l37 kk (nI f) (nI s) t K T n (nI (c + 1)) G' := by
      intro n c G hc hG
      have e1 : nI c - nI c / 8 * 8 = nI (c % 8) := pk_rem (d := 8) (by omega) (by decide) (by decide)
      have e2 : nI c / 8 = nI (c / 8) := pk_div (d := 8) (by omega) (by decide) (by decide)
      have hm : c % 8 < 8 := Nat.mod_lt _ (by decide)
      refine ⟨upd G c (if G c = -9 ∧ P c s = true then nI s else G c), fun d hd => ?_, ?_⟩
      · by_cases z : d = c
        · subst z
          rw [upd_same, if_pos (by omega)]
          have := hG d hd
          rw [if_neg (by omega)] at this
          exact TP_step this (by omega)
        · rw [upd_ne _ _ z]
          have := hG d hd
          by_cases w : d < c
          · rw [if_pos w] at this; rw [if_pos (by omega)]; exact this
          · rw [if_neg w] at this; rw [if_neg (by omega)]; exact this
      · have hP : bt (K (c % 8)) (c / 8) = P c s := by rw [hK _ hm]
        rw [fX10_travels_l37, if_neg (show ¬ (64 : Int32) ≤ nI c from nI_ge (b := 64) hc (by decide)), ck_t (inb_t hc (by decide)), ck_t (inb_t hc (by decide)), ck_t (inb_t hc (by decide)), e1, e2, ck_t (inb_t hm (by decide)), nI_clamp (by omega), nI_clamp (by omega), nI_1]
        by_cases z : G c = -9
        · rw [if_pos z]
          cases hp : P c s
          · rw [if_neg (fun w => by have := (sh1_1 _ (by omega)).mp w; rw [hP, hp] at this; cases this), if_neg (fun w => by cases w.2), ck_t (inb_t hc (by decide))]
          · rw [if_pos ((sh1_1 _ (by omega)).mpr (by rw [hP, hp])), if_pos ⟨z, rfl⟩]
        · rw [if_neg z, if_neg (fun w => z w.1), ck_t (inb_t hc (by decide))]
    have g1 : ∀ (n : Nat) (G : Nat → Int32), (∀ d, d < 64 → TP (P d) (if d < 64 then s + 1 else s) (G d)) → fX10_travels_l37 kk (nI f) (nI s) t K T (n + 1) (nI 64) G = kk (nI (s + 1)) K' T' G := by
      intro n G _
      rw [fX10_travels_l37, if_pos (show (64 : Int32) ≤ nI 64 by decide), nI_add, q1, bd_s, nI_1]
    obtain ⟨G', hG', q⟩ := cinv (fun n c G => fX10_travels_l37 kk (nI f) (nI s) t K T n (nI c) G) 64 (fun c G => ∀ d, d < 64 → TP (P d) (if d < c then s + 1 else s) (G d)) (fun G => kk (nI (s + 1)) K' T' G) g0 g1 fuel 0 G (Nat.zero_le _) (by decide) (fun d hd => by rw [if_neg (by omega)]; exact hG d hd)
    exact ⟨K', T', G', q2, fun c hc => by have := hG' c hc; rw [if_pos hc] at this; exact this, q⟩
  have g0 : ∀ (n i : Nat) (s : (Nat → Int32) × (Nat → Int32) × (Nat → Int32)), i < 131 → ((∀ a, a < 8 → s.1 a = KK re r N f i a) ∧ ∀ c, c < 64 → TP (P c) i (s.2.2 c)) → ∃ s' : (Nat → Int32) × (Nat → Int32) × (Nat → Int32), ((∀ a, a < 8 → s'.1 a = KK re r N f (i + 1) a) ∧ ∀ c, c < 64 → TP (P c) (i + 1) (s'.2.2 c)) ∧ fX10_travels_l28 (nI f) t (n + 1) (nI i) s.1 s.2.1 s.2.2 = fX10_travels_l28 (nI f) t n (nI (i + 1)) s'.1 s'.2.1 s'.2.2 := by
    intro n i s hi hs
    obtain ⟨K', T', G', q1, q2, q3⟩ := hin (fX10_travels_l28 (nI f) t n) i s.1 s.2.1 s.2.2 hi hs.1 hs.2
    rw [fX10_travels_l28, if_neg (show ¬ (130 : Int32) < nI i from nI_nlt (a := 130) (by omega) (by decide)), q3]
    exact ⟨(K', T', G'), ⟨q1, q2⟩, rfl⟩
  have g1 : ∀ (n : Nat) (s : (Nat → Int32) × (Nat → Int32) × (Nat → Int32)), ((∀ a, a < 8 → s.1 a = KK re r N f 131 a) ∧ ∀ c, c < 64 → TP (P c) 131 (s.2.2 c)) → fX10_travels_l28 (nI f) t (n + 1) (nI 131) s.1 s.2.1 s.2.2 = some (s.1, s.2.1, s.2.2) := by
    intro n s _
    rw [fX10_travels_l28, if_pos (show (130 : Int32) < nI 131 by decide)]
  have hinit : (∀ a, a < 8 → fb_put K bit 0 8 a = KK re r N f 0 a) ∧ ∀ c, c < 64 → TP (P c) 0 (fb_put Tr (fun _ => -9) 0 64 c) := ⟨put_bit K, fun c hc => Or.inr ⟨fun k hk => absurd hk (Nat.not_lt_zero k), by rw [fb_put_in (Nat.zero_le _) (by omega)]⟩⟩
  obtain ⟨s', hs, q⟩ := cinv (fun n i (s : (Nat → Int32) × (Nat → Int32) × (Nat → Int32)) => fX10_travels_l28 (nI f) t n (nI i) s.1 s.2.1 s.2.2) 131 (fun i s => (∀ a, a < 8 → s.1 a = KK re r N f i a) ∧ ∀ c, c < 64 → TP (P c) i (s.2.2 c)) (fun s => some (s.1, s.2.1, s.2.2)) g0 g1 fuel 0 (fb_put K bit 0 8, Th, fb_put Tr (fun _ => -9) 0 64) (Nat.zero_le _) (by decide) hinit
  refine ⟨s'.1, s'.2.1, s'.2.2, q, fun a b ha hb => ?_⟩
  have h1 := hs.2 (8 * a + b) (by omega)
  have h2 : (8 * a + b) % 8 = b := by omega
  have h3 : (8 * a + b) / 8 = a := by omega
  refine TP_cong h1 (fun k _ => ?_)
  show bt (KK re r N f k ((8 * a + b) % 8)) ((8 * a + b) / 8) = _
  rw [h2, h3]
/-- a knows b's token: still after nodes * rounds steps -/
theorem kn_still (h : SRn N r re va no ro t) {f a b : Nat} (hb : b < 8) : ∀ k, N * r ≤ k → bt (KK re r N f k b) a = bt (KK re r N f (N * r) b) a := fun k hk => by rw [KK_still h.2.1 hk hb]
theorem journey9_eq (h : SRn N r re va no ro t) {a b f : Nat} (ha : a < N) (hb : b < N) (hf : f < 1000) {K : Nat → Int32} (Kb : Nat → Int32) (hK : ∀ a, a < 8 → K a = KK re r N f 0 a) : ∃ o, fX9_journey_l42 (nI a) (nI b) re no ro fuel 0 K Kb (nI f) = some o ∧ TP (fun k => bt (KK re r N f k b) a) (N * r + 1) o.1 := by
  obtain ⟨a1, a2, a3, a4, a5, a6, a7, a8, a9⟩ := id h
  have hM := Nr_le h
  have hl := longest_eq h
  have g0 : ∀ (n i : Nat) (s : (Nat → Int32) × (Nat → Int32)), i < N * r + 1 → (∀ a, a < 8 → s.1 a = KK re r N f i a) → bt (KK re r N f i b) a = false → ∃ s' : (Nat → Int32) × (Nat → Int32), (∀ a, a < 8 → s'.1 a = KK re r N f (i + 1) a) ∧ fX9_journey_l42 (nI a) (nI b) re no ro (n + 1) (nI i) s.1 s.2 (nI (f + i)) = fX9_journey_l42 (nI a) (nI b) re no ro n (nI (i + 1)) s'.1 s'.2 (nI (f + (i + 1))) := by
    intro n i s hi hs hp
    obtain ⟨K', Th', q1, q2⟩ := advance_K h (f := f) (k := i) (by omega) s.2 hs
    rw [fX9_journey_l42, hl, if_neg (nI_nlt (by omega) (by omega)), tokensOf_eq h _ hb, bd_s, has_eq _ (by omega), if_b, hs b (by omega), hp, if_neg (by simp), q1, bd_s, nI_1]
    exact ⟨(K', Th'), q2, rfl⟩
  have g1 : ∀ (n i : Nat) (s : (Nat → Int32) × (Nat → Int32)), i < N * r + 1 → (∀ a, a < 8 → s.1 a = KK re r N f i a) → bt (KK re r N f i b) a = true → fX9_journey_l42 (nI a) (nI b) re no ro (n + 1) (nI i) s.1 s.2 (nI (f + i)) = some (nI i, s.1, s.2, nI (f + i)) := by
    intro n i s hi hs hp
    rw [fX9_journey_l42, hl, if_neg (nI_nlt (by omega) (by omega)), tokensOf_eq h _ hb, bd_s, has_eq _ (by omega), if_b, hs b (by omega), hp, if_pos rfl]
  have g2 : ∀ (n : Nat) (s : (Nat → Int32) × (Nat → Int32)), (∀ a, a < 8 → s.1 a = KK re r N f (N * r + 1) a) → fX9_journey_l42 (nI a) (nI b) re no ro (n + 1) (nI (N * r + 1)) s.1 s.2 (nI (f + (N * r + 1))) = some (-9, s.1, s.2, nI (f + (N * r + 1))) := by
    intro n s _
    rw [fX9_journey_l42, hl, if_pos (nI_lt (by omega) (by omega))]
  obtain ⟨o, q, hc⟩ := srch (fun n i (s : (Nat → Int32) × (Nat → Int32)) => fX9_journey_l42 (nI a) (nI b) re no ro n (nI i) s.1 s.2 (nI (f + i))) (N * r + 1) (fun k => bt (KK re r N f k b) a) (fun i s => ∀ a, a < 8 → s.1 a = KK re r N f i a) (fun i s => (nI i, s.1, s.2, nI (f + i))) (fun s => (-9, s.1, s.2, nI (f + (N * r + 1)))) g0 g1 g2 fuel 0 (K, Kb) (Nat.zero_le _) (by have : fuel = 200 := rfl; omega) hK (fun j hj => by omega)
  refine ⟨o, q, ?_⟩
  rcases hc with ⟨k, s', c1, c2, c3, _, rfl⟩ | ⟨c1, s', _, rfl⟩
  · exact Or.inl ⟨k, c1, c2, c3, rfl⟩
  · exact Or.inr ⟨c1, rfl⟩
theorem sim_journey (hS : SR re va no ro t) (x y z : Int32) (Fk Fb : Nat → Int32) (Fs : Int32) (Tk Tt Tr : Nat → Int32) : ∃ o9 o10, fX9_journey x y z re no ro Fk Fb Fs = some o9 ∧ fX10_journey x y z t Tk Tt Tr = some o10 ∧ o9.1 = o10.1 := by
  obtain ⟨N, r, h⟩ := id hS
  have hN := h.2.1
  unfold fX9_journey fX10_journey
  rw [hasNode_eq h, isNode_eq h, hasNode_eq h, isNode_eq h, isStep_eq, isTime_eq, if_b, if_b, if_b, if_b, if_b, if_b]
  by_cases q : ndx N x = true
  · by_cases q2 : ndx N y = true
    · by_cases q3 : ndx 100 z = true
      · rw [if_pos q, if_pos q, if_pos q2, if_pos q2, if_pos q3, if_pos q3]
        obtain ⟨a, ha, rfl⟩ := ndx_of q (by omega)
        obtain ⟨b, hb, rfl⟩ := ndx_of q2 (by omega)
        obtain ⟨f, hf, rfl⟩ := ndx_of q3 (by omega)
        obtain ⟨K', Th', Tr', p1, p2⟩ := travels_eq h (f := f) (by omega) Tk Tt Tr
        obtain ⟨o, p3, p4⟩ := journey9_eq h ha hb (f := f) (by omega) (K := fb_put Fk bit 0 8) Fb (put_bit Fk)
        have e1 : (8 : Int32) * nI a + nI b = nI (8 * a + b) := by
          have : (8 : Int32) * nI a = nI (8 * a) := pk_mul 8 a
          rw [this, nI_add]
        rw [begin_eq, bd_s, p1, bd_s]
        dsimp only
        rw [p3, e1, ck_t (inb_t (by omega) (by decide)), nI_clamp (by omega)]
        refine ⟨_, _, rfl, rfl, ?_⟩
        dsimp only
        have hM := Nr_le h
        exact TP_one (TP_ext p4 (by omega) (kn_still h (by omega))) (p2 a b (by omega) (by omega))
      · rw [if_pos q, if_pos q, if_pos q2, if_pos q2, if_neg q3, if_neg q3]; exact ⟨_, _, rfl, rfl, rfl⟩
    · rw [if_pos q, if_pos q, if_neg q2, if_neg q2]; exact ⟨_, _, rfl, rfl, rfl⟩
  · rw [if_neg q, if_neg q]; exact ⟨_, _, rfl, rfl, rfl⟩
/-- all nodes before i know a's token -/
def GA (re : Nat → Int32) (r N f i a k : Nat) : Bool := decide (∀ b, b < i → bt (KK re r N f k b) a = true)
theorem GA_mono (hN : N ≤ 8) {f i a k : Nat} (h : GA re r N f i a k = true) : GA re r N f i a (k + 1) = true := decide_eq_true (fun b hb => KK_mono hN (of_decide_eq_true h b hb))
theorem GA_succ {f i a k : Nat} : GA re r N f (i + 1) a k = (GA re r N f i a k && bt (KK re r N f k i) a) := by
  unfold GA
  refine bool_iff ?_
  rw [Bool.and_eq_true, decide_eq_true_eq, decide_eq_true_eq]
  constructor
  · intro q; exact ⟨fun b hb => q b (by omega), q i (by omega)⟩
  · rintro ⟨q1, q2⟩ b hb
    by_cases z : b = i
    · subst z; exact q2
    · exact q1 b (by omega)
theorem farthest_eq (h : SRn N r re va no ro t) {f : Nat} {Tr : Nat → Int32} (hT : ∀ a b, a < 8 → b < 8 → TP (fun k => bt (KK re r N f k b) a) 131 (Tr (8 * a + b))) {a : Nat} (ha : a < 8) : ∃ o, fX10_farthest (nI a) t Tr = some o ∧ TP (GA re r N f N a) 131 o := by
  obtain ⟨a1, a2, a3, a4, a5, a6, a7, a8, a9⟩ := id h
  unfold fX10_farthest
  have g0 : ∀ (n i : Nat) (s : Int32), i < N → TP (GA re r N f i a) 131 s → ∃ s', TP (GA re r N f (i + 1) a) 131 s' ∧ fX10_farthest_l4 (nI a) t Tr (n + 1) s (nI i) = fX10_farthest_l4 (nI a) t Tr n s' (nI (i + 1)) := by
    intro n i s hi hs
    have e1 : (8 : Int32) * nI a + nI i = nI (8 * a + i) := by
      have : (8 : Int32) * nI a = nI (8 * a) := pk_mul 8 a
      rw [this, nI_add]
    refine ⟨mx s (Tr (8 * a + i)), ?_, ?_⟩
    · have := TP_and (p := GA re r N f i a) (q := fun k => bt (KK re r N f k i) a) (fun k => GA_mono a2) (fun k => KK_mono a2) hs (hT a i ha (by omega)) (by decide)
      exact TP_cong this (fun k _ => GA_succ.symm)
    · rw [fX10_farthest_l4, a6, if_neg (nI_ge hi (by omega)), e1, ck_t (inb_t (by omega) (by decide)), nI_clamp (by omega), nI_1]
      unfold mx
      by_cases z : s = -9
      · rw [if_pos z, if_pos z]
      · rw [if_neg z, if_neg z]
        by_cases z2 : Tr (8 * a + i) = -9
        · rw [if_pos z2, if_pos z2]
        · rw [if_neg z2, if_neg z2]
          by_cases z3 : Tr (8 * a + i) ≤ s
          · rw [if_pos z3, if_pos z3]
          · rw [if_neg z3, if_neg z3]
  have g1 : ∀ (n : Nat) (s : Int32), TP (GA re r N f N a) 131 s → fX10_farthest_l4 (nI a) t Tr (n + 1) s (nI N) = some s := by
    intro n s _
    rw [fX10_farthest_l4, a6, if_pos (nI_le (Nat.le_refl N) (by omega))]
  obtain ⟨s', hs, q⟩ := cinv (fun n i s => fX10_farthest_l4 (nI a) t Tr n s (nI i)) N (fun i s => TP (GA re r N f i a) 131 s) some g0 g1 fuel 0 0 (Nat.zero_le _) (by have : fuel = 200 := rfl; omega) (Or.inl ⟨0, by decide, decide_eq_true (fun b hb => by omega), fun j hj => by omega, rfl⟩)
  exact ⟨s', q, hs⟩
/-- the tokens that all know -/
def tall (K : Nat → Int32) (N : Nat) : Int32 := itr (fun a R => R &&& K a) 0 N (fX6_firstOnes (nI N))
theorem ones_bits : ∀ N, N < 9 → ∀ u, u < 32 → bt (fX6_firstOnes (nI N)) u = decide (u < N) := by decide +kernel
theorem tall_bits (hN : N ≤ 8) (K : Nat → Int32) {u : Nat} (hu : u < 32) : bt (tall K N) u = true ↔ u < N ∧ ∀ a, a < N → bt (K a) u = true := by
  unfold tall
  have := itr_inv (fun a R => R &&& K a) (fun i R => bt R u = true ↔ u < N ∧ ∀ a, a < i → bt (K a) u = true) N (fun i R hi hI => ?_) N 0 (fX6_firstOnes (nI N)) (by omega) ?_
  · rw [Nat.zero_add] at this
    exact this
  · show bt (R &&& K i) u = true ↔ _
    rw [b_and, Bool.and_eq_true, hI]
    constructor
    · rintro ⟨⟨q1, q2⟩, q3⟩
      refine ⟨q1, fun a ha => ?_⟩
      by_cases z : a = i
      · subst z; exact q3
      · exact q2 a (by omega)
    · rintro ⟨q1, q2⟩
      exact ⟨⟨q1, fun a ha => q2 a (by omega)⟩, q2 i (by omega)⟩
  · rw [ones_bits N (by omega) u hu, decide_eq_true_eq]
    constructor
    · intro q; exact ⟨q, fun a ha => by omega⟩
    · exact fun q => q.1
theorem tokensOfAll_eq (h : SRn N r re va no ro t) (K : Nat → Int32) : fX3_tokensOfAll K no = some (tall K N) := by
  obtain ⟨a1, a2, a3, a4, a5, a6, a7, a8, a9⟩ := id h
  unfold fX3_tokensOfAll tall
  have e : fX7_nodes no = nI N := a4
  rw [e]
  have := cdet (fun n i m => fX3_tokensOfAll_l13 K no n m (nI i)) N (fun i m => m &&& K i) some (fun n i m hi => ?_) (fun n m => ?_) fuel 0 (fX6_firstOnes (nI N)) (Nat.zero_le _) (by have : fuel = 200 := rfl; omega)
  · exact this
  · show fX3_tokensOfAll_l13 K no (n + 1) m (nI i) = _
    rw [fX3_tokensOfAll_l13, e, if_neg (nI_ge hi (by omega)), ck_t (inb_t (by omega) (by decide)), nI_clamp (by omega), nI_1]
  · show fX3_tokensOfAll_l13 K no (n + 1) m (nI N) = _
    rw [fX3_tokensOfAll_l13, e, if_pos (nI_le (Nat.le_refl N) (by omega))]
/-- all nodes know the tokens before i -/
def GB (re : Nat → Int32) (r N f i k : Nat) : Bool := decide (∀ a, a < i → GA re r N f N a k = true)
theorem GB_mono (hN : N ≤ 8) {f i k : Nat} (h : GB re r N f i k = true) : GB re r N f i (k + 1) = true := decide_eq_true (fun b hb => GA_mono hN (of_decide_eq_true h b hb))
theorem GB_succ {f i k : Nat} : GB re r N f (i + 1) k = (GB re r N f i k && GA re r N f N i k) := by
  unfold GB
  refine bool_iff ?_
  rw [Bool.and_eq_true, decide_eq_true_eq, decide_eq_true_eq]
  constructor
  · intro q; exact ⟨fun b hb => q b (by omega), q i (by omega)⟩
  · rintro ⟨q1, q2⟩ b hb
    by_cases z : b = i
    · subst z; exact q2
    · exact q1 b (by omega)
theorem tall_GA (hN : N ≤ 8) {K : Nat → Int32} {f k : Nat} (hK : ∀ a, a < 8 → K a = KK re r N f k a) {u : Nat} (hu : u < N) : bt (tall K N) u = GA re r N f N u k := by
  refine bool_iff ?_
  rw [tall_bits hN K (by omega)]
  unfold GA
  rw [decide_eq_true_eq]
  constructor
  · rintro ⟨_, q⟩ b hb
    rw [← hK b (by omega)]; exact q b hb
  · intro q
    exact ⟨hu, fun b hb => by rw [hK b (by omega)]; exact q b hb⟩
theorem tall_out (hN : N ≤ 8) (K : Nat → Int32) {u : Nat} (hu : N ≤ u) : bt (tall K N) u = false := by
  rcases Nat.lt_or_ge u 32 with q | q
  · refine ts_nt' (fun z => ?_)
    have := ((tall_bits hN K q).mp z).1
    omega
  · exact b_big q
theorem tall_full (hN : N ≤ 8) {K : Nat → Int32} {f k : Nat} (hK : ∀ a, a < 8 → K a = KK re r N f k a) : (tall K N = fX6_firstOnes (nI N)) ↔ GB re r N f N k = true := by
  unfold GB
  rw [decide_eq_true_eq]
  constructor
  · intro q a ha
    rw [← tall_GA hN hK ha, q, ones_bits N (by omega) a (by omega), decide_eq_true_eq]
    exact ha
  · intro q
    refine b_ext fun u hu => ?_
    rw [ones_bits N (by omega) u hu]
    by_cases z : u < N
    · rw [tall_GA hN hK z, q u z, decide_eq_true z]
    · rw [tall_out hN K (by omega), decide_eq_false z]
theorem GB_still (h : SRn N r re va no ro t) {f : Nat} : ∀ k, N * r ≤ k → GB re r N f N k = GB re r N f N (N * r) := fun k hk => by
  have hN := h.2.1
  unfold GB GA
  refine bool_iff ?_
  rw [decide_eq_true_eq, decide_eq_true_eq]
  constructor
  · intro q a ha
    have := of_decide_eq_true (q a ha)
    exact decide_eq_true (fun b hb => by rw [← kn_still h (by omega) k hk]; exact this b hb)
  · intro q a ha
    have := of_decide_eq_true (q a ha)
    exact decide_eq_true (fun b hb => by rw [kn_still h (by omega) k hk]; exact this b hb)
theorem diameter9_eq (h : SRn N r re va no ro t) {f : Nat} (hf : f < 1000) {K : Nat → Int32} (Kb : Nat → Int32) (hK : ∀ a, a < 8 → K a = KK re r N f 0 a) : ∃ o, fX9_diameter_l19 re no ro fuel 0 K Kb (nI f) = some o ∧ TP (GB re r N f N) (N * r + 1) o.1 := by
  obtain ⟨a1, a2, a3, a4, a5, a6, a7, a8, a9⟩ := id h
  have hM := Nr_le h
  have hl := longest_eq h
  have e : fX7_nodes no = nI N := a4
  have g0 : ∀ (n i : Nat) (s : (Nat → Int32) × (Nat → Int32)), i < N * r + 1 → (∀ a, a < 8 → s.1 a = KK re r N f i a) → GB re r N f N i = false → ∃ s' : (Nat → Int32) × (Nat → Int32), (∀ a, a < 8 → s'.1 a = KK re r N f (i + 1) a) ∧ fX9_diameter_l19 re no ro (n + 1) (nI i) s.1 s.2 (nI (f + i)) = fX9_diameter_l19 re no ro n (nI (i + 1)) s'.1 s'.2 (nI (f + (i + 1))) := by
    intro n i s hi hs hp
    obtain ⟨K', Th', q1, q2⟩ := advance_K h (f := f) (k := i) (by omega) s.2 hs
    rw [fX9_diameter_l19, hl, if_neg (nI_nlt (by omega) (by omega)), tokensOfAll_eq h, bd_s, e, if_neg (fun w => by have := (tall_full a2 hs).mp w; rw [hp] at this; cases this), q1, bd_s, nI_1]
    exact ⟨(K', Th'), q2, rfl⟩
  have g1 : ∀ (n i : Nat) (s : (Nat → Int32) × (Nat → Int32)), i < N * r + 1 → (∀ a, a < 8 → s.1 a = KK re r N f i a) → GB re r N f N i = true → fX9_diameter_l19 re no ro (n + 1) (nI i) s.1 s.2 (nI (f + i)) = some (nI i, s.1, s.2, nI (f + i)) := by
    intro n i s hi hs hp
    rw [fX9_diameter_l19, hl, if_neg (nI_nlt (by omega) (by omega)), tokensOfAll_eq h, bd_s, e, if_pos ((tall_full a2 hs).mpr hp)]
  have g2 : ∀ (n : Nat) (s : (Nat → Int32) × (Nat → Int32)), (∀ a, a < 8 → s.1 a = KK re r N f (N * r + 1) a) → fX9_diameter_l19 re no ro (n + 1) (nI (N * r + 1)) s.1 s.2 (nI (f + (N * r + 1))) = some (-9, s.1, s.2, nI (f + (N * r + 1))) := by
    intro n s _
    rw [fX9_diameter_l19, hl, if_pos (nI_lt (by omega) (by omega))]
  obtain ⟨o, q, hc⟩ := srch (fun n i (s : (Nat → Int32) × (Nat → Int32)) => fX9_diameter_l19 re no ro n (nI i) s.1 s.2 (nI (f + i))) (N * r + 1) (GB re r N f N) (fun i s => ∀ a, a < 8 → s.1 a = KK re r N f i a) (fun i s => (nI i, s.1, s.2, nI (f + i))) (fun s => (-9, s.1, s.2, nI (f + (N * r + 1)))) g0 g1 g2 fuel 0 (K, Kb) (Nat.zero_le _) (by have : fuel = 200 := rfl; omega) hK (fun j hj => by omega)
  refine ⟨o, q, ?_⟩
  rcases hc with ⟨k, s', c1, c2, c3, _, rfl⟩ | ⟨c1, s', _, rfl⟩
  · exact Or.inl ⟨k, c1, c2, c3, rfl⟩
  · exact Or.inr ⟨c1, rfl⟩
theorem diameter10_eq (h : SRn N r re va no ro t) {f : Nat} {Tr : Nat → Int32} (hT : ∀ a b, a < 8 → b < 8 → TP (fun k => bt (KK re r N f k b) a) 131 (Tr (8 * a + b))) (K Th : Nat → Int32) : ∃ o, fX10_diameter_l18 t K Th Tr fuel 0 0 = some o ∧ TP (GB re r N f N) 131 o.1 := by
  obtain ⟨a1, a2, a3, a4, a5, a6, a7, a8, a9⟩ := id h
  have g0 : ∀ (n i : Nat) (s : Int32), i < N → TP (GB re r N f i) 131 s → ∃ s', TP (GB re r N f (i + 1)) 131 s' ∧ fX10_diameter_l18 t K Th Tr (n + 1) s (nI i) = fX10_diameter_l18 t K Th Tr n s' (nI (i + 1)) := by
    intro n i s hi hs
    obtain ⟨o, p1, p2⟩ := farthest_eq h hT (a := i) (by omega)
    refine ⟨mx s o, ?_, ?_⟩
    · have := TP_and (p := GB re r N f i) (q := GA re r N f N i) (fun k => GB_mono a2) (fun k => GA_mono a2) hs p2 (by decide)
      exact TP_cong this (fun k _ => GB_succ.symm)
    · rw [fX10_diameter_l18, a6, if_neg (nI_ge hi (by omega)), p1, bd_s, nI_1]
      unfold mx
      by_cases z : s = -9
      · rw [if_pos z, if_pos z]
      · rw [if_neg z, if_neg z]
        by_cases z2 : o = -9
        · rw [if_pos z2, if_pos z2]
        · rw [if_neg z2, if_neg z2]
          by_cases z3 : o ≤ s
          · rw [if_pos z3, if_pos z3]
          · rw [if_neg z3, if_neg z3]
  have g1 : ∀ (n : Nat) (s : Int32), TP (GB re r N f N) 131 s → fX10_diameter_l18 t K Th Tr (n + 1) s (nI N) = some (s, K, Th, Tr) := by
    intro n s _
    rw [fX10_diameter_l18, a6, if_pos (nI_le (Nat.le_refl N) (by omega))]
  obtain ⟨s', hs, q⟩ := cinv (fun n i s => fX10_diameter_l18 t K Th Tr n s (nI i)) N (fun i s => TP (GB re r N f i) 131 s) (fun s => some (s, K, Th, Tr)) g0 g1 fuel 0 0 (Nat.zero_le _) (by have : fuel = 200 := rfl; omega) (Or.inl ⟨0, by decide, decide_eq_true (fun b hb => by omega), fun j hj => by omega, rfl⟩)
  exact ⟨_, q, hs⟩
theorem sim_diameter (hS : SR re va no ro t) (z : Int32) (Fk Fb : Nat → Int32) (Fs : Int32) (Tk Tt Tr : Nat → Int32) : ∃ o9 o10, fX9_diameter z re no ro Fk Fb Fs = some o9 ∧ fX10_diameter z t Tk Tt Tr = some o10 ∧ o9.1 = o10.1 := by
  obtain ⟨N, r, h⟩ := id hS
  have hN := h.2.1
  have hM := Nr_le h
  unfold fX9_diameter fX10_diameter
  rw [isStep_eq, isTime_eq, if_b, if_b]
  by_cases q3 : ndx 100 z = true
  · rw [if_pos q3, if_pos q3]
    obtain ⟨f, hf, rfl⟩ := ndx_of q3 (by omega)
    obtain ⟨K', Th', Tr', p1, p2⟩ := travels_eq h (f := f) (by omega) Tk Tt Tr
    obtain ⟨o, p3, p4⟩ := diameter9_eq h (f := f) (by omega) (K := fb_put Fk bit 0 8) Fb (put_bit Fk)
    obtain ⟨o2, p5, p6⟩ := diameter10_eq h p2 K' Th'
    rw [begin_eq, bd_s, p1, bd_s]
    dsimp only
    rw [p3, p5]
    exact ⟨_, _, rfl, rfl, TP_one (TP_ext p4 (by omega) (GB_still h)) p6⟩
  · rw [if_neg q3, if_neg q3]; exact ⟨_, _, rfl, rfl, rfl⟩
end JO
