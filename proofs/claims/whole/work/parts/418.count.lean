/-! ===== counting by doubled guesses ===== -/
section CO
variable {N r : Nat} {re va : Nat → Int32} {no ro : Int32} {t : Nat → Int32}
theorem KK_E28 (hN : N ≤ 8) {f k a : Nat} (ha : a < 8) : E28 (KK re r N f k a) := fun u hu => by
  rcases Nat.lt_or_ge u 32 with q | q
  · refine ts_nt' (fun z => ?_)
    rcases KK_dom hN k a u ha q z with w | w
    · omega
    · omega
  · exact b_big q
theorem bc_nat (x : Int32) : ∃ v, v < 1000 ∧ fJ6_bitCount_0f7a4 x = nI v := ⟨fb_ct (bt x) 32, by have := fb_ct_le (bt x) 32; omega, bitCount_eq x⟩
/-- the nodes that raise an alarm -/
def al (K : Nat → Int32) (N g : Nat) : Int32 := itr (fun a R => if fJ6_bitCount_0f7a4 (K a) ≤ nI g then R else R ||| bit a) 0 N 0
theorem itr_cong {σ : Type} {g g' : Nat → σ → σ} {N : Nat} (h : ∀ a s, a < N → g a s = g' a s) : ∀ d i s, i + d ≤ N → itr g i d s = itr g' i d s := by
  intro d
  induction d with
  | zero => intro i s _; rfl
  | succ d ih =>
    intro i s hi
    have e1 : itr g i (d + 1) s = itr g (i + 1) d (g i s) := rfl
    have e2 : itr g' i (d + 1) s = itr g' (i + 1) d (g' i s) := rfl
    rw [e1, e2, h i s (by omega), ih _ _ (by omega)]
theorem al_cong (hN : N ≤ 8) {K K' : Nat → Int32} (h : ∀ a, a < 8 → K a = K' a) (g : Nat) : al K N g = al K' N g := by
  unfold al
  refine itr_cong (N := N) (fun a s ha => ?_) N 0 0 (by omega)
  rw [h a (by omega)]
theorem more_eq (h : SRn N r re va no ro t) (K : Nat → Int32) (g : Nat) : fX1_nodesWithMoreThan (nI g) K no = some (al K N g) := by
  obtain ⟨a1, a2, a3, a4, a5, a6, a7, a8, a9⟩ := id h
  have e : fX7_nodes no = nI N := a4
  unfold fX1_nodesWithMoreThan al
  have := cdet (fun n i m => fX1_nodesWithMoreThan_l4 (nI g) K no n m (nI i)) N (fun a R => if fJ6_bitCount_0f7a4 (K a) ≤ nI g then R else R ||| bit a) some (fun n i m hi => ?_) (fun n m => ?_) fuel 0 0 (Nat.zero_le _) (by have : fuel = 200 := rfl; omega)
  · exact this
  · show fX1_nodesWithMoreThan_l4 (nI g) K no (n + 1) m (nI i) = _
    rw [fX1_nodesWithMoreThan_l4, e, if_neg (nI_ge hi (by omega)), tokensOf_eq h K hi, bd_s, nI_1, of_eq]
    by_cases z : fJ6_bitCount_0f7a4 (K i) ≤ nI g
    · rw [if_pos z, if_pos z]
    · rw [if_neg z, if_neg z]
  · show fX1_nodesWithMoreThan_l4 (nI g) K no (n + 1) m (nI N) = _
    rw [fX1_nodesWithMoreThan_l4, e, if_pos (nI_le (Nat.le_refl N) (by omega))]
/-- the alarms of a phase, spread -/
def als (re : Nat → Int32) (r N st g : Nat) (S : Int32) : Int32 := itr (fun i R => sp (eAt re r (st + i)) N R) g (2 * g - g) S
/-- an answer after a phase -/
def ans (A K y : Int32) (a : Nat) : Int32 := if bt A a = false ∧ y = 0 then fJ6_bitCount_0f7a4 K else y
theorem answer_eq (h : SRn N r re va no ro t) (A : Int32) (K C : Nat → Int32) : ∃ C', fX1_answerWithoutAlarm A C K no = some C' ∧ ∀ a, a < N → C' a = ans A (K a) (C a) a := by
  obtain ⟨a1, a2, a3, a4, a5, a6, a7, a8, a9⟩ := id h
  have e : fX7_nodes no = nI N := a4
  unfold fX1_answerWithoutAlarm
  let J : Nat → (Nat → Int32) → Prop := fun i s => (∀ a, a < i → s a = ans A (K a) (C a) a) ∧ ∀ a, i ≤ a → s a = C a
  have keep : ∀ i s, J i s → ans A (K i) (C i) i = C i → J (i + 1) s := fun i s ⟨h1, h2⟩ hk => ⟨fun a ha => by
    by_cases z : a = i
    · subst z; rw [h2 a (Nat.le_refl a)]; exact hk.symm
    · exact h1 a (by omega), fun a ha => h2 a (by omega)⟩
  have g0 : ∀ (n i : Nat) (s : Nat → Int32), i < N → J i s → ∃ s', J (i + 1) s' ∧ fX1_answerWithoutAlarm_l2 A K no (n + 1) (nI i) s = fX1_answerWithoutAlarm_l2 A K no n (nI (i + 1)) s' := by
    intro n i s hi hs
    rw [fX1_answerWithoutAlarm_l2, e, if_neg (nI_ge hi (by omega)), has_eq A (by omega), if_b, ck_t (inb_t (by omega) (by decide)), tokensOf_eq h K hi, bd_s, ck_t (inb_t (by omega) (by decide)), nI_clamp (by omega), nI_1, hs.2 i (Nat.le_refl i)]
    cases hb : bt A i
    · rw [if_neg (by simp)]
      by_cases z : C i = 0
      · rw [if_pos z]
        refine ⟨_, ⟨fun a ha => ?_, fun a ha => ?_⟩, rfl⟩
        · by_cases w : a = i
          · subst w
            rw [upd_same]
            unfold ans
            rw [if_pos ⟨hb, z⟩]
          · rw [upd_ne _ _ w]; exact hs.1 a (by omega)
        · rw [upd_ne _ _ (by omega)]; exact hs.2 a (by omega)
      · rw [if_neg z]
        exact ⟨s, keep i s hs (if_neg (fun w => z w.2)), rfl⟩
    · rw [if_pos rfl]
      exact ⟨s, keep i s hs (if_neg (fun w => by rw [hb] at w; cases w.1)), rfl⟩
  have g1 : ∀ (n : Nat) (s : Nat → Int32), J N s → fX1_answerWithoutAlarm_l2 A K no (n + 1) (nI N) s = some s := by
    intro n s _
    rw [fX1_answerWithoutAlarm_l2, e, if_pos (nI_le (Nat.le_refl N) (by omega))]
  obtain ⟨s', hs, q⟩ := cinv (fun n i s => fX1_answerWithoutAlarm_l2 A K no n (nI i) s) N J some g0 g1 fuel 0 C (Nat.zero_le _) (by have : fuel = 200 := rfl; omega) ⟨fun a ha => by omega, fun a _ => rfl⟩
  exact ⟨s', q, hs.1⟩
theorem runPhase_eq (h : SRn N r re va no ro t) {g st : Nat} (hg : g < 50) (hg1 : 1 ≤ g) (hst : st < 500) (C Fk Fb : Nat → Int32) (Fs : Int32) : ∃ C' Fk' Fb' Fs', fX1_runPhase (nI g) C (nI st) Fk Fb Fs re no ro = some (C', nI (st + 2 * g), Fk', Fb', Fs') ∧ ∀ a, a < N → C' a = ans (als re r N st g (al (KK re r N st g) N g)) (KK re r N st g a) (C a) a := by
  obtain ⟨a1, a2, a3, a4, a5, a6, a7, a8, a9⟩ := id h
  have e : fX7_nodes no = nI N := a4
  unfold fX1_runPhase
  obtain ⟨K', Kb', p1, p2⟩ := advanceBy_eq h (f := st) (n := g) (by omega) (by omega) (K := fb_put Fk bit 0 8) Fb (put_bit Fk)
  rw [begin_eq, bd_s]
  dsimp only
  rw [p1, bd_s]
  dsimp only
  rw [more_eq h, bd_s, al_cong a2 p2]
  have e2 : (2 : Int32) * nI g = nI (2 * g) := pk_mul 2 g
  obtain ⟨C', c1, c2⟩ := answer_eq h (als re r N st g (al (KK re r N st g) N g)) K' C
  have := cdet (fun n i S => fX1_runPhase_l27 (nI g) C (nI st) K' Kb' (nI (st + g)) re no ro n S (nI i)) (2 * g) (fun i R => sp (eAt re r (st + i)) N R) (fun S => (fX1_answerWithoutAlarm S C K' no).bind (fun o2 => some (o2, nI (st + 2 * g), K', Kb', nI (st + g)))) (fun n i S hi => ?_) (fun n S => ?_) fuel g (al (KK re r N st g) N g) (by omega) (by have : fuel = 200 := rfl; omega)
  · rw [this]
    have e3 : itr (fun i R => sp (eAt re r (st + i)) N R) g (2 * g - g) (al (KK re r N st g) N g) = als re r N st g (al (KK re r N st g) N g) := rfl
    rw [e3, c1, bd_s]
    exact ⟨_, _, _, _, rfl, fun a ha => by rw [c2 a ha, p2 a (by omega)]⟩
  · show fX1_runPhase_l27 (nI g) C (nI st) K' Kb' (nI (st + g)) re no ro (n + 1) S (nI i) = _
    have e4 : fX2_spread (eAt re r (st + i)) S no = some (sp (eAt re r (st + i)) N S) := by rw [a4]; exact spread_eq (by omega) a2 _ _
    rw [fX1_runPhase_l27, e2, if_neg (nI_ge hi (by omega)), nI_add, edgesAtStep_eq h (by omega), bd_s, nI_1]
    show (fX2_spread (eAt re r (st + i)) S no).bind _ = _
    rw [e4, bd_s]
  · show fX1_runPhase_l27 (nI g) C (nI st) K' Kb' (nI (st + g)) re no ro (n + 1) S (nI (2 * g)) = _
    rw [fX1_runPhase_l27, e2, if_pos (nI_le (Nat.le_refl _) (by omega)), nI_add]
theorem decide_eq10 (h : SRn N r re va no ro t) (A : Int32) (K Th D : Nat → Int32) (hK : ∀ a, a < 8 → E28 (K a)) : ∃ D', fX10_phase_l87 A t K Th fuel 0 D = some (K, Th, D') ∧ ∀ a, a < N → D' a = ans A (K a) (D a) a := by
  obtain ⟨a1, a2, a3, a4, a5, a6, a7, a8, a9⟩ := id h
  let J : Nat → (Nat → Int32) → Prop := fun i s => (∀ a, a < i → s a = ans A (K a) (D a) a) ∧ ∀ a, i ≤ a → s a = D a
  have g0 : ∀ (n i : Nat) (s : Nat → Int32), i < N → J i s → ∃ s', J (i + 1) s' ∧ fX10_phase_l87 A t K Th (n + 1) (nI i) s = fX10_phase_l87 A t K Th n (nI (i + 1)) s' := by
    intro n i s hi hs
    have hin : inb (nI i) 8 = true := inb_t (by omega) (by decide)
    refine ⟨upd s i (ans A (K i) (D i) i), ⟨fun a ha => ?_, fun a ha => ?_⟩, ?_⟩
    · by_cases w : a = i
      · subst w; rw [upd_same]
      · rw [upd_ne _ _ w]; exact hs.1 a (by omega)
    · rw [upd_ne _ _ (by omega)]; exact hs.2 a (by omega)
    · rw [fX10_phase_l87, a6, if_neg (nI_ge hi (by omega))]
      unfold fX10_phase_b122
      rw [if_neg (show ¬ (1 : Int32) = 0 by decide), if_pos (show (0 : Int32) = 0 from rfl), ck_t hin, ck_t hin, ck_t hin, ck_t hin, nI_clamp (by omega), nI_1, count_eq (hK i (by omega)), bd_s, ck_t hin, hs.2 i (Nat.le_refl i)]
      unfold ans
      cases hb : bt A i
      · rw [if_pos ((sh1_0 _ (by omega)).mpr hb)]
        by_cases z : D i = 0
        · rw [if_pos z, if_pos ⟨rfl, z⟩]
        · rw [if_neg z, if_neg (fun w => z w.2)]
      · rw [if_neg (fun w => by have := (sh1_0 _ (by omega)).mp w; rw [hb] at this; cases this), if_neg (fun w => by cases w.1)]
  have g1 : ∀ (n : Nat) (s : Nat → Int32), J N s → fX10_phase_l87 A t K Th (n + 1) (nI N) s = some (K, Th, s) := by
    intro n s _
    rw [fX10_phase_l87, a6, if_pos (nI_le (Nat.le_refl N) (by omega))]
  obtain ⟨s', hs, q⟩ := cinv (fun n i s => fX10_phase_l87 A t K Th n (nI i) s) N J (fun s => some (K, Th, s)) g0 g1 fuel 0 D (Nat.zero_le _) (by have : fuel = 200 := rfl; omega) ⟨fun a ha => by omega, fun a _ => rfl⟩
  exact ⟨s', q, hs.1⟩
theorem phase_eq (h : SRn N r re va no ro t) {g st : Nat} (hg : g < 50) (hg1 : 1 ≤ g) (hst : st < 500) (D Tk Tt : Nat → Int32) : ∃ D' Tk' Tt', fX10_phase (nI g) (nI st) t Tk Tt D = some (Tk', Tt', D') ∧ ∀ a, a < N → D' a = ans (als re r N st g (al (KK re r N st g) N g)) (KK re r N st g a) (D a) a := by
  obtain ⟨a1, a2, a3, a4, a5, a6, a7, a8, a9⟩ := id h
  unfold fX10_phase
  obtain ⟨K', Th', p1, p2⟩ := floods_eq h (f := st) (n := g) (by omega) (by omega) Tk Tt
  have hE : ∀ a, a < 8 → E28 (K' a) := fun a ha => by rw [p2 a ha]; exact KK_E28 a2 ha
  have e2 : (2 : Int32) * nI g = nI (2 * g) := pk_mul 2 g
  obtain ⟨D', c1, c2⟩ := decide_eq10 h (als re r N st g (al (KK re r N st g) N g)) K' Th' D hE
  rw [p1, bd_s]
  dsimp only
  have k1 := cdet (fun n i S => fX10_phase_l11 (nI g) (nI st) t K' Th' D n S (nI i)) N (fun a R => if fJ6_bitCount_0f7a4 (K' a) ≤ nI g then R else R ||| bit a) (fun S => fX10_phase_l56 (nI g) (nI st) t K' Th' D fuel S (nI g)) (fun n i S hi => ?_) (fun n S => ?_) fuel 0 0 (Nat.zero_le _) (by have : fuel = 200 := rfl; omega)
  · have k2 := cdet (fun n i S => fX10_phase_l56 (nI g) (nI st) t K' Th' D n S (nI i)) (2 * g) (fun i R => sp (eAt re r (st + i)) N R) (fun S => fX10_phase_l87 S t K' Th' fuel 0 D) (fun n i S hi => ?_) (fun n S => ?_) fuel g (al (KK re r N st g) N g) (by omega) (by have : fuel = 200 := rfl; omega)
    · have e3 : itr (fun a R => if fJ6_bitCount_0f7a4 (K' a) ≤ nI g then R else R ||| bit a) 0 (N - 0) 0 = al (KK re r N st g) N g := al_cong a2 p2 g
      rw [e3] at k1
      have e4 : itr (fun i R => sp (eAt re r (st + i)) N R) g (2 * g - g) (al (KK re r N st g) N g) = als re r N st g (al (KK re r N st g) N g) := rfl
      rw [k2, e4, c1] at k1
      exact ⟨_, _, _, k1, fun a ha => by rw [c2 a ha, p2 a (by omega)]⟩
    · show fX10_phase_l56 (nI g) (nI st) t K' Th' D (n + 1) S (nI i) = _
      rw [fX10_phase_l56, e2, if_neg (nI_ge hi (by omega)), nI_add, edgesAt_eq h (by omega), bd_s, around_eq h, bd_s, nI_1]
    · show fX10_phase_l56 (nI g) (nI st) t K' Th' D (n + 1) S (nI (2 * g)) = _
      rw [fX10_phase_l56, e2, if_pos (nI_le (Nat.le_refl _) (by omega))]
  · show fX10_phase_l11 (nI g) (nI st) t K' Th' D (n + 1) S (nI i) = _
    rw [fX10_phase_l11, a6, if_neg (nI_ge hi (by omega)), ck_t (inb_t (by omega) (by decide)), nI_clamp (by omega), count_eq (hE i (by omega)), bd_s, nI_1, or_zero32]
    by_cases z : fJ6_bitCount_0f7a4 (K' i) ≤ nI g
    · rw [if_pos z, if_pos z]
    · rw [if_neg z, if_neg z]; rfl
  · show fX10_phase_l11 (nI g) (nI st) t K' Th' D (n + 1) S (nI N) = _
    rw [fX10_phase_l11, a6, if_pos (nI_le (Nat.le_refl N) (by omega))]
/-- all have answers -/
def hav (D : Nat → Int32) (i : Nat) : Bool := decide (∀ a, a < i → ¬ D a = 0)
theorem allHave_eq (h : SRn N r re va no ro t) (D : Nat → Int32) : fX1_allHaveAnswers D no = some (hav D N) := by
  obtain ⟨a1, a2, a3, a4, a5, a6, a7, a8, a9⟩ := id h
  have e : fX7_nodes no = nI N := a4
  unfold fX1_allHaveAnswers
  have key : ∀ (n i : Nat), i ≤ N → N < n + i → (∀ a, a < i → ¬ D a = 0) → fX1_allHaveAnswers_l2 D no n (nI i) = some (hav D N) := by
    intro n
    induction n with
    | zero => intro i h1 h2; omega
    | succ n ih =>
      intro i h1 h2 hs
      rw [fX1_allHaveAnswers_l2, e]
      rcases Nat.lt_or_ge i N with q | q
      · rw [if_neg (nI_ge q (by omega)), ck_t (inb_t (by omega) (by decide)), nI_clamp (by omega), nI_1]
        by_cases z : D i = 0
        · rw [if_pos z]
          have : hav D N = false := decide_eq_false (fun w => w i q z)
          rw [this]
        · rw [if_neg z]
          refine ih (i + 1) q (by omega) (fun a ha => ?_)
          by_cases w : a = i
          · subst w; exact z
          · exact hs a (by omega)
      · rw [if_pos (nI_le q (by omega))]
        have : hav D N = true := decide_eq_true (fun a ha => hs a (by omega))
        rw [this]
  exact key fuel 0 (by omega) (by have : fuel = 200 := rfl; omega) (fun a ha => by omega)
theorem allDecided_eq (h : SRn N r re va no ro t) {D : Nat → Int32} (hD : ∀ a, a < N → ∃ v, v < 1000 ∧ D a = nI v) : fX10_allDecided t D = some (hav D N) := by
  obtain ⟨a1, a2, a3, a4, a5, a6, a7, a8, a9⟩ := id h
  unfold fX10_allDecided
  have g0 : ∀ (n i : Nat) (s : Int32), i < N → s = b2i (hav D i) → ∃ s', s' = b2i (hav D (i + 1)) ∧ fX10_allDecided_l4 t D (n + 1) s (nI i) = fX10_allDecided_l4 t D n s' (nI (i + 1)) := by
    intro n i s hi hs
    refine ⟨_, rfl, ?_⟩
    obtain ⟨v, v1, v2⟩ := hD i hi
    rw [fX10_allDecided_l4, a6, if_neg (nI_ge hi (by omega)), ck_t (inb_t (by omega) (by decide)), nI_clamp (by omega), nI_1, hs]
    by_cases z : ∀ a, a < i → ¬ D a = 0
    · have d1 : hav D i = true := decide_eq_true z
      rw [d1, if_neg (by decide)]
      by_cases w : D i = 0
      · have d2 : hav D (i + 1) = false := decide_eq_false (fun y => y i (by omega) w)
        rw [if_pos (by rw [w]; decide), d2]; rfl
      · have d2 : hav D (i + 1) = true := decide_eq_true (fun a ha => by
          by_cases y : a = i
          · subst y; exact w
          · exact z a (by omega))
        have hv : 0 < v := by
          rcases Nat.eq_zero_or_pos v with y | y
          · subst y; exact absurd v2 w
          · exact y
        rw [if_neg (by rw [v2]; exact nI_nle hv (by omega)), d2]; rfl
    · have d1 : hav D i = false := decide_eq_false z
      have d2 : hav D (i + 1) = false := decide_eq_false (fun y => z (fun a ha => y a (by omega)))
      rw [d1, d2, if_pos b2i_f]; rfl
  have g1 : ∀ (n : Nat) (s : Int32), s = b2i (hav D N) → fX10_allDecided_l4 t D (n + 1) s (nI N) = some (hav D N) := by
    intro n s hs
    rw [fX10_allDecided_l4, a6, if_pos (nI_le (Nat.le_refl N) (by omega)), hs, ck_t (isb_b _), i2b_b]
  obtain ⟨s', hs, q⟩ := cinv (fun n i s => fX10_allDecided_l4 t D n s (nI i)) N (fun i s => s = b2i (hav D i)) (fun _ => some (hav D N)) g0 g1 fuel 0 1 (Nat.zero_le _) (by have : fuel = 200 := rfl; omega) (by
    have d1 : hav D 0 = true := decide_eq_true (fun a ha => by omega)
    rw [d1]; rfl)
  exact q
theorem hav_cong {D D' : Nat → Int32} {i : Nat} (h : ∀ a, a < i → D a = D' a) : hav D i = hav D' i := by
  unfold hav
  refine bool_iff ?_
  rw [decide_eq_true_eq, decide_eq_true_eq]
  constructor
  · exact fun z a ha => by rw [← h a ha]; exact z a ha
  · exact fun z a ha => by rw [h a ha]; exact z a ha
theorem ans_nat {A K y : Int32} {a : Nat} (h : ∃ v, v < 1000 ∧ y = nI v) : ∃ v, v < 1000 ∧ ans A K y a = nI v := by
  unfold ans
  by_cases z : bt A a = false ∧ y = 0
  · rw [if_pos z]; exact bc_nat K
  · rw [if_neg z]; exact h
theorem run_both (h : SRn N r re va no ro t) (C : Nat → Int32) (Cs : Int32) (Fk Fb : Nat → Int32) (Fs : Int32) (Tk Tt D : Nat → Int32) : ∃ o9 o10, fX1_run C Cs Fk Fb Fs re no ro = some o9 ∧ fX10_counts t Tk Tt D = some o10 ∧ o9.2.1 = o10.1 ∧ (∃ v, v < 1000 ∧ o10.1 = nI v) ∧ ∀ a, a < N → o9.1 a = o10.2.2.2 a := by
  obtain ⟨a1, a2, a3, a4, a5, a6, a7, a8, a9⟩ := id h
  unfold fX1_run fX10_counts
  have e1 : fX1_run_l7 0 Fk Fb Fs re no ro fuel 0 C = fX1_run_l28 re no ro fuel 1 (fb_put C (fun _ => 0) 0 8) 0 Fk Fb Fs := by
    refine lput (fun n i f => fX1_run_l7 0 Fk Fb Fs re no ro n (nI i) f) 8 0 (fun _ => 0) (fun f => fX1_run_l28 re no ro fuel 1 f 0 Fk Fb Fs) (fun n i f hi => ?_) (fun n f => ?_) fuel _ (by decide)
    · show fX1_run_l7 0 Fk Fb Fs re no ro (n + 1) (nI i) f = _
      rw [fX1_run_l7, if_neg (show ¬ (8 : Int32) ≤ nI i from nI_ge (b := 8) hi (by decide)), ck_t (inb_t hi (by decide)), nI_clamp (by omega), nI_1, Nat.zero_add]
    · show fX1_run_l7 0 Fk Fb Fs re no ro (n + 1) (nI 8) f = _
      rw [fX1_run_l7, if_pos (show (8 : Int32) ≤ nI 8 by decide)]
  have e2 : fX10_counts_l2 t Tk Tt fuel 0 D = fX10_counts_l25 t fuel 0 1 Tk Tt (fb_put D (fun _ => 0) 0 8) := by
    refine lput (fun n i f => fX10_counts_l2 t Tk Tt n (nI i) f) 8 0 (fun _ => 0) (fun f => fX10_counts_l25 t fuel 0 1 Tk Tt f) (fun n i f hi => ?_) (fun n f => ?_) fuel _ (by decide)
    · show fX10_counts_l2 t Tk Tt (n + 1) (nI i) f = _
      rw [fX10_counts_l2, if_neg (show ¬ (8 : Int32) ≤ nI i from nI_ge (b := 8) hi (by decide)), ck_t (inb_t hi (by decide)), nI_clamp (by omega), nI_1, Nat.zero_add]
    · show fX10_counts_l2 t Tk Tt (n + 1) (nI 8) f = _
      rw [fX10_counts_l2, if_pos (show (8 : Int32) ≤ nI 8 by decide)]
  rw [e1, e2]
  have pw : ∀ j, j < 5 → (1 ≤ 2 ^ j ∧ 2 ^ j ≤ 16 ∧ (j < 4 → 2 ^ j ≤ 8) ∧ (j = 4 → 2 ^ j = 16)) := by decide
  have key : ∀ (n j : Nat) (C Fk Fb : Nat → Int32) (Fs : Int32) (D Tk Tt : Nat → Int32), j ≤ 4 → 4 < n + j → (∀ a, a < N → C a = D a ∧ ∃ v, v < 1000 ∧ D a = nI v) → ∃ o9 o10, fX1_run_l28 re no ro n (nI (2 ^ j)) C (nI (2 * (2 ^ j - 1))) Fk Fb Fs = some o9 ∧ fX10_counts_l25 t n (nI (2 * (2 ^ j - 1))) (nI (2 ^ j)) Tk Tt D = some o10 ∧ o9.2.1 = o10.1 ∧ (∃ v, v < 1000 ∧ o10.1 = nI v) ∧ ∀ a, a < N → o9.1 a = o10.2.2.2 a := by
    intro n
    induction n with
    | zero => intro j _ _ _ _ _ _ _ h1 h2; omega
    | succ n ih =>
      intro j C Fk Fb Fs D Tk Tt h1 h2 hD
      obtain ⟨w1, w2, w3, w4⟩ := pw j (by omega)
      rw [fX1_run_l28, fX10_counts_l25]
      have fin : ∃ v, v < 1000 ∧ nI (2 * (2 ^ j - 1)) = nI v := ⟨_, by omega, rfl⟩
      rcases Nat.lt_or_ge j 4 with q | q
      · have w3' := w3 q
        rw [if_neg (show ¬ (8 : Int32) < nI (2 ^ j) from nI_nlt (a := 8) w3' (by decide)), if_neg (show ¬ (9 : Int32) ≤ nI (2 ^ j) from nI_ge (b := 9) (by omega) (by decide)), allHave_eq h, allDecided_eq h (fun a ha => (hD a ha).2), bd_s, bd_s, hav_cong (fun a ha => (hD a ha).1), if_b, if_b]
        by_cases z : hav D N = true
        · rw [if_pos z, if_pos z]
          exact ⟨_, _, rfl, rfl, rfl, fin, fun a ha => (hD a ha).1⟩
        · obtain ⟨C', Fk', Fb', Fs', c1, c2⟩ := runPhase_eq h (g := 2 ^ j) (st := 2 * (2 ^ j - 1)) (by omega) w1 (by omega) C Fk Fb Fs
          obtain ⟨D', Tk', Tt', d1, d2⟩ := phase_eq h (g := 2 ^ j) (st := 2 * (2 ^ j - 1)) (by omega) w1 (by omega) D Tk Tt
          have m1 : nI (2 ^ j) * 2 = nI (2 ^ (j + 1)) := by
            have : nI (2 ^ j) * 2 = nI (2 ^ j * 2) := pk_mul (2 ^ j) 2
            rw [this, Nat.pow_succ]
          have m2 : (2 : Int32) * nI (2 ^ j) = nI (2 * 2 ^ j) := pk_mul 2 (2 ^ j)
          have m3 : 2 * (2 ^ j - 1) + 2 * 2 ^ j = 2 * (2 ^ (j + 1) - 1) := by rw [Nat.pow_succ]; omega
          rw [if_neg z, if_neg z, c1, d1, bd_s, bd_s, m1, m2, nI_add, m3]
          refine ih (j + 1) C' Fk' Fb' Fs' D' Tk' Tt' (by omega) (by omega) (fun a ha => ?_)
          rw [c2 a ha, d2 a ha, (hD a ha).1]
          exact ⟨rfl, ans_nat (hD a ha).2⟩
      · have w4' := w4 (by omega)
        rw [if_pos (show (8 : Int32) < nI (2 ^ j) from nI_lt (a := 8) (by omega) (by omega)), if_pos (show (9 : Int32) ≤ nI (2 ^ j) from nI_le (a := 9) (by omega) (by omega))]
        exact ⟨_, _, rfl, rfl, rfl, fin, fun a ha => (hD a ha).1⟩
  exact key fuel 0 _ Fk Fb Fs _ Tk Tt (by omega) (by decide) (fun a ha => by
    rw [fb_put_in (Nat.zero_le _) (by omega), fb_put_in (Nat.zero_le _) (by omega)]
    exact ⟨rfl, 0, by decide, rfl⟩)
theorem sim_counted (hS : SR re va no ro t) (x : Int32) (C : Nat → Int32) (Cs : Int32) (Fk Fb : Nat → Int32) (Fs : Int32) (Tk Tt D : Nat → Int32) : ∃ o9 o10, fX9_counted x re no ro Fk Fb Fs C Cs = some o9 ∧ fX10_counted x t Tk Tt D = some o10 ∧ o9.1 = o10.1 := by
  obtain ⟨N, r, h⟩ := id hS
  have hN := h.2.1
  unfold fX9_counted fX10_counted
  rw [hasNode_eq h, isNode_eq h, if_b, if_b]
  by_cases q : ndx N x = true
  · rw [if_pos q, if_pos q]
    obtain ⟨a, ha, rfl⟩ := ndx_of q (by omega)
    obtain ⟨o9, o10, p1, p2, p3, ⟨v, v1, v2⟩, p5⟩ := run_both h C Cs Fk Fb Fs Tk Tt D
    have e1 : fX1_answerOf (nI a) o9.1 no = some (o9.1 a) := tokensOf_eq h o9.1 ha
    have e2 : (0 : Int32) ≤ o10.1 := by rw [v2]; exact nI_pos' (by omega)
    rw [p1, p2, bd_s, bd_s, e1, bd_s, if_pos e2, ck_t (inb_t (by omega) (by decide)), nI_clamp (by omega)]
    exact ⟨_, _, rfl, rfl, p5 a ha⟩
  · rw [if_neg q, if_neg q]; exact ⟨_, _, rfl, rfl, rfl⟩
theorem sim_countingSteps (hS : SR re va no ro t) (C : Nat → Int32) (Cs : Int32) (Fk Fb : Nat → Int32) (Fs : Int32) (Tk Tt D : Nat → Int32) : ∃ o9 o10, fX9_countingSteps re no ro Fk Fb Fs C Cs = some o9 ∧ fX10_countingSteps t Tk Tt D = some o10 ∧ o9.1 = o10.1 := by
  obtain ⟨N, r, h⟩ := id hS
  unfold fX9_countingSteps fX10_countingSteps
  obtain ⟨o9, o10, p1, p2, p3, _, p5⟩ := run_both h C Cs Fk Fb Fs Tk Tt D
  rw [p1, p2, bd_s, bd_s]
  exact ⟨_, _, rfl, rfl, p3⟩
theorem wrong_both (h : SRn N r re va no ro t) {C D : Nat → Int32} (hD : ∀ a, a < N → C a = D a) (Tk Tt : Nat → Int32) : ∃ o9 o10, fX1_wrongAnswers C no = some o9 ∧ fX10_wrongCounts_l15 t Tk Tt D fuel 0 0 = some o10 ∧ o9 = o10.1 := by
  obtain ⟨a1, a2, a3, a4, a5, a6, a7, a8, a9⟩ := id h
  have e : fX7_nodes no = nI N := a4
  unfold fX1_wrongAnswers
  have key : ∀ (n i : Nat) (s : Int32), i ≤ N → N < n + i → ∃ o9 o10, fX1_wrongAnswers_l4 C no n s (nI i) = some o9 ∧ fX10_wrongCounts_l15 t Tk Tt D n s (nI i) = some o10 ∧ o9 = o10.1 := by
    intro n
    induction n with
    | zero => intro i s q1 q2; omega
    | succ n ih =>
      intro i s q1 q2
      rw [fX1_wrongAnswers_l4, fX10_wrongCounts_l15, e, a6]
      rcases Nat.lt_or_ge i N with q | q
      · rw [if_neg (nI_ge q (by omega)), if_neg (nI_ge q (by omega)), ck_t (inb_t (by omega) (by decide)), ck_t (inb_t (by omega) (by decide)), nI_clamp (by omega), nI_1, hD i q]
        by_cases z : D i = nI N
        · have e0 : s + 0 = s := by rw [Int32.add_zero]
          rw [if_pos z, if_pos z, e0]
          exact ih (i + 1) s (by omega) (by omega)
        · rw [if_neg z, if_neg z]
          exact ih (i + 1) _ (by omega) (by omega)
      · rw [if_pos (nI_le q (by omega)), if_pos (nI_le q (by omega))]
        exact ⟨_, _, rfl, rfl, rfl⟩
  exact key fuel 0 0 (Nat.zero_le _) (by have : fuel = 200 := rfl; omega)
theorem sim_wrongCounts (hS : SR re va no ro t) (C : Nat → Int32) (Cs : Int32) (Fk Fb : Nat → Int32) (Fs : Int32) (Tk Tt D : Nat → Int32) : ∃ o9 o10, fX9_wrongCounts re no ro Fk Fb Fs C Cs = some o9 ∧ fX10_wrongCounts t Tk Tt D = some o10 ∧ o9.1 = o10.1 := by
  obtain ⟨N, r, h⟩ := id hS
  unfold fX9_wrongCounts fX10_wrongCounts
  obtain ⟨o9, o10, p1, p2, p3, ⟨v, v1, v2⟩, p5⟩ := run_both h C Cs Fk Fb Fs Tk Tt D
  have e2 : (0 : Int32) ≤ o10.1 := by rw [v2]; exact nI_pos' (by omega)
  obtain ⟨w9, w10, c1, c2, c3⟩ := wrong_both h p5 o10.2.1 o10.2.2.1
  rw [p1, p2, bd_s, bd_s, c1, bd_s, if_pos e2, c2]
  exact ⟨_, _, rfl, rfl, c3⟩
end CO
