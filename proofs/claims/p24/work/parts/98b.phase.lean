section P24B
variable {B D : Nat} {S T : STT}
def JI (t : Int) (S : STT) (j : Nat) : Prop := ∀ k, k < 12 → (S 24 j k = 0 ∨ S 24 j k = 1 ∨ S 24 j k = 2) ∧ (¬ S 24 j k = 0 → (S 6 j 1).toInt ≤ (S 25 j k).toInt ∧ (S 25 j k).toInt ≤ t ∧ 1 ≤ (S 26 j k).toInt ∧ ∀ n, n < 12 → qb (S 9 0 k &&& S 6 j 0) n = true → S 24 j n = 2 ∧ (S 25 j n).toInt + (S 26 j n).toInt ≤ (S 25 j k).toInt) ∧ (S 24 j k = 2 → (S 25 j k).toInt + (S 26 j k).toInt ≤ t)
def JA (t : Int) (S : STT) : Prop := ∀ j, j < (S 0 0 0).toNatClampNeg → S 6 j 2 = 0 → JI t S j
def BK (S : STT) : Prop := ∀ j, j < (S 0 0 0).toNatClampNeg → ∀ k, k < 12 → ¬ S 27 j k = -1 → S 7 0 k = 2 ∧ S 17 0 (S 27 j k).toNatClampNeg = nI k ∧ (¬ S 6 j 2 = 0 → ¬ S 24 j k = 0)
def ST (S : STT) : Prop := ∀ s, s < 20 → (S 20 0 s).toInt ≤ (S 19 0 s).toInt
def SB (S : STT) : Prop := (∀ j, j < (S 0 0 0).toNatClampNeg → 0 ≤ (S 6 j 1).toInt ∧ (S 6 j 1).toInt ≤ 199) ∧ (∀ s, s < 20 → (S 18 0 s).toInt ≤ 199)
def NI (S : STT) : Prop := JA (S 0 0 1).toInt S ∧ BK S ∧ ST S ∧ SB S
theorem JI.same {t : Int} {j : Nat} (h : JI t S j) (e6 : T 6 j = S 6 j) (e9 : T 9 = S 9) (e24 : T 24 j = S 24 j) (e25 : T 25 j = S 25 j) (e26 : T 26 j = S 26 j) : JI t T j := by
  unfold JI
  rw [e6, e9, e24, e25, e26]; exact h
theorem JI.mono {t t' : Int} {j : Nat} (h : JI t S j) (ht : t ≤ t') : JI t' S j := fun k hk => by
  obtain ⟨a, b, c⟩ := h k hk
  exact ⟨a, fun z => by obtain ⟨b1, b2, b3⟩ := b z; exact ⟨b1, by omega, b3⟩, fun z => by have := c z; omega⟩
theorem BK.same (h : BK S) (e0 : T 0 0 0 = S 0 0 0) (e6 : T 6 = S 6) (e7 : T 7 = S 7) (e17 : T 17 = S 17) (e24 : T 24 = S 24) (e27 : T 27 = S 27) : BK T := by
  unfold BK; rw [e0, e6, e7, e17, e24, e27]; exact h
theorem ST.same (h : ST S) (e19 : T 19 = S 19) (e20 : T 20 = S 20) : ST T := by unfold ST; rw [e19, e20]; exact h
theorem SB.same (h : SB S) (e0 : T 0 0 0 = S 0 0 0) (e6 : T 6 = S 6) (e18 : T 18 = S 18) : SB T := by unfold SB; rw [e0, e6, e18]; exact h
theorem JA.same {t : Int} (h : JA t S) (e0 : T 0 0 0 = S 0 0 0) (e6 : T 6 = S 6) (e9 : T 9 = S 9) (e24 : T 24 = S 24) (e25 : T 25 = S 25) (e26 : T 26 = S 26) : JA t T := fun j hj hl => by
  rw [e0] at hj
  rw [e6] at hl
  exact (h j hj hl).same (by rw [e6]) e9 (by rw [e24]) (by rw [e25]) (by rw [e26])
theorem JA.mono {t t' : Int} (h : JA t S) (ht : t ≤ t') : JA t' S := fun j hj hl => (h j hj hl).mono ht
-- steps that end
theorem fin_lp {j : Nat} {p : Int32} : ∀ (k i : Nat) (v : Int32) (S : STT), i + k = 12 → (∀ a, a < 12 → 0 ≤ (S 25 j a).toInt ∧ (S 25 j a).toInt ≤ 199 ∧ 0 ≤ (S 26 j a).toInt ∧ (S 26 j a).toInt ≤ 13) → JI p.toInt S j → (∀ f, f ≠ 24 → (lp_X1_finishSteps_13 j p k i v S).2 f = S f) ∧ (∀ a, a ≠ j → (lp_X1_finishSteps_13 j p k i v S).2 24 a = S 24 a) ∧ JI p.toInt (lp_X1_finishSteps_13 j p k i v S).2 j := by
  intro k
  induction k with
  | zero => intro i v S _ _ h; exact ⟨fun _ _ => rfl, fun _ _ => rfl, h⟩
  | succ k ih =>
    intro i v S hi hb h
    rw [lp_X1_finishSteps_13]
    by_cases c : S 24 j i = 1
    · rw [if_pos c]
      by_cases d : p < S 25 j i + S 26 j i
      · rw [if_pos d]; exact ih _ _ _ (by omega) hb h
      · rw [if_neg d]
        have h2 : JI p.toInt (up3 S 24 j i 2) j := by
          intro a ha
          have e24 : ∀ a, (up3 S 24 j i 2) 24 j a = if a = i then 2 else S 24 j a := fun a => by
            by_cases z : a = i
            · subst z; rw [up3_e, if_pos rfl]
            · rw [up3_i z, if_neg z]
          have e25 : (up3 S 24 j i 2) 25 = S 25 := up3_f (by decide)
          have e26 : (up3 S 24 j i 2) 26 = S 26 := up3_f (by decide)
          have e6 : (up3 S 24 j i 2) 6 = S 6 := up3_f (by decide)
          have e9 : (up3 S 24 j i 2) 9 = S 9 := up3_f (by decide)
          rw [e25, e26, e6, e9]
          obtain ⟨h1, h2, h3⟩ := h a ha
          have key : ¬ S 24 j a = 0 → (S 6 j 1).toInt ≤ (S 25 j a).toInt ∧ (S 25 j a).toInt ≤ p.toInt ∧ 1 ≤ (S 26 j a).toInt ∧ ∀ n, n < 12 → qb (S 9 0 a &&& S 6 j 0) n = true → (up3 S 24 j i 2) 24 j n = 2 ∧ (S 25 j n).toInt + (S 26 j n).toInt ≤ (S 25 j a).toInt := fun z => by
            obtain ⟨y1, y2, y3, y4⟩ := h2 z
            refine ⟨y1, y2, y3, fun n hn hq => ?_⟩
            obtain ⟨w1, w2⟩ := y4 n hn hq
            refine ⟨?_, w2⟩
            rw [e24 n]
            by_cases z : n = i
            · rw [if_pos z]
            · rw [if_neg z]; exact w1
          rw [e24 a]
          by_cases z : a = i
          · rw [if_pos z]
            refine ⟨Or.inr (Or.inr rfl), fun _ => key (by rw [z, c]; decide), fun _ => ?_⟩
            obtain ⟨b1, b2, b3, b4⟩ := hb a ha
            rw [Int32.lt_iff_toInt_lt, ← z, add_i (by omega) (by omega)] at d
            omega
          · rw [if_neg z]
            exact ⟨h1, key, h3⟩
        obtain ⟨x, y, z⟩ := ih (i + 1) (v + 1) (up3 S 24 j i 2) (by omega) (fun a ha => by
          rw [up3_f (by decide), up3_f (by decide)]; exact hb a ha) h2
        exact ⟨fun f hf => by rw [x f hf, up3_f hf], fun a ha => by rw [y a ha, up3_o ha], z⟩
    · rw [if_neg c]; exact ih _ _ _ (by omega) hb h
theorem fin_cnt {j : Nat} {p : Int32} : ∀ (k i : Nat) (v : Int32) (S : STT), 0 ≤ v.toInt → v.toInt + k ≤ 1000 → v.toInt ≤ (lp_X1_finishSteps_13 j p k i v S).1.toInt ∧ (lp_X1_finishSteps_13 j p k i v S).1.toInt ≤ v.toInt + k := by
  intro k
  induction k with
  | zero => intro i v S h1 h2; exact ⟨Int.le_refl _, by show v.toInt ≤ v.toInt + 0; omega⟩
  | succ k ih =>
    intro i v S h1 h2
    rw [lp_X1_finishSteps_13]
    have e : (v + 1).toInt = v.toInt + 1 := add_i (by rw [one_i]; omega) (by rw [one_i]; omega)
    by_cases c : S 24 j i = 1
    · rw [if_pos c]
      by_cases d : p < S 25 j i + S 26 j i
      · rw [if_pos d]; have := ih (i + 1) v S h1 (by omega); omega
      · rw [if_neg d]; have := ih (i + 1) (v + 1) (up3 S 24 j i 2) (by omega) (by omega); omega
    · rw [if_neg c]; have := ih (i + 1) v S h1 (by omega); omega
theorem finAll_lp : ∀ (k i : Nat) (v : Int32) (S : STT), i + k = (S 0 0 0).toNatClampNeg → (∀ j, j < (S 0 0 0).toNatClampNeg → ∀ a, a < 12 → 0 ≤ (S 25 j a).toInt ∧ (S 25 j a).toInt ≤ 199 ∧ 0 ≤ (S 26 j a).toInt ∧ (S 26 j a).toInt ≤ 13) → JA (S 0 0 1).toInt S → (∀ f, f ≠ 24 → (lp_X5_day_45 k i v S).2 f = S f) ∧ (∀ j, ¬ S 6 j 2 = 0 → (lp_X5_day_45 k i v S).2 24 j = S 24 j) ∧ JA (S 0 0 1).toInt (lp_X5_day_45 k i v S).2 := by
  intro k
  induction k with
  | zero => intro i v S _ _ h; exact ⟨fun _ _ => rfl, fun _ _ => rfl, h⟩
  | succ k ih =>
    intro i v S hi hb h
    show (∀ f, f ≠ 24 → (lp_X5_day_45 k (i + 1) (v + (sp_X1_finishSteps S i (S 0 0 1)).1) (sp_X1_finishSteps S i (S 0 0 1)).2).2 f = S f) ∧ (∀ j, ¬ S 6 j 2 = 0 → (lp_X5_day_45 k (i + 1) (v + (sp_X1_finishSteps S i (S 0 0 1)).1) (sp_X1_finishSteps S i (S 0 0 1)).2).2 24 j = S 24 j) ∧ JA (S 0 0 1).toInt (lp_X5_day_45 k (i + 1) (v + (sp_X1_finishSteps S i (S 0 0 1)).1) (sp_X1_finishSteps S i (S 0 0 1)).2).2
    generalize (v + (sp_X1_finishSteps S i (S 0 0 1)).1) = w
    have hS : (∀ f, f ≠ 24 → (sp_X1_finishSteps S i (S 0 0 1)).2 f = S f) ∧ (∀ j, ¬ S 6 j 2 = 0 → (sp_X1_finishSteps S i (S 0 0 1)).2 24 j = S 24 j) ∧ JA (S 0 0 1).toInt (sp_X1_finishSteps S i (S 0 0 1)).2 := by
      rw [un_X1_finishSteps]; unfold rw_X1_finishSteps
      by_cases c : S 6 i 2 = 0
      · rw [if_pos c]
        obtain ⟨x, y, z⟩ := fin_lp 12 0 0 S (by omega) (hb i (by omega)) (h i (by omega) c)
        refine ⟨x, fun j hl => y j (fun q => hl (q ▸ c)), fun j hj hl => ?_⟩
        by_cases e : j = i
        · subst e; exact z
        · have hj : j < (S 0 0 0).toNatClampNeg := by
            have : (lp_X1_finishSteps_13 i (S 0 0 1) 12 0 0 S).2 0 = S 0 := x 0 (by decide)
            rw [← this]; exact hj
          have hl : S 6 j 2 = 0 := by
            have : (lp_X1_finishSteps_13 i (S 0 0 1) 12 0 0 S).2 6 = S 6 := x 6 (by decide)
            rw [← this]; exact hl
          exact (h j hj hl).same (congrFun (x 6 (by decide)) j) (x 9 (by decide)) (y j e) (congrFun (x 25 (by decide)) j) (congrFun (x 26 (by decide)) j)
      · rw [if_neg c]; exact ⟨fun _ _ => rfl, fun _ _ => rfl, h⟩
    generalize (sp_X1_finishSteps S i (S 0 0 1)).2 = S2 at hS ⊢
    obtain ⟨x, y, z⟩ := hS
    have e0 := x 0 (by decide)
    obtain ⟨a, b, c⟩ := ih (i + 1) w S2 (by rw [e0]; omega) (by rw [e0, x 25 (by decide), x 26 (by decide)]; exact hb) (by rw [e0]; exact z)
    rw [e0] at c
    exact ⟨fun f hf => (a f hf).trans (x f hf), fun j hl => (b j (by rw [x 6 (by decide)]; exact hl)).trans (y j hl), c⟩
theorem finAll_cnt : ∀ (k i : Nat) (v : Int32) (S : STT), 0 ≤ v.toInt → v.toInt + 12 * k ≤ 200 → 0 ≤ (lp_X5_day_45 k i v S).1.toInt := by
  intro k
  induction k with
  | zero => intro i v S h1 h2; exact h1
  | succ k ih =>
    intro i v S h1 h2
    show 0 ≤ (lp_X5_day_45 k (i + 1) (v + (sp_X1_finishSteps S i (S 0 0 1)).1) (sp_X1_finishSteps S i (S 0 0 1)).2).1.toInt
    have hS : 0 ≤ (sp_X1_finishSteps S i (S 0 0 1)).1.toInt ∧ (sp_X1_finishSteps S i (S 0 0 1)).1.toInt ≤ 12 := by
      rw [un_X1_finishSteps]; unfold rw_X1_finishSteps
      by_cases c : S 6 i 2 = 0
      · rw [if_pos c]
        have := fin_cnt (j := i) (p := S 0 0 1) 12 0 0 S (by decide) (by decide)
        rw [z_i] at this
        show 0 ≤ (lp_X1_finishSteps_13 i (S 0 0 1) 12 0 0 S).1.toInt ∧ (lp_X1_finishSteps_13 i (S 0 0 1) 12 0 0 S).1.toInt ≤ 12
        exact ⟨this.1, by have := this.2; omega⟩
      · rw [if_neg c]
        show 0 ≤ (0 : Int32).toInt ∧ (0 : Int32).toInt ≤ 12
        decide
    have e : (v + (sp_X1_finishSteps S i (S 0 0 1)).1).toInt = v.toInt + (sp_X1_finishSteps S i (S 0 0 1)).1.toInt := add_i (by omega) (by omega)
    exact ih _ _ _ (by rw [e]; omega) (by rw [e]; omega)
-- steps that begin
theorem JI.begin {t : Int} {j i : Nat} {W : STT} {len t0 : Int32} (h : JI t S j) (hi : i < 12) (hz : S 24 j i = 0) (hl : 1 ≤ len.toInt) (ht : t0.toInt = t) (hs : (S 6 j 1).toInt ≤ t) (hn : ∀ n, n < 12 → qb (S 9 0 i &&& S 6 j 0) n = true → S 24 j n = 2) (hW : ∀ f, f ≠ 13 → W f = S f) : JI t (up3 (up3 (up3 W 26 j i len) 25 j i t0) 24 j i 1) j := by
  have e24 : ∀ a, (up3 (up3 (up3 W 26 j i len) 25 j i t0) 24 j i 1) 24 j a = if a = i then 1 else S 24 j a := fun a => by
    by_cases z : a = i
    · subst z; rw [up3_e, if_pos rfl]
    · rw [up3_i z, if_neg z, up3_f (by decide), up3_f (by decide), hW 24 (by decide)]
  have e25 : ∀ a, (up3 (up3 (up3 W 26 j i len) 25 j i t0) 24 j i 1) 25 j a = if a = i then t0 else S 25 j a := fun a => by
    rw [up3_f (by decide)]
    by_cases z : a = i
    · subst z; rw [up3_e, if_pos rfl]
    · rw [up3_i z, if_neg z, up3_f (by decide), hW 25 (by decide)]
  have e26 : ∀ a, (up3 (up3 (up3 W 26 j i len) 25 j i t0) 24 j i 1) 26 j a = if a = i then len else S 26 j a := fun a => by
    rw [up3_f (by decide), up3_f (by decide)]
    by_cases z : a = i
    · subst z; rw [up3_e, if_pos rfl]
    · rw [up3_i z, if_neg z, hW 26 (by decide)]
  have e6 : (up3 (up3 (up3 W 26 j i len) 25 j i t0) 24 j i 1) 6 = S 6 := by rw [up3_f (by decide), up3_f (by decide), up3_f (by decide), hW 6 (by decide)]
  have e9 : (up3 (up3 (up3 W 26 j i len) 25 j i t0) 24 j i 1) 9 = S 9 := by rw [up3_f (by decide), up3_f (by decide), up3_f (by decide), hW 9 (by decide)]
  have ni : ∀ n, S 24 j n = 2 → ¬ n = i := fun n z y => by rw [y, hz] at z; exact absurd z (by decide)
  intro a ha
  rw [e24 a, e25 a, e26 a, e6, e9]
  obtain ⟨h1, h2, h3⟩ := h a ha
  by_cases z : a = i
  · rw [if_pos z, if_pos z, if_pos z]
    refine ⟨Or.inr (Or.inl rfl), fun _ => ⟨by omega, by omega, hl, fun n hn' hq => ?_⟩, fun y => absurd y (by decide)⟩
    rw [z] at hq
    have h24 := hn n hn' hq
    rw [e24 n, e25 n, e26 n, if_neg (ni n h24), if_neg (ni n h24), if_neg (ni n h24)]
    have := (h n hn').2.2 h24
    exact ⟨h24, by omega⟩
  · rw [if_neg z, if_neg z, if_neg z]
    refine ⟨h1, fun y => ?_, h3⟩
    obtain ⟨y1, y2, y3, y4⟩ := h2 y
    refine ⟨y1, y2, y3, fun n hn' hq => ?_⟩
    obtain ⟨w1, w2⟩ := y4 n hn' hq
    rw [e24 n, e25 n, e26 n, if_neg (ni n w1), if_neg (ni n w1), if_neg (ni n w1)]
    exact ⟨w1, w2⟩
theorem ready_more {j i : Nat} (hi : i < 12) (h : ¬ sp_X5_isReady S j (nI i) = 0) : S 6 j 2 = 0 ∧ (S 6 j 1).toInt ≤ (S 0 0 1).toInt ∧ (S 9 0 i &&& S 6 j 0) &&& (sp_X1_stepsIn S j 2 ^^^ (-1)) = 0 := by
  unfold sp_X5_isReady at h
  by_cases c1 : S 6 j 2 = 0
  · rw [if_pos c1] at h
    by_cases c2 : S 0 0 1 < S 6 j 1
    · rw [if_pos c2] at h; exact absurd rfl h
    · rw [if_neg c2] at h
      rw [Int32.lt_iff_toInt_lt] at c2
      by_cases c3 : sp_X1_isIn S j (nI i) 0 = 0
      · rw [if_pos c3] at h; exact absurd rfl h
      · rw [if_neg c3] at h
        by_cases c4 : sp_X2_needsAreDone S j (nI i) = 0
        · rw [if_pos c4] at h; exact absurd rfl h
        · unfold sp_X2_needsAreDone at c4
          rw [if_neg (q_ge (by omega)), if_pos (lt12 hi), q_cl (by omega)] at c4
          by_cases c5 : (S 9 0 i &&& S 6 j 0) &&& (sp_X1_stepsIn S j 2 ^^^ (-1)) = 0
          · exact ⟨c1, by omega, c5⟩
          · rw [if_neg c5] at c4; exact absurd rfl c4
  · rw [if_neg c1] at h; exact absurd rfl h
theorem RN.of {M : STT} (h : RN M) (hC : RC B D S M) : RN S := h.same hC.rw.r0 hC.rw.r6 hC.rw.r24 hC.rw.r25 hC.rw.r26
theorem beg_lp {j : Nat} : ∀ (k i : Nat) (S : STT), i + k = 12 → RC B D S S → RN S → j < (S 0 0 0).toNatClampNeg → (S 6 j 2 = 0 → JI (S 0 0 1).toInt S j) → RC B D (lp_X5_beginSteps_2 j k i S) (lp_X5_beginSteps_2 j k i S) ∧ RN (lp_X5_beginSteps_2 j k i S) ∧ (∀ f, f ≠ 13 → f ≠ 24 → f ≠ 25 → f ≠ 26 → lp_X5_beginSteps_2 j k i S f = S f) ∧ (∀ a, (a ≠ j ∨ ¬ S 6 a 2 = 0) → lp_X5_beginSteps_2 j k i S 24 a = S 24 a ∧ lp_X5_beginSteps_2 j k i S 25 a = S 25 a ∧ lp_X5_beginSteps_2 j k i S 26 a = S 26 a) ∧ (S 6 j 2 = 0 → JI (S 0 0 1).toInt (lp_X5_beginSteps_2 j k i S) j) := by
  intro k
  induction k with
  | zero => intro i S _ h1 h2 _ h3; exact ⟨h1, h2, fun _ _ _ _ _ => rfl, fun _ _ => ⟨rfl, rfl, rfl⟩, h3⟩
  | succ k ih =>
    intro i S hi hC hN hj hJ
    rw [lp_X5_beginSteps_2]
    by_cases c1 : sp_X5_isReady S j (nI i) = 0
    · rw [if_pos c1]; exact ih _ _ (by omega) hC hN hj hJ
    rw [if_neg c1]
    by_cases c2 : sp_X5_canBegin S j (nI i) = 0
    · rw [if_pos c2]; exact ih _ _ (by omega) hC hN hj hJ
    rw [if_neg c2]
    have h12 : i < 12 := by omega
    obtain ⟨r1, r2⟩ := ready_open h12 c1
    obtain ⟨m1, m2, m3⟩ := ready_more h12 c1
    have v := hC.iv
    have his := v.js j hj i r2
    obtain ⟨M', -, b1, b2, -⟩ := begin_one hC hN hj his c1 c2
    have hdone : ∀ n, n < 12 → qb (S 9 0 i &&& S 6 j 0) n = true → S 24 j n = 2 := fun n hn hq =>
      ((stepsIn_iff S j 2 hn).mp ((allDone_iff S j (lb_mono (lb_and (v.nd i his)) (by omega))).mp m3 n hn hq)).1
    have go : ∀ W : STT, (∀ f, f ≠ 13 → W f = S f) → RC B D (up3 (up3 (up3 W 26 j i (sp_X2_lengthFor W j (nI i))) 25 j i (W 0 0 1)) 24 j i 1) M' → RC B D (lp_X5_beginSteps_2 j k (i + 1) (up3 (up3 (up3 W 26 j i (sp_X2_lengthFor W j (nI i))) 25 j i (W 0 0 1)) 24 j i 1)) (lp_X5_beginSteps_2 j k (i + 1) (up3 (up3 (up3 W 26 j i (sp_X2_lengthFor W j (nI i))) 25 j i (W 0 0 1)) 24 j i 1)) ∧ RN (lp_X5_beginSteps_2 j k (i + 1) (up3 (up3 (up3 W 26 j i (sp_X2_lengthFor W j (nI i))) 25 j i (W 0 0 1)) 24 j i 1)) ∧ (∀ f, f ≠ 13 → f ≠ 24 → f ≠ 25 → f ≠ 26 → lp_X5_beginSteps_2 j k (i + 1) (up3 (up3 (up3 W 26 j i (sp_X2_lengthFor W j (nI i))) 25 j i (W 0 0 1)) 24 j i 1) f = S f) ∧ (∀ a, (a ≠ j ∨ ¬ S 6 a 2 = 0) → lp_X5_beginSteps_2 j k (i + 1) (up3 (up3 (up3 W 26 j i (sp_X2_lengthFor W j (nI i))) 25 j i (W 0 0 1)) 24 j i 1) 24 a = S 24 a ∧ lp_X5_beginSteps_2 j k (i + 1) (up3 (up3 (up3 W 26 j i (sp_X2_lengthFor W j (nI i))) 25 j i (W 0 0 1)) 24 j i 1) 25 a = S 25 a ∧ lp_X5_beginSteps_2 j k (i + 1) (up3 (up3 (up3 W 26 j i (sp_X2_lengthFor W j (nI i))) 25 j i (W 0 0 1)) 24 j i 1) 26 a = S 26 a) ∧ (S 6 j 2 = 0 → JI (S 0 0 1).toInt (lp_X5_beginSteps_2 j k (i + 1) (up3 (up3 (up3 W 26 j i (sp_X2_lengthFor W j (nI i))) 25 j i (W 0 0 1)) 24 j i 1)) j) := by
      intro W hW hR
      have eL : sp_X2_lengthFor W j (nI i) = sp_X2_lengthFor S j (nI i) := lengthFor_cong (by rw [hW 6 (by decide)]) (hW 7 (by decide)) (hW 8 (by decide)) (hW 10 (by decide)) (by rw [hW 24 (by decide)]) (by rw [hW 26 (by decide)]) _
      have e0 : W 0 = S 0 := hW 0 (by decide)
      rw [eL, e0] at hR ⊢
      have hJ2 : JI (S 0 0 1).toInt (up3 (up3 (up3 W 26 j i (sp_X2_lengthFor S j (nI i))) 25 j i (S 0 0 1)) 24 j i 1) j := (hJ m1).begin h12 r1 (length_bd v his r1).1 rfl m2 hdone hW
      have hC2 := hR.self
      have hN2 := b2.of hR
      have rows : ∀ f, f ≠ 13 → f ≠ 24 → f ≠ 25 → f ≠ 26 → (up3 (up3 (up3 W 26 j i (sp_X2_lengthFor S j (nI i))) 25 j i (S 0 0 1)) 24 j i 1) f = S f := fun f f1 f2 f3 f4 => by rw [up3_f f2, up3_f f3, up3_f f4, hW f f1]
      have oth : ∀ a, a ≠ j → (up3 (up3 (up3 W 26 j i (sp_X2_lengthFor S j (nI i))) 25 j i (S 0 0 1)) 24 j i 1) 24 a = S 24 a ∧ (up3 (up3 (up3 W 26 j i (sp_X2_lengthFor S j (nI i))) 25 j i (S 0 0 1)) 24 j i 1) 25 a = S 25 a ∧ (up3 (up3 (up3 W 26 j i (sp_X2_lengthFor S j (nI i))) 25 j i (S 0 0 1)) 24 j i 1) 26 a = S 26 a := fun a ha => ⟨by rw [up3_o ha, up3_f (by decide), up3_f (by decide), hW 24 (by decide)], by rw [up3_f (by decide), up3_o ha, up3_f (by decide), hW 25 (by decide)], by rw [up3_f (by decide), up3_f (by decide), up3_o ha, hW 26 (by decide)]⟩
      generalize (up3 (up3 (up3 W 26 j i (sp_X2_lengthFor S j (nI i))) 25 j i (S 0 0 1)) 24 j i 1) = S2 at hJ2 hC2 hN2 rows oth ⊢
      have e0 := rows 0 (by decide) (by decide) (by decide) (by decide)
      have e6 := rows 6 (by decide) (by decide) (by decide) (by decide)
      obtain ⟨x1, x2, x3, x4, x5⟩ := ih (i + 1) S2 (by omega) hC2 hN2 (by rw [e0]; exact hj) (fun _ => by rw [e0]; exact hJ2)
      rw [e0, e6] at x5
      refine ⟨x1, x2, fun f f1 f2 f3 f4 => (x3 f f1 f2 f3 f4).trans (rows f f1 f2 f3 f4), fun a ha => ?_, x5⟩
      have ha2 : a ≠ j := ha.elim id (fun z y => z (y ▸ m1))
      obtain ⟨y1, y2, y3⟩ := x4 a (Or.inl ha2)
      obtain ⟨w1, w2, w3⟩ := oth a ha2
      exact ⟨y1.trans w1, y2.trans w2, y3.trans w3⟩
    by_cases c3 : S 7 0 i = 1
    · rw [if_pos c3] at b1 ⊢
      refine go _ (fun f hf => ?_) b1
      rw [un_X3_takeOne]; unfold rw_X3_takeOne
      split
      · rfl
      · exact up3_f hf
    · rw [if_neg c3] at b1 ⊢
      exact go S (fun _ _ => rfl) b1
theorem begAll_lp : ∀ (k i : Nat) (S : STT), i + k = (S 0 0 0).toNatClampNeg → RC B D S S → RN S → JA (S 0 0 1).toInt S → RC B D (lp_X5_day_76 k i S) (lp_X5_day_76 k i S) ∧ RN (lp_X5_day_76 k i S) ∧ (∀ f, f ≠ 13 → f ≠ 24 → f ≠ 25 → f ≠ 26 → lp_X5_day_76 k i S f = S f) ∧ (∀ a, ¬ S 6 a 2 = 0 → lp_X5_day_76 k i S 24 a = S 24 a) ∧ JA (S 0 0 1).toInt (lp_X5_day_76 k i S) := by
  intro k
  induction k with
  | zero => intro i S _ h1 h2 h3; exact ⟨h1, h2, fun _ _ _ _ _ => rfl, fun _ _ => rfl, h3⟩
  | succ k ih =>
    intro i S hi hC hN hJ
    show RC B D (lp_X5_day_76 k (i + 1) (sp_X5_beginSteps S i)) (lp_X5_day_76 k (i + 1) (sp_X5_beginSteps S i)) ∧ RN (lp_X5_day_76 k (i + 1) (sp_X5_beginSteps S i)) ∧ (∀ f, f ≠ 13 → f ≠ 24 → f ≠ 25 → f ≠ 26 → lp_X5_day_76 k (i + 1) (sp_X5_beginSteps S i) f = S f) ∧ (∀ a, ¬ S 6 a 2 = 0 → lp_X5_day_76 k (i + 1) (sp_X5_beginSteps S i) 24 a = S 24 a) ∧ JA (S 0 0 1).toInt (lp_X5_day_76 k (i + 1) (sp_X5_beginSteps S i))
    obtain ⟨x1, x2, x3, x4, x5⟩ := beg_lp (j := i) 12 0 S (by omega) hC hN (by omega) (fun hl => hJ i (by omega) hl)
    have e : sp_X5_beginSteps S i = lp_X5_beginSteps_2 i 12 0 S := by rw [un_X5_beginSteps]; rfl
    rw [e]
    generalize lp_X5_beginSteps_2 i 12 0 S = S2 at x1 x2 x3 x4 x5 ⊢
    have e0 := x3 0 (by decide) (by decide) (by decide) (by decide)
    have e6 := x3 6 (by decide) (by decide) (by decide) (by decide)
    have hJ2 : JA (S2 0 0 1).toInt S2 := fun j hj hl => by
      rw [e0] at hj ⊢
      rw [e6] at hl
      by_cases z : j = i
      · subst z; exact x5 hl
      · obtain ⟨y1, y2, y3⟩ := x4 j (Or.inl z)
        exact (hJ j hj hl).same (by rw [e6]) (x3 9 (by decide) (by decide) (by decide) (by decide)) y1 y2 y3
    obtain ⟨y1, y2, y3, y4, y5⟩ := ih (i + 1) S2 (by rw [e0]; omega) x1 x2 hJ2
    rw [e0] at y5
    exact ⟨y1, y2, fun f f1 f2 f3 f4 => (y3 f f1 f2 f3 f4).trans (x3 f f1 f2 f3 f4), fun a ha => (y4 a (by rw [e6]; exact ha)).trans (x4 a (Or.inr ha)).1, y5⟩
end P24B
