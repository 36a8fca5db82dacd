section P24Q
variable {r : Nat} {S T M : STT}
theorem and1 (x : Int32) : x &&& 1 = 0 ∨ x &&& 1 = 1 := by
  have a : x &&& 1 = if qb x 0 = true then 1 else 0 := by
    apply qb_ext
    intro k hk
    rw [qb_and]
    have b : qb 1 k = decide (k = 0) := by revert hk; revert k; decide
    rw [b]
    by_cases z : k = 0
    · subst z
      cases c : qb x 0
      · rw [if_neg (by decide), qb_zero]; rfl
      · rw [if_pos rfl]; rfl
    · rw [decide_eq_false z, Bool.and_false]
      by_cases c : qb x 0 = true
      · rw [if_pos c, b, decide_eq_false z]
      · rw [if_neg c, qb_zero]
  rw [a]
  by_cases c : qb x 0 = true
  · rw [if_pos c]; exact Or.inr rfl
  · rw [if_neg c]; exact Or.inl rfl
theorem bit_1 {p : Int32} {i : Nat} (hi : i < 32) : (p >>> (nI i &&& 31)) &&& 1 = 1 ↔ qb p i = true := by
  rcases and1 (p >>> (nI i &&& 31)) with z | z
  · exact ⟨fun y => by rw [z] at y; exact absurd y (by decide), fun y => absurd y ((bit_z hi).mp z)⟩
  · exact ⟨fun _ => Classical.byContradiction fun y => by have := (bit_z hi).mpr y; rw [z] at this; exact absurd this (by decide), fun _ => z⟩
theorem rights_lp (S : STT) (j : Nat) {q : Nat} (hq : q < 32) : ∀ (k i : Nat) (v : Int32), i + k ≤ 32 → (qb (lp_X2_rightsOf_11 S j k i v) q = true ↔ qb v q = true ∨ (i ≤ q ∧ q < i + k ∧ S 12 0 q &&& (sp_X1_stepsIn S j 2 ^^^ (-1)) = 0)) := by
  intro k
  induction k with
  | zero => intro i v _; exact ⟨Or.inl, fun z => z.resolve_right (fun y => by obtain ⟨y1, y2, -⟩ := y; omega)⟩
  | succ k ih =>
    intro i v h
    rw [lp_X2_rightsOf_11]
    by_cases c : S 12 0 i &&& (sp_X1_stepsIn S j 2 ^^^ (-1)) = 0
    · have hb := qb_one_lt (i := i) (k := q) (by omega) hq
      rw [if_pos c, ih _ _ (by omega), qb_or, hb]
      by_cases y : q = i
      · subst y
        rw [decide_eq_true rfl, Bool.or_true]
        exact ⟨fun _ => Or.inr ⟨Nat.le_refl _, by omega, c⟩, fun _ => Or.inl rfl⟩
      · rw [decide_eq_false y, Bool.or_false]
        exact ⟨fun z => z.imp id (fun ⟨z1, z2, z3⟩ => ⟨by omega, by omega, z3⟩), fun z => z.imp id (fun ⟨z1, z2, z3⟩ => ⟨by omega, by omega, z3⟩)⟩
    · rw [if_neg c, ih _ _ (by omega)]
      refine ⟨fun z => z.imp id (fun ⟨z1, z2, z3⟩ => ⟨by omega, by omega, z3⟩), fun z => z.imp id (fun ⟨z1, z2, z3⟩ => ⟨?_, by omega, z3⟩)⟩
      by_cases y : q = i
      · subst y; exact absurd z3 c
      · omega
theorem right_qb {j q : Nat} (hq : q < (S 1 0 1).toNatClampNeg) (h6 : (S 1 0 1).toNatClampNeg ≤ 6) : qb (sp_X2_rightsOf S j) q = true ↔ S 12 0 q &&& (sp_X1_stepsIn S j 2 ^^^ (-1)) = 0 := by
  unfold sp_X2_rightsOf
  rw [rights_lp S j (by omega) _ 0 0 (by omega), qb_zero]
  exact ⟨fun z => z.elim (fun y => nomatch y) (fun y => y.2.2), fun z => Or.inr ⟨Nat.zero_le _, by omega, z⟩⟩
theorem all_in {a b : Int32} (h : a &&& (b ^^^ (-1)) = 0) {k : Nat} (hk : k < 12) (c : qb a k = true) : qb b k = true := by
  have z := qb_nil.mp h k (by omega)
  rw [qb_and, qb_not _ (by omega), c, Bool.true_and] at z
  cases d : qb b k
  · rw [d] at z; exact nomatch z
  · rfl
theorem gE {U : STT} {p : Int32} {E : Nat → Int32} (hU : ∀ k, k < 12 → U 23 0 k = E k) (hE : ∀ k, k < 12 → -1 ≤ (E k).toInt) : ∀ (k i : Nat) (v : Int32), i + k = 12 → -1 ≤ v.toInt → lp_X0_greatestEnd_4 U p k i v = -1 ∨ ((∀ a, i ≤ a → a < 12 → qb p a = true → ¬ E a = -1 ∧ (E a).toInt ≤ (lp_X0_greatestEnd_4 U p k i v).toInt) ∧ v.toInt ≤ (lp_X0_greatestEnd_4 U p k i v).toInt ∧ (lp_X0_greatestEnd_4 U p k i v = v ∨ ∃ a, i ≤ a ∧ a < 12 ∧ qb p a = true ∧ lp_X0_greatestEnd_4 U p k i v = E a)) := by
  intro k
  induction k with
  | zero =>
    intro i v hi hv
    exact Or.inr ⟨fun a h1 h2 _ => by omega, Int.le_refl _, Or.inl rfl⟩
  | succ k ih =>
    intro i v hi hv
    rw [lp_X0_greatestEnd_4, hU i (by omega)]
    by_cases c : qb p i = true
    · rw [if_neg (fun z => (has_zero (by omega)).mp z c)]
      by_cases d : E i = -1
      · rw [if_pos d]; exact Or.inl rfl
      · rw [if_neg d]
        by_cases m : v < E i
        · rw [if_pos m]
          rw [Int32.lt_iff_toInt_lt] at m
          rcases ih (i + 1) (E i) (by omega) (hE i (by omega)) with z | ⟨z1, z2, z3⟩
          · exact Or.inl z
          · refine Or.inr ⟨fun a h1 h2 h3 => ?_, by omega, ?_⟩
            · by_cases y : a = i
              · subst y; exact ⟨d, z2⟩
              · exact z1 a (by omega) h2 h3
            · rcases z3 with y | ⟨a, a1, a2, a3, a4⟩
              · exact Or.inr ⟨i, Nat.le_refl _, by omega, c, y⟩
              · exact Or.inr ⟨a, by omega, a2, a3, a4⟩
        · rw [if_neg m]
          rw [Int32.lt_iff_toInt_lt] at m
          rcases ih (i + 1) v (by omega) hv with z | ⟨z1, z2, z3⟩
          · exact Or.inl z
          · refine Or.inr ⟨fun a h1 h2 h3 => ?_, z2, ?_⟩
            · by_cases y : a = i
              · subst y; exact ⟨d, by omega⟩
              · exact z1 a (by omega) h2 h3
            · rcases z3 with y | ⟨a, a1, a2, a3, a4⟩
              · exact Or.inl y
              · exact Or.inr ⟨a, by omega, a2, a3, a4⟩
    · rw [if_pos ((has_zero (by omega)).mpr c)]
      rcases ih (i + 1) v (by omega) hv with z | ⟨z1, z2, z3⟩
      · exact Or.inl z
      · refine Or.inr ⟨fun a h1 h2 h3 => ?_, z2, ?_⟩
        · by_cases y : a = i
          · subst y; exact absurd h3 c
          · exact z1 a (by omega) h2 h3
        · rcases z3 with y | ⟨a, a1, a2, a3, a4⟩
          · exact Or.inl y
          · exact Or.inr ⟨a, by omega, a2, a3, a4⟩
theorem ex_lo (hr : r ≤ 512) (h : RLn r S M) (n : NI S) {j k : Nat} (hj : j < (S 0 0 0).toNatClampNeg) (hk : k < 12) : -1 ≤ (EX S j k).toInt ∧ (EX S j k).toInt ≤ 200000 := by
  by_cases hl : S 6 j 2 = 0
  · obtain ⟨-, y2, -, -, -⟩ := fp_of hr h n hj hl hk
    have y2 : (EX S j k).toInt ≤ 100000 + 14 * k + 12 ∧ -1 ≤ (EX S j k).toInt := y2
    omega
  · rw [(fair_n hr h n hj hk (Or.inr hl)).2, m1_i]; omega
theorem ex_own (hr : r ≤ 512) (h : RLn r S M) (n : NI S) {j k : Nat} (hj : j < (S 0 0 0).toNatClampNeg) (hk : k < 12) (hE : ¬ EX S j k = -1) : qb (S 6 j 0) k = true ∧ S 6 j 2 = 0 :=
  ⟨Classical.byContradiction fun z => hE (fair_n hr h n hj hk (Or.inl z)).2, Classical.byContradiction fun z => hE (fair_n hr h n hj hk (Or.inr z)).2⟩
theorem ex_done (hr : r ≤ 512) (h : RLn r S M) (n : NI S) {j k : Nat} (hj : j < (S 0 0 0).toNatClampNeg) (hk : k < 12) (hE : ¬ EX S j k = -1) : S 24 j k = 2 ↔ (EX S j k).toInt < (S 0 0 1).toInt := by
  obtain ⟨hq, hl⟩ := ex_own hr h n hj hk hE
  obtain ⟨-, -, -, -, f5⟩ := fp_of hr h n hj hl hk
  rcases fair_o hr h n hj hl hk hq with ⟨-, z, -⟩ | ⟨a1, a2, a3, a4, a5, -⟩
  · exact absurd z hE
  · rcases a5 with ⟨b1, b2⟩ | ⟨b1, b2, b3⟩ | ⟨b1, b2⟩
    · rcases f5 hq b1 with ⟨-, g2⟩ | ⟨-, g2, -, g4, -⟩
      · exact absurd g2 hE
      · have g2 : (S 0 0 1).toInt < (BX S j k).toInt := g2
        have g4 : (BX S j k).toInt ≤ (EX S j k).toInt := g4
        rw [b1]
        exact ⟨fun z => absurd z (by decide), fun z => by omega⟩
    · rw [b1]
      exact ⟨fun z => absurd z (by decide), fun z => by omega⟩
    · exact ⟨fun _ => b2, fun _ => b1⟩
/-- what rightOn tells -/
theorem right_law (hr : r ≤ 512) (h : RLn r S M) (n : NI S) {j q : Nat} (hj : j < (S 0 0 0).toNatClampNeg) (hq : q < (S 1 0 1).toNatClampNeg) {on : Int32} (e : sp_X0_dayBehind (sp_X0_foresee S j (S 0 0 1) (-1) 0) (S 12 0 q) = on) (h0 : ¬ on < 0) : S 12 0 q &&& (S 6 j 0 ^^^ (-1)) = 0 ∧ ((sp_X2_rightsOf S j >>> (nI q &&& 31)) &&& 1 = 1 ↔ ¬ S 0 0 1 < on) := by
  have v := h.c.self.iv
  have hp12 : lb (S 12 0 q) 12 := lb_mono (v.rt q hq) v.m12
  have hr6 := v.r6
  have g := gE (U := sp_X0_foresee S j (S 0 0 1) (-1) 0) (p := S 12 0 q) (E := EX S j) (fun _ _ => rfl) (fun k hk => (ex_lo hr h n hj hk).1) 12 0 (-1) rfl (by rw [m1_i]; omega)
  unfold sp_X0_dayBehind at e
  have eG : sp_X0_greatestEnd (sp_X0_foresee S j (S 0 0 1) (-1) 0) (S 12 0 q) = lp_X0_greatestEnd_4 (sp_X0_foresee S j (S 0 0 1) (-1) 0) (S 12 0 q) 12 0 (-1) := rfl
  rw [eG] at e
  generalize lp_X0_greatestEnd_4 (sp_X0_foresee S j (S 0 0 1) (-1) 0) (S 12 0 q) 12 0 (-1) = G at g e
  by_cases c : G = -1
  · rw [if_pos c] at e
    rw [← e] at h0
    exact absurd (by decide) h0
  rw [if_neg c] at e
  rcases g with g | ⟨g1, -, g3⟩
  · exact absurd g c
  rcases g3 with g3 | ⟨a, -, a1, a2, a3⟩
  · exact absurd g3 c
  obtain ⟨l1, l2⟩ := ex_lo hr h n hj a1
  rw [← a3] at l1 l2
  have eo : on.toInt = G.toInt + 1 := by rw [← e]; exact add_i (by rw [one_i]; omega) (by rw [one_i]; omega)
  have ho : ∀ k, k < 12 → qb (S 12 0 q) k = true → qb (S 6 j 0) k = true := fun k hk hqk => (ex_own hr h n hj hk (g1 k (Nat.zero_le k) hk hqk).1).1
  refine ⟨Classical.byContradiction fun z => ?_, ?_⟩
  · obtain ⟨k, k1, k2, k3⟩ := not_all hp12 z
    exact k3 (ho k k1 k2)
  · rw [bit_1 (by omega), right_qb hq hr6, Int32.lt_iff_toInt_lt, eo]
    constructor
    · intro z
      have y := all_in z a1 a2
      have w := (ex_done hr h n hj a1 (g1 a (Nat.zero_le a) a1 a2).1).mp ((stepsIn_iff S j 2 a1).mp y).1
      rw [a3]; omega
    · intro z
      refine Classical.byContradiction fun y => ?_
      obtain ⟨k, k1, k2, k3⟩ := not_all hp12 y
      obtain ⟨w1, w2⟩ := g1 k (Nat.zero_le k) k1 k2
      exact k3 ((stepsIn_iff S j 2 k1).mpr ⟨(ex_done hr h n hj k1 w1).mpr (by omega), ho k k1 k2⟩)
theorem lg_same (x : Int64) : lg_cmp x x = 0 := (lg_cmp_eq x x).mpr rfl
end P24Q
