section P24F
variable {B D r : Nat} {S T M : STT}
/-- what is told of a step of one who is there -/
def FO (S : STT) (j k : Nat) : Prop :=
  (BX S j k = -1 ∧ EX S j k = -1 ∧ S 24 j k = 0) ∨
  (0 ≤ (BX S j k).toInt ∧ 0 ≤ (EX S j k).toInt ∧ EX S j k = BX S j k + sp_X2_lengthFor S j (nI k) - 1 ∧ (S 6 j 1).toInt ≤ (BX S j k).toInt ∧ (S 24 j k = 0 ∧ (S 0 0 1).toInt < (BX S j k).toInt ∨ S 24 j k = 1 ∧ (BX S j k).toInt ≤ (S 0 0 1).toInt ∧ (S 0 0 1).toInt ≤ (EX S j k).toInt ∨ S 24 j k = 2 ∧ (EX S j k).toInt < (S 0 0 1).toInt) ∧ ∀ n, n < k → qb (S 9 0 k &&& S 6 j 0) n = true → 0 ≤ (EX S j n).toInt ∧ (EX S j n).toInt < (BX S j k).toInt)
theorem qb_l {a b : Int32} {n : Nat} (h : qb (a &&& b) n = true) : qb a n = true := by
  rw [qb_and] at h
  cases c : qb a n
  · rw [c] at h; exact nomatch h
  · rfl
theorem qb_r {a b : Int32} {n : Nat} (h : qb (a &&& b) n = true) : qb b n = true := by
  rw [qb_and] at h
  cases c : qb b n
  · rw [c, Bool.and_false] at h; exact nomatch h
  · rfl
theorem fp_of (hr : r ≤ 512) (h : RLn r S M) (n : NI S) {j k : Nat} (hj : j < (S 0 0 0).toNatClampNeg) (hl : S 6 j 2 = 0) (hk : k < 12) : FP S (sp_X0_foresee S j (S 0 0 1) (-1) 0) j 100000 k :=
  fp_all h.c.self (by omega) hj hl (n.2.2.2.1 j hj) n.2.2.2.2 hk
theorem begun_end (hr : r ≤ 512) (h : RLn r S M) (n : NI S) {j k : Nat} (hj : j < (S 0 0 0).toNatClampNeg) (hl : S 6 j 2 = 0) (hk : k < 12) (hs : ¬ S 24 j k = 0) : BX S j k = S 25 j k ∧ EX S j k = S 25 j k + S 26 j k - 1 ∧ (EX S j k).toInt = (S 25 j k).toInt + (S 26 j k).toInt - 1 ∧ 0 ≤ (S 25 j k).toInt ∧ 1 ≤ (S 26 j k).toInt := by
  have hC := h.c.self
  have v := hC.iv
  obtain ⟨-, -, -, f4, -⟩ := fp_of hr h n hj hl hk
  obtain ⟨e1, e2⟩ := f4 (v.ss j hj k hk hs) hs
  have b0 := v.bg j hj k hk
  have b1 := hC.bh j hj k hk
  have l1 := hC.lh j hj k hk
  have a1 : (S 25 j k + S 26 j k).toInt = (S 25 j k).toInt + (S 26 j k).toInt := add_i (by omega) (by omega)
  have j1 := ((n.1 j hj hl k hk).2.1 hs).2.2.1
  have eE : EX S j k = S 25 j k + S 26 j k - 1 := e2
  exact ⟨e1, e2, by rw [eE, dec_i (by omega), a1], b0, j1⟩
theorem fair_o (hr : r ≤ 512) (h : RLn r S M) (n : NI S) {j k : Nat} (hj : j < (S 0 0 0).toNatClampNeg) (hl : S 6 j 2 = 0) (hk : k < 12) (hq : qb (S 6 j 0) k = true) : FO S j k := by
  have hC := h.c.self
  have v := hC.iv
  have hks := v.js j hj k hq
  obtain ⟨f1, f2, f3, f4, f5⟩ := fp_of hr h n hj hl hk
  obtain ⟨j1, j2, j3⟩ := n.1 j hj hl k hk
  have eB : sp_X0_foresee S j (S 0 0 1) (-1) 0 22 0 k = BX S j k := rfl
  have eE : ∀ k, sp_X0_foresee S j (S 0 0 1) (-1) 0 23 0 k = EX S j k := fun _ => rfl
  by_cases z : S 24 j k = 0
  · rcases f5 hq z with ⟨g1, g2⟩ | ⟨g1, g2, g3, g4, g5⟩
    · exact Or.inl ⟨g1, g2, z⟩
    · rw [eB] at g1 g2 g3 g4
      rw [eE] at g1 g4
      have t0 := v.t0
      refine Or.inr ⟨by omega, by omega, g1, g3, Or.inl ⟨z, g2⟩, fun m hm hq2 => ?_⟩
      obtain ⟨w1, w2⟩ := g5 m hm hq2
      obtain ⟨-, y2, -, -, -⟩ := fp_of hr h n hj hl (show m < 12 by omega)
      rw [eE] at w1 w2 y2
      rw [eB] at w2
      have : (EX S j m).toInt ≠ -1 := fun q => w1 (Int32.toInt_inj.mp q)
      omega
  · obtain ⟨b1, b2, b3, b4, b5⟩ := begun_end hr h n hj hl hk z
    obtain ⟨i1, i2, i3, i4⟩ := j2 z
    have el : sp_X2_lengthFor S j (nI k) = S 26 j k := by
      unfold sp_X2_lengthFor
      rw [if_neg (q_ge (by omega)), if_pos (lt12 hk), q_cl (by omega), if_neg z]
    refine Or.inr ⟨by rw [b1]; exact b4, by rw [b3]; omega, by rw [b2, b1, el], by rw [b1]; exact i1, ?_, fun m hm hq2 => ?_⟩
    · rcases j1 with y | y | y
      · exact absurd y z
      · refine Or.inr (Or.inl ⟨y, by rw [b1]; exact i2, ?_⟩)
        have rn := RN.of h.2.2 h.c j hj hl k hk y
        rw [b3]; omega
      · refine Or.inr (Or.inr ⟨y, ?_⟩)
        have := j3 y
        rw [b3]; omega
    · obtain ⟨w1, w2⟩ := i4 m (by omega) hq2
      obtain ⟨y1, y2, y3, y4, y5⟩ := begun_end hr h n hj hl (show m < 12 by omega) (by rw [w1]; decide)
      rw [y3, b1]; omega
theorem fair_n (hr : r ≤ 512) (h : RLn r S M) (n : NI S) {j k : Nat} (hj : j < (S 0 0 0).toNatClampNeg) (hk : k < 12) (hq : ¬ qb (S 6 j 0) k = true ∨ ¬ S 6 j 2 = 0) : BX S j k = -1 ∧ EX S j k = -1 := by
  by_cases hl : S 6 j 2 = 0
  · obtain ⟨-, -, f3, -, -⟩ := fp_of hr h n hj hl hk
    exact f3 (hq.resolve_right (fun z => z hl))
  · have e : S 0 0 1 = M 0 0 1 := by rw [h.c.rw.r0]
    obtain ⟨⟨-, -, a2⟩, -⟩ := fore h (q := j) (by rw [← h.c.rw.r0]; exact hj)
    have x := a2 (by rw [← h.c.rw.r6]; exact hl) k hk
    rw [← e] at x
    exact x
-- the last end
noncomputable def GR (S : STT) (j : Nat) : Nat → Int32
  | 0 => -1
  | k + 1 => if qb (S 6 j 0) k = true then (if GR S j k < EX S j k then EX S j k else GR S j k) else GR S j k
noncomputable def KW (S : STT) (j : Nat) : Nat → Int32
  | 0 => 1
  | k + 1 => if qb (S 6 j 0) k = true then KW S j k &&& (if EX S j k < 0 then 0 else 1) else KW S j k
theorem KW_01 (S : STT) (j : Nat) : ∀ k, KW S j k = 0 ∨ KW S j k = 1 := by
  intro k
  induction k with
  | zero => exact Or.inr rfl
  | succ k ih =>
    unfold KW
    by_cases c : qb (S 6 j 0) k = true
    · rw [if_pos c]
      by_cases d : EX S j k < 0
      · rw [if_pos d]; exact Or.inl (by rcases ih with z | z <;> rw [z] <;> decide)
      · rw [if_neg d]; rcases ih with z | z <;> rw [z]
        · exact Or.inl (by decide)
        · exact Or.inr (by decide)
    · rw [if_neg c]; exact ih
theorem KW_z {S : STT} {j : Nat} : ∀ {k n : Nat}, k ≤ n → KW S j k = 0 → KW S j n = 0 := by
  intro k n h
  induction n with
  | zero => intro z; obtain rfl : k = 0 := by omega
            exact z
  | succ n ih =>
    intro z
    by_cases c : k = n + 1
    · rw [← c]; exact z
    · have := ih (by omega) z
      unfold KW
      by_cases d : qb (S 6 j 0) n = true
      · rw [if_pos d, this]
        by_cases e : EX S j n < 0
        · rw [if_pos e]; decide
        · rw [if_neg e]; decide
      · rw [if_neg d]; exact this
theorem ge_law {U : STT} {j : Nat} (hU : ∀ k, k < 12 → U 23 0 k = EX S j k) (hneg : ∀ k, k < 12 → EX S j k < 0 → EX S j k = -1) : ∀ (k i : Nat), i + k = 12 → KW S j i = 1 → lp_X0_greatestEnd_4 U (S 6 j 0) k i (GR S j i) = if KW S j 12 = 0 then -1 else GR S j 12 := by
  intro k
  induction k with
  | zero =>
    intro i hi hw
    obtain rfl : i = 12 := by omega
    rw [hw, if_neg (by decide)]; rfl
  | succ k ih =>
    intro i hi hw
    have h12 : i < 12 := by omega
    rw [lp_X0_greatestEnd_4, hU i h12]
    by_cases c : qb (S 6 j 0) i = true
    · rw [if_neg (fun z => (has_zero (by omega)).mp z c)]
      by_cases d : EX S j i = -1
      · rw [if_pos d]
        have : KW S j (i + 1) = 0 := by
          show (if qb (S 6 j 0) i = true then KW S j i &&& (if EX S j i < 0 then 0 else 1) else KW S j i) = 0
          rw [if_pos c, d, if_pos (by decide), hw]; decide
        rw [if_pos (KW_z (by omega) this)]
      · rw [if_neg d]
        have hn : ¬ EX S j i < 0 := fun z => d (hneg i h12 z)
        have e1 : (if GR S j i < EX S j i then EX S j i else GR S j i) = GR S j (i + 1) := by
          show _ = (if qb (S 6 j 0) i = true then (if GR S j i < EX S j i then EX S j i else GR S j i) else GR S j i)
          rw [if_pos c]
        rw [e1]
        refine ih (i + 1) (by omega) ?_
        show (if qb (S 6 j 0) i = true then KW S j i &&& (if EX S j i < 0 then 0 else 1) else KW S j i) = 1
        rw [if_pos c, if_neg hn, hw]; decide
    · rw [if_pos ((has_zero (by omega)).mpr c)]
      have e1 : GR S j i = GR S j (i + 1) := by
        show _ = (if qb (S 6 j 0) i = true then (if GR S j i < EX S j i then EX S j i else GR S j i) else GR S j i)
        rw [if_neg c]
      rw [e1]
      refine ih (i + 1) (by omega) ?_
      show (if qb (S 6 j 0) i = true then KW S j i &&& (if EX S j i < 0 then 0 else 1) else KW S j i) = 1
      rw [if_neg c, hw]
theorem GR_stop {j m : Nat} (h : lb (S 6 j 0) m) : ∀ d, GR S j (m + d) = GR S j m ∧ KW S j (m + d) = KW S j m := by
  intro d
  induction d with
  | zero => exact ⟨rfl, rfl⟩
  | succ d ih =>
    have c : ¬ qb (S 6 j 0) (m + d) = true := fun z => by have := h _ z; omega
    refine ⟨?_, ?_⟩
    · show (if qb (S 6 j 0) (m + d) = true then (if GR S j (m + d) < EX S j (m + d) then EX S j (m + d) else GR S j (m + d)) else GR S j (m + d)) = _
      rw [if_neg c, ih.1]
    · show (if qb (S 6 j 0) (m + d) = true then KW S j (m + d) &&& (if EX S j (m + d) < 0 then 0 else 1) else KW S j (m + d)) = _
      rw [if_neg c, ih.2]
theorem ge_fair (hr : r ≤ 512) (h : RLn r S M) (n : NI S) {j : Nat} (hj : j < (S 0 0 0).toNatClampNeg) (hl : S 6 j 2 = 0) : sp_X0_greatestEnd (sp_X0_foresee S j (S 0 0 1) (-1) 0) (S 6 j 0) = if KW S j (S 1 0 0).toNatClampNeg = 0 then -1 else GR S j (S 1 0 0).toNatClampNeg := by
  have hC := h.c.self
  have v := hC.iv
  have hm := v.m12
  have e := ge_law (S := S) (j := j) (U := sp_X0_foresee S j (S 0 0 1) (-1) 0) (fun _ _ => rfl) (fun k hk hneg => by
    obtain ⟨-, y2, -, -, -⟩ := fp_of hr h n hj hl hk
    have y2 : (EX S j k).toInt ≤ 100000 + 14 * k + 12 ∧ -1 ≤ (EX S j k).toInt := y2
    rw [Int32.lt_iff_toInt_lt, z_i] at hneg
    exact Int32.toInt_inj.mp (by rw [m1_i]; omega)) 12 0 (by omega) rfl
  obtain ⟨s1, s2⟩ := GR_stop (S := S) (v.js j hj) (12 - (S 1 0 0).toNatClampNeg)
  rw [show (S 1 0 0).toNatClampNeg + (12 - (S 1 0 0).toNatClampNeg) = 12 by omega] at s1 s2
  rw [← s1, ← s2]
  exact e
-- what is done
noncomputable def DN (S : STT) (j : Nat) : Nat → Int32
  | 0 => 0
  | k + 1 => if qb (S 6 j 0) k = true then DN S j k ||| (if S 24 j k = 2 then 1 <<< (nI k &&& 31) else 0) else DN S j k
theorem DN_qb (S : STT) (j : Nat) {b : Nat} (hb : b < 32) : ∀ k, k ≤ 32 → qb (DN S j k) b = (decide (b < k) && decide (S 24 j b = 2) && qb (S 6 j 0) b) := by
  intro k
  induction k with
  | zero => intro _; show qb 0 b = _; rw [qb_zero]; rfl
  | succ k ih =>
    intro hk
    have ih := ih (by omega)
    unfold DN
    by_cases z : b = k
    · subst z
      have e0 : qb (DN S j b) b = false := by rw [ih, decide_eq_false (Nat.lt_irrefl b)]; rfl
      rw [decide_eq_true (Nat.lt_succ_self b), Bool.true_and]
      by_cases c : qb (S 6 j 0) b = true
      · rw [if_pos c, c, Bool.and_true, qb_or, e0, Bool.false_or]
        by_cases d : S 24 j b = 2
        · rw [if_pos d, qb_one_lt (by omega) hb, decide_eq_true (rfl : b = b), decide_eq_true d]
        · rw [if_neg d, qb_zero, decide_eq_false d]
      · rw [if_neg c, e0]
        cases q : qb (S 6 j 0) b
        · rw [Bool.and_false]
        · exact absurd q c
    · have e1 : decide (b < k + 1) = decide (b < k) := decide_eq_decide.mpr (by omega)
      rw [e1]
      by_cases c : qb (S 6 j 0) k = true
      · rw [if_pos c, qb_or, ih]
        by_cases d : S 24 j k = 2
        · rw [if_pos d, qb_one_lt (by omega) hb, decide_eq_false z, Bool.or_false]
        · rw [if_neg d, qb_zero, Bool.or_false]
      · rw [if_neg c, ih]
theorem DN_eq (hC : RC B D S S) {j : Nat} (hj : j < (S 0 0 0).toNatClampNeg) : DN S j (S 1 0 0).toNatClampNeg = sp_X1_stepsIn S j 2 := by
  have hm := hC.iv.m12
  apply qb_ext
  intro i hi
  rw [DN_qb S j hi _ (by omega), stepsIn_qb S j 2 hi]
  cases q : qb (S 6 j 0) i
  · rw [Bool.and_false, Bool.and_false]
  · have := hC.iv.js j hj i q
    rw [decide_eq_true this, decide_eq_true (show i < 12 by omega)]
-- the rights
noncomputable def RT (st : Nat → Int32) (d : Int32) : Nat → Int32
  | 0 => 0
  | k + 1 => RT st d k ||| (if st k &&& (d ^^^ (-1)) = 0 then 1 <<< (nI k &&& 31) else 0)
theorem or_z (a : Int32) : a ||| 0 = a := by
  apply qb_ext
  intro i hi
  rw [qb_or, qb_zero, Bool.or_false]
theorem RT_eq {st : Nat → Int32} {j : Nat} : ∀ (k i : Nat), (∀ a, a < i + k → st a = S 12 0 a) → lp_X2_rightsOf_11 S j k i (RT st (sp_X1_stepsIn S j 2) i) = RT st (sp_X1_stepsIn S j 2) (i + k) := by
  intro k
  induction k with
  | zero => intro i _; rfl
  | succ k ih =>
    intro i h
    rw [lp_X2_rightsOf_11, ← h i (by omega)]
    have e : (if st i &&& (sp_X1_stepsIn S j 2 ^^^ (-1)) = 0 then lp_X2_rightsOf_11 S j k (i + 1) (RT st (sp_X1_stepsIn S j 2) i ||| 1 <<< (nI i &&& 31)) else lp_X2_rightsOf_11 S j k (i + 1) (RT st (sp_X1_stepsIn S j 2) i)) = lp_X2_rightsOf_11 S j k (i + 1) (RT st (sp_X1_stepsIn S j 2) (i + 1)) := by
      show _ = lp_X2_rightsOf_11 S j k (i + 1) (RT st (sp_X1_stepsIn S j 2) i ||| (if st i &&& (sp_X1_stepsIn S j 2 ^^^ (-1)) = 0 then 1 <<< (nI i &&& 31) else 0))
      by_cases c : st i &&& (sp_X1_stepsIn S j 2 ^^^ (-1)) = 0
      · rw [if_pos c, if_pos c]
      · rw [if_neg c, if_neg c, or_z]
    rw [e, ih (i + 1) (fun a ha => h a (by omega)), show i + 1 + k = i + (k + 1) by omega]
theorem rights_fair {st : Nat → Int32} {j : Nat} (h : ∀ a, a < (S 1 0 1).toNatClampNeg → st a = S 12 0 a) : sp_X2_rightsOf S j = RT st (sp_X1_stepsIn S j 2) (S 1 0 1).toNatClampNeg := by
  unfold sp_X2_rightsOf
  have := RT_eq (S := S) (st := st) (j := j) (S 1 0 1).toNatClampNeg 0 (fun a ha => h a (by omega))
  rw [Nat.zero_add] at this
  exact this
end P24F
