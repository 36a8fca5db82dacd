section PLAINE
theorem next_lp {M : STT} (hv : IV M) {j : Nat} (hj : j < (M 0 0 0).toNatClampNeg) (hl : M 6 j 2 = 0) : ∀ (k i : Nat), i + k = (M 1 0 0).toNatClampNeg → lp_X10_nextNow_2 M j k i = some (lp_X5_nextStep_11 M j (12 - i) i) := by
  have hm := hv.m12
  have tail : ∀ (k i : Nat), (M 1 0 0).toNatClampNeg ≤ i → i + k ≤ 12 → lp_X5_nextStep_11 M j k i = -1 := by
    intro k
    induction k with
    | zero => intro i h h2; rfl
    | succ k ih =>
      intro i h h2
      show (if sp_X1_isIn M j (nI i) 0 = 0 then (if sp_X1_isIn M j (nI i) 1 = 0 then (lp_X5_nextStep_11 M j k (i + 1)) else _) else _) = _
      rw [if_pos ((isIn_zero (by omega)).mpr fun z => by have := stepsIn_known hv hj z; omega), if_pos ((isIn_zero (by omega)).mpr fun z => by have := stepsIn_known hv hj z; omega)]
      exact ih _ (by omega) (by omega)
  intro k
  induction k with
  | zero => intro i h; rw [tail _ _ (by omega) (by omega)]; rfl
  | succ k ih =>
    intro i h
    rw [show 12 - i = (12 - (i + 1)) + 1 by omega]
    unfold lp_X10_nextNow_2 lp_X5_nextStep_11
    rw [if_pos hl, is_fun M j 0 (by omega), is_fun M j 1 (by omega), hasNeeds_eq hv hj (by omega), ih _ (by omega)]
    split
    · split
      · rfl
      · show (if sp_X2_needsAreDone M j (nI i) = 0 then _ else _) = _
        split <;> rfl
    · show (if sp_X2_needsAreDone M j (nI i) = 0 then _ else _) = _
      split <;> rfl
theorem next_eq {M : STT} (hv : IV M) {j : Nat} (hj : j < (M 0 0 0).toNatClampNeg) : sp_X10_nextNow M j = some (sp_X5_nextStep M j) := by
  unfold sp_X10_nextNow sp_X5_nextStep
  by_cases hl : M 6 j 2 = 0
  · rw [if_pos hl]; exact next_lp hv hj hl _ 0 (by omega)
  · rw [if_neg hl]
    have a : ∀ (k i : Nat), lp_X10_nextNow_2 M j k i = some (-1) := by
      intro k
      induction k with
      | zero => intro i; rfl
      | succ k ih => intro i; unfold lp_X10_nextNow_2; rw [if_neg hl]; exact ih _
    exact a _ _
theorem nextStep_cong {S T : STT} {j : Nat} (h6 : S 6 j = T 6 j) (h9 : S 9 = T 9) (h24 : S 24 j = T 24 j) : sp_X5_nextStep S j = sp_X5_nextStep T j := by
  have a : ∀ (k i : Nat), lp_X5_nextStep_11 S j k i = lp_X5_nextStep_11 T j k i := by
    intro k
    induction k with
    | zero => intro i; rfl
    | succ k ih => intro i; simp only [lp_X5_nextStep_11, isIn_cong h6 h24, needs_cong h6 h9 h24, ih]
  unfold sp_X5_nextStep; rw [a, h6]
theorem qn_cong {a b : Int32} : ∀ k, (∀ i, i < k → qb a i = qb b i) → qn a k = qn b k := by
  intro k
  induction k with
  | zero => intro h; rfl
  | succ k ih => intro h; unfold qn; rw [ih (fun i hi => h i (by omega)), h k (by omega)]
theorem qn_top {a : Int32} {m : Nat} (h : ∀ i, m ≤ i → qb a i = false) : ∀ k, qn a (m + k) = qn a m := by
  intro k
  induction k with
  | zero => rfl
  | succ k ih =>
    show qn a (m + k) + (if qb a (m + k) = true then 1 else 0) = _
    rw [if_neg (by rw [h _ (by omega)]; decide), ih]; rfl
noncomputable def wv (M : STT) (j p : Nat) (v : Int32) : Int32 := (v &&& ((1 <<< ((nI p) &&& 31)) ^^^ (-1))) &&& ((sp_X1_stepsIn M j 2) ^^^ (-1))
theorem wv_qb (M : STT) (j : Nat) {p : Nat} (v : Int32) (hp : p < 32) {b : Nat} (hb : b < 32) : qb (wv M j p v) b = (qb v b && !(decide (b = p)) && !(qb (sp_X1_stepsIn M j 2) b)) := by
  unfold wv
  rw [qb_and, qb_and, qb_not _ hb, qb_not _ hb, qb_one_lt hp hb]
theorem wv_out {M : STT} {j p : Nat} {v : Int32} {i : Nat} (h : lb v i) : ∀ b, i ≤ b → qb (wv M j p v) b = false := by
  intro b hb
  unfold wv
  rw [qb_and, qb_and]
  cases c : qb v b
  · rfl
  · have := h b c; omega
theorem wait_tail {M : STT} (hv : IV M) {j : Nat} (hj : j < (M 0 0 0).toNatClampNeg) (p : Int32) : ∀ (k i : Nat) (v : Int32), (M 1 0 0).toNatClampNeg ≤ i → i + k ≤ 12 → lp_X5_countWaitingOn_10 M j p k i v = v := by
  intro k
  induction k with
  | zero => intro i v h h2; rfl
  | succ k ih =>
    intro i v h h2
    unfold lp_X5_countWaitingOn_10
    rw [if_pos ((has_zero (by omega)).mpr fun z => by have := hv.js j hj _ z; omega)]
    exact ih _ _ (by omega) (by omega)
theorem wait_lp {M : STT} (hv : IV M) {j : Nat} (hj : j < (M 0 0 0).toNatClampNeg) {p : Nat} : ∀ (k i : Nat) (v : Int32), i + k = (M 1 0 0).toNatClampNeg → p < i → lb v i → lp_X10_waitForNow_12 M j (nI p) k i v (nI (qn (wv M j p v) i)) = some (lp_X5_countWaitingOn_10 M j (nI p) (12 - i) i v, nI (qn (wv M j p (lp_X5_countWaitingOn_10 M j (nI p) (12 - i) i v)) 12)) := by
  have hm := hv.m12
  intro k
  induction k with
  | zero =>
    intro i v h hp hb
    rw [wait_tail hv hj _ _ _ _ (by omega) (by omega)]
    have e := qn_top (wv_out (M := M) (j := j) (p := p) hb) (12 - i)
    rw [show i + (12 - i) = 12 by omega] at e
    rw [e]; rfl
  | succ k ih =>
    intro i v h hp hb
    rw [show 12 - i = (12 - (i + 1)) + 1 by omega]
    show (if sp_X10_isIn (M 6 j 0) (nI i) = 0 then (lp_X10_waitForNow_12 M j (nI p) k (i + 1) v (nI (qn (wv M j p v) i))) else (if (M 9 0 i) &&& v = 0 then (lp_X10_waitForNow_12 M j (nI p) k (i + 1) v (nI (qn (wv M j p v) i))) else (lp_X10_waitForNow_12 M j (nI p) k (i + 1) (v ||| ((1 : Int32) <<< ((nI i) &&& 31))) (nI (qn (wv M j p v) i) + (if M 24 j i = 2 then 0 else 1))))) = _
    unfold lp_X5_countWaitingOn_10
    rw [isIn_has]
    have e1 : qn (wv M j p v) (i + 1) = qn (wv M j p v) i := qn_top (wv_out hb) 1
    have same : lp_X10_waitForNow_12 M j (nI p) k (i + 1) v (nI (qn (wv M j p v) i)) = some (lp_X5_countWaitingOn_10 M j (nI p) (12 - (i + 1)) (i + 1) v, nI (qn (wv M j p (lp_X5_countWaitingOn_10 M j (nI p) (12 - (i + 1)) (i + 1) v)) 12)) := by
      rw [← e1]; exact ih _ _ (by omega) (by omega) (lb_mono hb (by omega))
    by_cases c : sp_X5_has (M 6 j 0) (nI i) = 0
    · simp only [if_pos c]; exact same
    · simp only [if_neg c]
      by_cases d : M 9 0 i &&& v = 0
      · simp only [if_pos d]; exact same
      · simp only [if_neg d]
        have hi : qb (M 6 j 0) i = true := by
          cases z : qb (M 6 j 0) i
          · exact absurd ((has_zero (by omega)).mpr (by rw [z]; decide)) c
          · rfl
        have hb2 : lb (v ||| ((1 : Int32) <<< ((nI i) &&& 31))) (i + 1) := by
          intro b hqb
          rcases Nat.lt_or_ge b 32 with z | z
          · rw [qb_or, qb_one_lt (by omega) z] at hqb
            by_cases y : b = i
            · omega
            · rw [decide_eq_false y, Bool.or_false] at hqb
              have := hb b hqb; omega
          · rw [qb_out _ z] at hqb; exact nomatch hqb
        have e2 : nI (qn (wv M j p v) i) + (if M 24 j i = 2 then 0 else 1) = nI (qn (wv M j p (v ||| ((1 : Int32) <<< ((nI i) &&& 31)))) (i + 1)) := by
          have e3 : qn (wv M j p (v ||| ((1 : Int32) <<< ((nI i) &&& 31)))) i = qn (wv M j p v) i := qn_cong i fun b hb3 => by
            rw [wv_qb M j _ (by omega) (by omega), wv_qb M j _ (by omega) (by omega), qb_or, qb_one_lt (by omega) (by omega), decide_eq_false (p := b = i) (by omega), Bool.or_false]
          show _ = nI (qn (wv M j p (v ||| ((1 : Int32) <<< ((nI i) &&& 31)))) i + (if qb (wv M j p (v ||| ((1 : Int32) <<< ((nI i) &&& 31)))) i = true then 1 else 0))
          rw [e3]
          have e4 : qb (wv M j p (v ||| ((1 : Int32) <<< ((nI i) &&& 31)))) i = !(qb (sp_X1_stepsIn M j 2) i) := by
            rw [wv_qb M j _ (by omega) (by omega), qb_or, qb_one_lt (by omega) (by omega), decide_eq_true (rfl : i = i), decide_eq_false (p := i = p) (by omega), Bool.or_true]; rfl
          rw [e4]
          by_cases s : M 24 j i = 2
          · rw [if_pos s, (stepsIn_iff M j 2 (by omega)).mpr ⟨s, hi⟩, if_neg (by decide)]; exact Int32.add_zero _
          · have e5 : qb (sp_X1_stepsIn M j 2) i = false := by
              cases z : qb (sp_X1_stepsIn M j 2) i
              · rfl
              · exact absurd ((stepsIn_iff M j 2 (by omega)).mp z).1 s
            rw [if_neg s, e5, if_pos (by decide)]; exact q_succ _
        rw [e2]
        exact ih _ _ (by omega) (by omega) hb2
theorem wait_eq {M : STT} (hv : IV M) {j : Nat} (hj : j < (M 0 0 0).toNatClampNeg) {p : Nat} (hp : p < (M 1 0 0).toNatClampNeg) : sp_X10_waitForNow M j (nI p) = some (sp_X5_countWaitingOn M j (nI p)) := by
  have hm := hv.m12
  have hb : lb ((1 : Int32) <<< (nI p &&& 31)) (p + 1) := by
    intro b hqb
    rcases Nat.lt_or_ge b 32 with z | z
    · rw [qb_one_lt (by omega) z, decide_eq_true_eq] at hqb; omega
    · rw [qb_out _ z] at hqb; exact nomatch hqb
  have head : ∀ d i, i + d = p + 1 → lp_X5_countWaitingOn_10 M j (nI p) (12 - i) i ((1 : Int32) <<< (nI p &&& 31)) = lp_X5_countWaitingOn_10 M j (nI p) (12 - (p + 1)) (p + 1) ((1 : Int32) <<< (nI p &&& 31)) := by
    intro d
    induction d with
    | zero => intro i h; rw [show i = p + 1 by omega]
    | succ d ih =>
      intro i h
      rw [show 12 - i = (12 - (i + 1)) + 1 by omega]
      have z : M 9 0 i &&& ((1 : Int32) <<< (nI p &&& 31)) = 0 := qb_nil.mpr fun b hb2 => by
        rw [qb_and, qb_one_lt (by omega) hb2]
        by_cases y : b = p
        · cases w : qb (M 9 0 i) b
          · rfl
          · have := hv.nd i (by omega) b w; omega
        · rw [decide_eq_false y, Bool.and_false]
      rw [show lp_X5_countWaitingOn_10 M j (nI p) (12 - (i + 1) + 1) i ((1 : Int32) <<< (nI p &&& 31)) = lp_X5_countWaitingOn_10 M j (nI p) (12 - (i + 1)) (i + 1) ((1 : Int32) <<< (nI p &&& 31)) by
        rw [lp_X5_countWaitingOn_10, if_pos z, ite_self]]
      exact ih _ (by omega)
  have e0 : qn (wv M j p ((1 : Int32) <<< (nI p &&& 31))) (p + 1) = 0 := by
    rw [qn_cong (b := 0) (p + 1) (fun b hb2 => by
      rw [wv_qb M j _ (by omega) (by omega), qb_one_lt (by omega) (by omega), qb_zero]
      by_cases y : b = p
      · rw [decide_eq_true y]; rfl
      · rw [decide_eq_false y]; rfl)]
    have a : ∀ k, qn 0 k = 0 := by
      intro k
      induction k with
      | zero => rfl
      | succ k ih => unfold qn; rw [ih, if_neg (by rw [qb_zero]; decide)]
    exact a _
  unfold sp_X10_waitForNow sp_X5_countWaitingOn
  rw [if_neg (q_ix hp (by omega)), q_cl (by omega)]
  have w := wait_lp hv hj (p := p) _ (p + 1) _ (show p + 1 + ((M 1 0 0).toNatClampNeg - (p + 1)) = _ by omega) (by omega) hb
  rw [e0] at w
  have w : lp_X10_waitForNow_12 M j (nI p) ((M 1 0 0).toNatClampNeg - (p + 1)) (p + 1) ((1 : Int32) <<< (nI p &&& 31)) 0 = _ := w
  rw [w]
  show some (nI (qn (wv M j p (lp_X5_countWaitingOn_10 M j (nI p) (12 - (p + 1)) (p + 1) ((1 : Int32) <<< (nI p &&& 31)))) 12)) = some (sp_J6_bitCount_0f7a4 (wv M j p (lp_X5_countWaitingOn_10 M j (nI p) 12 0 ((1 : Int32) <<< (nI p &&& 31)))))
  rw [← head (p + 1) 0 (by omega)]
  rw [bits_cnt]
  have lbw : ∀ (k i : Nat) (v : Int32), i + k ≤ 12 → lb v 12 → lb (lp_X5_countWaitingOn_10 M j (nI p) k i v) 12 := by
    intro k
    induction k with
    | zero => intro i v _ h; exact h
    | succ k ih =>
      intro i v h2 h
      unfold lp_X5_countWaitingOn_10
      split
      · exact ih _ _ (by omega) h
      · split
        · exact ih _ _ (by omega) h
        · refine ih _ _ (by omega) fun b hqb => ?_
          rcases Nat.lt_or_ge b 32 with z | z
          · rw [qb_or, qb_one_lt (by omega) z] at hqb
            by_cases y : b = i
            · omega
            · rw [decide_eq_false y, Bool.or_false] at hqb
              exact h b hqb
          · rw [qb_out _ z] at hqb; exact nomatch hqb
  have := lbw 12 0 _ (by omega) (lb_mono hb (by omega))
  intro b hqb
  rcases Nat.lt_or_ge b 12 with z | z
  · exact z
  · rw [wv_out this b z] at hqb; exact nomatch hqb
theorem wait_cong {S T : STT} {j : Nat} (h6 : S 6 j = T 6 j) (h9 : S 9 = T 9) (h24 : S 24 j = T 24 j) (p : Int32) : sp_X5_countWaitingOn S j p = sp_X5_countWaitingOn T j p := by
  have a : ∀ (k i : Nat) (v : Int32), lp_X5_countWaitingOn_10 S j p k i v = lp_X5_countWaitingOn_10 T j p k i v := by
    intro k
    induction k with
    | zero => intro i v; rfl
    | succ k ih => intro i v; simp only [lp_X5_countWaitingOn_10, h6, h9, ih]
  unfold sp_X5_countWaitingOn; rw [a, stepsIn_cong h6 h24]
end PLAINE
