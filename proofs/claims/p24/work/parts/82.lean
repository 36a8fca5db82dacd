section PLAIND
theorem isIn_st {M : STT} (hv : IV M) {j : Nat} (hj : j < (M 0 0 0).toNatClampNeg) {p : Int32} (hp : p ≠ 0) {i : Nat} (hi : i < 12) : sp_X1_isIn M j (nI i) p = if M 24 j i = p then 1 else 0 := by
  rw [isIn_eq M j p hi]
  by_cases c : M 24 j i = p
  · rw [if_pos c, if_pos ((stepsIn_iff M j p hi).mpr ⟨c, hv.ss j hj i hi (by rw [c]; exact hp)⟩)]
  · rw [if_neg c, if_neg (fun z => c ((stepsIn_iff M j p hi).mp z).1)]
theorem last_lp {M : STT} (hv : IV M) {j : Nat} (hj : j < (M 0 0 0).toNatClampNeg) : ∀ (k i : Nat) (v1 v2 : Int32), i + k ≤ 12 → ((v1 = -1 ∧ v2 = -1) ∨ ∃ a, a < 12 ∧ v1 = nI a ∧ v2 = M 25 j a) → lp_X6_last_4 M j k i v1 = some (lp_X1_lastBegun_6 M j k i v1 v2).1 := by
  intro k
  induction k with
  | zero => intro i v1 v2 h hh; rfl
  | succ k ih =>
    intro i v1 v2 h hh
    have hn : (∃ a, a < 12 ∧ nI i = nI a ∧ M 25 j i = M 25 j a) := ⟨i, by omega, rfl, rfl⟩
    have e : (if v1 = (-1) then (lp_X6_last_4 M j k (i + 1) (nI i)) else (if v1 < 0 ∨ 12 ≤ v1.toNatClampNeg then none else (if M 25 j i < M 25 j v1.toNatClampNeg then (lp_X6_last_4 M j k (i + 1) v1) else (lp_X6_last_4 M j k (i + 1) (nI i))))) = some (if M 25 j i < v2 then (lp_X1_lastBegun_6 M j k (i + 1) v1 v2) else (lp_X1_lastBegun_6 M j k (i + 1) (nI i) (M 25 j i))).1 := by
      rcases hh with ⟨a, b⟩ | ⟨a, ha, a1, a2⟩
      · rw [if_pos a, if_neg (by
          rw [b, Int32.lt_iff_toInt_lt]
          have := hv.bg j hj i (by omega)
          have e : (-1 : Int32).toInt = -1 := rfl
          omega)]
        exact ih _ _ _ (by omega) (.inr hn)
      · have b1 : ¬ v1 = -1 := by rw [a1]; exact q_m1 (by omega)
        have b2 : ¬ (v1 < 0 ∨ 12 ≤ v1.toNatClampNeg) := by rw [a1]; exact q_ix ha (by decide)
        have b3 : M 25 j v1.toNatClampNeg = v2 := by rw [a1, a2, q_cl (by omega)]
        rw [if_neg b1, if_neg b2, b3]
        by_cases c : M 25 j i < v2
        · rw [if_pos c, if_pos c]; exact ih _ _ _ (by omega) (.inr ⟨a, ha, a1, a2⟩)
        · rw [if_neg c, if_neg c]; exact ih _ _ _ (by omega) (.inr hn)
    show (sp_X6_is M j (nI i) 1).bind (fun x_2 => (if x_2 = 0 then ((sp_X6_is M j (nI i) 2).bind fun x_7 => (if x_7 = 0 then (lp_X6_last_4 M j k (i + 1) v1) else (if v1 = (-1) then (lp_X6_last_4 M j k (i + 1) (nI i)) else (if v1 < 0 ∨ 12 ≤ v1.toNatClampNeg then none else (if M 25 j i < M 25 j v1.toNatClampNeg then (lp_X6_last_4 M j k (i + 1) v1) else (lp_X6_last_4 M j k (i + 1) (nI i))))))) else (if v1 = (-1) then (lp_X6_last_4 M j k (i + 1) (nI i)) else (if v1 < 0 ∨ 12 ≤ v1.toNatClampNeg then none else (if M 25 j i < M 25 j v1.toNatClampNeg then (lp_X6_last_4 M j k (i + 1) v1) else (lp_X6_last_4 M j k (i + 1) (nI i))))))) = some (if M 24 j i = 1 then (if M 25 j i < v2 then (lp_X1_lastBegun_6 M j k (i + 1) v1 v2) else (lp_X1_lastBegun_6 M j k (i + 1) (nI i) (M 25 j i))) else (if M 24 j i = 2 then (if M 25 j i < v2 then (lp_X1_lastBegun_6 M j k (i + 1) v1 v2) else (lp_X1_lastBegun_6 M j k (i + 1) (nI i) (M 25 j i))) else (lp_X1_lastBegun_6 M j k (i + 1) v1 v2))).1
    rw [is_fun M j 1 (by omega), is_fun M j 2 (by omega), isIn_st hv hj (by decide) (by omega), isIn_st hv hj (by decide) (by omega), e]
    by_cases c1 : M 24 j i = 1
    · rw [if_pos c1, if_neg (by decide), if_pos c1]
    · rw [if_neg c1, if_pos rfl, if_neg c1]
      by_cases c2 : M 24 j i = 2
      · rw [if_pos c2, if_neg (by decide), if_pos c2]
      · rw [if_neg c2, if_pos rfl, if_neg c2]
        exact ih _ _ _ (by omega) hh
theorem last_eq {M : STT} (hv : IV M) {j : Nat} (hj : j < (M 0 0 0).toNatClampNeg) : sp_X6_last M j = some (sp_X1_lastBegun M j) := by
  unfold sp_X6_last sp_X1_lastBegun
  exact is_none (last_lp hv hj 12 0 (-1) (-1) (by omega) (.inl ⟨rfl, rfl⟩)) rfl
theorem last_in {M : STT} (j : Nat) : ∀ (k i : Nat) (v1 v2 : Int32), i + k ≤ 12 → (v1 = -1 ∨ ∃ a, a < 12 ∧ v1 = nI a ∧ (M 24 j a = 1 ∨ M 24 j a = 2)) → ((lp_X1_lastBegun_6 M j k i v1 v2).1 = -1 ∨ ∃ a, a < 12 ∧ (lp_X1_lastBegun_6 M j k i v1 v2).1 = nI a ∧ (M 24 j a = 1 ∨ M 24 j a = 2)) := by
  intro k
  induction k with
  | zero => intro i v1 v2 h hh; exact hh
  | succ k ih =>
    intro i v1 v2 h hh
    unfold lp_X1_lastBegun_6
    by_cases c1 : M 24 j i = 1
    · rw [if_pos c1]
      split
      · exact ih _ _ _ (by omega) hh
      · exact ih _ _ _ (by omega) (.inr ⟨i, by omega, rfl, .inl c1⟩)
    · rw [if_neg c1]
      by_cases c2 : M 24 j i = 2
      · rw [if_pos c2]
        split
        · exact ih _ _ _ (by omega) hh
        · exact ih _ _ _ (by omega) (.inr ⟨i, by omega, rfl, .inr c2⟩)
      · rw [if_neg c2]
        exact ih _ _ _ (by omega) hh
theorem lastBegun_in (M : STT) (j : Nat) : sp_X1_lastBegun M j = -1 ∨ ∃ a, a < 12 ∧ sp_X1_lastBegun M j = nI a ∧ (M 24 j a = 1 ∨ M 24 j a = 2) := last_in j 12 0 (-1) (-1) (by omega) (.inl rfl)
theorem lastBegun_cong {S T : STT} {j : Nat} (h24 : S 24 j = T 24 j) (h25 : S 25 j = T 25 j) : sp_X1_lastBegun S j = sp_X1_lastBegun T j := by
  have a : ∀ (k i : Nat) (v1 v2 : Int32), lp_X1_lastBegun_6 S j k i v1 v2 = lp_X1_lastBegun_6 T j k i v1 v2 := by
    intro k
    induction k with
    | zero => intro i v1 v2; rfl
    | succ k ih => intro i v1 v2; simp only [lp_X1_lastBegun_6, h24, h25, ih]
  unfold sp_X1_lastBegun; rw [a]
theorem stepsIn_known {M : STT} (hv : IV M) {j : Nat} (hj : j < (M 0 0 0).toNatClampNeg) {p : Int32} {i : Nat} (h : qb (sp_X1_stepsIn M j p) i = true) : i < (M 1 0 0).toNatClampNeg := by
  have c : i < 12 := stepsIn_lb M j p i h
  exact hv.js j hj i ((stepsIn_iff M j p c).mp h).2
theorem len_tail {M : STT} (hv : IV M) {j : Nat} (hj : j < (M 0 0 0).toNatClampNeg) (p : Int32) : ∀ (k i : Nat) (v : Int32), (M 1 0 0).toNatClampNeg ≤ i → i + k ≤ 12 → lp_X2_lengthFor_61 M j p k i v = v := by
  intro k
  induction k with
  | zero => intro i v h h2; rfl
  | succ k ih =>
    intro i v h h2
    show (if M 7 0 i = 0 then (if sp_X5_has (sp_X1_stepsIn M j 2) (nI i) = 0 then (lp_X2_lengthFor_61 M j p k (i + 1) v) else (lp_X2_lengthFor_61 M j p k (i + 1) (v &&& ((M 10 0 i) ^^^ (-1))))) else (lp_X2_lengthFor_61 M j p k (i + 1) v)) = v
    rw [if_pos (c := sp_X5_has (sp_X1_stepsIn M j 2) (nI i) = 0) ((has_zero (by omega)).mpr fun z => by have := stepsIn_known hv hj z; omega), ih _ _ (by omega) (by omega), ite_self]
theorem fresh_lp {M : STT} (hv : IV M) {j : Nat} (hj : j < (M 0 0 0).toNatClampNeg) {p : Nat} (hp : p < 12) (hs : M 24 j p = 0) : ∀ (k i : Nat) (v : Int32), i + k = (M 1 0 0).toNatClampNeg → lp_X10_fresh_18 M j (nI p) k i v = some (lp_X2_lengthFor_61 M j (nI p) (12 - i) i v) := by
  intro k
  have hm := hv.m12
  induction k with
  | zero =>
    intro i v h
    rw [len_tail hv hj _ _ _ _ (by omega) (by omega)]; rfl
  | succ k ih =>
    intro i v h
    rw [show 12 - i = (12 - (i + 1)) + 1 by omega]
    show (if nI i = nI p then (lp_X10_fresh_18 M j (nI p) k (i + 1) v) else (if M 7 0 i = 0 then ((sp_X6_is M j (nI i) 2).bind fun x_5 => (if x_5 = 0 then (lp_X10_fresh_18 M j (nI p) k (i + 1) v) else (lp_X10_fresh_18 M j (nI p) k (i + 1) (v &&& ((M 10 0 i) ^^^ (-1)))))) else (lp_X10_fresh_18 M j (nI p) k (i + 1) v))) = some (if M 7 0 i = 0 then (if sp_X5_has (sp_X1_stepsIn M j 2) (nI i) = 0 then (lp_X2_lengthFor_61 M j (nI p) (12 - (i + 1)) (i + 1) v) else (lp_X2_lengthFor_61 M j (nI p) (12 - (i + 1)) (i + 1) (v &&& ((M 10 0 i) ^^^ (-1))))) else (lp_X2_lengthFor_61 M j (nI p) (12 - (i + 1)) (i + 1) v))
    rw [ih _ _ (by omega), ih _ _ (by omega), is_fun M j 2 (by omega)]
    by_cases c : nI i = nI p
    · have c2 := q_inj (by omega) (by omega) c
      subst c2
      have d : sp_X5_has (sp_X1_stepsIn M j 2) (nI i) = 0 := (has_zero (by omega)).mpr fun z => by
        have := ((stepsIn_iff M j 2 (by omega)).mp z).1
        rw [hs] at this; exact absurd this (by decide)
      rw [if_pos c, if_pos d, ite_self]
    · rw [if_neg c]
      by_cases d : qb (sp_X1_stepsIn M j 2) i = true
      · rw [if_neg (c := sp_X1_isIn M j (nI i) 2 = 0) (fun z => (isIn_zero (by omega)).mp z d), if_neg (c := sp_X5_has (sp_X1_stepsIn M j 2) (nI i) = 0) (fun z => (has_zero (by omega)).mp z d)]
        split <;> rfl
      · rw [if_pos (c := sp_X1_isIn M j (nI i) 2 = 0) ((isIn_zero (by omega)).mpr d), if_pos (c := sp_X5_has (sp_X1_stepsIn M j 2) (nI i) = 0) ((has_zero (by omega)).mpr d)]
        split <;> rfl
theorem len_lb {M : STT} {j : Nat} {p : Int32} {m : Nat} : ∀ (k i : Nat) (v : Int32), lb v m → lb (lp_X2_lengthFor_61 M j p k i v) m := by
  intro k
  induction k with
  | zero => intro i v h; exact h
  | succ k ih =>
    intro i v h
    unfold lp_X2_lengthFor_61
    split
    · split
      · exact ih _ _ h
      · exact ih _ _ (lb_and h)
    · exact ih _ _ h
theorem length_eq {M : STT} (hv : IV M) {j : Nat} (hj : j < (M 0 0 0).toNatClampNeg) {i : Nat} (hi : i < (M 1 0 0).toNatClampNeg) : sp_X10_length M j (nI i) = some (sp_X2_lengthFor M j (nI i)) := by
  have hm := hv.m12
  unfold sp_X10_length sp_X2_lengthFor
  rw [if_neg (q_ix (by omega) (by decide)), if_neg (q_ge (by omega)), if_pos (lt12 (by omega)), if_neg (q_ix hi (by omega)), q_cl (by omega)]
  by_cases c : M 24 j i = 0
  · rw [if_pos c, if_pos c]
    by_cases d : M 7 0 i = 0
    · rw [if_pos d, if_pos d]
      have e : sp_X10_fresh M j (nI i) = some (sp_J6_bitCount_0f7a4 (lp_X2_lengthFor_61 M j (nI i) 12 0 (M 10 0 i))) := by
        unfold sp_X10_fresh
        rw [if_neg (q_ix hi (by omega)), q_cl (by omega)]
        exact is_none (fresh_lp hv hj (by omega) c _ 0 _ (by omega)) rfl
      rw [e]; rfl
    · rw [if_neg d, if_neg d, Int32.add_zero]
  · rw [if_neg c, if_neg c]
theorem qn_le (p : Int32) : ∀ k, qn p k ≤ k := by
  intro k
  induction k with
  | zero => exact Nat.le_refl _
  | succ k ih => unfold qn; split <;> omega
theorem qn_le8 {p : Int32} (h : lb p 8) : qn p 12 ≤ 8 := by
  have a : ∀ k, qn p (8 + k) = qn p 8 := by
    intro k
    induction k with
    | zero => rfl
    | succ k ih =>
      show qn p (8 + k) + (if qb p (8 + k) = true then 1 else 0) = _
      rw [if_neg (fun z => by have := h _ z; omega), ih]; rfl
  rw [a 4]; exact qn_le p 8
theorem length_bd {M : STT} (hv : IV M) {j : Nat} {i : Nat} (hi : i < (M 1 0 0).toNatClampNeg) (hs : M 24 j i = 0) : 1 ≤ (sp_X2_lengthFor M j (nI i)).toInt ∧ (sp_X2_lengthFor M j (nI i)).toInt ≤ 13 := by
  have hm := hv.m12
  have hl := hv.ln i hi
  unfold sp_X2_lengthFor
  rw [if_neg (q_ge (by omega)), if_pos (lt12 (by omega)), q_cl (by omega), if_pos hs]
  by_cases d : M 7 0 i = 0
  · rw [if_pos d]
    have b := len_lb (M := M) (j := j) (p := nI i) 12 0 _ (hv.fm i hi d)
    have b2 := qn_le8 b
    rw [bits_cnt (lb_mono b (by decide)), cn_eq (x := M 8 0 i) (by omega)]
    have e : ∀ a, a < 9 → ((nI a + 1) / 2).toInt = (((a + 1) / 2 : Nat) : Int) := by decide +kernel
    have e2 := e _ (Nat.lt_succ_of_le b2)
    generalize qn (lp_X2_lengthFor_61 M j (nI i) 12 0 (M 10 0 i)) 12 = a at b2 e2 ⊢
    have h8 : (M 8 0 i).toNatClampNeg = (M 8 0 i).toInt.toNat := rfl
    rw [Int32.toInt_add, e2, nI_toInt (by omega), Int.bmod_eq_of_le (by omega) (by omega)]
    omega
  · rw [if_neg d]; omega
theorem lengthFor_cong {S T : STT} {j : Nat} (h6 : S 6 j = T 6 j) (h7 : S 7 = T 7) (h8 : S 8 = T 8) (h10 : S 10 = T 10) (h24 : S 24 j = T 24 j) (h26 : S 26 j = T 26 j) (p : Int32) : sp_X2_lengthFor S j p = sp_X2_lengthFor T j p := by
  have a : ∀ (k i : Nat) (v : Int32), lp_X2_lengthFor_61 S j p k i v = lp_X2_lengthFor_61 T j p k i v := by
    intro k
    induction k with
    | zero => intro i v; rfl
    | succ k ih => intro i v; simp only [lp_X2_lengthFor_61, h7, h10, stepsIn_cong h6 h24, ih]
  unfold sp_X2_lengthFor
  simp only [a, h7, h8, h10, h24, h26]
theorem needs_cong {S T : STT} {j : Nat} (h6 : S 6 j = T 6 j) (h9 : S 9 = T 9) (h24 : S 24 j = T 24 j) (p : Int32) : sp_X2_needsAreDone S j p = sp_X2_needsAreDone T j p := by
  unfold sp_X2_needsAreDone; simp only [h6, h9, stepsIn_cong h6 h24]
theorem isIn_cong {S T : STT} {j : Nat} (h6 : S 6 j = T 6 j) (h24 : S 24 j = T 24 j) (p q : Int32) : sp_X1_isIn S j p q = sp_X1_isIn T j p q := by
  unfold sp_X1_isIn; simp only [h6, h24]
theorem rightsOf_cong {S T : STT} {j : Nat} (h1 : S 1 = T 1) (h6 : S 6 j = T 6 j) (h12 : S 12 = T 12) (h24 : S 24 j = T 24 j) : sp_X2_rightsOf S j = sp_X2_rightsOf T j := by
  have a : ∀ (k i : Nat) (v : Int32), lp_X2_rightsOf_11 S j k i v = lp_X2_rightsOf_11 T j k i v := by
    intro k
    induction k with
    | zero => intro i v; rfl
    | succ k ih => intro i v; simp only [lp_X2_rightsOf_11, h12, stepsIn_cong h6 h24, ih]
  unfold sp_X2_rightsOf; rw [a, h1]
theorem isReady_eq {M : STT} (hv : IV M) {j : Nat} (hj : j < (M 0 0 0).toNatClampNeg) {i : Nat} (hi : i < (M 1 0 0).toNatClampNeg) : sp_X10_isReady M j (nI i) = some (sp_X5_isReady M j (nI i)) := by
  have hm := hv.m12
  unfold sp_X10_isReady sp_X5_isReady
  rw [is_fun M j 0 (by omega), if_neg (q_ix hi (by omega)), q_cl (by omega), hasNeeds_eq hv hj hi]
  show (if M 6 j 2 = 0 then (if sp_X1_isIn M j (nI i) 0 = 0 then some 0 else (if M 0 0 1 < M 6 j 1 then some 0 else (if sp_X2_needsAreDone M j (nI i) = 0 then some 0 else some 1))) else some 0) = _
  by_cases a : M 6 j 2 = 0
  · rw [if_pos a, if_pos a]
    by_cases b : sp_X1_isIn M j (nI i) 0 = 0
    · rw [if_pos b, if_pos b, ite_self]
    · rw [if_neg b, if_neg b]
      split
      · rfl
      · split <;> rfl
  · rw [if_neg a, if_neg a]
theorem isReady_out {M : STT} (hv : IV M) {j : Nat} (hj : j < (M 0 0 0).toNatClampNeg) {i : Nat} (hi : (M 1 0 0).toNatClampNeg ≤ i) (h12 : i < 12) : sp_X5_isReady M j (nI i) = 0 := by
  unfold sp_X5_isReady
  rw [if_pos (c := sp_X1_isIn M j (nI i) 0 = 0) ((isIn_zero h12).mpr fun z => by have := stepsIn_known hv hj z; omega), ite_self, ite_self]
theorem isReady_cong {S T : STT} {j : Nat} (h0 : S 0 = T 0) (h6 : S 6 j = T 6 j) (h9 : S 9 = T 9) (h24 : S 24 j = T 24 j) (p : Int32) : sp_X5_isReady S j p = sp_X5_isReady T j p := by
  unfold sp_X5_isReady; simp only [h0, h6, isIn_cong h6 h24, needs_cong h6 h9 h24]
end PLAIND
