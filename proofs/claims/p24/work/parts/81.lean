section PLAINC
abbrev STT := Nat → Nat → Nat → Int32
/-- what holds of the reference's rows at every moment -/
def IV (M : STT) : Prop := (CI M) ∧ (0 ≤ (M 0 0 1).toInt) ∧ ((M 0 0 1).toInt ≤ 199) ∧ (∀ i, i < (M 1 0 0).toNatClampNeg → 1 ≤ (M 8 0 i).toInt ∧ (M 8 0 i).toInt ≤ 9) ∧ (∀ i, i < (M 1 0 0).toNatClampNeg → lb (M 9 0 i) i) ∧ (∀ i, i < (M 1 0 0).toNatClampNeg → M 7 0 i = 0 → lb (M 10 0 i) 8) ∧ (∀ i, i < (M 1 0 0).toNatClampNeg → M 7 0 i = 1 → 0 ≤ (M 10 0 i).toInt ∧ (M 10 0 i).toInt ≤ 3) ∧ (∀ i, i < 4 → lb (M 11 0 i) (M 1 0 0).toNatClampNeg) ∧ (∀ i, i < (M 1 0 1).toNatClampNeg → lb (M 12 0 i) (M 1 0 0).toNatClampNeg) ∧ (∀ i, i < 4 → 0 ≤ (M 13 0 i).toInt) ∧ (∀ i, i < (M 2 0 0).toNatClampNeg → 0 ≤ (M 14 0 i).toInt ∧ (M 14 0 i).toInt ≤ 3) ∧ (∀ i, i < (M 2 0 0).toNatClampNeg → 1 ≤ (M 15 0 i).toInt ∧ (M 15 0 i).toInt ≤ 20) ∧ (∀ j, j < (M 0 0 0).toNatClampNeg → lb (M 6 j 0) (M 1 0 0).toNatClampNeg) ∧ (∀ j, j < (M 0 0 0).toNatClampNeg → ∀ k, k < 12 → M 27 j k = -1 ∨ (0 ≤ (M 27 j k).toInt ∧ (M 27 j k).toInt < (M 3 0 0).toInt ∧ qb (M 6 j 0) k = true)) ∧ (∀ j, j < (M 0 0 0).toNatClampNeg → ∀ k, k < 12 → M 24 j k ≠ 0 → qb (M 6 j 0) k = true) ∧ (∀ j, j < (M 0 0 0).toNatClampNeg → ∀ k, k < 12 → 0 ≤ (M 25 j k).toInt)
theorem IV.ci {M : STT} (h : IV M) : CI M := h.1
theorem IV.t0 {M : STT} (h : IV M) : 0 ≤ (M 0 0 1).toInt := h.2.1
theorem IV.t1 {M : STT} (h : IV M) : (M 0 0 1).toInt ≤ 199 := h.2.2.1
theorem IV.ln {M : STT} (h : IV M) : ∀ i, i < (M 1 0 0).toNatClampNeg → 1 ≤ (M 8 0 i).toInt ∧ (M 8 0 i).toInt ≤ 9 := h.2.2.2.1
theorem IV.nd {M : STT} (h : IV M) : ∀ i, i < (M 1 0 0).toNatClampNeg → lb (M 9 0 i) i := h.2.2.2.2.1
theorem IV.fm {M : STT} (h : IV M) : ∀ i, i < (M 1 0 0).toNatClampNeg → M 7 0 i = 0 → lb (M 10 0 i) 8 := h.2.2.2.2.2.1
theorem IV.kt {M : STT} (h : IV M) : ∀ i, i < (M 1 0 0).toNatClampNeg → M 7 0 i = 1 → 0 ≤ (M 10 0 i).toInt ∧ (M 10 0 i).toInt ≤ 3 := h.2.2.2.2.2.2.1
theorem IV.rl {M : STT} (h : IV M) : ∀ i, i < 4 → lb (M 11 0 i) (M 1 0 0).toNatClampNeg := h.2.2.2.2.2.2.2.1
theorem IV.rt {M : STT} (h : IV M) : ∀ i, i < (M 1 0 1).toNatClampNeg → lb (M 12 0 i) (M 1 0 0).toNatClampNeg := h.2.2.2.2.2.2.2.2.1
theorem IV.sk {M : STT} (h : IV M) : ∀ i, i < 4 → 0 ≤ (M 13 0 i).toInt := h.2.2.2.2.2.2.2.2.2.1
theorem IV.oi {M : STT} (h : IV M) : ∀ i, i < (M 2 0 0).toNatClampNeg → 0 ≤ (M 14 0 i).toInt ∧ (M 14 0 i).toInt ≤ 3 := h.2.2.2.2.2.2.2.2.2.2.1
theorem IV.om {M : STT} (h : IV M) : ∀ i, i < (M 2 0 0).toNatClampNeg → 1 ≤ (M 15 0 i).toInt ∧ (M 15 0 i).toInt ≤ 20 := h.2.2.2.2.2.2.2.2.2.2.2.1
theorem IV.js {M : STT} (h : IV M) : ∀ j, j < (M 0 0 0).toNatClampNeg → lb (M 6 j 0) (M 1 0 0).toNatClampNeg := h.2.2.2.2.2.2.2.2.2.2.2.2.1
theorem IV.bk {M : STT} (h : IV M) : ∀ j, j < (M 0 0 0).toNatClampNeg → ∀ k, k < 12 → M 27 j k = -1 ∨ (0 ≤ (M 27 j k).toInt ∧ (M 27 j k).toInt < (M 3 0 0).toInt ∧ qb (M 6 j 0) k = true) := h.2.2.2.2.2.2.2.2.2.2.2.2.2.1
theorem IV.ss {M : STT} (h : IV M) : ∀ j, j < (M 0 0 0).toNatClampNeg → ∀ k, k < 12 → M 24 j k ≠ 0 → qb (M 6 j 0) k = true := h.2.2.2.2.2.2.2.2.2.2.2.2.2.2.1
theorem IV.bg {M : STT} (h : IV M) : ∀ j, j < (M 0 0 0).toNatClampNeg → ∀ k, k < 12 → 0 ≤ (M 25 j k).toInt := h.2.2.2.2.2.2.2.2.2.2.2.2.2.2.2
theorem IV.m12 {M : STT} (h : IV M) : (M 1 0 0).toNatClampNeg ≤ 12 := cn_le h.ci.1.2
theorem IV.r6 {M : STT} (h : IV M) : (M 1 0 1).toNatClampNeg ≤ 6 := cn_le h.ci.2.1.2
theorem IV.o20 {M : STT} (h : IV M) : (M 2 0 0).toNatClampNeg ≤ 20 := cn_le h.ci.2.2.1.2
theorem IV.e20 {M : STT} (h : IV M) : (M 3 0 0).toNatClampNeg ≤ 20 := cn_le h.ci.2.2.2.1.2
theorem IV.j8 {M : STT} (h : IV M) : (M 0 0 0).toNatClampNeg ≤ 8 := cn_le h.ci.2.2.2.2.2
theorem q_ix {i n : Nat} (hi : i < n) (hn : n ≤ 2 ^ 20) : ¬ (nI i < 0 ∨ n ≤ (nI i).toNatClampNeg) := vp_in_nI hi (by omega)
theorem q_ge {i : Nat} (h : i < 2 ^ 31) : ¬ nI i < 0 := by
  rw [Int32.lt_iff_toInt_lt, nI_toInt h]; show ¬ ((i:Int) < 0); omega
theorem q_cl {i : Nat} (h : i < 2 ^ 20) : (nI i).toNatClampNeg = i := nI_clamp (by omega)
theorem q_lt {i n : Nat} (h : i < n) (hn : n < 2 ^ 20) : nI i < nI n := by
  rw [Int32.lt_iff_toInt_lt, nI_toInt (by omega), nI_toInt (by omega)]; omega
theorem q_inj {a b : Nat} (ha : a < 2 ^ 20) (hb : b < 2 ^ 20) (h : nI a = nI b) : a = b := by
  rw [← q_cl ha, ← q_cl hb, h]
theorem q_succ (a : Nat) : nI a + 1 = nI (a + 1) := (Int32.ofNat_add a 1).symm
theorem q_m1 {a : Nat} (h : a < 2 ^ 20) : ¬ nI a = -1 := by
  intro z
  have := congrArg Int32.toInt z
  rw [nI_toInt (by omega)] at this
  have e : (-1 : Int32).toInt = -1 := rfl
  omega
theorem is12 {i : Nat} (hi : i < 12) : ¬ (12 : Int32) ≤ nI i := by
  rw [Int32.le_iff_toInt_le, nI_toInt (by omega)]; show ¬ ((12:Int) ≤ i); omega
theorem lt12 {i : Nat} (hi : i < 12) : nI i < (12 : Int32) := by
  rw [Int32.lt_iff_toInt_lt, nI_toInt (by omega)]; show ((i:Int) < 12); omega
theorem stepsIn_lp (S : STT) (j : Nat) (p : Int32) (b : Nat) (hb : b < 32) : ∀ (k i : Nat) (v : Int32), i + k ≤ 32 → qb (lp_X1_stepsIn_4 S j p k i v) b = (qb v b || (decide (i ≤ b) && decide (b < i + k) && decide (S 24 j b = p))) := by
  intro k
  induction k with
  | zero =>
    intro i v h
    have e : (decide (i ≤ b) && decide (b < i + 0)) = false := by
      by_cases c : i ≤ b
      · rw [decide_eq_false (p := b < i + 0) (by omega), Bool.and_false]
      · rw [decide_eq_false c, Bool.false_and]
    rw [e, Bool.false_and, Bool.or_false]; rfl
  | succ k ih =>
    intro i v h
    show qb (if S 24 j i = p then (lp_X1_stepsIn_4 S j p k (i + 1) (v ||| (1 <<< ((nI i) &&& 31)))) else (lp_X1_stepsIn_4 S j p k (i + 1) v)) b = _
    by_cases c : S 24 j i = p
    · rw [if_pos c, ih _ _ (by omega), qb_or, qb_one_lt (by omega) hb]
      by_cases d : b = i
      · subst d
        simp [c]
      · have e : decide (i + 1 ≤ b) = decide (i ≤ b) := by
          apply decide_eq_decide.mpr; omega
        have e2 : decide (b < i + 1 + k) = decide (b < i + (k + 1)) := by
          apply decide_eq_decide.mpr; omega
        rw [e, e2, decide_eq_false d, Bool.or_false]
    · rw [if_neg c, ih _ _ (by omega)]
      by_cases d : b = i
      · subst d
        simp [c]
      · have e : decide (i + 1 ≤ b) = decide (i ≤ b) := by
          apply decide_eq_decide.mpr; omega
        have e2 : decide (b < i + 1 + k) = decide (b < i + (k + 1)) := by
          apply decide_eq_decide.mpr; omega
        rw [e, e2]
theorem stepsIn_qb (S : STT) (j : Nat) (p : Int32) {b : Nat} (hb : b < 32) : qb (sp_X1_stepsIn S j p) b = (decide (b < 12) && decide (S 24 j b = p) && qb (S 6 j 0) b) := by
  unfold sp_X1_stepsIn
  rw [qb_and, stepsIn_lp S j p b hb 12 0 0 (by omega), qb_zero, Bool.false_or, decide_eq_true (Nat.zero_le b), Bool.true_and, Nat.zero_add]
theorem stepsIn_lb (S : STT) (j : Nat) (p : Int32) : lb (sp_X1_stepsIn S j p) 12 := by
  intro k hk
  rcases Nat.lt_or_ge k 32 with c | c
  · rw [stepsIn_qb S j p c] at hk
    by_cases d : k < 12
    · exact d
    · rw [decide_eq_false d, Bool.false_and, Bool.false_and] at hk; exact nomatch hk
  · rw [qb_out _ c] at hk; exact nomatch hk
theorem stepsIn_iff (S : STT) (j : Nat) (p : Int32) {b : Nat} (hb : b < 12) : qb (sp_X1_stepsIn S j p) b = true ↔ (S 24 j b = p ∧ qb (S 6 j 0) b = true) := by
  rw [stepsIn_qb S j p (by omega), decide_eq_true hb, Bool.true_and, Bool.and_eq_true, decide_eq_true_eq]
theorem stepsIn_cong {S T : STT} {j : Nat} (h6 : S 6 j = T 6 j) (h24 : S 24 j = T 24 j) (p : Int32) : sp_X1_stepsIn S j p = sp_X1_stepsIn T j p := by
  apply qb_ext
  intro i hi
  rw [stepsIn_qb S j p hi, stepsIn_qb T j p hi, h6, h24]
theorem isIn_eq (S : STT) (j : Nat) (p : Int32) {i : Nat} (hi : i < 12) : sp_X1_isIn S j (nI i) p = if qb (sp_X1_stepsIn S j p) i = true then 1 else 0 := by
  unfold sp_X1_isIn
  rw [if_neg (q_ge (by omega)), if_neg (is12 hi), has_qb _ (by omega), q_cl (by omega)]
  by_cases c : qb (S 6 j 0) i = true
  · rw [if_pos c, if_neg (by decide)]
    by_cases d : S 24 j i = p
    · rw [if_pos d, if_pos ((stepsIn_iff S j p hi).mpr ⟨d, c⟩)]
    · rw [if_neg d, if_neg (fun z => d ((stepsIn_iff S j p hi).mp z).1)]
  · rw [if_neg c, if_pos rfl, if_neg (fun z => c ((stepsIn_iff S j p hi).mp z).2)]
theorem isIn_zero {S : STT} {j : Nat} {p : Int32} {i : Nat} (hi : i < 12) : sp_X1_isIn S j (nI i) p = 0 ↔ ¬ qb (sp_X1_stepsIn S j p) i = true := by
  rw [isIn_eq S j p hi]
  by_cases c : qb (sp_X1_stepsIn S j p) i = true
  · rw [if_pos c]; exact ⟨fun z => by exact absurd z (by decide), fun z => absurd c z⟩
  · rw [if_neg c]; exact ⟨fun _ => c, fun _ => rfl⟩
theorem is_some (S : STT) (j : Nat) (p : Int32) {i : Nat} (hi : i < 12) : sp_X6_is S j (nI i) p = some (sp_X1_isIn S j (nI i) p) := by
  unfold sp_X6_is sp_X6_has sp_X1_isIn
  show (if sp_X10_isIn (S 6 j 0) (nI i) = 0 then _ else _) = _
  rw [isIn_has, if_neg (q_ge (by omega)), if_neg (is12 hi), if_neg (q_ix hi (by decide)), q_cl (by omega)]
  split
  · rfl
  · split <;> rfl
theorem is_fun (S : STT) (j : Nat) (p : Int32) {i : Nat} (hi : i < 12) {α : Type} (f : Int32 → Option α) : (sp_X6_is S j (nI i) p).bind f = f (sp_X1_isIn S j (nI i) p) := by
  rw [is_some S j p hi]; rfl
theorem allDone_iff (S : STT) (j : Nat) {q : Int32} (hq : lb q 12) : (q &&& (sp_X1_stepsIn S j 2 ^^^ (-1)) = 0) ↔ ∀ b, b < 12 → qb q b = true → qb (sp_X1_stepsIn S j 2) b = true := by
  rw [qb_nil]
  constructor
  · intro h b hb hqb
    have := h b (by omega)
    rw [qb_and, hqb, qb_not _ (by omega), Bool.true_and] at this
    cases c : qb (sp_X1_stepsIn S j 2) b
    · rw [c] at this; exact nomatch this
    · rfl
  · intro h b hb
    rw [qb_and, qb_not _ hb]
    cases c : qb q b
    · rfl
    · rw [h b (hq b c) c]; rfl
theorem hasAll_lp (S : STT) (j : Nat) (q : Int32) : ∀ (k i : Nat), i + k ≤ 12 → (lp_X6_hasAll_2 S j q k i = some 1 ∧ ∀ b, i ≤ b → b < i + k → qb q b = true → qb (sp_X1_stepsIn S j 2) b = true) ∨ (lp_X6_hasAll_2 S j q k i = some 0 ∧ ∃ b, i ≤ b ∧ b < i + k ∧ qb q b = true ∧ ¬ qb (sp_X1_stepsIn S j 2) b = true) := by
  intro k
  induction k with
  | zero => intro i h; exact .inl ⟨rfl, fun b h1 h2 => by omega⟩
  | succ k ih =>
    intro i h
    have e : lp_X6_hasAll_2 S j q (k + 1) i = if qb q i = true then (if qb (sp_X1_stepsIn S j 2) i = true then lp_X6_hasAll_2 S j q k (i + 1) else some 0) else lp_X6_hasAll_2 S j q k (i + 1) := by
      show (if (sp_X10_isIn q (nI i)) = 0 then (lp_X6_hasAll_2 S j q k (i + 1)) else ((sp_X6_is S j (nI i) 2).bind fun x_2 => (if x_2 = 0 then (some (0)) else (lp_X6_hasAll_2 S j q k (i + 1))))) = _
      rw [isIn_has, has_qb _ (by omega), is_fun S j 2 (by omega)]
      by_cases c : qb q i = true
      · rw [if_pos c, if_neg (by decide), if_pos c]
        by_cases d : qb (sp_X1_stepsIn S j 2) i = true
        · rw [if_neg (fun z => (isIn_zero (by omega)).mp z d), if_pos d]
        · rw [if_pos ((isIn_zero (by omega)).mpr d), if_neg d]
      · rw [if_neg c, if_pos rfl, if_neg c]
    rw [e]
    by_cases c : qb q i = true
    · rw [if_pos c]
      by_cases d : qb (sp_X1_stepsIn S j 2) i = true
      · rw [if_pos d]
        rcases ih (i + 1) (by omega) with ⟨a, b⟩ | ⟨a, b, b1, b2, b3⟩
        · exact .inl ⟨a, fun x h1 h2 h3 => by
            rcases Nat.eq_or_lt_of_le h1 with z | z
            · rw [← z]; exact d
            · exact b x z (by omega) h3⟩
        · exact .inr ⟨a, b, by omega, by omega, b3⟩
      · rw [if_neg d]; exact .inr ⟨rfl, i, Nat.le_refl i, by omega, c, d⟩
    · rw [if_neg c]
      rcases ih (i + 1) (by omega) with ⟨a, b⟩ | ⟨a, b, b1, b2, b3⟩
      · exact .inl ⟨a, fun x h1 h2 h3 => by
          rcases Nat.eq_or_lt_of_le h1 with z | z
          · rw [← z] at h3; exact absurd h3 c
          · exact b x z (by omega) h3⟩
      · exact .inr ⟨a, b, by omega, by omega, b3⟩
theorem hasAll_eq (S : STT) (j : Nat) {q : Int32} (hq : lb q 12) : sp_X6_hasAll S j q = some (if q &&& (sp_X1_stepsIn S j 2 ^^^ (-1)) = 0 then 1 else 0) := by
  unfold sp_X6_hasAll
  rcases hasAll_lp S j q 12 0 (by omega) with ⟨a, b⟩ | ⟨a, b, b1, b2, b3, b4⟩
  · rw [a, if_pos ((allDone_iff S j hq).mpr fun x h1 h2 => b x (by omega) (by omega) h2)]
  · rw [a, if_neg (fun z => b4 ((allDone_iff S j hq).mp z b (by omega) b3))]
theorem hasNeeds_eq {M : STT} (hv : IV M) {j : Nat} (hj : j < (M 0 0 0).toNatClampNeg) {i : Nat} (hi : i < (M 1 0 0).toNatClampNeg) : sp_X6_hasNeeds M j (M 9 0 i) = some (sp_X2_needsAreDone M j (nI i)) := by
  have hm := hv.m12
  unfold sp_X6_hasNeeds sp_X2_needsAreDone
  rw [hasAll_eq M j (lb_mono (lb_and2 (hv.js j hj)) hm), if_neg (q_ge (by omega)), if_pos (lt12 (by omega)), q_cl (by omega)]
  rfl
theorem in_lp (S : STT) (j : Nat) (p : Int32) : ∀ (k i : Nat), i + k ≤ 12 → lp_X6_in_4 S j p k i (nI (qn (sp_X1_stepsIn S j p) i)) = some (nI (qn (sp_X1_stepsIn S j p) (i + k))) := by
  intro k
  induction k with
  | zero => intro i h; rfl
  | succ k ih =>
    intro i h
    show (sp_X6_is S j (nI i) p).bind (fun x_2 => (lp_X6_in_4 S j p k (i + 1) (nI (qn (sp_X1_stepsIn S j p) i) + (if x_2 = 0 then 0 else 1)))) = _
    rw [is_fun S j p (by omega)]
    have e : nI (qn (sp_X1_stepsIn S j p) i) + (if sp_X1_isIn S j (nI i) p = 0 then 0 else 1) = nI (qn (sp_X1_stepsIn S j p) (i + 1)) := by
      show _ = nI (qn (sp_X1_stepsIn S j p) i + (if qb (sp_X1_stepsIn S j p) i = true then 1 else 0))
      by_cases c : qb (sp_X1_stepsIn S j p) i = true
      · rw [if_neg (fun z => (isIn_zero (by omega)).mp z c), if_pos c]; exact q_succ _
      · rw [if_pos ((isIn_zero (by omega)).mpr c), if_neg c]; exact Int32.add_zero _
    rw [e, ih (i + 1) (by omega), show i + 1 + k = i + (k + 1) by omega]
theorem in_eq (S : STT) (j : Nat) (p : Int32) : sp_X6_in S j p = some (sp_X1_countIn S j p) := by
  unfold sp_X6_in sp_X1_countIn
  rw [bits_cnt (stepsIn_lb S j p)]
  have h := in_lp S j p 12 0 (by omega)
  rw [Nat.zero_add] at h
  exact is_none h rfl
theorem rightsOf_lp {M : STT} (hv : IV M) (j : Nat) : ∀ (k i : Nat) (v : Int32), i + k ≤ (M 1 0 1).toNatClampNeg → lp_X10_rightsOf_4 M j k i v = some (lp_X2_rightsOf_11 M j k i v) := by
  intro k
  induction k with
  | zero => intro i v h; rfl
  | succ k ih =>
    intro i v h
    show (sp_X6_hasAll M j (M 12 0 i)).bind (fun x_2 => (if x_2 = 0 then (lp_X10_rightsOf_4 M j k (i + 1) (v ||| 0)) else (lp_X10_rightsOf_4 M j k (i + 1) (v ||| ((1 : Int32) <<< ((nI i) &&& 31)))))) = some (if (M 12 0 i) &&& ((sp_X1_stepsIn M j 2) ^^^ (-1)) = 0 then (lp_X2_rightsOf_11 M j k (i + 1) (v ||| (1 <<< ((nI i) &&& 31)))) else (lp_X2_rightsOf_11 M j k (i + 1) v))
    rw [hasAll_eq M j (lb_mono (hv.rt i (by omega)) hv.m12)]
    show (if (if (M 12 0 i) &&& ((sp_X1_stepsIn M j 2) ^^^ (-1)) = 0 then (1 : Int32) else 0) = 0 then _ else _) = _
    have e : v ||| 0 = v := qb_ext fun b _ => by rw [qb_or, qb_zero, Bool.or_false]
    by_cases c : (M 12 0 i) &&& ((sp_X1_stepsIn M j 2) ^^^ (-1)) = 0
    · rw [if_pos c, if_neg (by decide), if_pos c, ih _ _ (by omega)]
    · rw [if_neg c, if_pos rfl, if_neg c, ih _ _ (by omega), e]
theorem rightsOf_eq {M : STT} (hv : IV M) (j : Nat) : sp_X10_rightsOf M j = some (sp_X2_rightsOf M j) := by
  unfold sp_X10_rightsOf sp_X2_rightsOf
  exact is_none (rightsOf_lp hv j _ 0 0 (by omega)) rfl
end PLAINC
