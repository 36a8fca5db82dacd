section PLAINI
theorem long_bit (p : Int32) {i : Nat} (hi : i < 12) : lg_cmp ((p.toInt64 >>> ((nI i).toInt64 &&& 63)) &&& 1) 0 = 0 ↔ ¬ qb p i = true := by
  rw [lg_cmp_eq]
  have e0 : (((nI i).toInt64 &&& 63 : Int64).toBitVec.smod 64).toNat = i := by
    have h : ∀ i, i < 12 → (((nI i).toInt64 &&& 63 : Int64).toBitVec.smod 64).toNat = i := by decide +kernel
    exact h i hi
  have e1 : (p.toInt64 >>> ((nI i).toInt64 &&& 63)).toBitVec = (p.toBitVec.signExtend 64).sshiftRight i := by
    rw [Int64.toBitVec_shiftRight]
    show (p.toInt64.toBitVec).sshiftRight (((nI i).toInt64 &&& 63 : Int64).toBitVec.smod 64).toNat = _
    rw [e0]; rfl
  have e3 : ((p.toBitVec.signExtend 64).sshiftRight i).getLsbD 0 = qb p i := by
    rw [BitVec.getLsbD_sshiftRight, if_pos (show i + 0 < 64 by omega), BitVec.getLsbD_signExtend, if_pos (show i + 0 < 32 by omega), decide_eq_true (show i + 0 < 64 by omega), decide_eq_false (show ¬ 64 ≤ 0 by omega)]
    rfl
  rw [← Int64.toBitVec_inj, Int64.toBitVec_and, e1]
  show ((p.toBitVec.signExtend 64).sshiftRight i &&& 1#64 = 0#64) ↔ _
  rw [BitVec.and_one_eq_setWidth_ofBool_getLsbD, e3]
  cases qb p i <;> decide
theorem ge_tail {T : STT} {p : Int32} : ∀ (k i : Nat) (v : Int32), (∀ b, i ≤ b → ¬ qb p b = true) → i + k ≤ 12 → lp_X0_greatestEnd_4 T p k i v = v := by
  intro k
  induction k with
  | zero => intro i v _ _; rfl
  | succ k ih =>
    intro i v h h2
    rw [lp_X0_greatestEnd_4, if_pos ((has_zero (by omega)).mpr (h i (Nat.le_refl i)))]
    exact ih _ _ (fun b hb => h b (by omega)) (by omega)
theorem ge_none {T : STT} {p : Int32} {b : Nat} (hq : qb p b = true) (hT : T 23 0 b = -1) : ∀ (k i : Nat) (v : Int32), i ≤ b → b < i + k → i + k ≤ 12 → lp_X0_greatestEnd_4 T p k i v = -1 := by
  intro k
  induction k with
  | zero => intro i v h1 h2; omega
  | succ k ih =>
    intro i v h1 h2 h3
    rw [lp_X0_greatestEnd_4]
    by_cases e : i = b
    · subst e
      rw [if_neg (fun z => (has_zero (by omega)).mp z hq), if_pos hT]
    · by_cases c : sp_X5_has p (nI i) = 0
      · rw [if_pos c]; exact ih _ _ (by omega) (by omega) (by omega)
      · rw [if_neg c]
        by_cases d : T 23 0 i = -1
        · rw [if_pos d]
        · rw [if_neg d]; exact ih _ _ (by omega) (by omega) (by omega)
theorem ge_left {T : STT} {p : Int32} (h : FL T 12) : sp_X0_greatestEnd T p = -1 := by
  have a : ∀ k i, i + k ≤ 12 → lp_X0_greatestEnd_4 T p k i (-1) = -1 := by
    intro k
    induction k with
    | zero => intro i _; rfl
    | succ k ih =>
      intro i h2
      rw [lp_X0_greatestEnd_4, if_pos (h i (by omega)).2, ih _ (by omega), ite_self]
  exact a 12 0 (by omega)
theorem end_lp {T N : STT} {j : Nat} (hv : IV N) (hj : j < (N 0 0 0).toNatClampNeg) (hR : FR T N j 12) {p : Int32} (hp : ∀ b, qb p b = true → qb (N 6 j 0) b = true) : ∀ (k i : Nat) (v : Int32), i + k = (N 1 0 0).toNatClampNeg → lp_X10_end__6 N j p.toInt64 k i v = some (lp_X0_greatestEnd_4 T p (12 - i) i v) := by
  have hm := hv.m12
  intro k
  induction k with
  | zero =>
    intro i v h
    rw [ge_tail _ _ _ (fun b hb z => by have := hv.js j hj b (hp b z); omega) (by omega)]; rfl
  | succ k ih =>
    intro i v h
    rw [show 12 - i = (12 - (i + 1)) + 1 by omega, lp_X10_end__6, lp_X0_greatestEnd_4]
    by_cases c : qb p i = true
    · rw [if_neg (fun z => (long_bit p (by omega)).mp z c), if_neg (fun z => (has_zero (by omega)).mp z c)]
      have hE : sp_X10_endd N j (nI i) = some (T 23 0 i) := ((hR i (by omega)).1 (hp i c) 12 (by omega)).2
      refine is_none hE ?_
      by_cases d : T 23 0 i = -1
      · rw [if_pos d, if_pos d]
      · rw [if_neg d, if_neg d]; exact ih _ _ (by omega)
    · rw [if_pos ((long_bit p (by omega)).mpr c), if_pos ((has_zero (by omega)).mpr c)]
      exact ih _ _ (by omega)
theorem endOf_eq {T N : STT} {j : Nat} (hv : IV N) (hj : j < (N 0 0 0).toNatClampNeg) (hF : FF T N j) : sp_X10_endOf N j = some (sp_X0_greatestEnd T (N 6 j 0)) := by
  unfold sp_X10_endOf
  by_cases c : N 6 j 2 = 0
  · rw [if_pos c]
    have h : sp_X10_end_ N j (N 6 j 0).toInt64 = some (sp_X0_greatestEnd T (N 6 j 0)) := end_lp hv hj (hF.2.1 c) (fun b hb => hb) _ 0 _ (by omega)
    exact is_none h rfl
  · rw [if_neg c, ge_left (hF.2.2 c)]
theorem not_all {a b : Int32} (hb : lb a 12) (h : ¬ a &&& (b ^^^ (-1)) = 0) : ∃ k, k < 12 ∧ qb a k = true ∧ ¬ qb b k = true := by
  refine Classical.byContradiction fun z => h (qb_nil.mpr fun i hi => ?_)
  rw [qb_and, qb_not _ hi]
  cases c : qb a i
  · rfl
  · cases d : qb b i
    · exact absurd ⟨i, hb i c, c, by rw [d]; decide⟩ z
    · rfl
theorem rightOnNow_eq {T N : STT} {j q : Nat} (hv : IV N) (hj : j < (N 0 0 0).toNatClampNeg) (hF : FF T N j) (hq : q < (N 1 0 1).toNatClampNeg) : sp_X10_rightOnNow N j (nI q) = some (sp_X0_dayBehind T (N 12 0 q)) := by
  have hr := hv.r6
  unfold sp_X10_rightOnNow sp_X0_dayBehind
  rw [if_neg (q_ix hq (by omega)), q_cl (by omega)]
  by_cases c : N 6 j 2 = 0
  · rw [if_pos c]
    have hlb := lb_mono (hv.rt q hq) hv.m12
    by_cases d : N 12 0 q &&& (N 6 j 0 ^^^ (-1)) = 0
    · rw [if_pos d]
      have hp : ∀ b, qb (N 12 0 q) b = true → qb (N 6 j 0) b = true := by
        intro b hb
        have k := qb_nil.mp d b (by have := hlb b hb; omega)
        rw [qb_and, hb, Bool.true_and, qb_not _ (by have := hlb b hb; omega)] at k
        cases e : qb (N 6 j 0) b
        · rw [e] at k; exact nomatch k
        · rfl
      have h : sp_X10_end_ N j (N 12 0 q).toInt64 = some (sp_X0_greatestEnd T (N 12 0 q)) := end_lp hv hj (hF.2.1 c) hp _ 0 _ (by omega)
      refine is_none h ?_
      by_cases e : sp_X0_greatestEnd T (N 12 0 q) = -1
      · rw [if_pos e, if_pos e]
      · rw [if_neg e, if_neg e]
    · rw [if_neg d]
      obtain ⟨k, k1, k2, k3⟩ := not_all hlb d
      have e : sp_X0_greatestEnd T (N 12 0 q) = -1 := ge_none k2 (((hF.2.1 c) k k1).2 k3).2 12 0 _ (by omega) (by omega) (by omega)
      rw [if_pos e]
  · rw [if_neg c, if_pos (ge_left (hF.2.2 c))]
theorem nI_iff {w n : Nat} (hw : w < 1000) (hn : n < 1000) : (nI w = nI n) ↔ w = n := ⟨fun z => q_inj (by omega) (by omega) z, fun z => by rw [z]⟩
theorem c6 {w : Nat} (h : w < 6) : w = 0 ∨ w = 1 ∨ w = 2 ∨ w = 3 ∨ w = 4 ∨ w = 5 := by omega
theorem ofStepNow_eq {T N : STT} {j k w : Nat} (hv : IV N) (hj : j < (N 0 0 0).toNatClampNeg) (hF : FF T N j) (hq : qb (N 6 j 0) k = true) (hw : w < 6) : sp_X10_ofStepNow N j (nI k) (nI w) = some (sp_X5_foreseenOfStep T j (nI k) (nI w)) := by
  have hm := hv.m12
  have hk := hv.js j hj k hq
  have h12 : k < 12 := by omega
  have h24 : T 24 = N 24 := hF.1.1 24 rfl
  have h28 : T 28 = N 28 := hF.1.1 28 rfl
  have h27 := hF.1.2.1
  have h22 : (if N 6 j 2 = 0 then ((sp_X10_expd N j (nI k)).bind fun x_5 => (some (x_5))) else (some ((-1)))) = some (T 22 0 k) := by
    by_cases c : N 6 j 2 = 0
    · rw [if_pos c]
      have h : sp_X10_expd N j (nI k) = some (T 22 0 k) := ((hF.2.1 c k h12).1 hq 12 h12).1
      exact is_none h rfl
    · rw [if_neg c, (hF.2.2 c k h12).1]
  have h23 : (if N 6 j 2 = 0 then ((sp_X10_endd N j (nI k)).bind fun x_8 => (some (x_8))) else (some ((-1)))) = some (T 23 0 k) := by
    by_cases c : N 6 j 2 = 0
    · rw [if_pos c]
      have h : sp_X10_endd N j (nI k) = some (T 23 0 k) := ((hF.2.1 c k h12).1 hq 12 h12).2
      exact is_none h rfl
    · rw [if_neg c, (hF.2.2 c k h12).2]
  have hL : ((sp_X10_length N j (nI k)).bind fun x_12 => (some (x_12))) = some (sp_X2_lengthFor T j (nI k)) := by
    rw [lengthFor_cong (S := T) (T := N) (by rw [show T 6 = N 6 from hF.1.1 6 rfl]) (hF.1.1 7 rfl) (hF.1.1 8 rfl) (hF.1.1 10 rfl) (by rw [h24]) (by rw [show T 26 = N 26 from hF.1.1 26 rfl])]
    exact is_none (length_eq hv hj hk) rfl
  have d0 := nI_iff (w := w) (n := 0) (by omega) (by decide)
  have d1 := nI_iff (w := w) (n := 1) (by omega) (by decide)
  have d2 := nI_iff (w := w) (n := 2) (by omega) (by decide)
  have d3 := nI_iff (w := w) (n := 3) (by omega) (by decide)
  have d4 := nI_iff (w := w) (n := 4) (by omega) (by decide)
  unfold sp_X10_ofStepNow sp_X5_foreseenOfStep
  rw [h22, h23, hL, if_neg (q_ix h12 (by decide)), if_neg (q_ix h12 (by decide)), if_neg (q_ix h12 (by decide)), if_neg (q_ge (by omega)), if_pos (lt12 h12), q_cl (i := k) (by omega), h24, h27, h28]
  simp only [show (0 : Int32) = nI 0 from rfl, show (1 : Int32) = nI 1 from rfl, show (2 : Int32) = nI 2 from rfl, show (3 : Int32) = nI 3 from rfl, show (4 : Int32) = nI 4 from rfl, d0, d1, d2, d3, d4]
  rcases c6 hw with h | h | h | h | h | h <;> subst h <;> rfl
theorem c7 {w : Nat} (h : w < 7) : w = 0 ∨ w = 1 ∨ w = 2 ∨ w = 3 ∨ w = 4 ∨ w = 5 ∨ w = 6 := by omega
theorem at7 (z x0 x1 x2 x3 x4 x5 x6 : Int32) {w : Nat} (hw : w < 7) : upd (upd (upd (upd (upd (upd (upd (fun _ => z) 0 x0) 1 x1) 2 x2) 3 x3) 4 x4) 5 x5) 6 x6 w = if w = 0 then x0 else (if w = 1 then x1 else (if w = 2 then x2 else (if w = 3 then x3 else (if w = 4 then x4 else (if w = 5 then x5 else x6))))) := by
  rcases c7 hw with h | h | h | h | h | h | h <;> subst h <;> rfl
theorem ofJoinerNow_eq {T N : STT} {j w : Nat} (hv : IV N) (hj : j < (N 0 0 0).toNatClampNeg) (hF : FF T N j) (hw : w < 7) : sp_X10_ofJoinerNow N j (nI w) = some (sp_X5_foreseenOfJoiner T j (nI w)) := by
  have h6 : T 6 = N 6 := hF.1.1 6 rfl
  have h24 : T 24 = N 24 := hF.1.1 24 rfl
  unfold sp_X10_ofJoinerNow
  refine is_none (in_eq N j 2) (is_none (in_eq N j 1) (is_none (rightsOf_eq hv j) (is_none (endOf_eq hv hj hF) ?_)))
  rw [if_neg (q_ix hw (by decide)), q_cl (by omega)]
  have d0 := nI_iff (w := w) (n := 0) (by omega) (by decide)
  have d1 := nI_iff (w := w) (n := 1) (by omega) (by decide)
  have d2 := nI_iff (w := w) (n := 2) (by omega) (by decide)
  have d3 := nI_iff (w := w) (n := 3) (by omega) (by decide)
  have d4 := nI_iff (w := w) (n := 4) (by omega) (by decide)
  have d5 := nI_iff (w := w) (n := 5) (by omega) (by decide)
  unfold sp_X5_foreseenOfJoiner
  rw [countIn_cong (S := T) (T := N) (by rw [h6]) (by rw [h24]), countIn_cong (S := T) (T := N) (by rw [h6]) (by rw [h24]), rightsOf_cong (S := T) (T := N) (hF.1.1 1 rfl) (by rw [h6]) (hF.1.1 12 rfl) (by rw [h24]), h6]
  generalize sp_X1_countIn N j 2 = x2
  generalize sp_X1_countIn N j 1 = x3
  generalize sp_X2_rightsOf N j = x4
  generalize sp_X0_greatestEnd T (N 6 j 0) = x6
  generalize (if N 6 j 2 = 0 then (0 : Int32) else 1) = x5
  generalize N 6 j 0 = x0
  generalize N 6 j 1 = x1
  simp only [show (0 : Int32) = nI 0 from rfl, show (1 : Int32) = nI 1 from rfl, show (2 : Int32) = nI 2 from rfl, show (3 : Int32) = nI 3 from rfl, show (4 : Int32) = nI 4 from rfl, show (5 : Int32) = nI 5 from rfl, d0, d1, d2, d3, d4, d5]
  rw [at7 _ _ _ _ _ _ _ _ hw]
theorem c4 {w : Nat} (h : w < 4) : w = 0 ∨ w = 1 ∨ w = 2 ∨ w = 3 := by omega
theorem ofSessionNow_eq {S M : STT} {q w : Nat} (hv : IV M) (R : RW S M) (hT : TK S M) (hq : q < (M 3 0 0).toNatClampNeg) (hw : w < 4) : sp_X10_ofSessionNow M (nI q) (nI w) = some (sp_X5_ofSession_n S (nI q) (nI w)) := by
  have he := hv.e20
  unfold sp_X10_ofSessionNow sp_X5_ofSession_n
  rw [if_neg (q_ix hq (by omega)), hT q (by omega), R.r17, R.r18, R.r19]
  show (if nI w < 0 ∨ 4 ≤ (nI w).toNatClampNeg then none else _) = _
  rw [if_neg (q_ix hw (by decide)), q_cl (i := w) (by omega), q_cl (i := q) (by omega)]
  have d0 := nI_iff (w := w) (n := 0) (by omega) (by decide)
  have d1 := nI_iff (w := w) (n := 1) (by omega) (by decide)
  have d2 := nI_iff (w := w) (n := 2) (by omega) (by decide)
  simp only [show (0 : Int32) = nI 0 from rfl, show (1 : Int32) = nI 1 from rfl, show (2 : Int32) = nI 2 from rfl, d0, d1, d2]
  rcases c4 hw with h | h | h | h <;> subst h <;> rfl
theorem ofItemNow_eq {S M : STT} {q w : Nat} (hv : IV M) (R : RW S M) (hT : TH M) (hq : q < 4) (hw : w < 4) : sp_X10_ofItemNow M (nI q) (nI w) = some (sp_X5_ofItem_n S (nI q) (nI w)) := by
  have hO := OD.of R hT
  unfold sp_X10_ofItemNow sp_X5_ofItem_n
  rw [if_neg (q_ix hq (by decide)), q_cl (i := q) (by omega), comes_eq hO, toCome_eq hO R.r15.symm, waiting_eq hv, R.r13, waiting_cong R.r0 R.r6 R.r7 R.r9 R.r10 R.r24, R.r0]
  have d0 := nI_iff (w := w) (n := 0) (by omega) (by decide)
  have d1 := nI_iff (w := w) (n := 1) (by omega) (by decide)
  have d2 := nI_iff (w := w) (n := 2) (by omega) (by decide)
  generalize sp_X3_earliestToCome S (nI q) (M 0 0 1) (-1) 0 = x2
  generalize sp_X3_piecesToCome S (nI q) (M 0 0 1) = x1
  generalize sp_X5_countWaitingFor M (nI q) = x3
  generalize M 13 0 q = x0
  simp only [show (0 : Int32) = nI 0 from rfl, show (1 : Int32) = nI 1 from rfl, show (2 : Int32) = nI 2 from rfl, d0, d1, d2]
  rcases c4 hw with h | h | h | h <;> subst h <;> rfl
end PLAINI
