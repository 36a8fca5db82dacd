section PLAINL
theorem isToday_eq {B D : Nat} {S M : STT} (hC : RC B D S M) {j i : Nat} (hj : j < (M 0 0 0).toNatClampNeg) (hi : i < 12) : sp_X10_isToday M j (nI i) = some (if sp_X4_dayOf S (M 27 j i) = M 0 0 1 then 1 else 0) := by
  have hv := hC.iv
  have t0 := hv.t0
  unfold sp_X10_isToday
  rw [if_neg (q_ix hi (by decide)), q_cl (by omega)]
  rcases hv.bk j hj i hi with b | ⟨b0, b1, -⟩
  · rw [if_pos b, b, dayOf_none, if_neg (fun z => m1_of t0 z.symm)]
  · rw [if_neg (m1_of b0), if_neg (in_rg b0 b1), dayOf_in b0 (by rw [hC.rw.r3]; exact b1), hC.rw.r18]
    split <;> rfl
theorem canBegin_eq {B D : Nat} {S M : STT} (hC : RC B D S M) {j i : Nat} (hj : j < (M 0 0 0).toNatClampNeg) (hi : i < (M 1 0 0).toNatClampNeg) : sp_X10_canBegin M j (nI i) = some (if sp_X5_isReady M j (nI i) = 0 then 0 else sp_X5_canBegin S j (nI i)) := by
  have hv := hC.iv
  have hm := hv.m12
  unfold sp_X10_canBegin sp_X5_canBegin
  rw [if_neg (q_ix hi (by omega)), isReady_eq hv hj hi, q_cl (by omega), isToday_eq hC hj (by omega), if_neg (q_ge (by omega)), if_pos (lt12 (by omega)), hC.rw.r7, hC.rw.r10, hC.bq j hj, hC.rw.r0]
  show (if sp_X5_isReady M j (nI i) = 0 then _ else _) = _
  by_cases c0 : sp_X5_isReady M j (nI i) = 0
  · rw [if_pos c0, if_pos c0]
  · rw [if_neg c0, if_neg c0]
    by_cases c1 : M 7 0 i = 1
    · rw [if_pos c1, if_pos c1]
      obtain ⟨q, hq, e⟩ := it4 (hv.kt i hi c1)
      rw [e, if_neg (q_ix hq (by decide)), q_cl (by omega)]
      unfold sp_X3_hasPiece
      rw [if_neg (q_ge (by omega)), if_neg (is4 hq), q_cl (by omega), hC.rw.r13]
      split <;> rfl
    · rw [if_neg c1, if_neg c1]
      by_cases c2 : M 7 0 i = 2
      · rw [if_pos c2, if_pos c2]
        show (if (if sp_X4_dayOf S (M 27 j i) = M 0 0 1 then (1 : Int32) else 0) = 0 then _ else _) = _
        by_cases c3 : sp_X4_dayOf S (M 27 j i) = M 0 0 1
        · rw [if_pos c3, if_neg (by decide)]
        · rw [if_neg c3, if_pos rfl]
      · rw [if_neg c2, if_neg c2]
theorem ready_open {M : STT} {j i : Nat} (hi : i < 12) (h : ¬ sp_X5_isReady M j (nI i) = 0) : M 24 j i = 0 ∧ qb (M 6 j 0) i = true := by
  refine (stepsIn_iff M j 0 hi).mp ?_
  cases z : qb (sp_X1_stepsIn M j 0) i
  · exfalso
    apply h
    unfold sp_X5_isReady
    rw [if_pos (c := sp_X1_isIn M j (nI i) 0 = 0) ((isIn_zero hi).mpr (by rw [z]; decide)), ite_self, ite_self]
  · rfl
/-- a begun step, in the order in which the one side writes -/
def bgW (T : STT) (j i : Nat) (len t : Int32) : STT := up3 (up3 (up3 T 26 j i len) 25 j i t) 24 j i 1
theorem bgW_f {T : STT} {j i : Nat} {len t : Int32} {f : Nat} (h1 : f ≠ 24) (h2 : f ≠ 25) (h3 : f ≠ 26) : bgW T j i len t f = T f := by
  unfold bgW; rw [up3_f h1, up3_f h2, up3_f h3]
theorem begin_one {B D : Nat} {S M : STT} (hC : RC B D S M) (hN : RN M) {j i : Nat} (hj : j < (M 0 0 0).toNatClampNeg) (hi : i < (M 1 0 0).toNatClampNeg) (hr : ¬ sp_X5_isReady M j (nI i) = 0) (hb : ¬ sp_X5_canBegin S j (nI i) = 0) : ∃ M', sp_X10_begin M j (nI i) = some M' ∧ RC B D (if S 7 0 i = 1 then (up3 (up3 (up3 (sp_X3_takeOne S (S 10 0 i)) 26 j i (sp_X2_lengthFor (sp_X3_takeOne S (S 10 0 i)) j (nI i))) 25 j i ((sp_X3_takeOne S (S 10 0 i)) 0 0 1)) 24 j i 1) else (up3 (up3 (up3 S 26 j i (sp_X2_lengthFor S j (nI i))) 25 j i (S 0 0 1)) 24 j i 1)) M' ∧ RN M' ∧ (∀ f, f ≠ 13 → f ≠ 24 → f ≠ 25 → f ≠ 26 → M' f = M f) := by
  have hv := hC.iv
  have hm := hv.m12
  have h12 : i < 12 := by omega
  have t0 := hv.t0
  have t1 := hv.t1
  obtain ⟨ho, hq⟩ := ready_open h12 hr
  obtain ⟨l0, l1⟩ := length_bd hv (j := j) hi ho
  have el : sp_X2_lengthFor S j (nI i) = sp_X2_lengthFor M j (nI i) := lengthFor_cong (by rw [hC.rw.r6]) hC.rw.r7 hC.rw.r8 hC.rw.r10 (by rw [hC.rw.r24]) (by rw [hC.rw.r26]) _
  have main : ∀ {S2 M2 : STT}, RC B D S2 M2 → M2 0 = M 0 → M2 6 = M 6 → M2 24 = M 24 → M2 25 = M 25 → M2 26 = M 26 → RC B D (bgW S2 j i (sp_X2_lengthFor M j (nI i)) (M 0 0 1)) (bgW M2 j i (sp_X2_lengthFor M j (nI i)) (M 0 0 1)) ∧ RN (bgW M2 j i (sp_X2_lengthFor M j (nI i)) (M 0 0 1)) := by
    intro S2 M2 h2 e0 e6 e24 e25 e26
    have hj2 : j < (M2 0 0 0).toNatClampNeg := by rw [e0]; exact hj
    refine ⟨((h2.put26 hj2 (by omega) l1).put25 hj2 t0 t1).put24 hj2 (by show qb (M2 6 j 0) i = true; rw [e6]; exact hq), fun a ha hla b hb hs => ?_⟩
    have ha : a < (M2 0 0 0).toNatClampNeg := ha
    have hla : M2 6 a 2 = 0 := hla
    have hs : (up3 M2 24 j i 1) 24 a b = 1 := hs
    show (M2 0 0 1).toInt < ((up3 M2 25 j i (M 0 0 1)) 25 a b).toInt + ((up3 M2 26 j i (sp_X2_lengthFor M j (nI i))) 26 a b).toInt
    rw [up3_24] at hs
    rw [up3_24, up3_24]
    by_cases q : a = j ∧ b = i
    · rw [if_pos q, if_pos q, e0]; omega
    · rw [if_neg q] at hs
      rw [if_neg q, if_neg q, e0, e25, e26]
      exact hN a (by rw [← e0]; exact ha) (by rw [← e6]; exact hla) b hb (by rw [← e24]; exact hs)
  unfold sp_X10_begin
  rw [length_eq hv hj hi, hC.rw.r7]
  show ∃ M', (if (nI i) < 0 ∨ 12 ≤ (nI i).toNatClampNeg then none else _) = some M' ∧ _
  rw [if_neg (q_ix h12 (by decide)), if_neg (q_ix hi (by omega)), q_cl (by omega)]
  by_cases c1 : M 7 0 i = 1
  · rw [if_pos c1, if_pos c1, hC.rw.r10]
    obtain ⟨q, hq4, e⟩ := it4 (hv.kt i hi c1)
    have hpos : ¬ M 13 0 q ≤ 0 := by
      intro z
      apply hb
      unfold sp_X5_canBegin
      rw [if_neg (q_ge (by omega)), if_pos (lt12 h12), q_cl (by omega), hC.rw.r7, if_pos c1, hC.rw.r10, e]
      unfold sp_X3_hasPiece
      rw [if_neg (q_ge (by omega)), if_neg (is4 hq4), q_cl (by omega), hC.rw.r13, if_pos z]
    have hp : 1 ≤ (M 13 0 q).toInt := by
      rw [Int32.le_iff_toInt_le] at hpos
      have h0 : (0 : Int32).toInt = 0 := rfl
      omega
    have sb := hC.sb q hq4
    have lt := Int32.toInt_lt (M 13 0 q)
    have es : (M 13 0 q - 1).toInt = (M 13 0 q).toInt - 1 := by
      rw [Int32.toInt_sub, show (1 : Int32).toInt = 1 from rfl, Int.bmod_eq_of_le (by omega) (by omega)]
    rw [e, if_neg (q_ix hq4 (by decide)), q_cl (by omega), takeOne_eq hq4 (by rw [hC.rw.r13]; exact hpos), hC.rw.r13]
    have hC2 : RC B D (up3 S 13 0 q (M 13 0 q - 1)) (up3 M 13 0 q (M 13 0 q - 1)) := hC.stock (by omega) (by omega) (Nat.le_refl B)
    obtain ⟨x1, x2⟩ := main hC2 rfl rfl rfl rfl rfl
    have em : up3 (up3 (up3 (up3 M 26 j i (sp_X2_lengthFor M j (nI i))) 24 j i 1) 25 j i (M 0 0 1)) 13 0 q (M 13 0 q - 1) = bgW (up3 M 13 0 q (M 13 0 q - 1)) j i (sp_X2_lengthFor M j (nI i)) (M 0 0 1) := by
      unfold bgW
      rw [up3_comm (f := 24) (g := 25) (by decide), up3_comm (f := 24) (g := 13) (by decide), up3_comm (f := 25) (g := 13) (by decide), up3_comm (f := 26) (g := 13) (by decide)]
    have el2 : sp_X2_lengthFor (up3 S 13 0 q (M 13 0 q - 1)) j (nI i) = sp_X2_lengthFor M j (nI i) := by
      rw [← el]
      exact lengthFor_cong (by rw [up3_f (by decide)]) (up3_f (by decide)) (up3_f (by decide)) (up3_f (by decide)) (by rw [up3_f (by decide)]) (by rw [up3_f (by decide)]) _
    have et : (up3 S 13 0 q (M 13 0 q - 1)) 0 0 1 = M 0 0 1 := by rw [up3_f (by decide), hC.rw.r0]
    rw [em, el2, et]
    refine ⟨_, rfl, x1, x2, fun f h1 h2 h3 h4 => ?_⟩
    rw [bgW_f h2 h3 h4, up3_f h1]
  · rw [if_neg c1, if_neg c1, el, hC.rw.r0]
    obtain ⟨x1, x2⟩ := main hC rfl rfl rfl rfl rfl
    have em : up3 (up3 (up3 M 26 j i (sp_X2_lengthFor M j (nI i))) 24 j i 1) 25 j i (M 0 0 1) = bgW M j i (sp_X2_lengthFor M j (nI i)) (M 0 0 1) := by
      unfold bgW
      rw [up3_comm (f := 24) (g := 25) (by decide)]
    rw [em]
    exact ⟨_, rfl, x1, x2, fun f h1 h2 h3 h4 => bgW_f h2 h3 h4⟩
theorem begin_lp2 {B D : Nat} {j : Nat} (Q Z Z2 Sx : STT) (w : Int32) (xx : Int32 × STT) (K m : Nat) : ∀ (k i : Nat) (S M : STT), i + k = 12 → m = (M 1 0 0).toNatClampNeg → RC B D S M → j < (M 0 0 0).toNatClampNeg → RN M → ∃ M', lp_X10_day_243 Q xx Z w Z2 K j Sx (m - i) i M = some M' ∧ RC B D (lp_X5_beginSteps_2 j k i S) M' ∧ RN M' ∧ (∀ f, f ≠ 13 → f ≠ 24 → f ≠ 25 → f ≠ 26 → M' f = M f) := by
  intro k
  induction k with
  | zero =>
    intro i S M h hm hC hj hN
    have := hC.iv.m12
    rw [show m - i = 0 by omega]
    exact ⟨M, rfl, hC, hN, fun f _ _ _ _ => rfl⟩
  | succ k ih =>
    intro i S M h hm hC hj hN
    have hv := hC.iv
    have hm12 := hv.m12
    have hi : i < 12 := by omega
    have er : sp_X5_isReady S j (nI i) = sp_X5_isReady M j (nI i) := isReady_cong hC.rw.r0 (by rw [hC.rw.r6]) hC.rw.r9 (by rw [hC.rw.r24]) _
    rw [lp_X5_beginSteps_2, er]
    by_cases cm : i < m
    · rw [show m - i = (m - (i + 1)) + 1 by omega, lp_X10_day_243, canBegin_eq hC hj (by omega)]
      show ∃ M', (if (if sp_X5_isReady M j (nI i) = 0 then 0 else sp_X5_canBegin S j (nI i)) = 0 then _ else _) = some M' ∧ _
      by_cases c0 : sp_X5_isReady M j (nI i) = 0
      · rw [if_pos c0, if_pos rfl, if_pos c0]; exact ih _ S M (by omega) hm hC hj hN
      · rw [if_neg c0, if_neg c0]
        by_cases c1 : sp_X5_canBegin S j (nI i) = 0
        · rw [if_pos c1, if_pos c1]; exact ih _ S M (by omega) hm hC hj hN
        · rw [if_neg c1, if_neg c1]
          obtain ⟨M1, x1, x2, x3, x4⟩ := begin_one hC hN hj (by omega) c0 c1
          rw [x1]
          have step := ih (i + 1) _ M1 (by omega) (by rw [x4 1 (by decide) (by decide) (by decide) (by decide)]; exact hm) x2 (by rw [x4 0 (by decide) (by decide) (by decide) (by decide)]; exact hj) x3
          obtain ⟨M2, y1, y2, y3, y4⟩ := step
          refine ⟨M2, y1, ?_, y3, fun f h1 h2 h3 h4 => (y4 f h1 h2 h3 h4).trans (x4 f h1 h2 h3 h4)⟩
          by_cases c7 : S 7 0 i = 1
          · rw [if_pos c7] at y2 ⊢; exact y2
          · rw [if_neg c7] at y2 ⊢; exact y2
    · rw [if_pos (isReady_out hv hj (by omega) hi)]
      have k2 := ih (i + 1) S M (by omega) hm hC hj hN
      rw [show m - i = 0 by omega]
      rw [show m - (i + 1) = 0 by omega] at k2
      exact k2
theorem beginAll_lp {B D : Nat} (Q Z Z2 : STT) (w : Int32) (xx : Int32 × STT) : ∀ (k i : Nat) (S M : STT), i + k = (M 0 0 0).toNatClampNeg → (Q 1 0 0).toNatClampNeg = (M 1 0 0).toNatClampNeg → RC B D S M → RN M → ∃ M', lp_X10_day_221 Q xx Z w Z2 k i M = some M' ∧ RC B D (lp_X5_day_76 k i S) M' ∧ RN M' ∧ (∀ f, f ≠ 13 → f ≠ 24 → f ≠ 25 → f ≠ 26 → M' f = M f) := by
  intro k
  induction k with
  | zero => intro i S M h hQ hC hN; exact ⟨M, rfl, hC, hN, fun f _ _ _ _ => rfl⟩
  | succ k ih =>
    intro i S M h hQ hC hN
    have hj : i < (M 0 0 0).toNatClampNeg := by omega
    rw [lp_X10_day_221, lp_X5_day_76, un_X5_beginSteps]; unfold rw_X5_beginSteps
    obtain ⟨M1, x1, x2, x3, x4⟩ := begin_lp2 (B := B) (D := D) (j := i) Q Z Z2 M w xx k (Q 1 0 0).toNatClampNeg 12 0 S M (by omega) hQ hC hj hN
    have x1 : lp_X10_day_243 Q xx Z w Z2 k i M (Q 1 0 0).toNatClampNeg 0 M = some M1 := x1
    rw [x1]
    obtain ⟨M2, y1, y2, y3, y4⟩ := ih (i + 1) _ M1 (by rw [x4 0 (by decide) (by decide) (by decide) (by decide)]; omega) (by rw [x4 1 (by decide) (by decide) (by decide) (by decide)]; exact hQ) x2 x3
    exact ⟨M2, y1, y2, y3, fun f h1 h2 h3 h4 => (y4 f h1 h2 h3 h4).trans (x4 f h1 h2 h3 h4)⟩
theorem release_none (S : STT) : sp_X4_release S (-1) = S := by
  rw [un_X4_release]; unfold rw_X4_release; rw [if_pos (by decide)]
theorem release_in {S : STT} {b : Int32} (h0 : 0 ≤ b.toInt) (h1 : b.toInt < (S 3 0 0).toInt) : sp_X4_release S b = up3 S 20 0 b.toNatClampNeg (S 20 0 b.toNatClampNeg - 1) := by
  rw [un_X4_release]; unfold rw_X4_release
  rw [if_neg (nn_of h0), if_neg (by rw [Int32.le_iff_toInt_le]; omega)]
theorem nI_pr (a : Nat) : nI (a + 1) - 1 = nI a := by
  rw [← q_succ, Int32.add_sub_cancel]
theorem RC.free {B D : Nat} {S M : STT} (h : RC B D S M) {j i : Nat} (hj : j < (M 0 0 0).toNatClampNeg) (hi : i < 12) : RC B D (up3 (sp_X4_release S (M 27 j i)) 27 j i (-1)) (up3 M 27 j i (-1)) := by
  have he := h.iv.e20
  have e1 : (M 3 0 0).toNatClampNeg = (M 3 0 0).toInt.toNat := rfl
  have key : ∀ k, k < 20 → cJ ((up3 M 27 j i (-1)) 27) (nI k) (M 0 0 0).toNatClampNeg + (if M 27 j i = nI k then 1 else 0) = cJ (M 27) (nI k) (M 0 0 0).toNatClampNeg := by
    intro k hk
    have c := cJ_up (M := M) (j := j) (v := -1) (s := nI k) hi (M 0 0 0).toNatClampNeg
    rw [if_neg (c := j < (M 0 0 0).toNatClampNeg ∧ (-1 : Int32) = nI k) (fun z => nI_ne1 (by omega) z.2)] at c
    by_cases d : M 27 j i = nI k
    · rw [if_pos ⟨hj, d⟩] at c; rw [if_pos d]; omega
    · rw [if_neg (fun z => d z.2)] at c; rw [if_neg d]; omega
  rcases h.iv.bk j hj i hi with b | ⟨b0, b1, -⟩
  · rw [b, release_none]
    refine h.put27 hj (.inl rfl) (fun f _ => rfl) (fun k hk => ?_)
    have k2 := key k hk
    rw [b, if_neg (nI_ne1 (by omega)), Nat.add_zero] at k2
    rw [k2]; exact h.tk k hk
  · have eb := cn_eq b0
    have hb : (M 27 j i).toNatClampNeg = (M 27 j i).toInt.toNat := rfl
    rw [release_in b0 (by rw [h.rw.r3]; exact b1)]
    generalize hg : (M 27 j i).toNatClampNeg = a at eb hb ⊢
    refine h.put27 hj (.inl rfl) (fun f hf => up3_f hf) (fun k hk => ?_)
    have k2 := key k hk
    rw [eb] at k2
    by_cases d : k = a
    · subst d
      rw [if_pos rfl] at k2
      rw [up3_e, h.tk k hk, ← k2, nI_pr]
    · rw [if_neg (fun z => d (q_inj (by omega) (by omega) z).symm), Nat.add_zero] at k2
      rw [up3_i d, k2]; exact h.tk k hk
theorem RN.same {M M' : STT} (h : RN M) (h0 : M' 0 = M 0) (h6 : M' 6 = M 6) (h24 : M' 24 = M 24) (h25 : M' 25 = M 25) (h26 : M' 26 = M 26) : RN M' := by
  unfold RN at h ⊢
  rw [h0, h6, h24, h25, h26]; exact h
theorem TH.same {M M' : STT} (h : TH M) (h0 : M' 0 = M 0) (h2 : M' 2 = M 2) (h16 : M' 16 = M 16) (h41 : M' 41 = M 41) : TH M' := by
  unfold TH at h ⊢
  rw [h0, h2, h16, h41]; exact h
theorem lose_lp {B D : Nat} {j : Nat} (Q Z Z2 Z3 Sx : STT) (w : Int32) (xx : Int32 × STT) (K m : Nat) : ∀ (k i : Nat) (S M : STT), i + k = 12 → m = (M 1 0 0).toNatClampNeg → RC B D S M → j < (M 0 0 0).toNatClampNeg → ∃ M', lp_X10_day_311 Q xx Z w Z2 Z3 K j Sx (m - i) i M = some M' ∧ RC B D (lp_X5_loseSessions_2 j k i S) M' ∧ (∀ f, f ≠ 27 → f ≠ 28 → M' f = M f) := by
  intro k
  induction k with
  | zero =>
    intro i S M h hm hC hj
    have := hC.iv.m12
    rw [show m - i = 0 by omega]
    exact ⟨M, rfl, hC, fun f _ _ => rfl⟩
  | succ k ih =>
    intro i S M h hm hC hj
    have hv := hC.iv
    have hm12 := hv.m12
    have hi : i < 12 := by omega
    have t0 := hv.t0
    rw [lp_X5_loseSessions_2, hC.rw.r24, hC.rw.r0, hC.bq j hj]
    by_cases hq : qb (M 6 j 0) i = true
    · have cm : i < m := by rw [hm]; exact hv.js j hj i hq
      have e0 : sp_X1_isIn M j (nI i) 0 = if M 24 j i = 0 then 1 else 0 := by
        rw [isIn_eq M j 0 hi]
        by_cases c : M 24 j i = 0
        · rw [if_pos c, if_pos ((stepsIn_iff M j 0 hi).mpr ⟨c, hq⟩)]
        · rw [if_neg c, if_neg (fun z => c ((stepsIn_iff M j 0 hi).mp z).1)]
      rw [show m - i = (m - (i + 1)) + 1 by omega, lp_X10_day_311, is_fun M j 0 hi, e0, isToday_eq hC hj hi]
      by_cases c : M 24 j i = 0
      · rw [if_pos c, if_neg (by decide), if_pos c]
        show ∃ M', (if (if sp_X4_dayOf S (M 27 j i) = M 0 0 1 then (1 : Int32) else 0) = 0 then _ else _) = some M' ∧ _
        by_cases d : sp_X4_dayOf S (M 27 j i) = M 0 0 1
        · rw [if_pos d, if_neg (by decide), if_pos d]
          have e28 : (sp_X4_release S (M 27 j i)) 28 j i = M 28 j i := by
            have hf := hC.free hj hi
            have := congrFun (congrFun (hf.rw 28 rfl) j) i
            rw [up3_f (by decide), up3_f (by decide)] at this
            exact this
          rw [e28]
          obtain ⟨M', x1, x2, x3⟩ := ih (i + 1) _ (up3 (up3 M 27 j i (-1)) 28 j i (M 28 j i + 1)) (by omega) hm ((hC.free hj hi).put28 (x := M 28 j i + 1) (i := i) hj) hj
          exact ⟨M', x1, x2, fun f h1 h2 => by rw [x3 f h1 h2, up3_f h2, up3_f h1]⟩
        · rw [if_neg d, if_pos rfl, if_neg d]; exact ih _ S M (by omega) hm hC hj
      · rw [if_neg c, if_pos rfl, if_neg c]; exact ih _ S M (by omega) hm hC hj
    · have b : M 27 j i = -1 := by
        rcases hv.bk j hj i hi with b | ⟨-, -, b⟩
        · exact b
        · exact absurd b hq
      have c0 : sp_X1_isIn M j (nI i) 0 = 0 := (isIn_zero hi).mpr fun z => hq ((stepsIn_iff M j 0 hi).mp z).2
      rw [b, dayOf_none, if_neg (c := (-1 : Int32) = M 0 0 1) (fun z => m1_of t0 z.symm), ite_self]
      have k2 := ih (i + 1) S M (by omega) hm hC hj
      by_cases cm : i < m
      · rw [show m - i = (m - (i + 1)) + 1 by omega, lp_X10_day_311, is_fun M j 0 hi, if_pos c0]; exact k2
      · rw [show m - i = 0 by omega]
        rw [show m - (i + 1) = 0 by omega] at k2
        exact k2
theorem loseAll_lp {B D : Nat} (Q Z Z2 Z3 : STT) (w : Int32) (xx : Int32 × STT) : ∀ (k i : Nat) (S M : STT), i + k = (M 0 0 0).toNatClampNeg → (Q 1 0 0).toNatClampNeg = (M 1 0 0).toNatClampNeg → RC B D S M → ∃ M', lp_X10_day_289 Q xx Z w Z2 Z3 k i M = some M' ∧ RC B D (lp_X5_day_101 k i S) M' ∧ (∀ f, f ≠ 27 → f ≠ 28 → M' f = M f) := by
  intro k
  induction k with
  | zero => intro i S M h hQ hC; exact ⟨M, rfl, hC, fun f _ _ => rfl⟩
  | succ k ih =>
    intro i S M h hQ hC
    have hj : i < (M 0 0 0).toNatClampNeg := by omega
    rw [lp_X10_day_289, lp_X5_day_101, un_X5_loseSessions]; unfold rw_X5_loseSessions
    obtain ⟨M1, x1, x2, x3⟩ := lose_lp (B := B) (D := D) (j := i) Q Z Z2 Z3 M w xx k (Q 1 0 0).toNatClampNeg 12 0 S M (by omega) hQ hC hj
    have x1 : lp_X10_day_311 Q xx Z w Z2 Z3 k i M (Q 1 0 0).toNatClampNeg 0 M = some M1 := x1
    rw [x1]
    obtain ⟨M2, y1, y2, y3⟩ := ih (i + 1) _ M1 (by rw [x3 0 (by decide) (by decide)]; omega) (by rw [x3 1 (by decide) (by decide)]; exact hQ) x2
    exact ⟨M2, y1, y2, fun f h1 h2 => (y3 f h1 h2).trans (x3 f h1 h2)⟩
theorem take_one {B D : Nat} (hB : B ≤ 1000000) {S M : STT} (hC : RC B D S M) (hN : RN M) {j : Nat} (hj : j < (M 0 0 0).toNatClampNeg) (hl : ¬ M 6 j 2 = 0) : ∃ M', sp_X10_takeBack M j = some M' ∧ RC (B + 1) D (sp_X5_takeBackStep S j) M' ∧ RN M' ∧ (∀ f, f ≠ 13 → f ≠ 24 → M' f = M f) := by
  have hv := hC.iv
  have hm := hv.m12
  have et : sp_X1_lastBegun S j = sp_X1_lastBegun M j := lastBegun_cong (by rw [hC.rw.r24]) (by rw [hC.rw.r25])
  unfold sp_X10_takeBack
  rw [last_eq hv hj, un_X5_takeBackStep]; unfold rw_X5_takeBackStep
  rw [hC.rw.r6, if_neg hl, et, hC.rw.r7, hC.rw.r10]
  show ∃ M', (if sp_X1_lastBegun M j = -1 then _ else _) = some M' ∧ _
  rcases lastBegun_in M j with b | ⟨a, ha, b, hs⟩
  · rw [b, if_pos rfl, if_pos (by decide)]
    exact ⟨M, rfl, hC.mono (by omega) (Nat.le_refl D), hN, fun f _ _ => rfl⟩
  · have hs0 : ¬ M 24 j a = 0 := by
      intro z; rw [z] at hs; rcases hs with y | y <;> exact absurd y (by decide)
    have hq := hv.ss j hj a ha hs0
    have hk := hv.js j hj a hq
    have hC2 : RC B D (up3 S 24 j a 3) (up3 M 24 j a 3) := hC.put24 hj hq
    have hN2 : RN (up3 M 24 j a 3) := by
      intro x hx hlx y hy hst
      have hx : x < (M 0 0 0).toNatClampNeg := hx
      have hlx : M 6 x 2 = 0 := hlx
      have ne : ¬ (x = j ∧ y = a) := fun z => hl (by rw [← z.1]; exact hlx)
      rw [up3_24, if_neg ne] at hst
      exact hN x hx hlx y hy hst
    rw [b, if_neg (q_m1 (by omega)), if_neg (q_ix ha (by decide)), if_neg (q_ix hk (by omega)), if_neg (q_ge (by omega)), if_pos (lt12 ha), q_cl (by omega)]
    by_cases c1 : M 7 0 a = 1
    · rw [if_pos c1, if_pos c1]
      obtain ⟨q, hq4, e⟩ := it4 (hv.kt a hk c1)
      have s0 := hv.sk q hq4
      have s1 := hC.sb q hq4
      have es : (M 13 0 q + 1).toInt = (M 13 0 q).toInt + 1 := add_i (by rw [show (1 : Int32).toInt = 1 from rfl]; omega) (by rw [show (1 : Int32).toInt = 1 from rfl]; omega)
      rw [e, if_neg (q_ix hq4 (by decide)), q_cl (by omega), putIn_eq hq4, up3_f (f := 24) (f' := 13) (by decide), hC.rw.r13]
      refine ⟨_, rfl, hC2.stock (by omega) (by omega) (by omega), hN2, fun f h1 h2 => ?_⟩
      rw [up3_f h1, up3_f h2]
    · rw [if_neg c1, if_neg c1]
      exact ⟨_, rfl, hC2.mono (by omega) (Nat.le_refl D), hN2, fun f h1 h2 => up3_f h2⟩
theorem takeAll_lp {D : Nat} (Q Z Z2 Z3 Z4 Z5 : STT) (w : Int32) (xx : Int32 × STT) : ∀ (k i B : Nat) (S M : STT), B + k ≤ 1000000 → i + k = (M 0 0 0).toNatClampNeg → RC B D S M → RN M → ∃ M', lp_X10_day_386 Q xx Z w Z2 Z3 Z4 Z5 k i M = some M' ∧ RC (B + k) D (lp_X5_day_130 k i S) M' ∧ RN M' ∧ (∀ f, f ≠ 13 → f ≠ 24 → M' f = M f) := by
  intro k
  induction k with
  | zero => intro i B S M hB h hC hN; exact ⟨M, rfl, hC, hN, fun f _ _ => rfl⟩
  | succ k ih =>
    intro i B S M hB h hC hN
    have hj : i < (M 0 0 0).toNatClampNeg := by omega
    rw [lp_X10_day_386, lp_X5_day_130]
    by_cases c : M 6 i 2 = 0
    · rw [if_pos c]
      have e : sp_X5_takeBackStep S i = S := by
        rw [un_X5_takeBackStep]; unfold rw_X5_takeBackStep; rw [hC.rw.r6, if_pos c]
      rw [e]
      obtain ⟨M2, y1, y2, y3, y4⟩ := ih (i + 1) B S M (by omega) (by omega) hC hN
      exact ⟨M2, y1, y2.mono (by omega) (Nat.le_refl D), y3, y4⟩
    · rw [if_neg c]
      obtain ⟨M1, x1, x2, x3, x4⟩ := take_one (by omega) hC hN hj c
      rw [x1]
      obtain ⟨M2, y1, y2, y3, y4⟩ := ih (i + 1) (B + 1) _ M1 (by omega) (by rw [x4 0 (by decide) (by decide)]; omega) x2 x3
      exact ⟨M2, y1, by rw [show B + (k + 1) = B + 1 + k by omega]; exact y2, y3, fun f h1 h2 => (y4 f h1 h2).trans (x4 f h1 h2)⟩
end PLAINL
