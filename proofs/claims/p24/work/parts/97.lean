section PLAINS
theorem dg_many {S M : STT} (hv : IV M) (R : RW S (up3 M 40 0 0 0)) (hT : TK S (up3 M 40 0 0 0)) (hvN : IV (up3 M 40 0 0 0)) : ∀ (k i : Nat) (v : Int64), i + k = 11 → lp_X10_digest_11 M k i v = some (lp_X5_digest_6 S k i v) := by
  intro k
  induction k with
  | zero => intro i v _; rfl
  | succ k ih =>
    intro i v h
    rw [lp_X10_digest_11, lp_X5_digest_6]
    exact is_none (many_eq hvN R hT (by omega)) (ih _ _ (by omega))
theorem dg_item {r : Nat} {S M : STT} (h : RLn r S (up3 M 40 0 0 0)) (w : Int64) : ∀ (k i : Nat) (v : Int64), i + k = 4 → lp_X10_digest_36 M w k i v = some (lp_X5_digest_33 S k i v) := by
  have a : ∀ (K i : Nat) (V : Int64), i < 4 → ∀ (k a : Nat) (v : Int64), a + k = 4 → lp_X10_digest_44 M w K i V k a v = some (lp_X5_digest_41 S K i V k a v) := by
    intro K i V hi k
    induction k with
    | zero => intro a v _; rfl
    | succ k ih =>
      intro a v ha
      rw [lp_X10_digest_44, lp_X5_digest_41]
      exact is_none (ofItemNow_eq h.1.iv h.1.rw h.2.1 hi (by omega)) (ih _ _ (by omega))
  intro k
  induction k with
  | zero => intro i v _; rfl
  | succ k ih =>
    intro i v hk
    rw [lp_X10_digest_36, lp_X5_digest_33]
    exact is_none (a k i v (by omega) 4 0 v rfl) (ih _ _ (by omega))
theorem dg_ses {r : Nat} {S M : STT} (h : RLn r S (up3 M 40 0 0 0)) (w w2 : Int64) : ∀ (k i : Nat) (v : Int64), i + k = (M 3 0 0).toNatClampNeg → lp_X10_digest_77 M w w2 k i v = some (lp_X5_digest_76 S k i v) := by
  have a : ∀ (K i : Nat) (V : Int64), i < (M 3 0 0).toNatClampNeg → ∀ (k a : Nat) (v : Int64), a + k = 4 → lp_X10_digest_91 M w w2 K i V k a v = some (lp_X5_digest_90 S K i V k a v) := by
    intro K i V hi k
    induction k with
    | zero => intro a v _; rfl
    | succ k ih =>
      intro a v ha
      rw [lp_X10_digest_91, lp_X5_digest_90]
      exact is_none (ofSessionNow_eq h.1.iv h.1.rw h.1.t hi (by omega)) (ih _ _ (by omega))
  intro k
  induction k with
  | zero => intro i v _; rfl
  | succ k ih =>
    intro i v hk
    rw [lp_X10_digest_77, lp_X5_digest_76]
    exact is_none (a k i v (by omega) 4 0 v rfl) (ih _ _ (by omega))
theorem dg_one {r : Nat} {S M : STT} (h : RLn r S (up3 M 40 0 0 0)) (w w2 w3 : Int64) {j : Nat} (hj : j < (M 0 0 0).toNatClampNeg) (K : Nat) (V : Int64) : ∃ (w5 : Int64) (x6 : Int32) (w7 : Int64), lp_X10_digest_153 M w w2 w3 K j V 7 0 V = some w5 ∧ sp_X10_nextNow (up3 M 40 0 0 0) j = some x6 ∧ lp_X10_digest_195 M w w2 w3 K j V w5 x6 ((M 1 0 1).toNatClampNeg) 0 (sp_X10_add w5 x6.toInt64) = some w7 ∧ lp_X10_digest_230 M w w2 w3 K j V w5 x6 w7 ((M 1 0 0).toNatClampNeg) 0 w7 = some (sp_X5_digestWith S j V).1 ∧ RLn r (sp_X5_digestWith S j V).2 (up3 M 40 0 0 0) := by
  have hv := h.1.iv
  have hvM : IV M := hv
  have hm := hvM.m12
  have et : S 0 0 1 = M 0 0 1 := by rw [h.1.rw.r0]; rfl
  obtain ⟨hF, hL⟩ := fore h hj
  have hF : FF (sp_X0_foresee S j (S 0 0 1) (-1) 0) (up3 M 40 0 0 0) j := by rw [et]; exact hF
  have hL : RLn r (sp_X0_foresee S j (S 0 0 1) (-1) 0) (up3 M 40 0 0 0) := by rw [et]; exact hL
  have f6 : sp_X0_foresee S j (S 0 0 1) (-1) 0 6 = M 6 := hF.1.1 6 rfl
  have f9 : sp_X0_foresee S j (S 0 0 1) (-1) 0 9 = M 9 := hF.1.1 9 rfl
  have f12 : sp_X0_foresee S j (S 0 0 1) (-1) 0 12 = M 12 := hF.1.1 12 rfl
  have f24 : sp_X0_foresee S j (S 0 0 1) (-1) 0 24 = M 24 := hF.1.1 24 rfl
  have a : ∀ (k i : Nat) (v : Int64), i + k = 7 → lp_X10_digest_153 M w w2 w3 K j V k i v = some (lp_X5_digestWith_20 S j V k i v) := by
    intro k
    induction k with
    | zero => intro i v _; rfl
    | succ k ih =>
      intro i v hk
      rw [lp_X10_digest_153, lp_X5_digestWith_20]
      exact is_none (ofJoinerNow_eq hv hj hF (by omega)) (ih _ _ (by omega))
  have b : ∀ (w5 : Int64) (x6 : Int32) (k i : Nat) (v : Int64), i + k = (M 1 0 1).toNatClampNeg → lp_X10_digest_195 M w w2 w3 K j V w5 x6 k i v = some (lp_X5_digestWith_68 S j V k i v) := by
    intro w5 x6 k
    induction k with
    | zero => intro i v _; rfl
    | succ k ih =>
      intro i v hk
      rw [lp_X10_digest_195, lp_X5_digestWith_68, f12]
      exact is_none (rightOnNow_eq hv hj hF (show i < (M 1 0 1).toNatClampNeg by omega)) (ih _ _ (by omega))
  have c : ∀ (w5 : Int64) (x6 : Int32) (w7 : Int64) (KB ib : Nat) (VB : Int64) (x9 : Int32) (V4 : Int64) (K4 : Nat), qb (M 6 j 0) ib = true → ∀ (k i : Nat) (v : Int64), i + k = 6 → lp_X10_digest_258 M w w2 w3 K j V w5 x6 w7 KB ib VB x9 k i v = some (lp_X5_digestWith_138 S j V K4 ib V4 k i v) := by
    intro w5 x6 w7 KB ib VB x9 V4 K4 hq k
    induction k with
    | zero => intro i v _; rfl
    | succ k ih =>
      intro i v hk
      rw [lp_X10_digest_258, lp_X5_digestWith_138]
      exact is_none (ofStepNow_eq hv hj hF hq (by omega)) (ih _ _ (by omega))
  have tail : ∀ (k i : Nat) (v : Int64), (M 1 0 0).toNatClampNeg ≤ i → i + k ≤ 12 → lp_X5_digestWith_116 S j V k i v = v := by
    intro k
    induction k with
    | zero => intro i v _ _; rfl
    | succ k ih =>
      intro i v h1 h2
      rw [lp_X5_digestWith_116, f6, if_pos ((has_zero (by omega)).mpr fun z => by have := hvM.js j hj i z; omega)]
      exact ih _ _ (by omega) (by omega)
  have d : ∀ (w5 : Int64) (x6 : Int32) (w7 : Int64) (k i : Nat) (v : Int64), i + k = (M 1 0 0).toNatClampNeg → lp_X10_digest_230 M w w2 w3 K j V w5 x6 w7 k i v = some (lp_X5_digestWith_116 S j V (12 - i) i v) := by
    intro w5 x6 w7 k
    induction k with
    | zero => intro i v hk; rw [tail _ _ _ (by omega) (by omega)]; rfl
    | succ k ih =>
      intro i v hk
      rw [show 12 - i = (12 - (i + 1)) + 1 by omega, lp_X10_digest_230, lp_X5_digestWith_116, f6]
      refine is_none (show sp_X6_has (up3 M 40 0 0 0) j (nI i) = some (sp_X5_has (M 6 j 0) (nI i)) from rfl) ?_
      by_cases e : qb (M 6 j 0) i = true
      · have hz : ¬ sp_X5_has (M 6 j 0) (nI i) = 0 := fun z => (has_zero (by omega)).mp z e
        rw [if_neg hz, if_neg hz]
        refine is_none (c w5 x6 w7 k i v _ v (12 - (i + 1)) e 6 0 v rfl) ?_
        refine is_none (wait_eq hv hj (hvM.js j hj i e)) ?_
        rw [wait_cong (S := sp_X0_foresee S j (S 0 0 1) (-1) 0) (T := up3 M 40 0 0 0) (by rw [f6]; rfl) (by rw [f9]; rfl) (by rw [f24]; rfl)]
        exact ih _ _ (by omega)
      · have hz : sp_X5_has (M 6 j 0) (nI i) = 0 := (has_zero (by omega)).mpr e
        rw [if_pos hz, if_pos hz]; exact ih _ _ (by omega)
  rw [un_X5_digestWith]; unfold rw_X5_digestWith
  refine ⟨_, _, _, a 7 0 V rfl, next_eq hv hj, b _ _ _ 0 _ (Nat.zero_add _), ?_, hL⟩
  rw [d _ _ _ _ 0 _ (Nat.zero_add _), h.1.rw.r1, nextStep_cong (S := sp_X0_foresee S j (S 0 0 1) (-1) 0) (T := up3 M 40 0 0 0) (by rw [f6]; rfl) (by rw [f9]; rfl) (by rw [f24]; rfl)]
  rfl
theorem dg_all {r : Nat} {M : STT} (w w2 w3 : Int64) : ∀ (k i : Nat) (v : Int64) (S : STT), i + k = (M 0 0 0).toNatClampNeg → RLn r S (up3 M 40 0 0 0) → lp_X10_digest_130 M w w2 w3 k i v = some (lp_X5_digest_125 k i v S).1 ∧ RLn r (lp_X5_digest_125 k i v S).2 (up3 M 40 0 0 0) := by
  intro k
  induction k with
  | zero => intro i v S _ h; exact ⟨rfl, h⟩
  | succ k ih =>
    intro i v S hk h
    rw [lp_X10_digest_130, lp_X5_digest_125]
    obtain ⟨w5, x6, w7, a, b, c, d, e⟩ := dg_one h w w2 w3 (j := i) (by omega) k v
    obtain ⟨x, y⟩ := ih (i + 1) (sp_X5_digestWith S i v).1 (sp_X5_digestWith S i v).2 (by omega) e
    exact ⟨is_none a (is_none b (is_none c (is_none d x))), y⟩
theorem s_digest : st_digest RLn := by
  intro r S M hr h
  have hN := h.th (v := 0)
  have R := h.1.rw
  have hv := h.1.iv
  rw [un_X5_digest]; unfold rw_X5_digest sp_X10_digest
  rw [R.r0, R.r3]
  obtain ⟨x, y⟩ := dg_all (M := M) (lp_X5_digest_6 S 11 0 58120) (lp_X5_digest_33 S 4 0 (lp_X5_digest_6 S 11 0 58120)) (lp_X5_digest_76 S ((M 3 0 0).toNatClampNeg) 0 (lp_X5_digest_33 S 4 0 (lp_X5_digest_6 S 11 0 58120))) ((M 0 0 0).toNatClampNeg) 0 (lp_X5_digest_76 S ((M 3 0 0).toNatClampNeg) 0 (lp_X5_digest_33 S 4 0 (lp_X5_digest_6 S 11 0 58120))) S (Nat.zero_add _) hN.next
  refine ⟨_, is_none (dg_many hv hN.1.rw hN.1.t hN.1.iv 11 0 _ rfl) (is_none (dg_item hN _ 4 0 _ rfl) (is_none (dg_ses hN _ _ _ 0 _ (Nat.zero_add _)) (is_none x rfl))), rfl, y⟩
end PLAINS
