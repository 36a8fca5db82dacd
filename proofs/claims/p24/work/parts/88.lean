section PLAINJ
theorem comes_cong {S T : STT} (h2 : S 2 = T 2) (h14 : S 14 = T 14) (h16 : S 16 = T 16) (h41 : S 41 = T 41) (p : Int32) : sp_X10_comes S p = sp_X10_comes T p := by
  have a : ∀ (k i : Nat) (v : Int32), lp_X10_comes_4 S p k i v = lp_X10_comes_4 T p k i v := by
    intro k
    induction k with
    | zero => intro i v; rfl
    | succ k ih => intro i v; simp only [lp_X10_comes_4, h14, h16, h41, ih]
  unfold sp_X10_comes; rw [a, h2]
theorem ex_cong {N N' : STT} (hv : IV N) (hv' : IV N') {j : Nat} (hj : j < (N 0 0 0).toNatClampNeg) (hf : ∀ f, f ≠ 27 → N' f = N f) {a : Nat} (h27 : ∀ k, k < a → N' 27 j k = N 27 j k) : ∀ n i, i < a → i < (N 1 0 0).toNatClampNeg → ex N' n j (nI i) = ex N n j (nI i) := by
  have hm := hv.m12
  have e0 : N' 0 = N 0 := hf 0 (by decide)
  have e1 : N' 1 = N 1 := hf 1 (by decide)
  have e3 : N' 3 = N 3 := hf 3 (by decide)
  have e6 : N' 6 = N 6 := hf 6 (by decide)
  have e7 : N' 7 = N 7 := hf 7 (by decide)
  have e9 : N' 9 = N 9 := hf 9 (by decide)
  have e10 : N' 10 = N 10 := hf 10 (by decide)
  have e13 : N' 13 = N 13 := hf 13 (by decide)
  have e18 : N' 18 = N 18 := hf 18 (by decide)
  have e24 : N' 24 = N 24 := hf 24 (by decide)
  have e25 : N' 25 = N 25 := hf 25 (by decide)
  have ec : ∀ p, sp_X10_comes N' p = sp_X10_comes N p := comes_cong (hf 2 (by decide)) (hf 14 (by decide)) (hf 16 (by decide)) (hf 41 (by decide))
  intro n
  induction n with
  | zero => intro i _ _; rfl
  | succ n ih =>
    intro i hi him
    have hE : ∀ b, b < i → sp_X10_end N' (ex N' n) j (nI b) = sp_X10_end N (ex N n) j (nI b) := by
      intro b hb
      have el : sp_X10_length N' j (nI b) = sp_X10_length N j (nI b) := by
        rw [length_eq hv' (by rw [e0]; exact hj) (by rw [e1]; omega), length_eq hv hj (by omega), lengthFor_cong (S := N') (T := N) (by rw [e6]) e7 (hf 8 (by decide)) e10 (by rw [e24]) (by rw [hf 26 (by decide)])]
      unfold sp_X10_end; rw [ih b (by omega) (by omega), el]
    have hL : ∀ (k b : Nat) (v : Int32), b + k = i → lp_X10_expected_46 N' (fun j p => sp_X10_end N' (ex N' n) j p) j (nI i) k b v = lp_X10_expected_46 N (fun j p => sp_X10_end N (ex N n) j p) j (nI i) k b v := by
      intro k
      induction k with
      | zero =>
        intro b v h
        have ei : (nI i).toNatClampNeg = i := q_cl (by omega)
        simp only [lp_X10_expected_46, ei, e7, e10, e13, e3, e18, ec, h27 i hi]
      | succ k ihk =>
        intro b v h
        have eb := hE b (by omega)
        simp only [lp_X10_expected_46, e9, e6, eb, ihk _ _ (show b + 1 + k = i by omega)]
    show sp_X10_expected N' (fun j p => sp_X10_end N' (ex N' n) j p) j (nI i) = sp_X10_expected N (fun j p => sp_X10_end N (ex N n) j p) j (nI i)
    unfold sp_X10_expected
    have ei : (nI i).toNatClampNeg = i := q_cl (by omega)
    rw [ei, hL i 0 _ (by omega), e24, e1, e0, e6, e25]
theorem FR.cong {S S' N N' : STT} (hv : IV N) (hv' : IV N') {j : Nat} (hj : j < (N 0 0 0).toNatClampNeg) (hf : ∀ f, f ≠ 27 → N' f = N f) {i : Nat} (h27 : ∀ k, k < i → N' 27 j k = N 27 j k) (h22 : S' 22 = S 22) (h23 : S' 23 = S 23) (hR : FR S N j i) : FR S' N' j i := by
  intro k hk
  have e6 : N' 6 = N 6 := hf 6 (by decide)
  have e0 : N' 0 = N 0 := hf 0 (by decide)
  have e1 : N' 1 = N 1 := hf 1 (by decide)
  rw [e6, h22, h23]
  refine ⟨fun hq n hn => ?_, (hR k hk).2⟩
  have him := hv.js j hj k hq
  have a := ex_cong hv hv' hj hf h27 n k hk him
  obtain ⟨x, y⟩ := (hR k hk).1 hq n hn
  refine ⟨a.trans x, ?_⟩
  rw [← y]
  unfold sp_X10_end
  rw [a, length_eq hv' (by rw [e0]; exact hj) (by rw [e1]; exact him), length_eq hv hj him, lengthFor_cong (S := N') (T := N) (by rw [e6]) (hf 7 (by decide)) (hf 8 (by decide)) (hf 10 (by decide)) (by rw [hf 24 (by decide)]) (by rw [hf 26 (by decide)])]
theorem ses_lp {S M : STT} (hv : IV M) (R : RW S M) (hT : TK S M) (p x : Int32) (hx : ¬ x = -1) (j : Nat) : ∀ (k i : Nat) (v : Int32), i + k = (M 3 0 0).toNatClampNeg → (v = -1 ∨ ∃ a, a < (M 3 0 0).toNatClampNeg ∧ v = nI a) → lp_X10_sessionFor_13 M j p x k i v = some (lp_X4_book_12 S p x k i v) := by
  have he := hv.e20
  intro k
  induction k with
  | zero => intro i v _ _; rfl
  | succ k ih =>
    intro i v h hh
    have hn : ((nI i) = -1 ∨ ∃ a, a < (M 3 0 0).toNatClampNeg ∧ (nI i) = nI a) := .inr ⟨i, by omega, rfl⟩
    rw [lp_X10_sessionFor_13, lp_X4_book_12, if_neg hx, R.r17, R.r18, R.r19]
    by_cases c1 : M 17 0 i = p
    · rw [if_pos c1, if_pos c1, hT i (by omega)]
      show (if M 18 0 i < x then _ else (if S 20 0 i < M 19 0 i then _ else _)) = _
      by_cases c2 : M 18 0 i < x
      · rw [if_pos c2, if_pos c2, ite_self]; exact ih _ _ (by omega) hh
      · rw [if_neg c2, if_neg c2]
        by_cases c3 : S 20 0 i < M 19 0 i
        · have c4 : ¬ M 19 0 i ≤ S 20 0 i := lt_nle c3
          rw [if_pos c3, if_neg c4]
          by_cases c5 : v = -1
          · rw [if_pos c5, if_pos c5]; exact ih _ _ (by omega) hn
          · rw [if_neg c5, if_neg c5]
            rcases hh with z | ⟨a, ha, rfl⟩
            · exact absurd z c5
            · rw [if_neg (q_ix ha (by omega)), q_cl (by omega), dayOf_in (by rw [nI_toInt (by omega)]; omega) (by
                have e1 : (M 3 0 0).toNatClampNeg = (M 3 0 0).toInt.toNat := rfl
                rw [R.r3, nI_toInt (by omega)]; omega), q_cl (by omega), R.r18]
              by_cases c6 : M 18 0 a ≤ M 18 0 i
              · rw [if_pos c6, if_pos c6]; exact ih _ _ (by omega) (.inr ⟨a, ha, rfl⟩)
              · rw [if_neg c6, if_neg c6]; exact ih _ _ (by omega) hn
        · have c4 : M 19 0 i ≤ S 20 0 i := by
            rw [Int32.lt_iff_toInt_lt] at c3; rw [Int32.le_iff_toInt_le]; omega
          rw [if_neg c3, if_pos c4]; exact ih _ _ (by omega) hh
    · rw [if_neg c1, if_neg c1]; exact ih _ _ (by omega) hh
theorem book_rng {S : STT} {n : Nat} (p x : Int32) : ∀ (k i : Nat) (v : Int32), i + k = n → (v = -1 ∨ ∃ a, a < n ∧ v = nI a) → (lp_X4_book_12 S p x k i v = -1 ∨ ∃ a, a < n ∧ lp_X4_book_12 S p x k i v = nI a) := by
  intro k
  induction k with
  | zero => intro i v _ h; exact h
  | succ k ih =>
    intro i v h hh
    have hn : ((nI i) = -1 ∨ ∃ a, a < n ∧ (nI i) = nI a) := .inr ⟨i, by omega, rfl⟩
    have x1 := ih (i + 1) v (by omega) hh
    have x2 := ih (i + 1) (nI i) (by omega) hn
    rw [lp_X4_book_12]
    split
    · split
      · exact x1
      · split
        · exact x1
        · split
          · exact x2
          · split
            · exact x1
            · exact x2
    · exact x1
theorem book_eq {S M : STT} (hv : IV M) (R : RW S M) (hT : TK S M) {j : Nat} {p x : Int32} (hx : sp_X10_expd M j p = some x) : sp_X10_sessionFor M j p = some (sp_X4_book S p x).1 ∧ (((sp_X4_book S p x).1 = -1 ∧ (sp_X4_book S p x).2 = S) ∨ ∃ a, a < (M 3 0 0).toNatClampNeg ∧ (sp_X4_book S p x).1 = nI a ∧ (sp_X4_book S p x).2 = up3 S 20 0 a (S 20 0 a + 1)) := by
  have he := hv.e20
  have e1 : (M 3 0 0).toNatClampNeg = (M 3 0 0).toInt.toNat := rfl
  rw [un_X4_book]; unfold rw_X4_book
  by_cases c : x = -1
  · rw [if_pos c]
    refine ⟨is_none hx ?_, .inl ⟨rfl, rfl⟩⟩
    have a : ∀ (k i : Nat) (v : Int32), lp_X10_sessionFor_13 M j p x k i v = some v := by
      intro k
      induction k with
      | zero => intro i v; rfl
      | succ k ih => intro i v; rw [lp_X10_sessionFor_13, if_pos c]
    exact a _ _ _
  · rw [if_neg c, R.r3]
    have hl := ses_lp hv R hT p x c j ((M 3 0 0).toNatClampNeg) 0 (-1) (by omega) (.inl rfl)
    have hr := book_rng (S := S) (n := (M 3 0 0).toNatClampNeg) p x ((M 3 0 0).toNatClampNeg) 0 (-1) (by omega) (.inl rfl)
    generalize lp_X4_book_12 S p x ((M 3 0 0).toNatClampNeg) 0 (-1) = b at hl hr
    rcases hr with rfl | ⟨a, ha, rfl⟩
    · rw [if_pos (by decide)]
      exact ⟨is_none hx hl, .inl ⟨rfl, rfl⟩⟩
    · rw [if_neg (q_ge (by omega)), if_neg (by rw [Int32.le_iff_toInt_le, nI_toInt (by omega)]; omega), q_cl (by omega)]
      exact ⟨is_none hx hl, .inr ⟨a, ha, rfl, rfl⟩⟩
theorem IV.put27 {M : STT} (h : IV M) {j i : Nat} {b : Int32} (hb : b = -1 ∨ (0 ≤ b.toInt ∧ b.toInt < (M 3 0 0).toInt ∧ qb (M 6 j 0) i = true)) : IV (up3 M 27 j i b) := by
  refine ⟨h.ci, h.t0, h.t1, h.ln, h.nd, h.fm, h.kt, h.rl, h.rt, h.sk, h.oi, h.om, h.js, fun j' hj' k hk => ?_, h.ss, h.bg⟩
  show (up3 M 27 j i b) 27 j' k = -1 ∨ (0 ≤ ((up3 M 27 j i b) 27 j' k).toInt ∧ ((up3 M 27 j i b) 27 j' k).toInt < (M 3 0 0).toInt ∧ qb (M 6 j' 0) k = true)
  rw [up3_27]
  by_cases c : j' = j
  · subst c
    rw [if_pos rfl]
    by_cases d : k = i
    · subst d; rw [upd_e]; exact hb
    · rw [upd_n d]; exact h.bk j' hj' k hk
  · rw [if_neg c]; exact h.bk j' hj' k hk
theorem RC.put27 {B D : Nat} {S S1 M : STT} (h : RC B D S M) {j i : Nat} (hj : j < (M 0 0 0).toNatClampNeg) {b : Int32} (hb : b = -1 ∨ (0 ≤ b.toInt ∧ b.toInt < (M 3 0 0).toInt ∧ qb (M 6 j 0) i = true)) (h1 : ∀ f, f ≠ 20 → S1 f = S f) (h20 : ∀ k, k < 20 → S1 20 0 k = nI (cJ ((up3 M 27 j i b) 27) (nI k) (M 0 0 0).toNatClampNeg)) : RC B D (up3 S1 27 j i b) (up3 M 27 j i b) := by
  have s27 : S1 27 = S 27 := h1 27 (by decide)
  refine ⟨h.iv.put27 hb, fun f hf => ?_, fun j' hj' => ?_, fun j' hj' => ?_, h20, h.sb, h.db, h.bh, h.lh⟩
  · have n27 : f ≠ 27 := fun z => by subst z; exact absurd hf (by decide)
    have n20 : f ≠ 20 := fun z => by subst z; exact absurd hf (by decide)
    rw [up3_f n27, up3_f n27, h1 f n20]; exact h.rw f hf
  · rw [up3_27, up3_27, s27]
    by_cases c : j' = j
    · subst c; rw [if_pos rfl, if_pos rfl, h.bq j' hj']
    · rw [if_neg c, if_neg c]; exact h.bq j' hj'
  · have hj' : (M 0 0 0).toNatClampNeg ≤ j' := hj'
    obtain ⟨a1, a2, a3, a4, a5, a6⟩ := h.fr j' hj'
    refine ⟨a1, a2, a3, a4, a5, ?_⟩
    rw [up3_27, if_neg (by omega), s27]; exact a6
theorem nI_ne1 {a : Nat} (h : a < 2 ^ 20) : ¬ (-1 : Int32) = nI a := fun z => q_m1 h z.symm
theorem RC.book {B D : Nat} {S M : STT} (h : RC B D S M) {j i : Nat} (hj : j < (M 0 0 0).toNatClampNeg) (hi : i < 12) (hq : qb (M 6 j 0) i = true) (hm1 : M 27 j i = -1) {b : Int32} {S1 : STT} (hb : (b = -1 ∧ S1 = S) ∨ ∃ a, a < (M 3 0 0).toNatClampNeg ∧ b = nI a ∧ S1 = up3 S 20 0 a (S 20 0 a + 1)) : RC B D (up3 S1 27 j i b) (up3 M 27 j i b) := by
  have he := h.iv.e20
  have key : ∀ k, k < 20 → cJ ((up3 M 27 j i b) 27) (nI k) (M 0 0 0).toNatClampNeg = cJ (M 27) (nI k) (M 0 0 0).toNatClampNeg + (if b = nI k then 1 else 0) := by
    intro k hk
    have c := cJ_up (M := M) (j := j) (v := b) (s := nI k) hi (M 0 0 0).toNatClampNeg
    rw [hm1, if_neg (fun z => nI_ne1 (by omega) z.2)] at c
    by_cases d : b = nI k
    · rw [if_pos ⟨hj, d⟩] at c; rw [if_pos d]; omega
    · rw [if_neg (fun z => d z.2)] at c; rw [if_neg d]; omega
  rcases hb with ⟨rfl, rfl⟩ | ⟨a, ha, rfl, rfl⟩
  · refine h.put27 hj (.inl rfl) (fun f _ => rfl) (fun k hk => ?_)
    rw [key k hk, if_neg (nI_ne1 (by omega))]; exact h.tk k hk
  · have e1 : (M 3 0 0).toNatClampNeg = (M 3 0 0).toInt.toNat := rfl
    refine h.put27 hj (.inr ⟨by rw [nI_toInt (by omega)]; omega, by rw [nI_toInt (by omega)]; omega, hq⟩) (fun f hf => up3_f hf) (fun k hk => ?_)
    rw [key k hk]
    by_cases d : k = a
    · subst d
      rw [up3_e, if_pos rfl, h.tk k hk]; exact q_succ _
    · rw [up3_i d, if_neg (fun z => d (q_inj (by omega) (by omega) z).symm)]; exact h.tk k hk
theorem SU.go {S S' N N' : STT} (h : SU S N) (hf : ∀ f, f ≠ 27 → N' f = N f) (h21 : S' 21 = S 21) : SU S' N' := by
  intro i hi
  rw [hf 13 (by decide), hf 0 (by decide), h21, comes_cong (S := N') (T := N) (hf 2 (by decide)) (hf 14 (by decide)) (hf 16 (by decide)) (hf 41 (by decide))]
  exact h i hi
theorem rr_ne {f : Nat} (hf : rr f = true) : f ≠ 4 ∧ f ≠ 20 ∧ f ≠ 21 ∧ f ≠ 22 ∧ f ≠ 23 ∧ f ≠ 27 ∧ f ≠ 40 ∧ f ≠ 41 ∧ f ≠ 42 :=
  ⟨fun z => by subst z; exact absurd hf (by decide), fun z => by subst z; exact absurd hf (by decide), fun z => by subst z; exact absurd hf (by decide), fun z => by subst z; exact absurd hf (by decide), fun z => by subst z; exact absurd hf (by decide), fun z => by subst z; exact absurd hf (by decide), fun z => by subst z; exact absurd hf (by decide), fun z => by subst z; exact absurd hf (by decide), fun z => by subst z; exact absurd hf (by decide)⟩
theorem RC.fs {B D : Nat} {S M : STT} (h : RC B D S M) (j : Nat) {i : Nat} (hi : i < 12) : RC B D (sp_X0_foreseeStep S j (nI i)) M :=
  h.left (fun f hf => fs_row S j hi (rr_ne hf).2.2.2.1 (rr_ne hf).2.2.2.2.1) (fs_row S j hi (by decide) (by decide)) (fs_row S j hi (by decide) (by decide))
theorem bookFor_lp {B D : Nat} {j : Nat} (Q Sx : STT) (K m : Nat) : ∀ (k i : Nat) (S M : STT), i + k = 12 → m = (M 1 0 0).toNatClampNeg → RC B D S M → j < (M 0 0 0).toNatClampNeg → M 6 j 2 = 0 → FX S M j → FR S M j i → ∃ M', lp_X10_bookAll_29 Q K j Sx (m - i) i M = some M' ∧ RC B D (lp_X5_bookFor_2 j k i S) M' ∧ (∀ f, f ≠ 27 → M' f = M f) ∧ lp_X5_bookFor_2 j k i S 4 = S 4 ∧ lp_X5_bookFor_2 j k i S 21 = S 21 := by
  intro k
  induction k with
  | zero =>
    intro i S M h hm hC hj hl hF hR
    have := hC.iv.m12
    rw [show m - i = 0 by omega]
    exact ⟨M, rfl, hC, fun f _ => rfl, rfl, rfl⟩
  | succ k ih =>
    intro i S M h hm hC hj hl hF hR
    have hm12 := hC.iv.m12
    have hi : i < 12 := by omega
    have hC1 := hC.fs j hi
    have hF1 : FX (sp_X0_foreseeStep S j (nI i)) M j := hF.go fun f h1 h2 => fs_row S j hi h1 h2
    have hR1 := FR.step hC.iv hj hl hi hF hR
    have skip : ∃ M', lp_X10_bookAll_29 Q K j Sx (m - (i + 1)) (i + 1) M = some M' ∧ RC B D (lp_X5_bookFor_2 j k (i + 1) (sp_X0_foreseeStep S j (nI i))) M' ∧ (∀ f, f ≠ 27 → M' f = M f) ∧ lp_X5_bookFor_2 j k (i + 1) (sp_X0_foreseeStep S j (nI i)) 4 = S 4 ∧ lp_X5_bookFor_2 j k (i + 1) (sp_X0_foreseeStep S j (nI i)) 21 = S 21 := by
      obtain ⟨M', x1, x2, x3, x4, x5⟩ := ih (i + 1) _ M (by omega) hm hC1 hj hl hF1 hR1
      exact ⟨M', x1, x2, x3, by rw [x4, fs_row S j hi (by decide) (by decide)], by rw [x5, fs_row S j hi (by decide) (by decide)]⟩
    rw [lp_X5_bookFor_2, hC1.rw.r7, isIn_cong (S := sp_X0_foreseeStep S j (nI i)) (T := M) (by rw [hC1.rw.r6]) (by rw [hC1.rw.r24]), hC1.bq j hj]
    by_cases c0 : sp_X1_isIn M j (nI i) 0 = 0
    · rw [if_pos c0, ite_self]
      by_cases cm : i < m
      · rw [show m - i = (m - (i + 1)) + 1 by omega, lp_X10_bookAll_29, if_pos hl, is_fun M j 0 hi, if_pos c0]
        exact skip
      · rw [show m - i = 0 by omega]
        rw [show m - (i + 1) = 0 by omega] at skip
        exact skip
    · have hq1 : qb (sp_X1_stepsIn M j 0) i = true := by
        cases z : qb (sp_X1_stepsIn M j 0) i
        · exact absurd ((isIn_zero hi).mpr (by rw [z]; decide)) c0
        · rfl
      have cm : i < m := by rw [hm]; exact stepsIn_known hC.iv hj hq1
      have hq : qb (M 6 j 0) i = true := ((stepsIn_iff M j 0 hi).mp hq1).2
      rw [show m - i = (m - (i + 1)) + 1 by omega, lp_X10_bookAll_29, if_pos hl, is_fun M j 0 hi, if_neg c0, if_neg c0]
      by_cases c7 : M 7 0 i = 2
      · rw [if_pos c7, if_pos c7]
        by_cases c27 : M 27 j i = -1
        · rw [if_pos c27, if_pos c27]
          have hx : sp_X10_expd M j (nI i) = some (sp_X0_foreseeStep S j (nI i) 22 0 i) := ((hR1 i (by omega)).1 hq 12 hi).1
          obtain ⟨y1, y2⟩ := book_eq hC1.iv hC1.rw hC1.t hx
          generalize sp_X4_book (sp_X0_foreseeStep S j (nI i)) (nI i) (sp_X0_foreseeStep S j (nI i) 22 0 i) = bb at y1 y2
          obtain ⟨b, S1⟩ := bb
          rw [y1]
          have hC2 : RC B D (up3 S1 27 j i b) (up3 M 27 j i b) := hC1.book hj hi hq c27 y2
          have hS1 : ∀ f, f ≠ 20 → S1 f = sp_X0_foreseeStep S j (nI i) f := by
            intro f hf
            rcases y2 with ⟨-, z⟩ | ⟨a, -, -, z⟩
            · exact congrFun z f
            · exact (congrFun z f).trans (up3_f hf)
          have hN : ∀ f, f ≠ 27 → up3 M 27 j i b f = M f := fun f hf => up3_f hf
          have hF2 : FX (up3 S1 27 j i b) (up3 M 27 j i b) j := by
            refine ⟨hC2.rw.x, hC2.bq j hj, ?_, hF1.2.2.2.go hN ?_⟩
            · rw [up3_f (by decide), hS1 4 (by decide)]; exact hF1.2.2.1
            · rw [up3_f (by decide), hS1 21 (by decide)]
          have hR2 : FR (up3 S1 27 j i b) (up3 M 27 j i b) j i :=
            FR.cong hC.iv hC2.iv hj hN (fun k hk => by rw [up3_i (by omega)]) (S := sp_X0_foreseeStep S j (nI i)) (by rw [up3_f (by decide), hS1 22 (by decide)]) (by rw [up3_f (by decide), hS1 23 (by decide)]) (fun k hk => hR1 k (by omega))
          have hF3 : FX (sp_X0_foreseeStep (up3 S1 27 j i b) j (nI i)) (up3 M 27 j i b) j := hF2.go fun f h1 h2 => fs_row _ j hi h1 h2
          obtain ⟨M', x1, x2, x3, x4, x5⟩ := ih (i + 1) _ (up3 M 27 j i b) (by omega) hm (hC2.fs j hi) hj hl hF3 (FR.step hC2.iv hj hl hi hF2 hR2)
          refine ⟨M', x1, x2, fun f hf => (x3 f hf).trans (hN f hf), ?_, ?_⟩
          · rw [x4, fs_row _ j hi (by decide) (by decide), up3_f (by decide), hS1 4 (by decide), fs_row S j hi (by decide) (by decide)]
          · rw [x5, fs_row _ j hi (by decide) (by decide), up3_f (by decide), hS1 21 (by decide), fs_row S j hi (by decide) (by decide)]
        · rw [if_neg c27, if_neg c27]; exact skip
      · rw [if_neg c7, if_neg c7]; exact skip
theorem bookAll_lp {B D : Nat} (Q : STT) (J : Nat) : ∀ (k i : Nat) (S M : STT), i + k = J → J = (M 0 0 0).toNatClampNeg → (Q 1 0 0).toNatClampNeg = (M 1 0 0).toNatClampNeg → RC B D S M → S 4 0 0 = M 0 0 1 + 1 → SU S M → ∃ M', lp_X10_bookAll_8 Q k i M = some M' ∧ RC B D (lp_X5_bookAll_15 k i S) M' ∧ (∀ f, f ≠ 27 → M' f = M f) := by
  intro k
  induction k with
  | zero => intro i S M _ _ _ hC _ _; exact ⟨M, rfl, hC, fun f _ => rfl⟩
  | succ k ih =>
    intro i S M h hJ hQ hC h4 hS
    have hj : i < (M 0 0 0).toNatClampNeg := by omega
    rw [lp_X10_bookAll_8, lp_X5_bookAll_15, hC.rw.r6]
    by_cases c : M 6 i 2 = 0
    · rw [if_pos c, un_X5_bookFor]; unfold rw_X5_bookFor
      obtain ⟨M', x1, x2, x3, x4, x5⟩ := bookFor_lp (B := B) (D := D) (j := i) Q M k (Q 1 0 0).toNatClampNeg 12 0 S M (by omega) hQ hC hj c ⟨hC.rw.x, hC.bq i hj, h4, hS⟩ (fun k hk => by omega)
      have x1 : lp_X10_bookAll_29 Q k i M (Q 1 0 0).toNatClampNeg 0 M = some M' := x1
      rw [x1]
      obtain ⟨M2, y1, y2, y3⟩ := ih (i + 1) (lp_X5_bookFor_2 i 12 0 S) M' (by omega) (by rw [x3 0 (by decide)]; exact hJ) (by rw [x3 1 (by decide)]; exact hQ) x2 (by rw [x4, x3 0 (by decide)]; exact h4) (hS.go x3 x5)
      exact ⟨M2, y1, y2, fun f hf => (y3 f hf).trans (x3 f hf)⟩
    · rw [if_neg c]
      have a : ∀ kb ib, lp_X10_bookAll_29 Q k i M kb ib M = some M := by
        intro kb
        induction kb with
        | zero => intro ib; rfl
        | succ kb ihb => intro ib; rw [lp_X10_bookAll_29, if_neg c]; exact ihb _
      rw [a]
      exact ih (i + 1) S M (by omega) hJ hQ hC h4 hS
theorem bookAll_eq {B D : Nat} {S M : STT} (hC : RC B D S M) (hT : TH M) : ∃ M', sp_X10_bookAll M = some M' ∧ RC B D (sp_X5_bookAll S) M' ∧ (∀ f, f ≠ 27 → M' f = M f) := by
  have et : S 0 0 1 = M 0 0 1 := by rw [hC.rw.r0]
  rw [un_X5_bookAll]; unfold rw_X5_bookAll
  rw [et, hC.rw.r0]
  obtain ⟨a, b, -⟩ := look_eq S (M 0 0 1) (-1) 0
  have hS := look_SU hC.iv hC.rw.x (OD.of hC.rw hT)
  have hC1 : RC B D (sp_X0_lookFrom S (M 0 0 1) (-1) 0) M := hC.left (fun f hf => a f (rr_ne hf).1 (rr_ne hf).2.2.1) (a 27 (by decide) (by decide)) (a 20 (by decide) (by decide))
  obtain ⟨M', x1, x2, x3⟩ := bookAll_lp M _ ((M 0 0 0).toNatClampNeg) 0 _ M (by omega) rfl rfl hC1 b hS
  exact ⟨M', is_none x1 rfl, x2, x3⟩
end PLAINJ
