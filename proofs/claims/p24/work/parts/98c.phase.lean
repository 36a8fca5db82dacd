section P24C
variable {B D : Nat} {S T : STT}
theorem rel_f (S : STT) (b : Int32) {f : Nat} (hf : f ≠ 20) : sp_X4_release S b f = S f := by
  rw [un_X4_release]; unfold rw_X4_release
  by_cases c : b < 0
  · rw [if_pos c]
  · rw [if_neg c]
    by_cases d : S 3 0 0 ≤ b
    · rw [if_pos d]
    · rw [if_neg d]; exact up3_f hf
theorem tk_pos (hC : RC B D S S) {s : Nat} (hs : s < 20) : 0 ≤ (S 20 0 s).toInt ∧ (S 20 0 s).toInt ≤ 96 := by
  rw [hC.tk s hs]
  have h1 := cJ_le (S 27) (nI s) (S 0 0 0).toNatClampNeg
  have h2 := hC.iv.j8
  rw [nI_toInt (by omega)]
  omega
theorem rel_st (hC : RC B D S S) (h : ST S) (b : Int32) : ST (sp_X4_release S b) := by
  intro s hs
  rw [rel_f S b (f := 19) (by decide)]
  rw [un_X4_release]; unfold rw_X4_release
  by_cases c : b < 0
  · rw [if_pos c]; exact h s hs
  · rw [if_neg c]
    by_cases d : S 3 0 0 ≤ b
    · rw [if_pos d]; exact h s hs
    · rw [if_neg d]
      by_cases z : s = b.toNatClampNeg
      · subst z
        rw [up3_e]
        have h1 := (tk_pos hC hs).1
        have h2 := h _ hs
        rw [dec_i h1]; omega
      · rw [up3_i z]; exact h s hs
theorem BK.put {j i : Nat} {W : STT} (h : BK S) (hi : i < 12) (hW : ∀ f, f ≠ 20 → W f = S f) : BK (up3 W 27 j i (-1)) := by
  intro a ha k hk
  have e : ∀ f, f ≠ 27 → f ≠ 20 → (up3 W 27 j i (-1)) f = S f := fun f h1 h2 => by rw [up3_f h1, hW f h2]
  rw [e 0 (by decide) (by decide)] at ha
  rw [e 7 (by decide) (by decide), e 17 (by decide) (by decide), e 6 (by decide) (by decide), e 24 (by decide) (by decide)]
  by_cases z : a = j ∧ k = i
  · obtain ⟨rfl, rfl⟩ := z
    rw [up3_e]
    exact fun y => absurd rfl y
  · have e27 : (up3 W 27 j i (-1)) 27 a k = S 27 a k := by
      by_cases z1 : a = j
      · subst z1
        rw [up3_i (fun y => z ⟨rfl, y⟩), hW 27 (by decide)]
      · rw [up3_o z1, hW 27 (by decide)]
    rw [e27]; exact h a ha k hk
-- who loses a seat
theorem lose_ph {j : Nat} : ∀ (k i : Nat) (S : STT), i + k = 12 → RC B D S S → j < (S 0 0 0).toNatClampNeg → BK S → ST S → RC B D (lp_X5_loseSessions_2 j k i S) (lp_X5_loseSessions_2 j k i S) ∧ (∀ f, f ≠ 20 → f ≠ 27 → f ≠ 28 → lp_X5_loseSessions_2 j k i S f = S f) ∧ BK (lp_X5_loseSessions_2 j k i S) ∧ ST (lp_X5_loseSessions_2 j k i S) := by
  intro k
  induction k with
  | zero => intro i S _ h1 _ h2 h3; exact ⟨h1, fun _ _ _ _ => rfl, h2, h3⟩
  | succ k ih =>
    intro i S hi hC hj hb hs
    rw [lp_X5_loseSessions_2]
    by_cases c1 : S 24 j i = 0
    · rw [if_pos c1]
      by_cases c2 : sp_X4_dayOf S (S 27 j i) = S 0 0 1
      · rw [if_pos c2]
        have h1 : RC B D (up3 (sp_X4_release S (S 27 j i)) 27 j i (-1)) (up3 (sp_X4_release S (S 27 j i)) 27 j i (-1)) := (hC.free hj (by omega : i < 12)).self
        have r := fun f hf => rel_f S (S 27 j i) (f := f) hf
        have h2 := BK.put (W := sp_X4_release S (S 27 j i)) (j := j) hb (by omega : i < 12) r
        have h3 := (rel_st hC hs (S 27 j i))
        generalize sp_X4_release S (S 27 j i) = W at h1 h2 h3 r ⊢
        have h4 := h1.put28 (i := i) (x := W 28 j i + 1) (j := j) (by rw [up3_f (by decide), r 0 (by decide)]; exact hj)
        obtain ⟨x1, x2, x3, x4⟩ := ih (i + 1) (up3 (up3 W 27 j i (-1)) 28 j i (W 28 j i + 1)) (by omega) h4 (by rw [up3_f (by decide), up3_f (by decide), r 0 (by decide)]; exact hj) (h2.same rfl (up3_f (by decide)) (up3_f (by decide)) (up3_f (by decide)) (up3_f (by decide)) (up3_f (by decide))) (h3.same (by rw [up3_f (by decide), up3_f (by decide)]) (by rw [up3_f (by decide), up3_f (by decide)]))
        exact ⟨x1, fun f f1 f2 f3 => by rw [x2 f f1 f2 f3, up3_f f3, up3_f f2, r f f1], x3, x4⟩
      · rw [if_neg c2]; exact ih _ _ (by omega) hC hj hb hs
    · rw [if_neg c1]; exact ih _ _ (by omega) hC hj hb hs
theorem loseAll_ph : ∀ (k i : Nat) (S : STT), i + k = (S 0 0 0).toNatClampNeg → RC B D S S → BK S → ST S → RC B D (lp_X5_day_101 k i S) (lp_X5_day_101 k i S) ∧ (∀ f, f ≠ 20 → f ≠ 27 → f ≠ 28 → lp_X5_day_101 k i S f = S f) ∧ BK (lp_X5_day_101 k i S) ∧ ST (lp_X5_day_101 k i S) := by
  intro k
  induction k with
  | zero => intro i S _ h1 h2 h3; exact ⟨h1, fun _ _ _ _ => rfl, h2, h3⟩
  | succ k ih =>
    intro i S hi hC hb hs
    show RC B D (lp_X5_day_101 k (i + 1) (sp_X5_loseSessions S i)) (lp_X5_day_101 k (i + 1) (sp_X5_loseSessions S i)) ∧ (∀ f, f ≠ 20 → f ≠ 27 → f ≠ 28 → lp_X5_day_101 k (i + 1) (sp_X5_loseSessions S i) f = S f) ∧ BK (lp_X5_day_101 k (i + 1) (sp_X5_loseSessions S i)) ∧ ST (lp_X5_day_101 k (i + 1) (sp_X5_loseSessions S i))
    have e : sp_X5_loseSessions S i = lp_X5_loseSessions_2 i 12 0 S := by rw [un_X5_loseSessions]; rfl
    rw [e]
    obtain ⟨x1, x2, x3, x4⟩ := lose_ph (j := i) 12 0 S (by omega) hC (by omega) hb hs
    generalize lp_X5_loseSessions_2 i 12 0 S = S2 at x1 x2 x3 x4 ⊢
    have e0 := x2 0 (by decide) (by decide) (by decide)
    obtain ⟨y1, y2, y3, y4⟩ := ih (i + 1) S2 (by rw [e0]; omega) x1 x3 x4
    exact ⟨y1, fun f f1 f2 f3 => (y2 f f1 f2 f3).trans (x2 f f1 f2 f3), y3, y4⟩
-- who gets a seat
theorem bk_lp {S : STT} {n : Nat} (p x : Int32) : ∀ (k i : Nat) (v : Int32), i + k = n → (v = -1 ∨ ∃ a, a < n ∧ v = nI a ∧ S 17 0 a = p ∧ ¬ S 19 0 a ≤ S 20 0 a) → (lp_X4_book_12 S p x k i v = -1 ∨ ∃ a, a < n ∧ lp_X4_book_12 S p x k i v = nI a ∧ S 17 0 a = p ∧ ¬ S 19 0 a ≤ S 20 0 a) := by
  intro k
  induction k with
  | zero => intro i v _ h; exact h
  | succ k ih =>
    intro i v hi h
    rw [lp_X4_book_12]
    by_cases c1 : S 17 0 i = p
    · rw [if_pos c1]
      by_cases c2 : S 19 0 i ≤ S 20 0 i
      · rw [if_pos c2]; exact ih _ _ (by omega) h
      · rw [if_neg c2]
        by_cases c3 : S 18 0 i < x
        · rw [if_pos c3]; exact ih _ _ (by omega) h
        · rw [if_neg c3]
          by_cases c4 : v = -1
          · rw [if_pos c4]; exact ih _ _ (by omega) (Or.inr ⟨i, by omega, rfl, c1, c2⟩)
          · rw [if_neg c4]
            by_cases c5 : sp_X4_dayOf S v ≤ S 18 0 i
            · rw [if_pos c5]; exact ih _ _ (by omega) h
            · rw [if_neg c5]; exact ih _ _ (by omega) (Or.inr ⟨i, by omega, rfl, c1, c2⟩)
    · rw [if_neg c1]; exact ih _ _ (by omega) h
theorem book_c {S : STT} (hI : CI S) (p x : Int32) : ((sp_X4_book S p x).1 = -1 ∧ (sp_X4_book S p x).2 = S) ∨ ∃ a, a < 20 ∧ (sp_X4_book S p x).1 = nI a ∧ (sp_X4_book S p x).2 = up3 S 20 0 a (S 20 0 a + 1) ∧ S 17 0 a = p ∧ ¬ S 19 0 a ≤ S 20 0 a := by
  rw [un_X4_book]; unfold rw_X4_book
  by_cases c0 : x = -1
  · rw [if_pos c0]; exact Or.inl ⟨rfl, rfl⟩
  rw [if_neg c0]
  have hn := hI.n4
  rcases bk_lp (S := S) (n := (S 3 0 0).toNatClampNeg) p x (S 3 0 0).toNatClampNeg 0 (-1) (by omega) (Or.inl rfl) with h | ⟨a, a1, a2, a3, a4⟩
  · rw [h, if_pos (by decide)]; exact Or.inl ⟨rfl, rfl⟩
  · rw [a2, if_neg (q_ge (by omega)), if_neg (by
      rw [Int32.le_iff_toInt_le, nI_toInt (by omega), cnt_i hI.2.2.2.1.1]; omega), q_cl (by omega)]
    exact Or.inr ⟨a, by omega, rfl, rfl, a3, a4⟩
theorem bookFor_ph {j : Nat} : ∀ (k i : Nat) (S : STT), i + k = 12 → CI S → S 6 j 2 = 0 → BK S → ST S → (∀ f, f ≠ 20 → f ≠ 22 → f ≠ 23 → f ≠ 27 → lp_X5_bookFor_2 j k i S f = S f) ∧ BK (lp_X5_bookFor_2 j k i S) ∧ ST (lp_X5_bookFor_2 j k i S) := by
  intro k
  induction k with
  | zero => intro i S _ _ _ h2 h3; exact ⟨fun _ _ _ _ _ => rfl, h2, h3⟩
  | succ k ih =>
    intro i S hi hI hl hb hs
    have h12 : i < 12 := by omega
    rw [lp_X5_bookFor_2]
    have fr := fun f h1 h2 => fs_row S j h12 (f := f) h1 h2
    generalize sp_X0_foreseeStep S j (nI i) = W at fr ⊢
    have ci : ∀ V : STT, (∀ f, f ≠ 20 → f ≠ 22 → f ≠ 23 → f ≠ 27 → V f = S f) → CI V := fun V hV => by
      unfold CI at hI ⊢
      rw [hV 0 (by decide) (by decide) (by decide) (by decide), hV 1 (by decide) (by decide) (by decide) (by decide), hV 2 (by decide) (by decide) (by decide) (by decide), hV 3 (by decide) (by decide) (by decide) (by decide)]
      exact hI
    have go : ∀ V : STT, (∀ f, f ≠ 20 → f ≠ 22 → f ≠ 23 → f ≠ 27 → V f = S f) → BK V → ST V → (∀ f, f ≠ 20 → f ≠ 22 → f ≠ 23 → f ≠ 27 → lp_X5_bookFor_2 j k (i + 1) V f = S f) ∧ BK (lp_X5_bookFor_2 j k (i + 1) V) ∧ ST (lp_X5_bookFor_2 j k (i + 1) V) := fun V hV h1 h2 => by
      obtain ⟨x1, x2, x3⟩ := ih (i + 1) V (by omega) (ci V hV) (by rw [hV 6 (by decide) (by decide) (by decide) (by decide)]; exact hl) h1 h2
      exact ⟨fun f f1 f2 f3 f4 => (x1 f f1 f2 f3 f4).trans (hV f f1 f2 f3 f4), x2, x3⟩
    have hbW : BK W := hb.same (by rw [fr 0 (by decide) (by decide)]) (fr 6 (by decide) (by decide)) (fr 7 (by decide) (by decide)) (fr 17 (by decide) (by decide)) (fr 24 (by decide) (by decide)) (fr 27 (by decide) (by decide))
    have hsW : ST W := hs.same (fr 19 (by decide) (by decide)) (fr 20 (by decide) (by decide))
    have rW : ∀ f, f ≠ 20 → f ≠ 22 → f ≠ 23 → f ≠ 27 → W f = S f := fun f _ f2 f3 _ => fr f f2 f3
    by_cases c1 : W 7 0 i = 2
    · rw [if_pos c1]
      by_cases c2 : sp_X1_isIn W j (nI i) 0 = 0
      · rw [if_pos c2]; exact go W rW hbW hsW
      · rw [if_neg c2]
        by_cases c3 : W 27 j i = -1
        · rw [if_pos c3]
          have hbk := book_c (ci W rW) (nI i) (W 22 0 i)
          obtain ⟨b, W1, hbe⟩ : ∃ b W1, sp_X4_book W (nI i) (W 22 0 i) = (b, W1) := ⟨_, _, rfl⟩
          rw [hbe] at hbk ⊢
          have hbk : (b = -1 ∧ W1 = W) ∨ ∃ a, a < 20 ∧ b = nI a ∧ W1 = up3 W 20 0 a (W 20 0 a + 1) ∧ W 17 0 a = nI i ∧ ¬ W 19 0 a ≤ W 20 0 a := hbk
          show (∀ f, f ≠ 20 → f ≠ 22 → f ≠ 23 → f ≠ 27 → lp_X5_bookFor_2 j k (i + 1) (sp_X0_foreseeStep (up3 W1 27 j i b) j (nI i)) f = S f) ∧ BK (lp_X5_bookFor_2 j k (i + 1) (sp_X0_foreseeStep (up3 W1 27 j i b) j (nI i))) ∧ ST (lp_X5_bookFor_2 j k (i + 1) (sp_X0_foreseeStep (up3 W1 27 j i b) j (nI i)))
          have f1 : ∀ f, f ≠ 20 → W1 f = W f := fun f hf => by
            rcases hbk with ⟨-, z⟩ | ⟨a, -, -, z, -⟩
            · rw [z]
            · rw [z, up3_f hf]
          have hB2 : BK (up3 W1 27 j i b) := by
            intro a ha q hq
            have e : ∀ f, f ≠ 27 → f ≠ 20 → (up3 W1 27 j i b) f = W f := fun f h1 h2 => by rw [up3_f h1, f1 f h2]
            rw [e 0 (by decide) (by decide)] at ha
            rw [e 7 (by decide) (by decide), e 17 (by decide) (by decide), e 6 (by decide) (by decide), e 24 (by decide) (by decide)]
            by_cases z : a = j ∧ q = i
            · obtain ⟨rfl, rfl⟩ := z
              rw [up3_e]
              intro y
              rcases hbk with ⟨z, -⟩ | ⟨x, x1, x2, x3, x4, x5⟩
              · exact absurd z y
              · rw [x2, q_cl (by omega)]
                exact ⟨c1, x4, fun w => absurd (by rw [fr 6 (by decide) (by decide)]; exact hl) w⟩
            · have e27 : (up3 W1 27 j i b) 27 a q = W 27 a q := by
                by_cases z1 : a = j
                · subst z1
                  rw [up3_i (fun y => z ⟨rfl, y⟩), f1 27 (by decide)]
                · rw [up3_o z1, f1 27 (by decide)]
              rw [e27]; exact hbW a ha q hq
          have hS2 : ST (up3 W1 27 j i b) := by
            intro a ha
            rw [up3_f (by decide), up3_f (by decide), f1 19 (by decide)]
            rcases hbk with ⟨-, z⟩ | ⟨x, x1, x2, x3, x4, x5⟩
            · rw [z]; exact hsW a ha
            · rw [x3]
              by_cases z : a = x
              · subst z
                rw [up3_e]
                rw [Int32.le_iff_toInt_le] at x5
                have u := Int32.toInt_lt (W 19 0 a)
                have w := Int32.le_toInt (W 20 0 a)
                rw [add_i (by rw [one_i]; omega) (by rw [one_i]; omega), one_i]; omega
              · rw [up3_i z]; exact hsW a ha
          have r2 : ∀ f, f ≠ 20 → f ≠ 22 → f ≠ 23 → f ≠ 27 → (up3 W1 27 j i b) f = S f := fun f g1 g2 g3 g4 => by rw [up3_f g4, f1 f g1, fr f g2 g3]
          generalize up3 W1 27 j i b = V at hB2 hS2 r2 ⊢
          have fr2 := fun f h1 h2 => fs_row V j h12 (f := f) h1 h2
          exact go _ (fun f g1 g2 g3 g4 => (fr2 f g2 g3).trans (r2 f g1 g2 g3 g4)) (hB2.same (by rw [fr2 0 (by decide) (by decide)]) (fr2 6 (by decide) (by decide)) (fr2 7 (by decide) (by decide)) (fr2 17 (by decide) (by decide)) (fr2 24 (by decide) (by decide)) (fr2 27 (by decide) (by decide))) (hS2.same (fr2 19 (by decide) (by decide)) (fr2 20 (by decide) (by decide)))
        · rw [if_neg c3]; exact go W rW hbW hsW
    · rw [if_neg c1]; exact go W rW hbW hsW
theorem bookAll_ph : ∀ (k i : Nat) (S : STT), CI S → BK S → ST S → (∀ f, f ≠ 20 → f ≠ 22 → f ≠ 23 → f ≠ 27 → lp_X5_bookAll_15 k i S f = S f) ∧ BK (lp_X5_bookAll_15 k i S) ∧ ST (lp_X5_bookAll_15 k i S) := by
  intro k
  induction k with
  | zero => intro i S _ h2 h3; exact ⟨fun _ _ _ _ _ => rfl, h2, h3⟩
  | succ k ih =>
    intro i S hI hb hs
    rw [lp_X5_bookAll_15]
    by_cases c : S 6 i 2 = 0
    · rw [if_pos c]
      have e : sp_X5_bookFor S i = lp_X5_bookFor_2 i 12 0 S := by rw [un_X5_bookFor]; rfl
      rw [e]
      obtain ⟨x1, x2, x3⟩ := bookFor_ph (j := i) 12 0 S (by omega) hI c hb hs
      generalize lp_X5_bookFor_2 i 12 0 S = V at x1 x2 x3 ⊢
      obtain ⟨y1, y2, y3⟩ := ih (i + 1) V (by
        unfold CI at hI ⊢
        rw [x1 0 (by decide) (by decide) (by decide) (by decide), x1 1 (by decide) (by decide) (by decide) (by decide), x1 2 (by decide) (by decide) (by decide) (by decide), x1 3 (by decide) (by decide) (by decide) (by decide)]
        exact hI) x2 x3
      exact ⟨fun f f1 f2 f3 f4 => (y1 f f1 f2 f3 f4).trans (x1 f f1 f2 f3 f4), y2, y3⟩
    · rw [if_neg c]; exact ih _ _ hI hb hs
theorem bookAll_ni {S : STT} (hI : CI S) (hb : BK S) (hs : ST S) : (∀ f, f ≠ 4 → f ≠ 20 → f ≠ 21 → f ≠ 22 → f ≠ 23 → f ≠ 27 → sp_X5_bookAll S f = S f) ∧ BK (sp_X5_bookAll S) ∧ ST (sp_X5_bookAll S) := by
  rw [un_X5_bookAll]; unfold rw_X5_bookAll
  obtain ⟨a, -, -⟩ := look_eq S (S 0 0 1) (-1) 0
  generalize sp_X0_lookFrom S (S 0 0 1) (-1) 0 = V at a ⊢
  obtain ⟨x1, x2, x3⟩ := bookAll_ph (S 0 0 0).toNatClampNeg 0 V (by
    unfold CI at hI ⊢
    rw [a 0 (by decide) (by decide), a 1 (by decide) (by decide), a 2 (by decide) (by decide), a 3 (by decide) (by decide)]
    exact hI) (hb.same (by rw [a 0 (by decide) (by decide)]) (a 6 (by decide) (by decide)) (a 7 (by decide) (by decide)) (a 17 (by decide) (by decide)) (a 24 (by decide) (by decide)) (a 27 (by decide) (by decide))) (hs.same (a 19 (by decide) (by decide)) (a 20 (by decide) (by decide)))
  exact ⟨fun f f1 f2 f3 f4 f5 f6 => (x1 f f2 f4 f5 f6).trans (a f f1 f3), x2, x3⟩
-- who leaves
theorem putIn_f (S : STT) (p x : Int32) {f : Nat} (hf : f ≠ 13) : sp_X3_putIn S p x f = S f := by
  rw [un_X3_putIn]; unfold rw_X3_putIn
  by_cases c : p < 0
  · rw [if_pos c]
  · rw [if_neg c]
    by_cases d : 4 ≤ p
    · rw [if_pos d]
    · rw [if_neg d]; exact up3_f hf
theorem tb_f (S : STT) (j : Nat) : (∀ f, f ≠ 13 → f ≠ 24 → sp_X5_takeBackStep S j f = S f) ∧ (∀ a, a ≠ j → sp_X5_takeBackStep S j 24 a = S 24 a) ∧ (S 6 j 2 = 0 → sp_X5_takeBackStep S j 24 = S 24) ∧ (¬ S 6 j 2 = 0 → (sp_X1_lastBegun S j = -1 → sp_X5_takeBackStep S j 24 = S 24) ∧ (∀ a, a < 12 → sp_X1_lastBegun S j = nI a → sp_X5_takeBackStep S j 24 j = upd (S 24 j) a 3)) := by
  rw [un_X5_takeBackStep]; unfold rw_X5_takeBackStep
  by_cases c : S 6 j 2 = 0
  · rw [if_pos c]; exact ⟨fun _ _ _ => rfl, fun _ _ => rfl, fun _ => rfl, fun z => absurd c z⟩
  rw [if_neg c]
  rcases lastBegun_in S j with h | ⟨a, ha, h, -⟩
  · rw [h, if_pos (by decide)]
    exact ⟨fun _ _ _ => rfl, fun _ _ => rfl, fun z => absurd z c, fun _ => ⟨fun _ => rfl, fun b hb z => absurd z.symm (q_m1 (by omega))⟩⟩
  · rw [h, if_neg (q_ge (by omega)), if_pos (lt12 ha), q_cl (by omega)]
    have key : ∀ W : STT, (∀ f, f ≠ 13 → W f = (up3 S 24 j a 3) f) → (∀ f, f ≠ 13 → f ≠ 24 → W f = S f) ∧ (∀ b, b ≠ j → W 24 b = S 24 b) ∧ (S 6 j 2 = 0 → W 24 = S 24) ∧ (¬ S 6 j 2 = 0 → (nI a = -1 → W 24 = S 24) ∧ (∀ b, b < 12 → nI a = nI b → W 24 j = upd (S 24 j) b 3)) := fun W hW => by
      refine ⟨fun f f1 f2 => by rw [hW f f1, up3_f f2], fun b hb => by rw [hW 24 (by decide), up3_o hb], fun z => absurd z c, fun _ => ⟨fun z => absurd z (q_m1 (by omega)), fun b hb z => ?_⟩⟩
      rw [hW 24 (by decide), up3_s, q_inj (by omega) (by omega) z]
    by_cases d : S 7 0 a = 1
    · rw [if_pos d]; exact key _ (fun f hf => putIn_f _ _ _ hf)
    · rw [if_neg d]; exact key _ (fun _ _ => rfl)
end P24C
