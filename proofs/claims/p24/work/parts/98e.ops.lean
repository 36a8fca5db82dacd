section P24E
variable {B D r : Nat} {S T M : STT}
-- one leaves
def BKl (q i : Nat) (S : STT) : Prop := ∀ j, j < (S 0 0 0).toNatClampNeg → ∀ k, k < 12 → ¬ S 27 j k = -1 → S 7 0 k = 2 ∧ S 17 0 (S 27 j k).toNatClampNeg = nI k ∧ (¬ S 6 j 2 = 0 → (j = q → k < i) → ¬ S 24 j k = 0)
theorem BKl.put {q i : Nat} {W : STT} (h : BKl q i S) (hi : i < 12) (hW : ∀ f, f ≠ 20 → W f = S f) : BKl q (i + 1) (up3 W 27 q i (-1)) := by
  intro a ha k hk
  have e : ∀ f, f ≠ 27 → f ≠ 20 → (up3 W 27 q i (-1)) f = S f := fun f h1 h2 => by rw [up3_f h1, hW f h2]
  rw [e 0 (by decide) (by decide)] at ha
  rw [e 7 (by decide) (by decide), e 17 (by decide) (by decide), e 6 (by decide) (by decide), e 24 (by decide) (by decide)]
  by_cases z : a = q ∧ k = i
  · obtain ⟨rfl, rfl⟩ := z
    rw [up3_e]
    exact fun y => absurd rfl y
  · have e27 : (up3 W 27 q i (-1)) 27 a k = S 27 a k := by
      by_cases z1 : a = q
      · subst z1
        rw [up3_i (fun y => z ⟨rfl, y⟩), hW 27 (by decide)]
      · rw [up3_o z1, hW 27 (by decide)]
    rw [e27]
    intro y
    obtain ⟨x1, x2, x3⟩ := h a ha k hk y
    exact ⟨x1, x2, fun w1 w2 => x3 w1 (fun w => by
      have := w2 w
      have : k ≠ i := fun v => z ⟨w, v⟩
      omega)⟩
theorem leave_ph {QS : STT} {p1 : Int32} {q : Nat} (hq : (sp_X5_joinerAt QS p1).2 = q) : ∀ (k i : Nat) (S : STT), i + k = 12 → RC B D S S → q < (S 0 0 0).toNatClampNeg → BKl q i S → ST S → RC B D (lp_X5_leave_30 QS p1 k i S) (lp_X5_leave_30 QS p1 k i S) ∧ (∀ f, f ≠ 20 → f ≠ 27 → lp_X5_leave_30 QS p1 k i S f = S f) ∧ BKl q 12 (lp_X5_leave_30 QS p1 k i S) ∧ ST (lp_X5_leave_30 QS p1 k i S) := by
  intro k
  induction k with
  | zero =>
    intro i S h h1 _ h2 h3
    obtain rfl : i = 12 := by omega
    exact ⟨h1, fun _ _ _ => rfl, h2, h3⟩
  | succ k ih =>
    intro i S hi hC hj hb hs
    rw [lp_X5_leave_30, hq]
    by_cases c1 : S 24 q i = 0
    · rw [if_pos c1]
      have h1 : RC B D (up3 (sp_X4_release S (S 27 q i)) 27 q i (-1)) (up3 (sp_X4_release S (S 27 q i)) 27 q i (-1)) := (hC.free hj (by omega : i < 12)).self
      have r := fun f hf => rel_f S (S 27 q i) (f := f) hf
      have h2 := BKl.put (W := sp_X4_release S (S 27 q i)) hb (by omega : i < 12) r
      have h3 := rel_st hC hs (S 27 q i)
      generalize sp_X4_release S (S 27 q i) = W at h1 h2 h3 r ⊢
      obtain ⟨x1, x2, x3, x4⟩ := ih (i + 1) (up3 W 27 q i (-1)) (by omega) h1 (by rw [up3_f (by decide), r 0 (by decide)]; exact hj) h2 (h3.same (up3_f (by decide)) (up3_f (by decide)))
      exact ⟨x1, fun f f1 f2 => by rw [x2 f f1 f2, up3_f f2, r f f1], x3, x4⟩
    · rw [if_neg c1]
      exact ih _ _ (by omega) hC hj (fun a ha k hk y => by
        obtain ⟨x1, x2, x3⟩ := hb a ha k hk y
        refine ⟨x1, x2, fun w1 w2 => ?_⟩
        by_cases z : a = q ∧ k = i
        · obtain ⟨rfl, rfl⟩ := z; exact c1
        · exact x3 w1 (fun w => by
            have := w2 w
            have : k ≠ i := fun v => z ⟨w, v⟩
            omega)) hs
theorem n_leave (hr : r < 512) (h : RLn r S M) (n : NI S) {q : Nat} (hq : q < (S 0 0 0).toNatClampNeg) (hl : S 6 q 2 = 0) : (sp_X5_leave S (nI q)).1 = 0 ∧ (sp_X5_leave S (nI q)).2.1 = sp_X1_countIn S q 1 + sp_X1_countIn S q 2 ∧ (∃ M', RLn (r + 1) (sp_X5_leave S (nI q)).2.2 M') ∧ NI (sp_X5_leave S (nI q)).2.2 ∧ FR5 S (sp_X5_leave S (nI q)).2.2 ∧ (sp_X5_leave S (nI q)).2.2 0 = S 0 ∧ (sp_X5_leave S (nI q)).2.2 6 q 2 = 1 := by
  have hC := h.c.self
  have v := hC.iv
  have hja : sp_X5_joinerAt S (nI q) = (0, q) := jat_in v (fun _ _ => rfl) hq
  have hE : sp_X5_leave S (nI q) = (0, sp_X1_countIn (sp_X5_bookAll (lp_X5_leave_30 S (nI q) 12 0 (up3 S 6 q 2 1))) q 1 + sp_X1_countIn (sp_X5_bookAll (lp_X5_leave_30 S (nI q) 12 0 (up3 S 6 q 2 1))) q 2, sp_X5_bookAll (lp_X5_leave_30 S (nI q) 12 0 (up3 S 6 q 2 1))) := by
    rw [un_X5_leave]; unfold rw_X5_leave; rw [hja, if_pos rfl, if_pos hl]
  obtain ⟨w, -, -, -, w4⟩ := s_leave r S M hr h (nI q)
  rw [hE] at w4
  rw [hE]
  obtain ⟨n1, n2, n3, n4, n5⟩ := n
  have hC0 : RC (500 * r) (199 + 30 * r) (up3 S 6 q 2 1) (up3 S 6 q 2 1) := hC.left6 hq
  have e0 : ∀ f, f ≠ 6 → (up3 S 6 q 2 1) f = S f := fun f hf => up3_f hf
  have e6 : ∀ j, j ≠ q → (up3 S 6 q 2 1) 6 j = S 6 j := fun j hj => up3_o hj
  have e6i : ∀ i, i ≠ 2 → (up3 S 6 q 2 1) 6 q i = S 6 q i := fun i hi => up3_i hi
  have e62 : (up3 S 6 q 2 1) 6 q 2 = 1 := up3_e
  obtain ⟨x1, x2, x3, x4⟩ := leave_ph (QS := S) (p1 := nI q) (q := q) (by rw [hja]) 12 0 (up3 S 6 q 2 1) (by omega) hC0 (by rw [e0 0 (by decide)]; exact hq) (fun a ha k hk y => by
    rw [e0 0 (by decide)] at ha
    rw [e0 27 (by decide)] at y
    obtain ⟨y1, y2, y3⟩ := n2 a ha k hk y
    rw [e0 7 (by decide), e0 17 (by decide), e0 27 (by decide), e0 24 (by decide)]
    refine ⟨y1, y2, fun w1 w2 => ?_⟩
    by_cases z : a = q
    · have := w2 z; omega
    · rw [e6 a z] at w1; exact y3 w1) (n3.same (e0 19 (by decide)) (e0 20 (by decide)))
  have w5 : ∃ M', RLn (r + 1) (sp_X5_bookAll (lp_X5_leave_30 S (nI q) 12 0 (up3 S 6 q 2 1))) M' := ⟨_, w4⟩
  clear w4
  generalize lp_X5_leave_30 S (nI q) 12 0 (up3 S 6 q 2 1) = V at x1 x2 x3 x4 w5 ⊢
  have Vf : ∀ f, (f ≠ 20 ∧ f ≠ 27 ∧ f ≠ 6) → V f = S f := fun f hf => (x2 f hf.1 hf.2.1).trans (e0 f hf.2.2)
  have V6 : V 6 = (up3 S 6 q 2 1) 6 := x2 6 (by decide) (by decide)
  have hb : BK V := fun a ha k hk y => by
    obtain ⟨y1, y2, y3⟩ := x3 a ha k hk y
    exact ⟨y1, y2, fun w => y3 w (fun _ => hk)⟩
  obtain ⟨y1, y2, y3⟩ := bookAll_ni x1.iv.ci hb x4
  have z : ∀ f, (f ≠ 4 ∧ f ≠ 20 ∧ f ≠ 21 ∧ f ≠ 22 ∧ f ≠ 23 ∧ f ≠ 27) → sp_X5_bookAll V f = V f := fun f hf => y1 f hf.1 hf.2.1 hf.2.2.1 hf.2.2.2.1 hf.2.2.2.2.1 hf.2.2.2.2.2
  generalize sp_X5_bookAll V = W at y2 y3 z w5 ⊢
  have g : ∀ f, (f ≠ 4 ∧ f ≠ 20 ∧ f ≠ 21 ∧ f ≠ 22 ∧ f ≠ 23 ∧ f ≠ 27) ∧ f ≠ 6 → W f = S f := fun f hf => (z f hf.1).trans (Vf f ⟨hf.1.2.1, hf.1.2.2.2.2.2, hf.2⟩)
  have W6 : W 6 = (up3 S 6 q 2 1) 6 := (z 6 (by decide)).trans V6
  have W0 : W 0 = S 0 := g 0 (by decide)
  have cn : ∀ p, sp_X1_countIn W q p = sp_X1_countIn S q p := fun p => by
    unfold sp_X1_countIn
    congr 1
    apply qb_ext
    intro i hi
    rw [stepsIn_qb W q p hi, stepsIn_qb S q p hi, W6, e6i 0 (by decide), g 24 (by decide)]
  show 0 = 0 ∧ sp_X1_countIn W q 1 + sp_X1_countIn W q 2 = sp_X1_countIn S q 1 + sp_X1_countIn S q 2 ∧ (∃ M', RLn (r + 1) W M') ∧ NI W ∧ FR5 S W ∧ W 0 = S 0 ∧ W 6 q 2 = 1
  refine ⟨rfl, ?_, w5, ⟨?_, y2, y3, ?_, ?_⟩, ⟨g 1 (by decide), g 7 (by decide), g 9 (by decide), g 11 (by decide), g 12 (by decide)⟩, W0, ?_⟩
  · show sp_X1_countIn W q 1 + sp_X1_countIn W q 2 = _
    rw [cn, cn]
  · rw [W0]
    intro j hj hl2
    rw [W0] at hj
    rw [W6] at hl2
    have jq : j ≠ q := fun y => by rw [y, e62] at hl2; exact absurd hl2 (by decide)
    rw [e6 j jq] at hl2
    exact (n1 j hj hl2).same (by rw [W6, e6 j jq]) (g 9 (by decide)) (by rw [g 24 (by decide)]) (by rw [g 25 (by decide)]) (by rw [g 26 (by decide)])
  · intro j hj
    rw [W0] at hj
    have e : W 6 j 1 = S 6 j 1 := by
      rw [W6]
      by_cases y : j = q
      · rw [y, e6i 1 (by decide)]
      · rw [e6 j y]
    rw [e]; exact n4 j hj
  · rw [g 18 (by decide)]; exact n5
  · show W 6 q 2 = 1
    rw [W6, e62]
-- a day
theorem BK.st (h : BK S) (e0 : T 0 0 0 = S 0 0 0) (e6 : T 6 = S 6) (e7 : T 7 = S 7) (e17 : T 17 = S 17) (e27 : T 27 = S 27) (e24 : ∀ j, ¬ S 6 j 2 = 0 → T 24 j = S 24 j) : BK T := by
  intro j hj k hk y
  rw [e0] at hj
  rw [e27] at y
  rw [e7, e17, e27, e6]
  obtain ⟨a, b, c⟩ := h j hj k hk y
  exact ⟨a, b, fun z => by rw [e24 j z]; exact c z⟩
theorem rec_f (p : Int32) : ∀ (k i : Nat) (S : STT) (f : Nat), f ≠ 13 → lp_X3_receive_2 p k i S f = S f := by
  intro k
  induction k with
  | zero => intro i S f _; rfl
  | succ k ih =>
    intro i S f hf
    rw [lp_X3_receive_2]
    by_cases c : S 16 0 i = p
    · rw [if_pos c, ih _ _ f hf, putIn_f _ _ _ hf]
    · rw [if_neg c, ih _ _ f hf]
theorem last_ne {j : Nat} (hb : ∀ k, k < 12 → 0 ≤ (S 25 j k).toInt) : ∀ (k i : Nat) (v1 v2 : Int32), i + k = 12 → (v1 = -1 → v2 = -1) → (¬ v1 = -1 ∨ ∃ a, i ≤ a ∧ a < 12 ∧ (S 24 j a = 1 ∨ S 24 j a = 2)) → ¬ (lp_X1_lastBegun_6 S j k i v1 v2).1 = -1 := by
  intro k
  induction k with
  | zero =>
    intro i v1 v2 hi h1 h2
    rcases h2 with h2 | ⟨a, a1, a2, -⟩
    · exact h2
    · omega
  | succ k ih =>
    intro i v1 v2 hi h1 h2
    have h12 : i < 12 := by omega
    have pick : (S 24 j i = 1 ∨ S 24 j i = 2) → ¬ (if S 25 j i < v2 then (lp_X1_lastBegun_6 S j k (i + 1) v1 v2) else (lp_X1_lastBegun_6 S j k (i + 1) (nI i) (S 25 j i))).1 = -1 := fun _ => by
      by_cases c : S 25 j i < v2
      · rw [if_pos c]
        refine ih _ _ _ (by omega) h1 (Or.inl fun z => ?_)
        rw [h1 z, Int32.lt_iff_toInt_lt, m1_i] at c
        have := hb i h12
        omega
      · rw [if_neg c]
        exact ih _ _ _ (by omega) (fun z => absurd z (q_m1 (by omega))) (Or.inl (q_m1 (by omega)))
    rw [lp_X1_lastBegun_6]
    by_cases c1 : S 24 j i = 1
    · rw [if_pos c1]; exact pick (Or.inl c1)
    · rw [if_neg c1]
      by_cases c2 : S 24 j i = 2
      · rw [if_pos c2]; exact pick (Or.inr c2)
      · rw [if_neg c2]
        refine ih _ _ _ (by omega) h1 (h2.imp id fun ⟨a, a1, a2, a3⟩ => ⟨a, ?_, a2, a3⟩)
        rcases Nat.eq_or_lt_of_le a1 with z | z
        · subst z; exact absurd a3 (fun y => y.elim c1 c2)
        · exact z
/-- one who has left is taken back one step -/
def DEC (g g' : Nat → Int32) : Prop := ((∀ k, k < 12 → ¬ g k = 1 ∧ ¬ g k = 2) ∧ g' = g) ∨ ∃ a, a < 12 ∧ (g a = 1 ∨ g a = 2) ∧ g' = upd g a 3
theorem tb_dec {j : Nat} (hb : ∀ k, k < 12 → 0 ≤ (S 25 j k).toInt) (hl : ¬ S 6 j 2 = 0) : DEC (S 24 j) (sp_X5_takeBackStep S j 24 j) := by
  obtain ⟨-, -, -, h⟩ := tb_f S j
  obtain ⟨h1, h2⟩ := h hl
  rcases lastBegun_in S j with z | ⟨a, ha, z, y⟩
  · refine Or.inl ⟨fun k hk => ?_, by rw [h1 z]⟩
    have := fun w => last_ne hb 12 0 (-1) (-1) (by omega) (fun _ => rfl) (Or.inr ⟨k, Nat.zero_le k, hk, w⟩) z
    exact ⟨fun w => this (Or.inl w), fun w => this (Or.inr w)⟩
  · exact Or.inr ⟨a, ha, y, h2 a ha z⟩
theorem tbAll_ph : ∀ (k i : Nat) (S : STT), (∀ j, i ≤ j → j < i + k → ∀ k, k < 12 → 0 ≤ (S 25 j k).toInt) → (∀ f, f ≠ 13 → f ≠ 24 → lp_X5_day_130 k i S f = S f) ∧ (∀ j, S 6 j 2 = 0 → lp_X5_day_130 k i S 24 j = S 24 j) ∧ (∀ j, j < i → lp_X5_day_130 k i S 24 j = S 24 j) ∧ (∀ j, i ≤ j → j < i + k → ¬ S 6 j 2 = 0 → DEC (S 24 j) (lp_X5_day_130 k i S 24 j)) := by
  intro k
  induction k with
  | zero => intro i S _; exact ⟨fun _ _ _ => rfl, fun _ _ => rfl, fun _ _ => rfl, fun j h1 h2 => by omega⟩
  | succ k ih =>
    intro i S hb
    show (∀ f, f ≠ 13 → f ≠ 24 → lp_X5_day_130 k (i + 1) (sp_X5_takeBackStep S i) f = S f) ∧ (∀ j, S 6 j 2 = 0 → lp_X5_day_130 k (i + 1) (sp_X5_takeBackStep S i) 24 j = S 24 j) ∧ (∀ j, j < i → lp_X5_day_130 k (i + 1) (sp_X5_takeBackStep S i) 24 j = S 24 j) ∧ (∀ j, i ≤ j → j < i + (k + 1) → ¬ S 6 j 2 = 0 → DEC (S 24 j) (lp_X5_day_130 k (i + 1) (sp_X5_takeBackStep S i) 24 j))
    obtain ⟨a1, a2, a3, -⟩ := tb_f S i
    have a4 := fun hl => tb_dec (S := S) (j := i) (hb i (Nat.le_refl i) (by omega)) hl
    generalize sp_X5_takeBackStep S i = V at a1 a2 a3 a4 ⊢
    have e6 : V 6 = S 6 := a1 6 (by decide) (by decide)
    have e25 : V 25 = S 25 := a1 25 (by decide) (by decide)
    obtain ⟨b1, b2, b3, b4⟩ := ih (i + 1) V (fun j h1 h2 => by rw [e25]; exact hb j (by omega) (by omega))
    refine ⟨fun f f1 f2 => (b1 f f1 f2).trans (a1 f f1 f2), fun j hl => ?_, fun j hj => (b3 j (by omega)).trans (a2 j (by omega)), fun j h1 h2 hl => ?_⟩
    · rw [b2 j (by rw [e6]; exact hl)]
      by_cases z : j = i
      · subst z; rw [a3 hl]
      · exact a2 j z
    · by_cases z : j = i
      · subst z; rw [b3 j (by omega)]; exact a4 hl
      · rw [← a2 j z]; exact b4 j (by omega) (by omega) (by rw [e6]; exact hl)
theorem n_day (hr : r < 512) (h : RLn r S M) (n : NI S) (ht : (S 0 0 1).toInt < 199) : (sp_X5_day S).1 = 0 ∧ 0 ≤ (sp_X5_day S).2.1.toInt ∧ (∃ M', RLn (r + 1) (sp_X5_day S).2.2 M') ∧ NI (sp_X5_day S).2.2 ∧ FR5 S (sp_X5_day S).2.2 ∧ (sp_X5_day S).2.2 0 0 1 = S 0 0 1 + 1 ∧ (sp_X5_day S).2.2 0 0 0 = S 0 0 0 ∧ (sp_X5_day S).2.2 6 = S 6 ∧ (∀ j, j < (S 0 0 0).toNatClampNeg → ¬ S 6 j 2 = 0 → DEC (S 24 j) ((sp_X5_day S).2.2 24 j)) := by
  have hC := h.c.self
  have v := hC.iv
  have hj8 := v.j8
  have ho := v.o20
  have hE : sp_X5_day S = (0, (lp_X5_day_45 (S 0 0 0).toNatClampNeg 0 0 (lp_X3_receive_2 (S 0 0 1 + 1) (S 2 0 0).toNatClampNeg 0 (up3 S 0 0 1 (S 0 0 1 + 1)))).1, lp_X5_day_130 (S 0 0 0).toNatClampNeg 0 (sp_X5_bookAll (lp_X5_day_101 (S 0 0 0).toNatClampNeg 0 (lp_X5_day_76 (S 0 0 0).toNatClampNeg 0 (lp_X5_day_45 (S 0 0 0).toNatClampNeg 0 0 (lp_X3_receive_2 (S 0 0 1 + 1) (S 2 0 0).toNatClampNeg 0 (up3 S 0 0 1 (S 0 0 1 + 1)))).2)))) := by
    rw [un_X5_day]; unfold rw_X5_day
    rw [if_pos (by rw [Int32.lt_iff_toInt_lt]; exact ht), un_X3_receive]
    unfold rw_X3_receive
    rw [up3_e, up3_f (f := 0) (f' := 2) (by decide)]
  obtain ⟨w, -, -, -, w4⟩ := s_day r S M hr h
  rw [hE] at w4
  rw [hE]
  have w5 : ∃ M', RLn (r + 1) (lp_X5_day_130 (S 0 0 0).toNatClampNeg 0 (sp_X5_bookAll (lp_X5_day_101 (S 0 0 0).toNatClampNeg 0 (lp_X5_day_76 (S 0 0 0).toNatClampNeg 0 (lp_X5_day_45 (S 0 0 0).toNatClampNeg 0 0 (lp_X3_receive_2 (S 0 0 1 + 1) (S 2 0 0).toNatClampNeg 0 (up3 S 0 0 1 (S 0 0 1 + 1)))).2)))) M' := ⟨_, w4⟩
  clear w4
  obtain ⟨n1, n2, n3, n4, n5⟩ := n
  have et := tom v
  -- the day goes on, what comes is put in
  have hC0 : RC (500 * r) (199 + 30 * r) (up3 S 0 0 1 (S 0 0 1 + 1)) (up3 S 0 0 1 (S 0 0 1 + 1)) := hC.tick ht
  have hR0 : ∃ M1, RC (500 * r + 20 * (0 + (S 2 0 0).toNatClampNeg)) (199 + 30 * r) (lp_X5_day_45 (S 0 0 0).toNatClampNeg 0 0 (lp_X3_receive_2 (S 0 0 1 + 1) (S 2 0 0).toNatClampNeg 0 (up3 S 0 0 1 (S 0 0 1 + 1)))).2 M1 ∧ RN M1 := by
    have R := h.1.rw
    have hN := h.th (v := 0)
    have hv := h.1.iv
    have et' := tom hv
    rw [R.r0, R.r2]
    have hC1 : RC (500 * r) (199 + 30 * r) (up3 S 0 0 1 (M 0 0 1 + 1)) (up3 (up3 M 40 0 0 0) 0 0 1 (M 0 0 1 + 1)) := hN.1.tick (show (M 0 0 1).toInt < 199 by rw [← R.r0]; exact ht)
    obtain ⟨M1, a1, a2, a3, a4⟩ := receive_lp (B := 500 * r) (by omega) M (0, up3 M 40 0 0 0) (M 0 0 1 + 1) (M 2 0 0).toNatClampNeg 0 (up3 S 0 0 1 (M 0 0 1 + 1)) (up3 (up3 M 40 0 0 0) 0 0 1 (M 0 0 1 + 1)) (Nat.zero_add _) rfl hC1 (fun a ha => ⟨fun z => by omega, fun _ => by
      show M 41 0 a = 0 ↔ M 0 0 1 + 1 ≤ M 16 0 a
      rw [h.2.1 a ha, Int32.le_iff_toInt_le, Int32.le_iff_toInt_le, et']; omega⟩)
    have q0 : M1 0 = (up3 M 0 0 1 (M 0 0 1 + 1)) 0 := a4 0 (by decide) (by decide)
    have q01 : M1 0 0 1 = M 0 0 1 + 1 := by rw [q0, up3_e]
    have q00 : M1 0 0 0 = M 0 0 0 := by rw [q0]; rfl
    have q1 : M1 1 = M 1 := a4 1 (by decide) (by decide)
    obtain ⟨M2, b1, b2, b3, b4⟩ := finishAll_lp (B := 500 * r + 20 * (0 + (M 2 0 0).toNatClampNeg)) (D := 199 + 30 * r) M M1 (0, up3 M 40 0 0 0) (M 0 0 0).toNatClampNeg 0 0 (lp_X3_receive_2 (M 0 0 1 + 1) (M 2 0 0).toNatClampNeg 0 (up3 S 0 0 1 (M 0 0 1 + 1))) M1 (by rw [q00, Nat.zero_add]) (by rw [q1]) a2 (fun a ha hla b hb hs => ⟨by
      rw [q00] at ha
      rw [a4 6 (by decide) (by decide)] at hla
      rw [a4 24 (by decide) (by decide)] at hs
      rw [q01, et', a4 25 (by decide) (by decide), a4 26 (by decide) (by decide)]
      have := h.2.2 a ha hla b hb hs
      exact Int.add_one_le_of_lt this, fun z => by omega⟩)
    exact ⟨M2, b2, b3⟩
  have f1 : ∀ f, f ≠ 13 → lp_X3_receive_2 (S 0 0 1 + 1) (S 2 0 0).toNatClampNeg 0 (up3 S 0 0 1 (S 0 0 1 + 1)) f = (up3 S 0 0 1 (S 0 0 1 + 1)) f := fun f hf => rec_f _ _ _ _ f hf
  generalize lp_X3_receive_2 (S 0 0 1 + 1) (S 2 0 0).toNatClampNeg 0 (up3 S 0 0 1 (S 0 0 1 + 1)) = X2 at hR0 f1 w5 ⊢
  have g1 : ∀ f, f ≠ 13 → f ≠ 0 → X2 f = S f := fun f a b => (f1 f a).trans (up3_f b)
  have g1t : X2 0 0 1 = S 0 0 1 + 1 := by rw [f1 0 (by decide), up3_e]
  have g1J : X2 0 0 0 = S 0 0 0 := by rw [f1 0 (by decide), up3_i (by decide)]
  -- what ends
  have hJ2 : JA (X2 0 0 1).toInt X2 := by
    rw [g1t, et]
    exact (n1.mono (by omega : (S 0 0 1).toInt ≤ (S 0 0 1).toInt + 1)).same g1J (g1 6 (by decide) (by decide)) (g1 9 (by decide) (by decide)) (g1 24 (by decide) (by decide)) (g1 25 (by decide) (by decide)) (g1 26 (by decide) (by decide))
  have hcnt := finAll_cnt (S 0 0 0).toNatClampNeg 0 0 X2 (by decide) (by rw [z_i]; omega)
  obtain ⟨h3a, h3b, h3c⟩ := finAll_lp (S 0 0 0).toNatClampNeg 0 0 X2 (by rw [g1J]; omega) (by
    intro j hj a ha
    rw [g1J] at hj
    rw [g1 25 (by decide) (by decide), g1 26 (by decide) (by decide)]
    have x1 := v.bg j hj a ha
    have x2 := hC.bh j hj a ha
    have x3 := hC.lh j hj a ha
    exact ⟨x1, x2, x3.1, x3.2⟩) hJ2
  rw [g1t] at h3c
  generalize (lp_X5_day_45 (S 0 0 0).toNatClampNeg 0 0 X2).1 = dn at hcnt ⊢
  generalize (lp_X5_day_45 (S 0 0 0).toNatClampNeg 0 0 X2).2 = X3 at h3a h3b h3c hR0 w5 ⊢
  obtain ⟨M1, c1, c2⟩ := hR0
  have c3 := c2.of c1
  have c4 := c1.self
  have g3 : ∀ f, (f ≠ 13 ∧ f ≠ 0 ∧ f ≠ 24) → X3 f = S f := fun f hf => (h3a f hf.2.2).trans (g1 f hf.1 hf.2.1)
  have g30 : X3 0 = X2 0 := h3a 0 (by decide)
  have l3 : ∀ j, ¬ S 6 j 2 = 0 → X3 24 j = S 24 j := fun j hl => (h3b j (by rw [g1 6 (by decide) (by decide)]; exact hl)).trans (by rw [g1 24 (by decide) (by decide)])
  -- what begins
  obtain ⟨h4a, h4b, h4c, h4d, h4e⟩ := begAll_lp (S 0 0 0).toNatClampNeg 0 X3 (by rw [g30, g1J]; omega) c4 c3 (by rw [g30, g1t]; exact h3c)
  rw [g30, g1t] at h4e
  generalize lp_X5_day_76 (S 0 0 0).toNatClampNeg 0 X3 = X4 at h4a h4b h4c h4d h4e w5 ⊢
  have g4 : ∀ f, (f ≠ 13 ∧ f ≠ 0 ∧ f ≠ 24 ∧ f ≠ 25 ∧ f ≠ 26) → X4 f = S f := fun f hf => (h4c f hf.1 hf.2.2.1 hf.2.2.2.1 hf.2.2.2.2).trans (g3 f ⟨hf.1, hf.2.1, hf.2.2.1⟩)
  have g40 : X4 0 = X2 0 := (h4c 0 (by decide) (by decide) (by decide) (by decide)).trans g30
  have l4 : ∀ j, ¬ S 6 j 2 = 0 → X4 24 j = S 24 j := fun j hl => (h4d j (by rw [g3 6 (by decide)]; exact hl)).trans (l3 j hl)
  have b4 : BK X4 := n2.st (by rw [g40, g1J]) (g4 6 (by decide)) (g4 7 (by decide)) (g4 17 (by decide)) (g4 27 (by decide)) l4
  have s4 : ST X4 := n3.same (g4 19 (by decide)) (g4 20 (by decide))
  -- who loses a seat, and who gets one
  obtain ⟨h5a, h5b, h5c, h5d⟩ := loseAll_ph (S 0 0 0).toNatClampNeg 0 X4 (by rw [g40, g1J]; omega) h4a b4 s4
  generalize lp_X5_day_101 (S 0 0 0).toNatClampNeg 0 X4 = X5 at h5a h5b h5c h5d w5 ⊢
  obtain ⟨h6a, h6b, h6c⟩ := bookAll_ni h5a.iv.ci h5c h5d
  generalize sp_X5_bookAll X5 = X6 at h6a h6b h6c w5 ⊢
  have g6 : ∀ f, (f ≠ 4 ∧ f ≠ 20 ∧ f ≠ 21 ∧ f ≠ 22 ∧ f ≠ 23 ∧ f ≠ 27 ∧ f ≠ 28) → X6 f = X4 f := fun f hf => (h6a f hf.1 hf.2.1 hf.2.2.1 hf.2.2.2.1 hf.2.2.2.2.1 hf.2.2.2.2.2.1).trans (h5b f hf.2.1 hf.2.2.2.2.2.1 hf.2.2.2.2.2.2)
  have g60 : X6 0 = X2 0 := (g6 0 (by decide)).trans g40
  have e6 : X6 6 = S 6 := (g6 6 (by decide)).trans (g4 6 (by decide))
  have b25 : ∀ j, j < (S 0 0 0).toNatClampNeg → ∀ k, k < 12 → 0 ≤ (X6 25 j k).toInt := fun j hj k hk => by
    rw [g6 25 (by decide)]
    exact h4a.iv.bg j (by rw [g40, g1J]; exact hj) k hk
  -- who is taken back
  obtain ⟨h7a, h7b, -, h7d⟩ := tbAll_ph (S 0 0 0).toNatClampNeg 0 X6 (fun j _ hj => b25 j (by omega))
  generalize lp_X5_day_130 (S 0 0 0).toNatClampNeg 0 X6 = X7 at h7a h7b h7d w5 ⊢
  have g7 : ∀ f, (f ≠ 13 ∧ f ≠ 24) ∧ (f ≠ 4 ∧ f ≠ 20 ∧ f ≠ 21 ∧ f ≠ 22 ∧ f ≠ 23 ∧ f ≠ 27 ∧ f ≠ 28) ∧ (f ≠ 13 ∧ f ≠ 0 ∧ f ≠ 24 ∧ f ≠ 25 ∧ f ≠ 26) → X7 f = S f := fun f hf => (h7a f hf.1.1 hf.1.2).trans ((g6 f hf.2.1).trans (g4 f hf.2.2))
  have g70 : X7 0 = X2 0 := (h7a 0 (by decide) (by decide)).trans g60
  have k6 : X7 6 = S 6 := g7 6 (by decide)
  refine ⟨rfl, hcnt, w5, ⟨?_, ?_, ?_, ?_, ?_⟩, ⟨g7 1 (by decide), g7 7 (by decide), g7 9 (by decide), g7 11 (by decide), g7 12 (by decide)⟩, ?_, ?_, k6, ?_⟩
  · show JA (X7 0 0 1).toInt X7
    rw [g70, g1t]
    intro j hj hl
    rw [g70, g1J] at hj
    rw [k6] at hl
    have hl4 : X4 6 j 2 = 0 := by rw [g4 6 (by decide)]; exact hl
    exact (h4e j (by rw [g40, g1J]; exact hj) hl4).same (by rw [k6, g4 6 (by decide)]) ((g7 9 (by decide)).trans (g4 9 (by decide)).symm) ((h7b j (by rw [e6]; exact hl)).trans (by rw [g6 24 (by decide)])) (by rw [h7a 25 (by decide) (by decide), g6 25 (by decide)]) (by rw [h7a 26 (by decide) (by decide), g6 26 (by decide)])
  · show BK X7
    intro j hj k hk y
    have hj6 : j < (X6 0 0 0).toNatClampNeg := by rw [g60, ← g70]; exact hj
    rw [h7a 27 (by decide) (by decide)] at y
    rw [h7a 7 (by decide) (by decide), h7a 17 (by decide) (by decide), h7a 27 (by decide) (by decide), h7a 6 (by decide) (by decide)]
    obtain ⟨x1, x2, x3⟩ := h6b j hj6 k hk y
    refine ⟨x1, x2, fun z => ?_⟩
    have hj0 : j < (S 0 0 0).toNatClampNeg := by rw [g60, g1J] at hj6; exact hj6
    rcases h7d j (Nat.zero_le j) (by omega) z with ⟨-, u⟩ | ⟨a, a1, a2, u⟩
    · rw [u]; exact x3 z
    · rw [u]
      by_cases q : k = a
      · subst q; rw [upd_e]; decide
      · rw [upd_n q]; exact x3 z
  · exact h6c.same (h7a 19 (by decide) (by decide)) (h7a 20 (by decide) (by decide))
  · intro j hj
    have hj0 : j < (S 0 0 0).toNatClampNeg := by
      have hj : j < (X7 0 0 0).toNatClampNeg := hj
      rw [g70, g1J] at hj; exact hj
    show 0 ≤ (X7 6 j 1).toInt ∧ (X7 6 j 1).toInt ≤ 199
    rw [k6]; exact n4 j hj0
  · show ∀ s, s < 20 → (X7 18 0 s).toInt ≤ 199
    rw [g7 18 (by decide)]; exact n5
  · show X7 0 0 1 = _
    rw [g70, g1t]
  · show X7 0 0 0 = _
    rw [g70, g1J]
  · intro j hj hl
    have d := h7d j (Nat.zero_le j) (by omega) (by rw [e6]; exact hl)
    rw [g6 24 (by decide), l4 j hl] at d
    exact d
end P24E
