section PLAINK
theorem add_i {x y : Int32} (h1 : -2147483648 ≤ x.toInt + y.toInt) (h2 : x.toInt + y.toInt < 2147483648) : (x + y).toInt = x.toInt + y.toInt := by
  rw [Int32.toInt_add, Int.bmod_eq_of_le (by omega) (by omega)]
theorem RW.up {S M : STT} (h : RW S M) {f o k : Nat} {v : Int32} : RW (up3 S f o k v) (up3 M f o k v) := by
  intro g hg
  unfold up3
  by_cases c : g = f
  · subst c; rw [if_pos rfl, if_pos rfl, h g hg]
  · rw [if_neg c, if_neg c]; exact h g hg
theorem up3_comm {S : STT} {f o k g o' k' : Nat} {v v' : Int32} (h : f ≠ g) : up3 (up3 S f o k v) g o' k' v' = up3 (up3 S g o' k' v') f o k v := by
  funext a
  by_cases c : a = f
  · subst c
    rw [up3_f h]
    unfold up3
    rw [if_pos rfl, if_pos rfl, if_neg h]
  · rw [up3_f c]
    by_cases d : a = g
    · subst d
      unfold up3
      rw [if_pos rfl, if_pos rfl, if_neg c]
    · rw [up3_f d, up3_f d, up3_f c]
section
variable {B D : Nat} {S M : STT}
theorem up3_24 {M : STT} {f j i : Nat} {v : Int32} (a b : Nat) : (up3 M f j i v) f a b = if a = j ∧ b = i then v else M f a b := by
  unfold up3
  rw [if_pos rfl]
  by_cases c : a = j
  · subst c
    rw [if_pos rfl]
    by_cases d : b = i
    · subst d; rw [upd_e, if_pos ⟨rfl, rfl⟩]
    · rw [upd_n d, if_neg (fun z => d z.2)]
  · rw [if_neg c, if_neg (fun z => c z.1)]
theorem RC.r41 {i : Nat} {v : Int32} (h : RC B D S M) : RC B D S (up3 M 41 0 i v) :=
  ⟨h.iv, fun f hf => (h.rw f hf).trans (up3_f (rr_ne hf).2.2.2.2.2.2.2.1).symm, h.bq, h.fr, h.tk, h.sb, h.db, h.bh, h.lh⟩
theorem RC.stock {B' q : Nat} {x : Int32} (h : RC B D S M) (h0 : 0 ≤ x.toInt) (h1 : x.toInt ≤ B') (hB : B ≤ B') : RC B' D (up3 S 13 0 q x) (up3 M 13 0 q x) := by
  have e : ∀ i, (up3 M 13 0 q x) 13 0 i = if i = q then x else M 13 0 i := fun i => by
    rw [up3_24]
    by_cases c : i = q
    · rw [if_pos ⟨rfl, c⟩, if_pos c]
    · rw [if_neg (fun z => c z.2), if_neg c]
  have v := h.iv
  refine ⟨⟨v.ci, v.t0, v.t1, v.ln, v.nd, v.fm, v.kt, v.rl, v.rt, fun i hi => ?_, v.oi, v.om, v.js, v.bk, v.ss, v.bg⟩, h.rw.up, h.bq, h.fr, h.tk, fun i hi => ?_, h.db, h.bh, h.lh⟩
  · rw [e]; split
    · exact h0
    · exact v.sk i hi
  · rw [e]; split
    · exact h1
    · have := h.sb i hi; omega
theorem RC.put24 {j i : Nat} {x : Int32} (h : RC B D S M) (hj : j < (M 0 0 0).toNatClampNeg) (hq : qb (M 6 j 0) i = true) : RC B D (up3 S 24 j i x) (up3 M 24 j i x) := by
  have v := h.iv
  refine ⟨⟨v.ci, v.t0, v.t1, v.ln, v.nd, v.fm, v.kt, v.rl, v.rt, v.sk, v.oi, v.om, v.js, v.bk, fun a ha k hk hne => ?_, v.bg⟩, h.rw.up, h.bq, fun a ha => ?_, h.tk, h.sb, h.db, h.bh, h.lh⟩
  · rw [up3_24] at hne
    by_cases c : a = j ∧ k = i
    · rw [c.1, c.2]; exact hq
    · rw [if_neg c] at hne; exact v.ss a ha k hk hne
  · have ha : (M 0 0 0).toNatClampNeg ≤ a := ha
    obtain ⟨a1, a2, a3, a4, a5, a6⟩ := h.fr a ha
    exact ⟨a1, by rw [up3_o (by omega)]; exact a2, a3, a4, a5, a6⟩
theorem RC.put25 {j i : Nat} {x : Int32} (h : RC B D S M) (hj : j < (M 0 0 0).toNatClampNeg) (h0 : 0 ≤ x.toInt) (h1 : x.toInt ≤ 199) : RC B D (up3 S 25 j i x) (up3 M 25 j i x) := by
  have v := h.iv
  refine ⟨⟨v.ci, v.t0, v.t1, v.ln, v.nd, v.fm, v.kt, v.rl, v.rt, v.sk, v.oi, v.om, v.js, v.bk, v.ss, fun a ha k hk => ?_⟩, h.rw.up, h.bq, fun a ha => ?_, h.tk, h.sb, h.db, fun a ha k hk => ?_, h.lh⟩
  · rw [up3_24]; split
    · exact h0
    · exact v.bg a ha k hk
  · have ha : (M 0 0 0).toNatClampNeg ≤ a := ha
    obtain ⟨a1, a2, a3, a4, a5, a6⟩ := h.fr a ha
    exact ⟨a1, a2, by rw [up3_o (by omega)]; exact a3, a4, a5, a6⟩
  · rw [up3_24]; split
    · exact h1
    · exact h.bh a ha k hk
theorem RC.put26 {j i : Nat} {x : Int32} (h : RC B D S M) (hj : j < (M 0 0 0).toNatClampNeg) (h0 : 0 ≤ x.toInt) (h1 : x.toInt ≤ 13) : RC B D (up3 S 26 j i x) (up3 M 26 j i x) := by
  have v := h.iv
  refine ⟨⟨v.ci, v.t0, v.t1, v.ln, v.nd, v.fm, v.kt, v.rl, v.rt, v.sk, v.oi, v.om, v.js, v.bk, v.ss, v.bg⟩, h.rw.up, h.bq, fun a ha => ?_, h.tk, h.sb, h.db, h.bh, fun a ha k hk => ?_⟩
  · have ha : (M 0 0 0).toNatClampNeg ≤ a := ha
    obtain ⟨a1, a2, a3, a4, a5, a6⟩ := h.fr a ha
    exact ⟨a1, a2, a3, by rw [up3_o (by omega)]; exact a4, a5, a6⟩
  · rw [up3_24]; split
    · exact ⟨h0, h1⟩
    · exact h.lh a ha k hk
theorem RC.put28 {j i : Nat} {x : Int32} (h : RC B D S M) (hj : j < (M 0 0 0).toNatClampNeg) : RC B D (up3 S 28 j i x) (up3 M 28 j i x) := by
  have v := h.iv
  refine ⟨⟨v.ci, v.t0, v.t1, v.ln, v.nd, v.fm, v.kt, v.rl, v.rt, v.sk, v.oi, v.om, v.js, v.bk, v.ss, v.bg⟩, h.rw.up, h.bq, fun a ha => ?_, h.tk, h.sb, h.db, h.bh, h.lh⟩
  have ha : (M 0 0 0).toNatClampNeg ≤ a := ha
  obtain ⟨a1, a2, a3, a4, a5, a6⟩ := h.fr a ha
  exact ⟨a1, a2, a3, a4, by rw [up3_o (by omega)]; exact a5, a6⟩
theorem RC.tick (h : RC B D S M) (ht : (M 0 0 1).toInt < 199) : RC B D (up3 S 0 0 1 (M 0 0 1 + 1)) (up3 M 0 0 1 (M 0 0 1 + 1)) := by
  have v := h.iv
  have t0 := v.t0
  have e : (M 0 0 1 + 1).toInt = (M 0 0 1).toInt + 1 := tom v
  refine ⟨⟨v.ci, ?_, ?_, v.ln, v.nd, v.fm, v.kt, v.rl, v.rt, v.sk, v.oi, v.om, v.js, v.bk, v.ss, v.bg⟩, h.rw.up, h.bq, h.fr, h.tk, h.sb, h.db, h.bh, h.lh⟩
  · rw [up3_e, e]; omega
  · rw [up3_e, e]; omega
theorem putIn_eq {q : Nat} (hq : q < 4) (x : Int32) : sp_X3_putIn S (nI q) x = up3 S 13 0 q (S 13 0 q + x) := by
  rw [un_X3_putIn]; unfold rw_X3_putIn
  rw [if_neg (q_ge (by omega)), if_neg (is4 hq), q_cl (by omega)]
theorem takeOne_eq {q : Nat} (hq : q < 4) (h0 : ¬ S 13 0 q ≤ 0) : sp_X3_takeOne S (nI q) = up3 S 13 0 q (S 13 0 q - 1) := by
  rw [un_X3_takeOne]; unfold rw_X3_takeOne
  have e : sp_X3_hasPiece S (nI q) = 1 := by
    unfold sp_X3_hasPiece
    rw [if_neg (q_ge (by omega)), if_neg (is4 hq), q_cl (by omega), if_neg h0]
  rw [e, if_neg (by decide), q_cl (by omega)]
end
def TW (i : Nat) (M : STT) : Prop := ∀ a, a < (M 2 0 0).toNatClampNeg → (a < i → (M 41 0 a = 0 ↔ ¬ M 16 0 a ≤ M 0 0 1)) ∧ (i ≤ a → (M 41 0 a = 0 ↔ M 0 0 1 ≤ M 16 0 a))
theorem receive_lp {B D : Nat} (hB : B ≤ 1000000) (Q : STT) (xx : Int32 × STT) (t : Int32) : ∀ (k i : Nat) (S M : STT), i + k = (M 2 0 0).toNatClampNeg → t = M 0 0 1 → RC (B + 20 * i) D S M → TW i M → ∃ M', lp_X10_day_43 Q xx k i M = some M' ∧ RC (B + 20 * (i + k)) D (lp_X3_receive_2 t k i S) M' ∧ TH M' ∧ (∀ f, f ≠ 13 → f ≠ 41 → M' f = M f) := by
  intro k
  induction k with
  | zero => intro i S M h ht hC hW; exact ⟨M, rfl, hC, fun a ha => (hW a ha).1 (by omega), fun f _ _ => rfl⟩
  | succ k ih =>
    intro i S M h ht hC hW
    have hv := hC.iv
    have hio : i < (M 2 0 0).toNatClampNeg := by omega
    have ho := hv.o20
    rw [lp_X10_day_43, lp_X3_receive_2, hC.rw.r16, ← ht]
    have hw := (hW i hio).2 (Nat.le_refl i)
    by_cases c' : M 16 0 i = t
    · have c : M 16 0 i = M 0 0 1 := c'.trans ht
      have c41 : M 41 0 i = 0 := hw.mpr (by rw [c]; exact Int32.le_refl _)
      rw [if_pos c41, if_pos c', if_pos c', hC.rw.r14, hC.rw.r15]
      obtain ⟨q, hq, e⟩ := it4 (hv.oi i hio)
      obtain ⟨m1, m2⟩ := hv.om i hio
      have s0 := hv.sk q hq
      have s1 := hC.sb q hq
      have es : (M 13 0 q + M 15 0 i).toInt = (M 13 0 q).toInt + (M 15 0 i).toInt := add_i (by omega) (by omega)
      rw [e, if_neg (q_ix hq (by decide)), q_cl (by omega), putIn_eq hq, hC.rw.r13]
      have hC2 : RC (B + 20 * (i + 1)) D (up3 S 13 0 q (M 13 0 q + M 15 0 i)) (up3 (up3 M 41 0 i 1) 13 0 q (M 13 0 q + M 15 0 i)) := hC.r41.stock (by rw [es]; omega) (by rw [es]; omega) (by omega)
      have hW2 : TW (i + 1) (up3 (up3 M 41 0 i 1) 13 0 q (M 13 0 q + M 15 0 i)) := by
        intro a ha
        have ha : a < (M 2 0 0).toNatClampNeg := ha
        show (a < i + 1 → ((up3 M 41 0 i 1) 41 0 a = 0 ↔ ¬ M 16 0 a ≤ M 0 0 1)) ∧ (i + 1 ≤ a → ((up3 M 41 0 i 1) 41 0 a = 0 ↔ M 0 0 1 ≤ M 16 0 a))
        by_cases d : a = i
        · subst d
          rw [up3_e]
          exact ⟨fun _ => ⟨fun z => by exact absurd z (by decide), fun z => absurd (by rw [c]; exact Int32.le_refl _) z⟩, fun z => by omega⟩
        · rw [up3_i d]
          exact ⟨fun z => (hW a ha).1 (by omega), fun z => (hW a ha).2 (by omega)⟩
      obtain ⟨M', x1, x2, x3, x4⟩ := ih (i + 1) (up3 S 13 0 q (M 13 0 q + M 15 0 i)) (up3 (up3 M 41 0 i 1) 13 0 q (M 13 0 q + M 15 0 i)) (by show i + 1 + k = (M 2 0 0).toNatClampNeg; omega) ht hC2 hW2
      refine ⟨M', x1, ?_, x3, fun f h1 h2 => ?_⟩
      · rw [show i + (k + 1) = i + 1 + k by omega]; exact x2
      · rw [x4 f h1 h2, up3_f h1, up3_f h2]
    · have c : ¬ M 16 0 i = M 0 0 1 := fun z => c' (z.trans ht.symm)
      rw [if_neg c', if_neg c', ite_self]
      have hW2 : TW (i + 1) M := by
        intro a ha
        refine ⟨fun z => ?_, fun z => (hW a ha).2 (by omega)⟩
        by_cases d : a = i
        · subst d
          rw [hw, Int32.le_iff_toInt_le, Int32.le_iff_toInt_le]
          have : ¬ (M 16 0 a).toInt = (M 0 0 1).toInt := fun z => c (Int32.toInt_inj.mp z)
          omega
        · exact (hW a ha).1 (by omega)
      obtain ⟨M', x1, x2, x3, x4⟩ := ih (i + 1) S M (by omega) ht (hC.mono (by omega) (Nat.le_refl D)) hW2
      refine ⟨M', x1, ?_, x3, x4⟩
      rw [show i + (k + 1) = i + 1 + k by omega]; exact x2
def RNp (P : Nat → Nat → Prop) (M : STT) : Prop := ∀ j, j < (M 0 0 0).toNatClampNeg → M 6 j 2 = 0 → ∀ k, k < 12 → M 24 j k = 1 → (M 0 0 1).toInt ≤ (M 25 j k).toInt + (M 26 j k).toInt ∧ (P j k → (M 0 0 1).toInt < (M 25 j k).toInt + (M 26 j k).toInt)
theorem st_known {B D : Nat} {S M : STT} (hC : RC B D S M) {j i : Nat} (hj : j < (M 0 0 0).toNatClampNeg) (hi : i < 12) (h : ¬ M 24 j i = 0) : i < (M 1 0 0).toNatClampNeg := hC.iv.js j hj i (hC.iv.ss j hj i hi h)
theorem finish_lp {B D : Nat} {j : Nat} (Q Z Sx : STT) (xx : Int32 × STT) (K m : Nat) (V v0 t : Int32) : ∀ (k i : Nat) (d : Int32) (S M : STT), i + k = 12 → m = (M 1 0 0).toNatClampNeg → t = M 0 0 1 → RC B D S M → j < (M 0 0 0).toNatClampNeg → M 6 j 2 = 0 → RNp (fun a b => a < j ∨ (a = j ∧ b < i)) M → ∃ M', lp_X10_day_139 Q xx Z K j V Sx (m - i) i (v0 + d) M = some (v0 + (lp_X1_finishSteps_13 j t k i d S).1, M') ∧ RC B D (lp_X1_finishSteps_13 j t k i d S).2 M' ∧ RNp (fun a _ => a < j + 1) M' ∧ (∀ f, f ≠ 24 → M' f = M f) := by
  intro k
  induction k with
  | zero =>
    intro i d S M h hm ht hC hj hl hN
    have := hC.iv.m12
    rw [show m - i = 0 by omega]
    refine ⟨M, rfl, hC, fun a ha hla b hb hs => ?_, fun f _ => rfl⟩
    obtain ⟨y1, y2⟩ := hN a ha hla b hb hs
    exact ⟨y1, fun z => y2 (by omega)⟩
  | succ k ih =>
    intro i d S M h hm ht hC hj hl hN
    have hv := hC.iv
    have hm12 := hv.m12
    have hi : i < 12 := by omega
    rw [lp_X1_finishSteps_13, hC.rw.r24, hC.rw.r25, hC.rw.r26]
    by_cases c : M 24 j i = 1
    · have cm : i < m := by rw [hm]; exact st_known hC hj hi (by rw [c]; decide)
      rw [show m - i = (m - (i + 1)) + 1 by omega, lp_X10_day_139, if_pos hl, is_fun M j 1 hi, isIn_st hv hj (by decide) hi, if_pos c, if_neg (by decide), if_pos c, ← ht]
      obtain ⟨y1, y2⟩ := hN j hj hl i hi c
      have b0 := hv.bg j hj i hi
      have b1 := hC.bh j hj i hi
      obtain ⟨l0, l1⟩ := hC.lh j hj i hi
      have es : (M 25 j i + M 26 j i).toInt = (M 25 j i).toInt + (M 26 j i).toInt := add_i (by omega) (by omega)
      by_cases e' : t < M 25 j i + M 26 j i
      · have e : M 0 0 1 < M 25 j i + M 26 j i := by rw [← ht]; exact e'
        have e2 : ¬ M 25 j i + M 26 j i = t := fun z => by
          rw [z, Int32.lt_iff_toInt_lt] at e'; omega
        rw [if_pos e', if_neg e2]
        refine ih (i + 1) d S M (by omega) hm ht hC hj hl (fun a ha hla b hb hs => ?_)
        obtain ⟨z1, z2⟩ := hN a ha hla b hb hs
        refine ⟨z1, fun z => ?_⟩
        by_cases q : a = j ∧ b = i
        · rw [q.1, q.2]; rw [Int32.lt_iff_toInt_lt, es] at e; exact e
        · exact z2 (by omega)
      · have e : ¬ M 0 0 1 < M 25 j i + M 26 j i := by rw [← ht]; exact e'
        have e2 : M 25 j i + M 26 j i = t := ht ▸ Int32.toInt_inj.mp (by
          rw [Int32.lt_iff_toInt_lt] at e; omega)
        rw [if_neg e', if_pos e2, Int32.add_assoc]
        have hC2 : RC B D (up3 S 24 j i 2) (up3 M 24 j i 2) := hC.put24 hj (hv.ss j hj i hi (by rw [c]; decide))
        obtain ⟨M', x1, x2, x3, x4⟩ := ih (i + 1) (d + 1) _ (up3 M 24 j i 2) (by omega) hm ht hC2 hj hl (fun a ha hla b hb hs => by
          rw [up3_24] at hs
          by_cases q : a = j ∧ b = i
          · rw [if_pos q] at hs; exact absurd hs (by decide)
          · rw [if_neg q] at hs
            obtain ⟨z1, z2⟩ := hN a ha hla b hb hs
            exact ⟨z1, fun z => z2 (by omega)⟩)
        exact ⟨M', x1, x2, x3, fun f hf => (x4 f hf).trans (up3_f hf)⟩
    · rw [if_neg c]
      have hN2 : RNp (fun a b => a < j ∨ (a = j ∧ b < i + 1)) M := fun a ha hla b hb hs => by
        obtain ⟨z1, z2⟩ := hN a ha hla b hb hs
        refine ⟨z1, fun z => z2 ?_⟩
        by_cases q : a = j ∧ b = i
        · rw [q.1, q.2] at hs; exact absurd hs c
        · omega
      by_cases cm : i < m
      · rw [show m - i = (m - (i + 1)) + 1 by omega, lp_X10_day_139, if_pos hl, is_fun M j 1 hi, isIn_st hv hj (by decide) hi, if_neg c, if_pos rfl]
        exact ih (i + 1) d S M (by omega) hm ht hC hj hl hN2
      · have k2 := ih (i + 1) d S M (by omega) hm ht hC hj hl hN2
        rw [show m - i = 0 by omega]
        rw [show m - (i + 1) = 0 by omega] at k2
        exact k2
theorem finishAll_lp {B D : Nat} (Q Z : STT) (xx : Int32 × STT) : ∀ (k i : Nat) (v : Int32) (S M : STT), i + k = (M 0 0 0).toNatClampNeg → (Q 1 0 0).toNatClampNeg = (M 1 0 0).toNatClampNeg → RC B D S M → RNp (fun a _ => a < i) M → ∃ M', lp_X10_day_117 Q xx Z k i v M = some ((lp_X5_day_45 k i v S).1, M') ∧ RC B D (lp_X5_day_45 k i v S).2 M' ∧ RN M' ∧ (∀ f, f ≠ 24 → M' f = M f) := by
  intro k
  induction k with
  | zero =>
    intro i v S M h hQ hC hN
    exact ⟨M, rfl, hC, fun a ha hla b hb hs => (hN a ha hla b hb hs).2 (by omega), fun f _ => rfl⟩
  | succ k ih =>
    intro i v S M h hQ hC hN
    have hj : i < (M 0 0 0).toNatClampNeg := by omega
    have et : S 0 0 1 = M 0 0 1 := by rw [hC.rw.r0]
    rw [lp_X10_day_117, lp_X5_day_45, et, un_X1_finishSteps]; unfold rw_X1_finishSteps
    rw [hC.rw.r6]
    by_cases c : M 6 i 2 = 0
    · rw [if_pos c]
      obtain ⟨M', x1, x2, x3, x4⟩ := finish_lp (B := B) (D := D) (j := i) Q Z M xx k (Q 1 0 0).toNatClampNeg v v (M 0 0 1) 12 0 0 S M (by omega) hQ rfl hC hj c (fun a ha hla b hb hs => ⟨(hN a ha hla b hb hs).1, fun z => (hN a ha hla b hb hs).2 (by omega)⟩)
      rw [Int32.add_zero] at x1
      have x1 : lp_X10_day_139 Q xx Z k i v M (Q 1 0 0).toNatClampNeg 0 v M = _ := x1
      rw [x1]
      obtain ⟨M2, y1, y2, y3, y4⟩ := ih (i + 1) (v + (lp_X1_finishSteps_13 i (M 0 0 1) 12 0 0 S).1) (lp_X1_finishSteps_13 i (M 0 0 1) 12 0 0 S).2 M' (by rw [x4 0 (by decide)]; omega) (by rw [x4 1 (by decide)]; exact hQ) x2 x3
      exact ⟨M2, y1, y2, y3, fun f hf => (y4 f hf).trans (x4 f hf)⟩
    · rw [if_neg c]
      have a : ∀ kb ib, lp_X10_day_139 Q xx Z k i v M kb ib v M = some (v, M) := by
        intro kb
        induction kb with
        | zero => intro ib; rfl
        | succ kb ihb => intro ib; rw [lp_X10_day_139, if_neg c]; exact ihb _
      rw [a]
      show ∃ M', lp_X10_day_117 Q xx Z k (i + 1) v M = some ((lp_X5_day_45 k (i + 1) (v + 0) S).1, M') ∧ RC B D (lp_X5_day_45 k (i + 1) (v + 0) S).2 M' ∧ _
      rw [Int32.add_zero]
      exact ih (i + 1) v S M (by omega) hQ hC (fun a ha hla b hb hs => ⟨(hN a ha hla b hb hs).1, fun z => (hN a ha hla b hb hs).2 (by
        have : a ≠ i := fun y => c (by rw [← y]; exact hla)
        omega)⟩)
end PLAINK
