section P24A
variable {B D : Nat} {S M : STT}
theorem IV.ofS (h : RC B D S M) : IV S := by
  have e := h.rw
  have v := h.iv
  refine ⟨?_, ?_, ?_, ?_, ?_, ?_, ?_, ?_, ?_, ?_, ?_, ?_, ?_, ?_, ?_, ?_⟩
  · have k := v.ci
    unfold CI at k ⊢
    rw [e.r0, e.r1, e.r2, e.r3]; exact k
  · rw [e.r0]; exact v.t0
  · rw [e.r0]; exact v.t1
  · rw [e.r1, e.r8]; exact v.ln
  · rw [e.r1, e.r9]; exact v.nd
  · rw [e.r1, e.r7, e.r10]; exact v.fm
  · rw [e.r1, e.r7, e.r10]; exact v.kt
  · rw [e.r11, e.r1]; exact v.rl
  · rw [e.r1, e.r12]; exact v.rt
  · rw [e.r13]; exact v.sk
  · rw [e.r2, e.r14]; exact v.oi
  · rw [e.r2, e.r15]; exact v.om
  · rw [e.r0, e.r6, e.r1]; exact v.js
  · intro j hj k hk
    rw [e.r0] at hj
    rw [h.bq j hj, e.r3, e.r6]; exact v.bk j hj k hk
  · rw [e.r0, e.r24, e.r6]; exact v.ss
  · rw [e.r0, e.r25]; exact v.bg
theorem RC.self (h : RC B D S M) : RC B D S S := by
  have e := h.rw
  refine ⟨IV.ofS h, fun f _ => rfl, fun j _ => rfl, ?_, ?_, ?_, ?_, ?_, ?_⟩
  · rw [e.r0, e.r6, e.r24, e.r25, e.r26, e.r28]; exact h.fr
  · rw [e.r0]
    intro k hk
    rw [h.tk k hk, cJ_cong (g := S 27) (g' := M 27) _ (fun j hj => (h.bq j hj).symm)]
  · rw [e.r13]; exact h.sb
  · rw [e.r2, e.r16]; exact h.db
  · rw [e.r0, e.r25]; exact h.bh
  · rw [e.r0, e.r26]; exact h.lh
/-- when a step is expected to begin, and to end -/
noncomputable def BX (S : STT) (j k : Nat) : Int32 := sp_X0_foresee S j (S 0 0 1) (-1) 0 22 0 k
noncomputable def EX (S : STT) (j k : Nat) : Int32 := sp_X0_foresee S j (S 0 0 1) (-1) 0 23 0 k
theorem BX_same {r r' : Nat} {S S' M : STT} (h : RLn r S M) (h' : RLn r' S' M) {j k : Nat} (hj : j < (M 0 0 0).toNatClampNeg) (hk : k < 12) : BX S' j k = BX S j k ∧ EX S' j k = EX S j k := by
  obtain ⟨⟨-, a1, a2⟩, -⟩ := fore h hj
  obtain ⟨⟨-, b1, b2⟩, -⟩ := fore h' hj
  have e : S 0 0 1 = M 0 0 1 := by rw [h.c.rw.r0]
  have e' : S' 0 0 1 = M 0 0 1 := by rw [h'.c.rw.r0]
  unfold BX EX
  rw [e, e']
  by_cases c : M 6 j 2 = 0
  · by_cases q : qb (M 6 j 0) k = true
    · obtain ⟨x1, x2⟩ := (a1 c k hk).1 q (k + 1) (Nat.lt_succ_self k)
      obtain ⟨y1, y2⟩ := (b1 c k hk).1 q (k + 1) (Nat.lt_succ_self k)
      exact ⟨Option.some.inj (y1.symm.trans x1), Option.some.inj (y2.symm.trans x2)⟩
    · obtain ⟨x1, x2⟩ := (a1 c k hk).2 q
      obtain ⟨y1, y2⟩ := (b1 c k hk).2 q
      exact ⟨y1.trans x1.symm, y2.trans x2.symm⟩
  · exact ⟨(b2 c k hk).1.trans (a2 c k hk).1.symm, (b2 c k hk).2.trans (a2 c k hk).2.symm⟩
theorem m1_i : (-1 : Int32).toInt = -1 := rfl
theorem z_i : (0 : Int32).toInt = 0 := rfl
theorem one_i : (1 : Int32).toInt = 1 := rfl
theorem el_lp {S : STT} {Bd : Int} (p1 p2 : Int32) (h : ∀ o, o < (S 2 0 0).toNatClampNeg → (S 16 0 o).toInt ≤ Bd) (hn : (S 2 0 0).toNatClampNeg ≤ 20) : ∀ (k i : Nat) (v : Int32), i + k = (S 2 0 0).toNatClampNeg → v.toInt ≤ Bd → (lp_X3_earliestToCome_6 S p1 p2 (-1) 0 k i v).toInt ≤ Bd := by
  intro k
  induction k with
  | zero => intro i v _ h2; exact h2
  | succ k ih =>
    intro i v h1 h2
    rw [lp_X3_earliestToCome_6]
    have hi := h i (by omega)
    by_cases c1 : S 14 0 i = p1
    · rw [if_pos c1]
      by_cases c2 : S 16 0 i ≤ p2
      · rw [if_pos c2]; exact ih _ _ (by omega) h2
      · rw [if_neg c2, if_neg (q_m1 (a := i) (by omega))]
        by_cases c3 : v = -1
        · rw [if_pos c3]; exact ih _ _ (by omega) hi
        · rw [if_neg c3]
          refine ih _ _ (by omega) ?_
          by_cases c4 : S 16 0 i < v
          · rw [if_pos c4]; exact hi
          · rw [if_neg c4]; exact h2
    · rw [if_neg c1]; exact ih _ _ (by omega) h2
theorem look_bd {S : STT} {Bd : Int} (hC : RC B D S S) (hD : (D : Int) ≤ Bd) (ht : 199 ≤ Bd) : ∀ i, i < 4 → (sp_X0_lookFrom S (S 0 0 1) (-1) 0 21 0 i).toInt ≤ Bd := by
  intro i hi
  obtain ⟨-, -, c⟩ := look_eq S (S 0 0 1) (-1) 0
  rw [c i hi]
  by_cases q : sp_X3_hasPiece S (nI i) = 0
  · rw [if_pos q]
    unfold sp_X3_earliestToCome
    exact el_lp _ _ (fun o ho => by have := (hC.db o ho).2; omega) hC.iv.o20 _ 0 _ (by omega) (by rw [m1_i]; omega)
  · rw [if_neg q]
    have := hC.iv.t1; omega
theorem dayOf_bd {S : STT} {Bd : Int} (hc : CI S) (hd : ∀ s, s < 20 → (S 18 0 s).toInt ≤ Bd) (hB : 0 ≤ Bd) (x : Int32) : (sp_X4_dayOf S x).toInt ≤ Bd := by
  unfold sp_X4_dayOf
  by_cases c1 : x < 0
  · rw [if_pos c1, m1_i]; omega
  · rw [if_neg c1]
    by_cases c2 : x < S 3 0 0
    · rw [if_pos c2]
      exact hd _ (k_lt (k_in' c1 c2 (CI.le4 hc (by decide))))
    · rw [if_neg c2, m1_i]; omega
def BOk (S : STT) (j k i : Nat) (Bd : Int) (v x : Int32) : Prop := x = -1 ∨ (v.toInt ≤ x.toInt ∧ x.toInt ≤ Bd + 14 * k ∧ ∀ s, i ≤ s → s < k → qb (S 9 0 k &&& S 6 j 0) s = true → S 23 0 s ≠ -1 ∧ (S 23 0 s).toInt < x.toInt)
theorem bo_lp {S : STT} {j k : Nat} {Bd : Int} (hk : k < 12) (hB : 0 ≤ Bd) (hB2 : Bd ≤ 100000) (hsup : ∀ i, i < 4 → (S 21 0 i).toInt ≤ Bd) (hday : ∀ x : Int32, (sp_X4_dayOf S x).toInt ≤ Bd) (hT : ∀ s, s < k → (S 23 0 s).toInt ≤ Bd + 14 * s + 12 ∧ -1 ≤ (S 23 0 s).toInt) : ∀ (n i : Nat) (v : Int32), i + n = k → 0 ≤ v.toInt → v.toInt ≤ Bd + 14 * k → BOk S j k i Bd v (lp_X0_beginOf_77 S j (nI k) n i v) := by
  intro n
  induction n with
  | zero =>
    intro i v h h0 h1
    rw [lp_X0_beginOf_77, q_cl (by omega : k < 2 ^ 20)]
    have nos : ∀ x : Int32, v.toInt ≤ x.toInt → x.toInt ≤ Bd + 14 * k → BOk S j k i Bd v x := fun x a b => Or.inr ⟨a, b, fun s s1 s2 => by omega⟩
    by_cases c0 : S 7 0 k = 2
    · rw [if_pos c0]
      have hd := hday (S 27 j k)
      by_cases c : v < sp_X4_dayOf S (S 27 j k)
      · rw [if_pos c]
        rw [Int32.lt_iff_toInt_lt] at c
        exact nos _ (by omega) (by omega)
      · rw [if_neg c]; exact nos _ (Int.le_refl _) h1
    · rw [if_neg c0]
      by_cases c1 : S 7 0 k = 1
      · rw [if_pos c1]
        unfold sp_X0_withSupply
        by_cases d1 : S 10 0 k < 0
        · rw [if_pos d1]; exact Or.inl rfl
        · rw [if_neg d1]
          by_cases d2 : 4 ≤ S 10 0 k
          · rw [if_pos d2]; exact Or.inl rfl
          · rw [if_neg d2]
            by_cases d3 : S 21 0 (S 10 0 k).toNatClampNeg = -1
            · rw [if_pos d3]; exact Or.inl rfl
            · rw [if_neg d3]
              have hs := hsup _ (k_lt (k_in d1 d2 (n := 4) (by decide)))
              by_cases c : v < S 21 0 (S 10 0 k).toNatClampNeg
              · rw [if_pos c]
                rw [Int32.lt_iff_toInt_lt] at c
                exact nos _ (by omega) (by omega)
              · rw [if_neg c]; exact nos _ (Int.le_refl _) h1
      · rw [if_neg c1]; exact nos _ (Int.le_refl _) h1
  | succ n ih =>
    intro i v h h0 h1
    rw [lp_X0_beginOf_77, q_cl (by omega : k < 2 ^ 20)]
    by_cases c : qb (S 9 0 k &&& S 6 j 0) i = true
    · rw [if_neg (fun z => (has_zero (by omega)).mp z c)]
      obtain ⟨t1, t2⟩ := hT i (by omega)
      by_cases d : S 23 0 i = -1
      · rw [if_pos d]; exact Or.inl rfl
      · rw [if_neg d]
        have ea : (S 23 0 i + 1).toInt = (S 23 0 i).toInt + 1 := add_i (by rw [one_i]; omega) (by rw [one_i]; omega)
        have hv : v.toInt ≤ (if v < S 23 0 i + 1 then S 23 0 i + 1 else v).toInt ∧ (S 23 0 i).toInt < (if v < S 23 0 i + 1 then S 23 0 i + 1 else v).toInt ∧ (if v < S 23 0 i + 1 then S 23 0 i + 1 else v).toInt ≤ Bd + 14 * k := by
          by_cases c2 : v < S 23 0 i + 1
          · rw [if_pos c2]
            rw [Int32.lt_iff_toInt_lt, ea] at c2
            rw [ea]; omega
          · rw [if_neg c2]
            rw [Int32.lt_iff_toInt_lt, ea] at c2
            omega
        generalize (if v < S 23 0 i + 1 then S 23 0 i + 1 else v) = w at hv ⊢
        rcases ih (i + 1) w (by omega) (by omega) hv.2.2 with z | ⟨z1, z2, z3⟩
        · exact Or.inl z
        · refine Or.inr ⟨by omega, z2, fun s s1 s2 s3 => ?_⟩
          rcases Nat.eq_or_lt_of_le s1 with e | e
          · subst e; exact ⟨d, by omega⟩
          · exact z3 s e s2 s3
    · rw [if_pos ((has_zero (by omega)).mpr c)]
      rcases ih (i + 1) v (by omega) h0 h1 with z | ⟨z1, z2, z3⟩
      · exact Or.inl z
      · refine Or.inr ⟨z1, z2, fun s s1 s2 s3 => ?_⟩
        rcases Nat.eq_or_lt_of_le s1 with e | e
        · subst e; exact absurd s3 c
        · exact z3 s e s2 s3
/-- what the rows of the forecast say of step k -/
def FP (S T : STT) (j : Nat) (Bd : Int) (k : Nat) : Prop :=
  ((T 22 0 k).toInt ≤ Bd + 14 * k ∧ -1 ≤ (T 22 0 k).toInt) ∧ ((T 23 0 k).toInt ≤ Bd + 14 * k + 12 ∧ -1 ≤ (T 23 0 k).toInt) ∧
  (¬ qb (S 6 j 0) k = true → T 22 0 k = -1 ∧ T 23 0 k = -1) ∧
  (qb (S 6 j 0) k = true → ¬ S 24 j k = 0 → T 22 0 k = S 25 j k ∧ T 23 0 k = S 25 j k + S 26 j k - 1) ∧
  (qb (S 6 j 0) k = true → S 24 j k = 0 → (T 22 0 k = -1 ∧ T 23 0 k = -1) ∨ (T 23 0 k = T 22 0 k + sp_X2_lengthFor S j (nI k) - 1 ∧ (S 0 0 1).toInt < (T 22 0 k).toInt ∧ (S 6 j 1).toInt ≤ (T 22 0 k).toInt ∧ (T 22 0 k).toInt ≤ (T 23 0 k).toInt ∧ ∀ n, n < k → qb (S 9 0 k &&& S 6 j 0) n = true → T 23 0 n ≠ -1 ∧ (T 23 0 n).toInt < (T 22 0 k).toInt))
theorem FP.go {S T T' : STT} {j k : Nat} {Bd : Int} (h : FP S T j Bd k) (e : ∀ a, a ≤ k → T' 22 0 a = T 22 0 a ∧ T' 23 0 a = T 23 0 a) : FP S T' j Bd k := by
  obtain ⟨a, b, c, d, f⟩ := h
  obtain ⟨e1, e2⟩ := e k (Nat.le_refl k)
  unfold FP
  rw [e1, e2]
  refine ⟨a, b, c, d, fun h1 h2 => (f h1 h2).imp id fun ⟨x1, x2, x3, x4, x5⟩ => ⟨x1, x2, x3, x4, fun n hn hq => ?_⟩⟩
  rw [(e n (Nat.le_of_lt hn)).2]
  exact x5 n hn hq
def FS (S T : STT) (Bd : Int) : Prop := (∀ f, f ≠ 4 → f ≠ 21 → f ≠ 22 → f ≠ 23 → T f = S f) ∧ T 4 0 0 = S 0 0 1 + 1 ∧ (∀ i, i < 4 → (T 21 0 i).toInt ≤ Bd)
theorem fp_step {S T : STT} {j i : Nat} {Bd : Int} (hC : RC B D S S) (hj : j < (S 0 0 0).toNatClampNeg) (hl : S 6 j 2 = 0) (hB : 200 ≤ Bd) (hB2 : Bd ≤ 100000) (hst : 0 ≤ (S 6 j 1).toInt ∧ (S 6 j 1).toInt ≤ 199) (hd : ∀ s, s < 20 → (S 18 0 s).toInt ≤ Bd) (hi : i < 12) (hF : FS S T Bd) (hP : ∀ k, k < i → FP S T j Bd k) : FP S (sp_X0_foreseeStep T j (nI i)) j Bd i := by
  obtain ⟨hf, h4, h21⟩ := hF
  have e6 : T 6 = S 6 := hf 6 (by decide) (by decide) (by decide) (by decide)
  have e24 : T 24 = S 24 := hf 24 (by decide) (by decide) (by decide) (by decide)
  have e25 : T 25 = S 25 := hf 25 (by decide) (by decide) (by decide) (by decide)
  have e26 : T 26 = S 26 := hf 26 (by decide) (by decide) (by decide) (by decide)
  have e9 : T 9 = S 9 := hf 9 (by decide) (by decide) (by decide) (by decide)
  have e3 : T 3 = S 3 := hf 3 (by decide) (by decide) (by decide) (by decide)
  have e18 : T 18 = S 18 := hf 18 (by decide) (by decide) (by decide) (by decide)
  have eL : sp_X2_lengthFor T j (nI i) = sp_X2_lengthFor S j (nI i) := lengthFor_cong (by rw [e6]) (hf 7 (by decide) (by decide) (by decide) (by decide)) (hf 8 (by decide) (by decide) (by decide) (by decide)) (hf 10 (by decide) (by decide) (by decide) (by decide)) (by rw [e24]) (by rw [e26]) _
  have v := hC.iv
  have h22 := fs_22 T j hi
  have h23 := fs_23 T j hi
  rw [eL] at h23
  have eo : ∀ n, n < i → (sp_X0_foreseeStep T j (nI i)) 23 0 n = T 23 0 n := fun n hn => (fs_o T j hi (by omega)).2
  generalize sp_X0_foreseeStep T j (nI i) = T' at h22 h23 eo ⊢
  have hb : sp_X0_beginOf T j (nI i) = if qb (S 6 j 0) i = true then (if S 24 j i = 0 then lp_X0_beginOf_77 T j (nI i) i 0 (if S 0 0 1 + 1 < S 6 j 1 then S 6 j 1 else S 0 0 1 + 1) else S 25 j i) else -1 := by
    unfold sp_X0_beginOf
    rw [if_neg (q_ge (by omega)), if_neg (is12 hi), e6, if_pos hl, q_cl (by omega), e24, e25, h4]
    by_cases c : qb (S 6 j 0) i = true
    · rw [if_neg (fun z => (has_zero (by omega)).mp z c), if_pos c]
    · rw [if_pos ((has_zero (by omega)).mpr c), if_neg c]
  rw [hb] at h22 h23
  clear hb
  by_cases c : qb (S 6 j 0) i = true
  · have hk := v.js j hj i c
    rw [if_pos c] at h22 h23
    by_cases z : S 24 j i = 0
    · rw [if_pos z] at h22 h23
      have t0 := v.t0
      have t1 := v.t1
      have et : (S 0 0 1 + 1).toInt = (S 0 0 1).toInt + 1 := add_i (by rw [one_i]; omega) (by rw [one_i]; omega)
      have hv : (S 0 0 1).toInt < (if S 0 0 1 + 1 < S 6 j 1 then S 6 j 1 else S 0 0 1 + 1).toInt ∧ (S 6 j 1).toInt ≤ (if S 0 0 1 + 1 < S 6 j 1 then S 6 j 1 else S 0 0 1 + 1).toInt ∧ (if S 0 0 1 + 1 < S 6 j 1 then S 6 j 1 else S 0 0 1 + 1).toInt ≤ 200 := by
        by_cases c2 : S 0 0 1 + 1 < S 6 j 1
        · rw [if_pos c2]
          rw [Int32.lt_iff_toInt_lt, et] at c2
          omega
        · rw [if_neg c2]
          rw [Int32.lt_iff_toInt_lt, et] at c2
          rw [et]; omega
      generalize (if S 0 0 1 + 1 < S 6 j 1 then S 6 j 1 else S 0 0 1 + 1) = w at hv h22 h23
      have bo : BOk T j i 0 Bd w (lp_X0_beginOf_77 T j (nI i) i 0 w) := by
        refine bo_lp hi (by omega) hB2 h21 (dayOf_bd (by
          have k := v.ci
          unfold CI at k ⊢
          rw [hf 0 (by decide) (by decide) (by decide) (by decide), hf 1 (by decide) (by decide) (by decide) (by decide), hf 2 (by decide) (by decide) (by decide) (by decide), e3]; exact k) (by rw [e18]; exact hd) (by omega)) (fun s hs => (hP s hs).2.1) i 0 w (by omega) (by omega) (by omega)
      generalize lp_X0_beginOf_77 T j (nI i) i 0 w = b at bo h22 h23
      have lb := length_bd v hk z
      rcases bo with bo | ⟨b1, b2, b3⟩
      · rw [if_pos bo] at h23
        rw [bo] at h22
        refine ⟨?_, ?_, fun z => absurd c z, fun _ q => absurd z q, fun _ _ => Or.inl ⟨h22, h23⟩⟩
        · rw [h22, m1_i]; omega
        · rw [h23, m1_i]; omega
      · have bn : ¬ b = -1 := fun z => by rw [z, m1_i] at b1; omega
        rw [if_neg bn] at h23
        have e1 : (b + sp_X2_lengthFor S j (nI i)).toInt = b.toInt + (sp_X2_lengthFor S j (nI i)).toInt := add_i (by omega) (by omega)
        have e2 : (b + sp_X2_lengthFor S j (nI i) - 1).toInt = b.toInt + (sp_X2_lengthFor S j (nI i)).toInt - 1 := by rw [dec_i (by omega), e1]
        refine ⟨?_, ?_, fun z => absurd c z, fun _ q => absurd z q, fun _ _ => Or.inr ⟨?_, ?_, ?_, ?_, ?_⟩⟩
        · rw [h22]; omega
        · rw [h23, e2]; omega
        · rw [h22, h23]
        · rw [h22]; omega
        · rw [h22]; omega
        · rw [h22, h23, e2]; omega
        · intro n hn hq
          rw [eo n hn, h22]
          rw [e9, e6] at b3
          exact b3 n (Nat.zero_le n) hn hq
    · rw [if_neg z] at h22 h23
      have b0 := v.bg j hj i hi
      have b1 := hC.bh j hj i hi
      have l1 := hC.lh j hj i hi
      have bn : ¬ S 25 j i = -1 := fun q => by rw [q, m1_i] at b0; omega
      have el : sp_X2_lengthFor S j (nI i) = S 26 j i := by
        unfold sp_X2_lengthFor
        rw [if_neg (q_ge (by omega)), if_pos (lt12 hi), q_cl (by omega), if_neg z]
      rw [if_neg bn, el] at h23
      have e1 : (S 25 j i + S 26 j i).toInt = (S 25 j i).toInt + (S 26 j i).toInt := add_i (by omega) (by omega)
      have e2 : (S 25 j i + S 26 j i - 1).toInt = (S 25 j i).toInt + (S 26 j i).toInt - 1 := by rw [dec_i (by omega), e1]
      refine ⟨?_, ?_, fun z => absurd c z, fun _ _ => ⟨h22, h23⟩, fun _ q => absurd q z⟩
      · rw [h22]; omega
      · rw [h23, e2]; omega
  · rw [if_neg c] at h22 h23
    rw [if_pos rfl] at h23
    refine ⟨?_, ?_, fun _ => ⟨h22, h23⟩, fun q => absurd q c, fun q => absurd q c⟩
    · rw [h22, m1_i]; omega
    · rw [h23, m1_i]; omega
theorem fp_lp {S : STT} {j : Nat} {Bd : Int} (hC : RC B D S S) (hj : j < (S 0 0 0).toNatClampNeg) (hl : S 6 j 2 = 0) (hB : 200 ≤ Bd) (hB2 : Bd ≤ 100000) (hst : 0 ≤ (S 6 j 1).toInt ∧ (S 6 j 1).toInt ≤ 199) (hd : ∀ s, s < 20 → (S 18 0 s).toInt ≤ Bd) (p2 p3 p4 : Int32) : ∀ (n i : Nat) (T : STT), i + n = 12 → FS S T Bd → (∀ k, k < i → FP S T j Bd k) → ∀ k, k < 12 → FP S (lp_X0_foresee_11 j p2 p3 p4 n i T) j Bd k := by
  intro n
  induction n with
  | zero =>
    intro i T h hF hP k hk
    exact hP k (by omega)
  | succ n ih =>
    intro i T h hF hP
    rw [ls_lp_X0_foresee_11]
    have hi : i < 12 := by omega
    refine ih (i + 1) _ (by omega) ⟨fun f h1 h2 h3 h4 => by rw [fs_row T j hi h3 h4]; exact hF.1 f h1 h2 h3 h4, by rw [fs_row T j hi (by decide) (by decide)]; exact hF.2.1, fun a ha => by rw [fs_row T j hi (by decide) (by decide)]; exact hF.2.2 a ha⟩ (fun k hk => ?_)
    rcases Nat.lt_or_ge k i with c | c
    · exact (hP k c).go fun a ha => fs_o T j hi (by omega)
    · obtain rfl : k = i := by omega
      exact fp_step hC hj hl hB hB2 hst hd hi hF hP
theorem fp_all {S : STT} {j : Nat} (hC : RC B D S S) (hD : D ≤ 90000) (hj : j < (S 0 0 0).toNatClampNeg) (hl : S 6 j 2 = 0) (hst : 0 ≤ (S 6 j 1).toInt ∧ (S 6 j 1).toInt ≤ 199) (hd : ∀ s, s < 20 → (S 18 0 s).toInt ≤ 199) {k : Nat} (hk : k < 12) : FP S (sp_X0_foresee S j (S 0 0 1) (-1) 0) j 100000 k := by
  rw [un_X0_foresee]; unfold rw_X0_foresee
  obtain ⟨a, b, -⟩ := look_eq S (S 0 0 1) (-1) 0
  exact fp_lp hC hj hl (by decide) (by decide) hst (fun s hs => by have := hd s hs; omega) _ _ _ 12 0 _ (by omega) ⟨fun f h1 h2 _ _ => a f h1 h2, b, look_bd hC (by omega) (by decide)⟩ (fun k hk => absurd hk (Nat.not_lt_zero k)) k hk
end P24A
