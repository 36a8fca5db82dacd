section PLAINH
def rx (f : Nat) : Bool := rr f && !(decide (f = 16))
def RWx (S N : STT) : Prop := ∀ f, rx f = true → S f = N f
theorem RW.x {S M : STT} (h : RW S M) : RWx S M := fun f hf => h f (by
  unfold rx at hf
  cases c : rr f
  · rw [c] at hf; exact nomatch hf
  · rfl)
def SU (S N : STT) : Prop := ∀ i, i < 4 → (N 13 0 i = 0 → sp_X10_comes N (nI i) = some (S 21 0 i)) ∧ (¬ N 13 0 i = 0 → S 21 0 i = N 0 0 1)
def FX (S N : STT) (j : Nat) : Prop := RWx S N ∧ S 27 j = N 27 j ∧ S 4 0 0 = N 0 0 1 + 1 ∧ SU S N
theorem earliest_cong {S T : STT} (h2 : S 2 = T 2) (h14 : S 14 = T 14) (h16 : S 16 = T 16) (p1 p2 p3 p4 : Int32) : sp_X3_earliestToCome S p1 p2 p3 p4 = sp_X3_earliestToCome T p1 p2 p3 p4 := by
  have a : ∀ (k i : Nat) (v : Int32), lp_X3_earliestToCome_6 S p1 p2 p3 p4 k i v = lp_X3_earliestToCome_6 T p1 p2 p3 p4 k i v := by
    intro k
    induction k with
    | zero => intro i v; rfl
    | succ k ih => intro i v; simp only [lp_X3_earliestToCome_6, h14, h16, ih]
  unfold sp_X3_earliestToCome; rw [a, h2]
theorem hasPiece_cong {S T : STT} (h13 : S 13 = T 13) (p : Int32) : sp_X3_hasPiece S p = sp_X3_hasPiece T p := by
  unfold sp_X3_hasPiece; rw [h13]
theorem look_lp (p1 p2 p3 : Int32) : ∀ (k i : Nat) (Sx : STT), (∀ f, f ≠ 21 → lp_X0_lookFrom_10 p1 p2 p3 k i Sx f = Sx f) ∧ (∀ a, a < i → lp_X0_lookFrom_10 p1 p2 p3 k i Sx 21 0 a = Sx 21 0 a) ∧ (∀ a, i ≤ a → a < i + k → lp_X0_lookFrom_10 p1 p2 p3 k i Sx 21 0 a = if sp_X3_hasPiece Sx (nI a) = 0 then sp_X3_earliestToCome Sx (nI a) p1 p2 p3 else p1) := by
  intro k
  induction k with
  | zero => intro i Sx; exact ⟨fun f _ => rfl, fun a _ => rfl, fun a h1 h2 => by omega⟩
  | succ k ih =>
    intro i Sx
    have e : lp_X0_lookFrom_10 p1 p2 p3 (k + 1) i Sx = lp_X0_lookFrom_10 p1 p2 p3 k (i + 1) (up3 Sx 21 0 i (if sp_X3_hasPiece Sx (nI i) = 0 then sp_X3_earliestToCome Sx (nI i) p1 p2 p3 else p1)) := by
      rw [lp_X0_lookFrom_10]
      by_cases c : sp_X3_hasPiece Sx (nI i) = 0
      · rw [if_pos c, if_pos c]
      · rw [if_neg c, if_neg c]
    rw [e]
    obtain ⟨a, b, c⟩ := ih (i + 1) (up3 Sx 21 0 i (if sp_X3_hasPiece Sx (nI i) = 0 then sp_X3_earliestToCome Sx (nI i) p1 p2 p3 else p1))
    refine ⟨fun f hf => by rw [a f hf, up3_f hf], fun x hx => by rw [b x (by omega), up3_i (by omega)], fun x h1 h2 => ?_⟩
    rcases Nat.eq_or_lt_of_le h1 with z | z
    · subst z; rw [b i (by omega), up3_e]
    · rw [c x z (by omega), earliest_cong (T := Sx) (up3_f (by decide)) (up3_f (by decide)) (up3_f (by decide)), hasPiece_cong (T := Sx) (up3_f (by decide))]
theorem look_eq (S : STT) (t p3 p4 : Int32) : (∀ f, f ≠ 4 → f ≠ 21 → sp_X0_lookFrom S t p3 p4 f = S f) ∧ sp_X0_lookFrom S t p3 p4 4 0 0 = t + 1 ∧ (∀ i, i < 4 → sp_X0_lookFrom S t p3 p4 21 0 i = if sp_X3_hasPiece S (nI i) = 0 then sp_X3_earliestToCome S (nI i) t p3 p4 else t) := by
  rw [un_X0_lookFrom]; unfold rw_X0_lookFrom
  obtain ⟨a, b, c⟩ := look_lp t p3 p4 4 0 (up3 S 4 0 0 (t + 1))
  refine ⟨fun f h1 h2 => by rw [a f h2, up3_f h1], by rw [a 4 (by decide), up3_e], fun i hi => ?_⟩
  rw [c i (by omega) (by omega), earliest_cong (T := S) (up3_f (by decide)) (up3_f (by decide)) (up3_f (by decide)), hasPiece_cong (T := S) (up3_f (by decide))]
theorem is4 {i : Nat} (hi : i < 4) : ¬ (4 : Int32) ≤ nI i := by
  rw [Int32.le_iff_toInt_le, nI_toInt (by omega)]; show ¬ ((4:Int) ≤ i); omega
theorem le0_iff {x : Int32} (h : 0 ≤ x.toInt) : x ≤ 0 ↔ x = 0 := by
  rw [Int32.le_iff_toInt_le, ← Int32.toInt_inj]
  have h0 : (0 : Int32).toInt = 0 := rfl
  omega
theorem piece_iff {S : STT} {i : Nat} (hi : i < 4) (h0 : 0 ≤ (S 13 0 i).toInt) : sp_X3_hasPiece S (nI i) = 0 ↔ S 13 0 i = 0 := by
  unfold sp_X3_hasPiece
  rw [if_neg (q_ge (by omega)), if_neg (is4 hi), q_cl (by omega)]
  by_cases c : S 13 0 i ≤ 0
  · rw [if_pos c]; exact ⟨fun _ => (le0_iff h0).mp c, fun _ => rfl⟩
  · rw [if_neg c]; exact ⟨fun z => by exact absurd z (by decide), fun z => absurd ((le0_iff h0).mpr z) c⟩
theorem OD.of {S M : STT} (h : RW S M) (hT : TH M) : OD S M (M 0 0 1) (-1) 0 := by
  refine ⟨h.r2.symm, h.r14.symm, fun i hi => ?_, fun i hi => ?_⟩
  · rw [h.r16]; split
    · exact (Int32.add_zero _).symm
    · rfl
  · rw [h.r16]; rw [h.r2] at hi; exact hT i hi
theorem look_SU {S N : STT} (hv : IV N) (hx : RWx S N) {p3 p4 : Int32} (hO : OD S N (N 0 0 1) p3 p4) : SU (sp_X0_lookFrom S (N 0 0 1) p3 p4) N := by
  obtain ⟨a, b, c⟩ := look_eq S (N 0 0 1) p3 p4
  intro i hi
  have h13 : S 13 = N 13 := hx 13 rfl
  have k := piece_iff (S := S) hi (by rw [h13]; exact hv.sk i hi)
  rw [c i hi]
  rw [h13] at k
  refine ⟨fun z => ?_, fun z => ?_⟩
  · rw [if_pos (k.mpr z)]; exact comes_eq hO _
  · rw [if_neg (fun y => z (k.mp y))]
theorem look_FX {S N : STT} (hv : IV N) (hx : RWx S N) {j : Nat} (h27 : S 27 j = N 27 j) {p3 p4 : Int32} (hO : OD S N (N 0 0 1) p3 p4) : FX (sp_X0_lookFrom S (N 0 0 1) p3 p4) N j := by
  obtain ⟨a, b, c⟩ := look_eq S (N 0 0 1) p3 p4
  refine ⟨fun f hf => ?_, ?_, b, look_SU hv hx hO⟩
  · rw [a f (fun z => by subst z; exact absurd hf (by decide)) (fun z => by subst z; exact absurd hf (by decide))]; exact hx f hf
  · rw [a 27 (by decide) (by decide)]; exact h27
theorem FX.go {S S' N : STT} {j : Nat} (h : FX S N j) (hs : ∀ f, f ≠ 22 → f ≠ 23 → S' f = S f) : FX S' N j := by
  refine ⟨fun f hf => ?_, ?_, ?_, fun i hi => ?_⟩
  · rw [hs f (fun z => by subst z; exact absurd hf (by decide)) (fun z => by subst z; exact absurd hf (by decide))]; exact h.1 f hf
  · rw [hs 27 (by decide) (by decide)]; exact h.2.1
  · rw [hs 4 (by decide) (by decide)]; exact h.2.2.1
  · rw [hs 21 (by decide) (by decide)]; exact h.2.2.2 i hi
def FR (S N : STT) (j i : Nat) : Prop := ∀ k, k < i → (qb (N 6 j 0) k = true → ∀ n, k < n → ex N n j (nI k) = some (S 22 0 k) ∧ sp_X10_end N (ex N n) j (nI k) = some (S 23 0 k)) ∧ (¬ qb (N 6 j 0) k = true → S 22 0 k = -1 ∧ S 23 0 k = -1)
def FL (S : STT) (i : Nat) : Prop := ∀ k, k < i → S 22 0 k = -1 ∧ S 23 0 k = -1
theorem dayOf_none (S : STT) : sp_X4_dayOf S (-1) = -1 := by unfold sp_X4_dayOf; rw [if_pos (by decide)]
theorem nn_of {x : Int32} (h : 0 ≤ x.toInt) : ¬ x < 0 := by
  rw [Int32.lt_iff_toInt_lt]; have h0 : (0 : Int32).toInt = 0 := rfl; omega
theorem m1_of {x : Int32} (h : 0 ≤ x.toInt) : ¬ x = -1 := by
  intro z; rw [z] at h; exact absurd h (by decide)
theorem dayOf_in {S : STT} {b : Int32} (h0 : 0 ≤ b.toInt) (h1 : b.toInt < (S 3 0 0).toInt) : sp_X4_dayOf S b = S 18 0 b.toNatClampNeg := by
  unfold sp_X4_dayOf
  rw [if_neg (nn_of h0), if_pos (by rw [Int32.lt_iff_toInt_lt]; exact h1)]
theorem in_rg {b c : Int32} (h0 : 0 ≤ b.toInt) (h1 : b.toInt < c.toInt) : ¬ (b < 0 ∨ c.toNatClampNeg ≤ b.toNatClampNeg) := by
  have e1 : b.toNatClampNeg = b.toInt.toNat := rfl
  have e2 : c.toNatClampNeg = c.toInt.toNat := rfl
  rintro (z | z)
  · exact nn_of h0 z
  · omega
theorem in_rgn {b : Int32} {n : Nat} (h0 : 0 ≤ b.toInt) (h1 : b.toInt < n) : ¬ (b < 0 ∨ n ≤ b.toNatClampNeg) := by
  have e1 : b.toNatClampNeg = b.toInt.toNat := rfl
  rintro (z | z)
  · exact nn_of h0 z
  · omega
theorem max_gt {t : Int} {v x : Int32} (h : t < v.toInt) : t < (if v < x then x else v).toInt := by
  by_cases c : v < x
  · rw [if_pos c]; rw [Int32.lt_iff_toInt_lt] at c; omega
  · rw [if_neg c]; exact h
theorem max_lo {v x : Int32} (h : x.toInt < v.toInt) : (if v < x then x else v) = v := if_neg (fun z => by rw [Int32.lt_iff_toInt_lt] at z; omega)
theorem it4 {x : Int32} (h : 0 ≤ x.toInt ∧ x.toInt ≤ 3) : ∃ q, q < 4 ∧ x = nI q := ⟨x.toNatClampNeg, by
  have e : x.toNatClampNeg = x.toInt.toNat := rfl
  omega, cn_eq h.1⟩
theorem begin_base {S N : STT} {j i : Nat} (hv : IV N) (hj : j < (N 0 0 0).toNatClampNeg) (hi : i < (N 1 0 0).toNatClampNeg) (hF : FX S N j) {E : Nat → Int32 → Option Int32} {a : Nat} {v : Int32} (hvv : (N 0 0 1).toInt < v.toInt) : lp_X10_expected_46 N E j (nI i) 0 a v = some (lp_X0_beginOf_77 S j (nI i) 0 a v) := by
  have hm := hv.m12
  have h3 : S 3 = N 3 := hF.1 3 rfl
  have h7 : S 7 = N 7 := hF.1 7 rfl
  have h10 : S 10 = N 10 := hF.1 10 rfl
  have h18 : S 18 = N 18 := hF.1 18 rfl
  have h0 := hv.t0
  rw [lp_X10_expected_46, lp_X0_beginOf_77, h7, h10, hF.2.1, q_cl (by omega)]
  by_cases c2 : N 7 0 i = 2
  · have c1 : ¬ N 7 0 i = 1 := by rw [c2]; decide
    rw [if_pos c2, if_pos c2]
    rcases hv.bk j hj i (by omega) with b | ⟨b0, b1, -⟩
    · rw [if_pos b, if_neg c1, b, dayOf_none, max_lo (by
        have e : (-1 : Int32).toInt = -1 := rfl
        omega)]
    · rw [if_neg (m1_of b0), if_neg (in_rg b0 b1), if_neg c1, dayOf_in b0 (by rw [h3]; exact b1), h18]
  · rw [if_neg c2, if_neg c2]
    by_cases c1 : N 7 0 i = 1
    · rw [if_pos c1, if_pos c1]
      obtain ⟨q, hq, e⟩ := it4 (hv.kt i hi c1)
      have hs := hF.2.2.2 q hq
      rw [e, if_neg (q_ix hq (by decide)), q_cl (by omega)]
      unfold sp_X0_withSupply
      rw [if_neg (q_ge (by omega)), if_neg (is4 hq), q_cl (by omega)]
      by_cases d : N 13 0 q = 0
      · rw [if_pos d, hs.1 d]
        show (if S 21 0 q = -1 then _ else _) = _
        by_cases f : S 21 0 q = -1
        · rw [if_pos f, if_pos f]
        · rw [if_neg f, if_neg f]
      · rw [if_neg d, hs.2 d, if_neg (m1_of h0), max_lo hvv]
    · rw [if_neg c1, if_neg c1]
theorem begin_lp {S N : STT} {j i : Nat} (hv : IV N) (hj : j < (N 0 0 0).toNatClampNeg) (hi : i < (N 1 0 0).toNatClampNeg) (hF : FX S N j) (hR : FR S N j i) {n : Nat} (hn : i ≤ n) : ∀ (k a : Nat) (v : Int32), a + k = i → (N 0 0 1).toInt < v.toInt → lp_X10_expected_46 N (fun j p => sp_X10_end N (ex N n) j p) j (nI i) k a v = some (lp_X0_beginOf_77 S j (nI i) k a v) := by
  have hm := hv.m12
  have h6 : S 6 = N 6 := hF.1 6 rfl
  have h9 : S 9 = N 9 := hF.1 9 rfl
  intro k
  induction k with
  | zero => intro a v h hvv; exact begin_base hv hj hi hF hvv
  | succ k ih =>
    intro a v h hvv
    rw [lp_X10_expected_46, lp_X0_beginOf_77, isIn_has, h6, h9, q_cl (by omega)]
    by_cases c : sp_X5_has (N 9 0 i &&& N 6 j 0) (nI a) = 0
    · rw [if_pos c, if_pos c]; exact ih _ _ (by omega) hvv
    · rw [if_neg c, if_neg c]
      have hq : qb (N 6 j 0) a = true := by
        cases z : qb (N 6 j 0) a
        · exact absurd ((has_zero (by omega)).mpr (by rw [qb_and, z, Bool.and_false]; decide)) c
        · rfl
      have hE := ((hR a (by omega)).1 hq n (by omega)).2
      refine is_none hE ?_
      by_cases d : S 23 0 a = -1
      · rw [if_pos d, if_pos d]
      · rw [if_neg d, if_neg d]; exact ih _ _ (by omega) (max_gt hvv)
theorem tom {N : STT} (hv : IV N) : (N 0 0 1 + 1).toInt = (N 0 0 1).toInt + 1 := by
  have h0 := hv.t0
  have h1 := hv.t1
  rw [Int32.toInt_add, Int.bmod_eq_of_le (by have e : (1 : Int32).toInt = 1 := rfl; omega) (by have e : (1 : Int32).toInt = 1 := rfl; omega)]
  rfl
theorem begin_eq {S N : STT} {j i : Nat} (hv : IV N) (hj : j < (N 0 0 0).toNatClampNeg) (hl : N 6 j 2 = 0) (hi : i < 12) (hF : FX S N j) (hR : FR S N j i) : (qb (N 6 j 0) i = true → ∀ n, i < n → ex N n j (nI i) = some (sp_X0_beginOf S j (nI i))) ∧ (¬ qb (N 6 j 0) i = true → sp_X0_beginOf S j (nI i) = -1) := by
  have h6 : S 6 = N 6 := hF.1 6 rfl
  have h24 : S 24 = N 24 := hF.1 24 rfl
  have h25 : S 25 = N 25 := hF.1 25 rfl
  have e : sp_X0_beginOf S j (nI i) = if sp_X5_has (N 6 j 0) (nI i) = 0 then -1 else (if N 24 j i = 0 then (lp_X0_beginOf_77 S j (nI i) i 0 (if N 0 0 1 + 1 < N 6 j 1 then N 6 j 1 else N 0 0 1 + 1)) else N 25 j i) := by
    unfold sp_X0_beginOf
    rw [if_neg (q_ge (by omega)), if_neg (is12 hi), h6, if_pos hl, q_cl (by omega), h24, h25, hF.2.2.1]
  rw [e]
  refine ⟨fun hq n hn => ?_, fun hq => if_pos ((has_zero (by omega)).mpr hq)⟩
  have him := hv.js j hj i hq
  rw [if_neg (fun z => (has_zero (by omega)).mp z hq)]
  obtain ⟨n', rfl⟩ : ∃ n', n = n' + 1 := ⟨n - 1, by omega⟩
  show sp_X10_expected N (fun j p => sp_X10_end N (ex N n') j p) j (nI i) = _
  unfold sp_X10_expected
  rw [if_neg (q_ix hi (by decide)), if_neg (q_ix him (by have := hv.m12; omega)), q_cl (by omega)]
  by_cases c : N 24 j i = 0
  · rw [if_pos c, if_pos c]
    refine begin_lp hv hj him hF hR (by omega) i 0 _ (by omega) (max_gt ?_)
    rw [tom hv]; omega
  · rw [if_neg c, if_neg c]
theorem fs_eq (S : STT) (j : Nat) {i : Nat} (hi : i < 12) : sp_X0_foreseeStep S j (nI i) = up3 (up3 S 22 0 i (sp_X0_beginOf S j (nI i))) 23 0 i (if sp_X0_beginOf S j (nI i) = -1 then -1 else sp_X0_beginOf S j (nI i) + sp_X2_lengthFor S j (nI i) - 1) := by
  rw [un_X0_foreseeStep]; unfold rw_X0_foreseeStep
  rw [if_neg (q_ge (by omega)), if_pos (lt12 hi), q_cl (by omega), lengthFor_cong (S := up3 S 22 0 i (sp_X0_beginOf S j (nI i))) (T := S) (by rw [up3_f (by decide)]) (up3_f (by decide)) (up3_f (by decide)) (up3_f (by decide)) (by rw [up3_f (by decide)]) (by rw [up3_f (by decide)])]
  by_cases c : sp_X0_beginOf S j (nI i) = -1
  · rw [if_pos c, if_pos c]
  · rw [if_neg c, if_neg c]
theorem fs_row (S : STT) (j : Nat) {i : Nat} (hi : i < 12) {f : Nat} (h1 : f ≠ 22) (h2 : f ≠ 23) : sp_X0_foreseeStep S j (nI i) f = S f := by
  rw [fs_eq S j hi, up3_f h2, up3_f h1]
theorem fs_22 (S : STT) (j : Nat) {i : Nat} (hi : i < 12) : sp_X0_foreseeStep S j (nI i) 22 0 i = sp_X0_beginOf S j (nI i) := by
  rw [fs_eq S j hi, up3_f (by decide), up3_e]
theorem fs_23 (S : STT) (j : Nat) {i : Nat} (hi : i < 12) : sp_X0_foreseeStep S j (nI i) 23 0 i = if sp_X0_beginOf S j (nI i) = -1 then -1 else sp_X0_beginOf S j (nI i) + sp_X2_lengthFor S j (nI i) - 1 := by
  rw [fs_eq S j hi, up3_e]
theorem fs_o (S : STT) (j : Nat) {i k : Nat} (hi : i < 12) (hk : k ≠ i) : sp_X0_foreseeStep S j (nI i) 22 0 k = S 22 0 k ∧ sp_X0_foreseeStep S j (nI i) 23 0 k = S 23 0 k := by
  rw [fs_eq S j hi]
  exact ⟨by rw [up3_f (by decide), up3_i hk], by rw [up3_i hk, up3_f (by decide)]⟩
theorem FR.step {S N : STT} {j i : Nat} (hv : IV N) (hj : j < (N 0 0 0).toNatClampNeg) (hl : N 6 j 2 = 0) (hi : i < 12) (hF : FX S N j) (hR : FR S N j i) : FR (sp_X0_foreseeStep S j (nI i)) N j (i + 1) := by
  intro k hk
  by_cases c : k = i
  · subst c
    obtain ⟨a, b⟩ := begin_eq hv hj hl hi hF hR
    rw [fs_22 S j hi, fs_23 S j hi]
    refine ⟨fun hq n hn => ⟨a hq n hn, ?_⟩, fun hq => ?_⟩
    · unfold sp_X10_end
      refine is_none (a hq n hn) ?_
      by_cases d : sp_X0_beginOf S j (nI k) = -1
      · rw [if_pos d, if_pos d]
      · rw [if_neg d, if_neg d, length_eq hv hj (hv.js j hj k hq)]
        rw [lengthFor_cong (S := S) (T := N) (by rw [show S 6 = N 6 from hF.1 6 rfl]) (hF.1 7 rfl) (hF.1 8 rfl) (hF.1 10 rfl) (by rw [show S 24 = N 24 from hF.1 24 rfl]) (by rw [show S 26 = N 26 from hF.1 26 rfl])]
        rfl
    · rw [b hq, if_pos rfl]; exact ⟨rfl, rfl⟩
  · obtain ⟨e1, e2⟩ := fs_o S j hi c
    rw [e1, e2]; exact hR k (by omega)
theorem FL.step {S N : STT} {j i : Nat} (hl : ¬ N 6 j 2 = 0) (hi : i < 12) (hF : FX S N j) (hR : FL S i) : FL (sp_X0_foreseeStep S j (nI i)) (i + 1) := by
  intro k hk
  by_cases c : k = i
  · subst c
    have e : sp_X0_beginOf S j (nI k) = -1 := by
      unfold sp_X0_beginOf
      rw [if_neg (q_ge (by omega)), if_neg (is12 hi), show S 6 = N 6 from hF.1 6 rfl, if_neg hl]
    rw [fs_22 S j hi, fs_23 S j hi, e, if_pos rfl]; exact ⟨rfl, rfl⟩
  · obtain ⟨e1, e2⟩ := fs_o S j hi c
    rw [e1, e2]; exact hR k (by omega)
theorem foresee_lp {N : STT} {j : Nat} (hv : IV N) (hj : j < (N 0 0 0).toNatClampNeg) (p2 p3 p4 : Int32) : ∀ (k i : Nat) (Sx : STT), i + k = 12 → FX Sx N j → (N 6 j 2 = 0 → FR Sx N j i) → (¬ N 6 j 2 = 0 → FL Sx i) → (∀ f, f ≠ 22 → f ≠ 23 → lp_X0_foresee_11 j p2 p3 p4 k i Sx f = Sx f) ∧ (N 6 j 2 = 0 → FR (lp_X0_foresee_11 j p2 p3 p4 k i Sx) N j 12) ∧ (¬ N 6 j 2 = 0 → FL (lp_X0_foresee_11 j p2 p3 p4 k i Sx) 12) := by
  intro k
  induction k with
  | zero =>
    intro i Sx h hF a b
    have e : i = 12 := by omega
    subst e
    exact ⟨fun f _ _ => rfl, a, b⟩
  | succ k ih =>
    intro i Sx h hF a b
    rw [ls_lp_X0_foresee_11]
    obtain ⟨x, y, z⟩ := ih (i + 1) (sp_X0_foreseeStep Sx j (nI i)) (by omega) (hF.go fun f h1 h2 => fs_row Sx j (by omega) h1 h2) (fun hl => FR.step hv hj hl (by omega) hF (a hl)) (fun hl => FL.step hl (by omega) hF (b hl))
    exact ⟨fun f h1 h2 => by rw [x f h1 h2, fs_row Sx j (by omega) h1 h2], y, z⟩
def FF (T N : STT) (j : Nat) : Prop := FX T N j ∧ (N 6 j 2 = 0 → FR T N j 12) ∧ (¬ N 6 j 2 = 0 → FL T 12)
theorem foresee_eq {S N : STT} {j : Nat} (hv : IV N) (hj : j < (N 0 0 0).toNatClampNeg) (hx : RWx S N) (h27 : S 27 j = N 27 j) {p3 p4 : Int32} (hO : OD S N (N 0 0 1) p3 p4) : (∀ f, f ≠ 4 → f ≠ 21 → f ≠ 22 → f ≠ 23 → sp_X0_foresee S j (N 0 0 1) p3 p4 f = S f) ∧ FF (sp_X0_foresee S j (N 0 0 1) p3 p4) N j := by
  rw [un_X0_foresee]; unfold rw_X0_foresee
  have hF := look_FX hv hx h27 hO
  obtain ⟨a, -, -⟩ := look_eq S (N 0 0 1) p3 p4
  obtain ⟨x, y, z⟩ := foresee_lp hv hj (N 0 0 1) p3 p4 12 0 (sp_X0_lookFrom S (N 0 0 1) p3 p4) (by omega) hF (fun _ k hk => by omega) (fun _ k hk => by omega)
  exact ⟨fun f h1 h2 h3 h4 => by rw [x f h3 h4, a f h1 h2], hF.go x, y, z⟩
end PLAINH
