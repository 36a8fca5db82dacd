section PLAING
def c12 (g : Nat → Int32) (s : Int32) : Nat → Nat
  | 0 => 0
  | k + 1 => c12 g s k + (if g k = s then 1 else 0)
def cJ (g : Nat → Nat → Int32) (s : Int32) : Nat → Nat
  | 0 => 0
  | j + 1 => cJ g s j + c12 (g j) s 12
theorem c12_le (g : Nat → Int32) (s : Int32) : ∀ n, c12 g s n ≤ n := by
  intro n
  induction n with
  | zero => exact Nat.le_refl _
  | succ n ih => unfold c12; split <;> omega
theorem upd_e {g : Nat → Int32} {i : Nat} {v : Int32} : upd g i v i = v := by unfold upd; rw [if_pos rfl]
theorem upd_n {g : Nat → Int32} {i j : Nat} {v : Int32} (h : j ≠ i) : upd g i v j = g j := by unfold upd; rw [if_neg h]
theorem c12_upd {g : Nat → Int32} {i : Nat} {v s : Int32} : ∀ n, c12 (upd g i v) s n + (if i < n ∧ g i = s then 1 else 0) = c12 g s n + (if i < n ∧ v = s then 1 else 0) := by
  intro n
  induction n with
  | zero => rw [if_neg (fun z => by omega), if_neg (fun z => by omega)]; rfl
  | succ n ih =>
    show c12 (upd g i v) s n + (if upd g i v n = s then 1 else 0) + (if i < n + 1 ∧ g i = s then 1 else 0) = c12 g s n + (if g n = s then 1 else 0) + (if i < n + 1 ∧ v = s then 1 else 0)
    by_cases c : n = i
    · subst c
      rw [upd_e]
      rw [if_neg (fun z => by omega), if_neg (fun z => by omega)] at ih
      have e : ∀ P : Prop, (n < n + 1 ∧ P) = P := fun P => propext ⟨fun z => z.2, fun z => ⟨Nat.lt_succ_self n, z⟩⟩
      simp only [e]
      generalize (if v = s then 1 else 0) = x
      generalize (if g n = s then 1 else 0) = y
      omega
    · rw [upd_n c]
      have e : (i < n + 1) = (i < n) := by apply propext; omega
      simp only [e]; omega
theorem up3_27 {M : STT} {j i : Nat} {v : Int32} (a : Nat) : (up3 M 27 j i v) 27 a = if a = j then upd (M 27 j) i v else M 27 a := rfl
theorem cJ_up {M : STT} {j i : Nat} {v s : Int32} (hi : i < 12) : ∀ J, cJ ((up3 M 27 j i v) 27) s J + (if j < J ∧ M 27 j i = s then 1 else 0) = cJ (M 27) s J + (if j < J ∧ v = s then 1 else 0) := by
  intro J
  induction J with
  | zero => rw [if_neg (fun z => by omega), if_neg (fun z => by omega)]; rfl
  | succ J ih =>
    show cJ ((up3 M 27 j i v) 27) s J + c12 ((up3 M 27 j i v) 27 J) s 12 + (if j < J + 1 ∧ M 27 j i = s then 1 else 0) = cJ (M 27) s J + c12 (M 27 J) s 12 + (if j < J + 1 ∧ v = s then 1 else 0)
    rw [up3_27]
    by_cases c : J = j
    · subst c
      rw [if_pos (rfl : J = J)]
      rw [if_neg (fun z => by omega), if_neg (fun z => by omega)] at ih
      have k := c12_upd (g := M 27 J) (i := i) (v := v) (s := s) 12
      have e1 : (i < 12 ∧ M 27 J i = s) = (J < J + 1 ∧ M 27 J i = s) := by
        apply propext; exact ⟨fun z => ⟨by omega, z.2⟩, fun z => ⟨hi, z.2⟩⟩
      have e2 : (i < 12 ∧ v = s) = (J < J + 1 ∧ v = s) := by
        apply propext; exact ⟨fun z => ⟨by omega, z.2⟩, fun z => ⟨hi, z.2⟩⟩
      simp only [e1, e2] at k
      omega
    · rw [if_neg c]
      have e : (j < J + 1) = (j < J) := by apply propext; omega
      simp only [e]; omega
theorem cJ_le (g : Nat → Nat → Int32) (s : Int32) : ∀ J, cJ g s J ≤ 12 * J := by
  intro J
  induction J with
  | zero => exact Nat.le_refl _
  | succ J ih => unfold cJ; have := c12_le (g J) s 12; omega
theorem seats33 (M : STT) (p : Int32) (K i : Nat) (V : Int32) (n : Nat) : ∀ kb ib, ib + kb = 12 → lp_X10_seatsTaken_33 M p K i V kb ib (nI (n + c12 (M 27 i) p ib)) = some (nI (n + c12 (M 27 i) p 12)) := by
  intro kb
  induction kb with
  | zero => intro ib h; rw [show ib = 12 by omega]; rfl
  | succ kb ih =>
    intro ib h
    show lp_X10_seatsTaken_33 M p K i V kb (ib + 1) (nI (n + c12 (M 27 i) p ib) + (if M 27 i ib = p then 1 else 0)) = _
    have e : nI (n + c12 (M 27 i) p ib) + (if M 27 i ib = p then 1 else 0) = nI (n + c12 (M 27 i) p (ib + 1)) := by
      show _ = nI (n + (c12 (M 27 i) p ib + (if M 27 i ib = p then 1 else 0)))
      by_cases c : M 27 i ib = p
      · rw [if_pos c, if_pos c]; exact q_succ _
      · rw [if_neg c, if_neg c]; exact Int32.add_zero _
    rw [e]; exact ih _ (by omega)
theorem seats10 (M : STT) (p : Int32) : ∀ k i, lp_X10_seatsTaken_10 M p k i (nI (cJ (M 27) p i)) = some (nI (cJ (M 27) p (i + k))) := by
  intro k
  induction k with
  | zero => intro i; rfl
  | succ k ih =>
    intro i
    refine is_none (seats33 M p k i _ (cJ (M 27) p i) 12 0 rfl) ?_
    rw [show i + (k + 1) = (i + 1) + k by omega]
    exact ih (i + 1)
theorem seats_eq (M : STT) (p : Int32) : sp_X10_seatsTaken M p = some (nI (cJ (M 27) p (M 0 0 0).toNatClampNeg)) := by
  unfold sp_X10_seatsTaken
  have h := seats10 M p (M 0 0 0).toNatClampNeg 0
  rw [Nat.zero_add] at h
  exact is_none h rfl
def RC (B D : Nat) (S M : STT) : Prop := IV M ∧ RW S M ∧ (∀ j, j < (M 0 0 0).toNatClampNeg → S 27 j = M 27 j) ∧ (∀ j, (M 0 0 0).toNatClampNeg ≤ j → M 6 j = (fun _ => 0) ∧ M 24 j = (fun _ => 0) ∧ M 25 j = (fun _ => 0) ∧ M 26 j = (fun _ => 0) ∧ M 28 j = (fun _ => 0) ∧ S 27 j = S0 27 j) ∧ (∀ k, k < 20 → S 20 0 k = nI (cJ (M 27) (nI k) (M 0 0 0).toNatClampNeg)) ∧ (∀ i, i < 4 → (M 13 0 i).toInt ≤ B) ∧ (∀ i, i < (M 2 0 0).toNatClampNeg → 0 ≤ (M 16 0 i).toInt ∧ (M 16 0 i).toInt ≤ D) ∧ (∀ j, j < (M 0 0 0).toNatClampNeg → ∀ k, k < 12 → (M 25 j k).toInt ≤ 199) ∧ (∀ j, j < (M 0 0 0).toNatClampNeg → ∀ k, k < 12 → 0 ≤ (M 26 j k).toInt ∧ (M 26 j k).toInt ≤ 13)
section
variable {B D : Nat} {S M : STT}
theorem RC.iv (h : RC B D S M) : IV M := h.1
theorem RC.rw (h : RC B D S M) : RW S M := h.2.1
theorem RC.bq (h : RC B D S M) : ∀ j, j < (M 0 0 0).toNatClampNeg → S 27 j = M 27 j := h.2.2.1
theorem RC.fr (h : RC B D S M) : ∀ j, (M 0 0 0).toNatClampNeg ≤ j → M 6 j = (fun _ => 0) ∧ M 24 j = (fun _ => 0) ∧ M 25 j = (fun _ => 0) ∧ M 26 j = (fun _ => 0) ∧ M 28 j = (fun _ => 0) ∧ S 27 j = S0 27 j := h.2.2.2.1
theorem RC.tk (h : RC B D S M) : ∀ k, k < 20 → S 20 0 k = nI (cJ (M 27) (nI k) (M 0 0 0).toNatClampNeg) := h.2.2.2.2.1
theorem RC.sb (h : RC B D S M) : ∀ i, i < 4 → (M 13 0 i).toInt ≤ B := h.2.2.2.2.2.1
theorem RC.db (h : RC B D S M) : ∀ i, i < (M 2 0 0).toNatClampNeg → 0 ≤ (M 16 0 i).toInt ∧ (M 16 0 i).toInt ≤ D := h.2.2.2.2.2.2.1
theorem RC.bh (h : RC B D S M) : ∀ j, j < (M 0 0 0).toNatClampNeg → ∀ k, k < 12 → (M 25 j k).toInt ≤ 199 := h.2.2.2.2.2.2.2.1
theorem RC.lh (h : RC B D S M) : ∀ j, j < (M 0 0 0).toNatClampNeg → ∀ k, k < 12 → 0 ≤ (M 26 j k).toInt ∧ (M 26 j k).toInt ≤ 13 := h.2.2.2.2.2.2.2.2
theorem RC.t (h : RC B D S M) : TK S M := fun k hk => by rw [seats_eq, h.tk k hk]
theorem RC.mono {B' D' : Nat} (h : RC B D S M) (hB : B ≤ B') (hD : D ≤ D') : RC B' D' S M :=
  ⟨h.iv, h.rw, h.bq, h.fr, h.tk, fun i hi => by have := h.sb i hi; omega, fun i hi => by have := h.db i hi; omega, h.bh, h.lh⟩
theorem RC.left {S' : STT} (h : RC B D S M) (hr : ∀ f, rr f = true → S' f = S f) (h27 : S' 27 = S 27) (h20 : S' 20 = S 20) : RC B D S' M :=
  ⟨h.iv, fun f hf => (hr f hf).trans (h.rw f hf), by rw [h27]; exact h.bq, by rw [h27]; exact h.fr, by rw [h20]; exact h.tk, h.sb, h.db, h.bh, h.lh⟩
theorem RC.th {v : Int32} (h : RC B D S M) : RC B D S (up3 M 40 0 0 v) :=
  ⟨h.iv, fun f hf => (h.rw f hf).trans (by
    have e : f ≠ 40 := fun z => by subst z; exact absurd hf (by decide)
    exact (up3_f e).symm), h.bq, h.fr, h.tk, h.sb, h.db, h.bh, h.lh⟩
end
def TH (M : STT) : Prop := ∀ i, i < (M 2 0 0).toNatClampNeg → (M 41 0 i = 0 ↔ ¬ M 16 0 i ≤ M 0 0 1)
def RN (M : STT) : Prop := ∀ j, j < (M 0 0 0).toNatClampNeg → M 6 j 2 = 0 → ∀ k, k < 12 → M 24 j k = 1 → (M 0 0 1).toInt < (M 25 j k).toInt + (M 26 j k).toInt
def RLn (r : Nat) (S M : STT) : Prop := RC (500 * r) (199 + 30 * r) S M ∧ TH M ∧ RN M
theorem RLn.c {r : Nat} {S M : STT} (h : RLn r S M) : RC (500 * r) (199 + 30 * r) S M := h.1
theorem RLn.next {r : Nat} {S M : STT} (h : RLn r S M) : RLn (r + 1) S M := ⟨h.1.mono (by omega) (by omega), h.2⟩
theorem RLn.th {r : Nat} {S M : STT} {v : Int32} (h : RLn r S M) : RLn r S (up3 M 40 0 0 v) := ⟨h.1.th, h.2.1, h.2.2⟩
theorem RLn.left {r : Nat} {S M S' : STT} (h : RLn r S M) (hr : ∀ f, rr f = true → S' f = S f) (h27 : S' 27 = S 27) (h20 : S' 20 = S 20) : RLn r S' M := ⟨h.1.left hr h27 h20, h.2⟩
theorem RLn.ci {r : Nat} {S M : STT} (h : RLn r S M) : CI S ∧ CI M := by
  refine ⟨?_, h.1.iv.ci⟩
  have k := h.1.iv.ci
  unfold CI at k ⊢
  rw [h.1.rw.r0, h.1.rw.r1, h.1.rw.r2, h.1.rw.r3]
  exact k
theorem cJ_none {g : Nat → Nat → Int32} {s : Int32} (h : ∀ j, ∀ k, k < 12 → g j k ≠ s) : ∀ J, cJ g s J = 0 := by
  have a : ∀ j n, n ≤ 12 → c12 (g j) s n = 0 := by
    intro j n
    induction n with
    | zero => intro _; rfl
    | succ n ih => intro hn; unfold c12; rw [ih (by omega), if_neg (h j n (by omega))]
  intro J
  induction J with
  | zero => rfl
  | succ J ih => unfold cJ; rw [ih, a J 12 (by omega)]
theorem RLn.start : RLn 0 S0 M0 := by
  have z : (M0 0 0 0).toNatClampNeg = 0 := rfl
  refine ⟨⟨⟨?_, ?_, ?_, ?_, ?_, ?_, ?_, ?_, ?_, ?_, ?_, ?_, ?_, ?_, ?_, ?_⟩, ?_, ?_, ?_, ?_, ?_, ?_, ?_, ?_⟩, ?_, ?_⟩
  · unfold CI; decide
  · decide
  · decide
  · intro i hi; exact absurd hi (Nat.not_lt_zero i)
  · intro i hi; exact absurd hi (Nat.not_lt_zero i)
  · intro i hi; exact absurd hi (Nat.not_lt_zero i)
  · intro i hi; exact absurd hi (Nat.not_lt_zero i)
  · intro i hi; exact lb_zero _
  · intro i hi; exact lb_zero _
  · intro i hi; exact Int.le_refl _
  · intro i hi; exact absurd hi (Nat.not_lt_zero i)
  · intro i hi; exact absurd hi (Nat.not_lt_zero i)
  · intro j hj; exact absurd hj (Nat.not_lt_zero j)
  · intro j hj; exact absurd hj (Nat.not_lt_zero j)
  · intro j hj; exact absurd hj (Nat.not_lt_zero j)
  · intro j hj; exact absurd hj (Nat.not_lt_zero j)
  · intro f hf
    have e : f ≠ 27 := fun z => by subst z; exact absurd hf (by decide)
    show (if f = 27 then _ else _) = _
    rw [if_neg e]; rfl
  · intro j hj; exact absurd hj (Nat.not_lt_zero j)
  · intro j _; exact ⟨rfl, rfl, rfl, rfl, rfl, rfl⟩
  · intro k hk; rfl
  · intro i hi; exact Int.le_refl _
  · intro i hi; exact absurd hi (Nat.not_lt_zero i)
  · intro j hj; exact absurd hj (Nat.not_lt_zero j)
  · intro j hj; exact absurd hj (Nat.not_lt_zero j)
  · intro i hi; exact absurd hi (Nat.not_lt_zero i)
  · intro j hj; exact absurd hj (Nat.not_lt_zero j)
end PLAING
