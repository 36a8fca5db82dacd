section PLAINA
/-- bit i of a set -/
def qb (p : Int32) (i : Nat) : Bool := p.toBitVec.getLsbD i
theorem qb_and (a b : Int32) (i : Nat) : qb (a &&& b) i = (qb a i && qb b i) := by
  unfold qb; rw [Int32.toBitVec_and]; exact BitVec.getLsbD_and
theorem qb_or (a b : Int32) (i : Nat) : qb (a ||| b) i = (qb a i || qb b i) := by
  unfold qb; rw [Int32.toBitVec_or]; exact BitVec.getLsbD_or
theorem qb_xor (a b : Int32) (i : Nat) : qb (a ^^^ b) i = (qb a i ^^ qb b i) := by
  unfold qb; rw [Int32.toBitVec_xor]; exact BitVec.getLsbD_xor
theorem qb_ones (i : Nat) (h : i < 32) : qb (-1) i = true := by
  revert h; revert i; decide
theorem qb_out (a : Int32) {i : Nat} (h : 32 ≤ i) : qb a i = false := by
  unfold qb; exact BitVec.getLsbD_of_ge _ _ h
theorem qb_not (a : Int32) {i : Nat} (h : i < 32) : qb (a ^^^ (-1)) i = !(qb a i) := by
  rw [qb_xor, qb_ones i h]; cases qb a i <;> rfl
theorem qb_zero (i : Nat) : qb 0 i = false := by
  unfold qb; exact BitVec.getLsbD_zero
theorem qb_ext {a b : Int32} (h : ∀ i, i < 32 → qb a i = qb b i) : a = b := by
  apply Int32.toBitVec_inj.mp
  exact BitVec.eq_of_getLsbD_eq h
theorem qb_nil {a : Int32} : a = 0 ↔ ∀ i, i < 32 → qb a i = false :=
  ⟨fun h i _ => by rw [h]; exact qb_zero i, fun h => qb_ext fun i hi => by rw [h i hi, qb_zero]⟩
theorem qb_one_lt {i k : Nat} (hi : i < 32) (hk : k < 32) : qb (1 <<< ((nI i) &&& 31)) k = decide (k = i) := by
  have h : ∀ i, i < 32 → ∀ k, k < 32 → qb (1 <<< ((nI i) &&& 31)) k = decide (k = i) := by decide +kernel
  exact h i hi k hk
theorem has_qb (p : Int32) {i : Nat} (hi : i < 32) : sp_X5_has p (nI i) = if qb p i = true then 1 else 0 := by
  have e0 : ((nI i &&& 31 : Int32).toBitVec.smod 32).toNat = i := by
    have h : ∀ i, i < 32 → ((nI i &&& 31 : Int32).toBitVec.smod 32).toNat = i := by decide +kernel
    exact h i hi
  have e1 : (p >>> (nI i &&& 31)).toBitVec = p.toBitVec.sshiftRight i := by
    rw [Int32.toBitVec_shiftRight]
    show p.toBitVec.sshiftRight ((nI i &&& 31 : Int32).toBitVec.smod 32).toNat = _
    rw [e0]
  have e2 : ((p >>> (nI i &&& 31)) &&& 1 = 1) ↔ qb p i = true := by
    rw [← Int32.toBitVec_inj, Int32.toBitVec_and, e1]
    show (p.toBitVec.sshiftRight i &&& 1#32 = 1#32) ↔ _
    rw [BitVec.and_one_eq_setWidth_ofBool_getLsbD, BitVec.getLsbD_sshiftRight]
    unfold qb
    have : (!decide (32 ≤ 0) && if i + 0 < 32 then p.toBitVec.getLsbD (i + 0) else p.toBitVec.msb) = p.toBitVec.getLsbD i := by
      rw [if_pos (by omega)]; rfl
    rw [this]
    cases p.toBitVec.getLsbD i <;> decide
  unfold sp_X5_has
  by_cases c : qb p i = true
  · rw [if_pos (e2.mpr c), if_pos c]
  · rw [if_neg (fun z => c (e2.mp z)), if_neg c]
theorem has_zero {p : Int32} {i : Nat} (hi : i < 32) : sp_X5_has p (nI i) = 0 ↔ ¬ qb p i = true := by
  rw [has_qb p hi]
  by_cases c : qb p i = true
  · rw [if_pos c]; exact ⟨fun z => by exact absurd z (by decide), fun z => absurd c z⟩
  · rw [if_neg c]; exact ⟨fun _ => c, fun _ => rfl⟩
theorem isIn_has : sp_X10_isIn = sp_X5_has := rfl
theorem isFrom_within : sp_X10_isFrom = sp_X5_isWithin := rfl
end PLAINA
section PLAINB
theorem is_none {α β : Type} {x : Option α} {f : α → Option β} {v : α} {w : Option β} (h : x = some v) (h2 : f v = w) : x.bind f = w := by
  rw [h]; exact h2
/-- bits below m -/
def lb (p : Int32) (m : Nat) : Prop := ∀ k, qb p k = true → k < m
theorem lb_mono {p : Int32} {m m' : Nat} (h : lb p m) (hm : m ≤ m') : lb p m' := fun k hk => Nat.lt_of_lt_of_le (h k hk) hm
theorem lb_and {p q : Int32} {m : Nat} (h : lb p m) : lb (p &&& q) m := fun k hk => h k (by
  rw [qb_and] at hk
  cases c : qb p k
  · rw [c] at hk; exact nomatch hk
  · rfl)
theorem lb_and2 {p q : Int32} {m : Nat} (h : lb q m) : lb (p &&& q) m := fun k hk => h k (by
  rw [qb_and] at hk
  cases c : qb q k
  · rw [c, Bool.and_false] at hk; exact nomatch hk
  · rfl)
theorem lb_zero (m : Nat) : lb 0 m := fun k hk => by rw [qb_zero] at hk; exact nomatch hk
def qn (p : Int32) : Nat → Nat
  | 0 => 0
  | k + 1 => qn p k + (if qb p k = true then 1 else 0)
theorem lb_val {p : Int32} {m : Nat} (h : lb p m) : p.toBitVec.toNat < 2 ^ m := by
  apply Nat.lt_pow_two_of_testBit
  intro i hi
  cases c : p.toBitVec.toNat.testBit i
  · rfl
  · exfalso; have := h i c; omega
theorem ofv (p : Int32) : p = Int32.ofBitVec (BitVec.ofNat 32 p.toBitVec.toNat) := by
  rw [BitVec.ofNat_toNat, BitVec.setWidth_eq]; rfl
theorem bits_cnt {p : Int32} (h : lb p 12) : sp_J6_bitCount_0f7a4 p = nI (qn p 12) := by
  have a : ∀ v, v < 64 → ∀ w, w < 64 → sp_J6_bitCount_0f7a4 (Int32.ofBitVec (BitVec.ofNat 32 (64 * v + w))) = nI (qn (Int32.ofBitVec (BitVec.ofNat 32 (64 * v + w))) 12) := by decide +kernel
  have hv : p.toBitVec.toNat < 4096 := lb_val h
  have b := a (p.toBitVec.toNat / 64) (by omega) (p.toBitVec.toNat % 64) (by omega)
  rw [Nat.div_add_mod] at b
  rw [← ofv] at b
  exact b
theorem lb_pos {p : Int32} {m : Nat} (h : lb p m) (hm : m ≤ 12) : 0 ≤ p.toInt ∧ p.toInt < 2 ^ m := by
  have a := lb_val h
  have b : (2:Nat) ^ m ≤ 2 ^ 12 := Nat.pow_le_pow_right (by decide) hm
  have c : p.toInt = (p.toBitVec.toNat : Int) := by
    show p.toBitVec.toInt = _
    rw [BitVec.toInt_eq_toNat_of_lt]
    omega
  rw [c]
  refine ⟨by omega, ?_⟩
  have d : ((2:Nat) ^ m : Int) = ((2 ^ m : Nat) : Int) := by norm_cast
  have : ((p.toBitVec.toNat : Nat) : Int) < ((2 ^ m : Nat) : Int) := by exact_mod_cast a
  rw [← d] at this; exact this
theorem lb_of {p : Int32} {m : Nat} (h0 : 0 ≤ p.toInt) (h : p.toInt < 2 ^ m) : lb p m := by
  intro k hk
  rcases Nat.lt_or_ge k m with c | c
  · exact c
  exfalso
  have e : p.toInt = (p.toBitVec.toNat : Int) := by
    have h0 : 0 ≤ p.toBitVec.toInt := h0
    show p.toBitVec.toInt = _
    rw [BitVec.toInt_eq_toNat_cond] at h0 ⊢
    split
    · rfl
    · rename_i z
      rw [if_neg z] at h0
      have := p.toBitVec.isLt
      omega
  rw [e] at h
  have h2 : p.toBitVec.toNat < 2 ^ m := by exact_mod_cast h
  have h3 : p.toBitVec.toNat < 2 ^ k := Nat.lt_of_lt_of_le h2 (Nat.pow_le_pow_right (by decide) c)
  have h4 : p.toBitVec.toNat.testBit k = true := hk
  rw [Nat.testBit_lt_two_pow h3] at h4
  exact nomatch h4
end PLAINB
