section PLAINM
theorem set_set {M : STT} {f o k : Nat} {v w : Int32} : up3 (up3 M f o k v) f o k w = up3 M f o k w := by
  funext a
  by_cases c : a = f
  · subst c
    funext b
    by_cases d : b = o
    · subst d
      rw [up3_s, up3_s, up3_s]
      funext e
      unfold upd
      by_cases q : e = k
      · rw [if_pos q, if_pos q]
      · rw [if_neg q, if_neg q, if_neg q]
    · rw [up3_o d, up3_o d, up3_o d]
  · rw [up3_f c, up3_f c, up3_f c]
theorem set_id {M : STT} {f o k : Nat} : up3 M f o k (M f o k) = M := by
  funext a
  by_cases c : a = f
  · subst c
    funext b
    by_cases d : b = o
    · subst d
      rw [up3_s]
      funext e
      unfold upd
      by_cases q : e = k
      · rw [if_pos q, q]
      · rw [if_neg q]
    · rw [up3_o d]
  · rw [up3_f c]
theorem refuse_eq (M : STT) (p : Int32) {q : Int32} (hq : ¬ q ≤ 0) : sp_X10_refuse (up3 M 40 0 0 0) p q = some (if p = 0 then (0, up3 M 40 0 0 0) else (1, up3 M 40 0 0 q)) := by
  unfold sp_X10_refuse
  rw [show (up3 M 40 0 0 0) 40 0 0 = 0 from up3_e, set_set, show (up3 M 40 0 0 q) 40 0 0 = q from up3_e]
  by_cases c : p = 0
  · rw [if_pos c, if_pos (by decide), if_pos c]
  · rw [if_neg c, if_pos rfl, if_neg hq, if_neg c]
theorem start_eq (M : STT) (p : Int32) {q : Int32} (hq : ¬ q ≤ 0) : sp_X10_start M p q = some (if p = 0 then (0, up3 M 40 0 0 0) else (1, up3 M 40 0 0 q)) := by
  unfold sp_X10_start
  rw [refuse_eq M p hq]; rfl
theorem start_ok (M : STT) : sp_X10_start M 0 1 = some (0, up3 M 40 0 0 0) := by rw [start_eq M 0 (by decide), if_pos rfl]
theorem start_no (M : STT) : sp_X10_start M 1 1 = some (1, up3 M 40 0 0 1) := by rw [start_eq M 1 (by decide), if_neg (by decide)]
theorem ref_ok (M : STT) {q : Int32} (hq : ¬ q ≤ 0) : sp_X10_refuse (up3 M 40 0 0 0) 0 q = some (0, up3 M 40 0 0 0) := by rw [refuse_eq M 0 hq, if_pos rfl]
theorem ref_no (M : STT) {q : Int32} (hq : ¬ q ≤ 0) : sp_X10_refuse (up3 M 40 0 0 0) 1 q = some (1, up3 M 40 0 0 q) := by rw [refuse_eq M 1 hq, if_neg (by decide)]
theorem wS_same {k : Nat} {S : STT} : wS k S S = S := ite_self _
theorem out_bad {r : Nat} {S M : STT} (h : RLn r S M) {wc : Nat → Int32} {x : Nat × Int32 × STT} {y : Option (Int32 × STT)} (k : Nat) (q : Int32) (hx : x = (k, 0, S)) (hy : y = some (0, up3 M 40 0 0 q)) (hk : wc k = q) (hq : ¬ q = 0) : ∃ v, y = some v ∧ v.2 40 0 0 = wc x.1 ∧ (wc x.1 = 0 → x.1 = 0 ∧ x.2.1 = v.1) ∧ RLn (r + 1) (wS x.1 S x.2.2) v.2 := by
  subst hx
  refine ⟨_, hy, ?_, fun z => absurd (hk.symm.trans z) hq, ?_⟩
  · show (up3 M 40 0 0 q) 40 0 0 = wc k
    rw [up3_e, hk]
  · show RLn (r + 1) (wS k S S) (up3 M 40 0 0 q)
    rw [wS_same]; exact h.th.next
theorem out_ok {r : Nat} {S M' S' : STT} {wc : Nat → Int32} {x : Nat × Int32 × STT} {y : Option (Int32 × STT)} {a : Int32} (hx : x = (0, a, S')) (hy : y = some (a, M')) (h40 : M' 40 0 0 = 0) (hw : wc 0 = 0) (h : RLn (r + 1) S' M') : ∃ v, y = some v ∧ v.2 40 0 0 = wc x.1 ∧ (wc x.1 = 0 → x.1 = 0 ∧ x.2.1 = v.1) ∧ RLn (r + 1) (wS x.1 S x.2.2) v.2 := by
  subst hx
  exact ⟨_, hy, h40.trans hw.symm, fun _ => ⟨rfl, rfl⟩, h⟩
theorem out_bad2 {r : Nat} {S M : STT} (h : RLn r S M) {wc : Nat → Int32} {x : Nat × Int32} {y : Option (Int32 × STT)} (k : Nat) (q : Int32) (hx : x = (k, 0)) (hy : y = some (0, up3 M 40 0 0 q)) (hk : wc k = q) (hq : ¬ q = 0) : ∃ v, y = some v ∧ v.2 40 0 0 = wc x.1 ∧ (wc x.1 = 0 → x.1 = 0 ∧ x.2 = v.1) ∧ RLn (r + 1) (wS x.1 S S) v.2 := by
  subst hx
  refine ⟨_, hy, ?_, fun z => absurd (hk.symm.trans z) hq, ?_⟩
  · show (up3 M 40 0 0 q) 40 0 0 = wc k
    rw [up3_e, hk]
  · rw [wS_same]; exact h.th.next
theorem out_ok2 {r : Nat} {S M : STT} (h : RLn r S M) {wc : Nat → Int32} {x : Nat × Int32} {y : Option (Int32 × STT)} {a : Int32} (hx : x = (0, a)) (hy : y = some (a, up3 M 40 0 0 0)) (hw : wc 0 = 0) : ∃ v, y = some v ∧ v.2 40 0 0 = wc x.1 ∧ (wc x.1 = 0 → x.1 = 0 ∧ x.2 = v.1) ∧ RLn (r + 1) (wS x.1 S S) v.2 := by
  subst hx
  refine ⟨_, hy, ?_, fun _ => ⟨rfl, rfl⟩, ?_⟩
  · show (up3 M 40 0 0 0) 40 0 0 = wc 0
    rw [up3_e, hw]
  · rw [wS_same]; exact h.th.next
theorem in_or (p : Int32) (n : Nat) : (p.toInt < 0 ∨ (n : Int) ≤ p.toInt) ∨ ∃ q, q < n ∧ p = nI q := by
  rcases Int.lt_or_le p.toInt 0 with a | a
  · exact .inl (.inl a)
  · rcases Int.lt_or_le p.toInt n with b | b
    · refine .inr ⟨p.toNatClampNeg, ?_, cn_eq a⟩
      have e : p.toNatClampNeg = p.toInt.toNat := rfl
      omega
    · exact .inl (.inr b)
theorem from_pos {p a b : Int32} (h1 : a.toInt ≤ p.toInt) (h2 : p.toInt ≤ b.toInt) : sp_X10_isFrom p a b = 1 := by
  unfold sp_X10_isFrom
  rw [if_neg (by rw [Int32.lt_iff_toInt_lt]; omega), if_neg (by rw [Int32.lt_iff_toInt_lt]; omega)]
theorem from_neg {p a b : Int32} (h : p.toInt < a.toInt ∨ b.toInt < p.toInt) : sp_X10_isFrom p a b = 0 := by
  unfold sp_X10_isFrom
  rcases h with h | h
  · rw [if_pos (by rw [Int32.lt_iff_toInt_lt]; exact h)]
  · rw [if_pos (c := b < p) (by rw [Int32.lt_iff_toInt_lt]; exact h), ite_self]
theorem from_q {n q : Nat} (hn : n < 2 ^ 20) (h : q < n) {b : Int32} (hb : b.toInt = (n : Int) - 1) : sp_X10_isFrom (nI q) 0 b = 1 :=
  from_pos (by rw [nI_toInt (by omega)]; show (0 : Int) ≤ q; omega) (by rw [nI_toInt (by omega), hb]; omega)
theorem from_out {p : Int32} {n : Nat} (h : p.toInt < 0 ∨ (n : Int) ≤ p.toInt) {b : Int32} (hb : b.toInt = (n : Int) - 1) : sp_X10_isFrom p 0 b = 0 :=
  from_neg (by
    rcases h with h | h
    · exact .inl h
    · exact .inr (by omega))
theorem ite_out {α : Type} {p c : Int32} {n : Nat} (h : p.toInt < 0 ∨ (n : Int) ≤ p.toInt) (hc : c.toInt = n) (A B : α) : (if p < 0 then A else (if p < c then B else A)) = A := by
  by_cases a : p < 0
  · rw [if_pos a]
  · rw [if_neg a]
    rw [Int32.lt_iff_toInt_lt] at a
    have h0 : (0 : Int32).toInt = 0 := rfl
    rw [if_neg (by rw [Int32.lt_iff_toInt_lt]; omega)]
theorem ite_in {α : Type} {q n : Nat} {c : Int32} (h : q < n) (hn : n < 2 ^ 20) (hc : c.toInt = n) (A B : α) : (if nI q < 0 then A else (if nI q < c then B else A)) = B := by
  rw [if_neg (q_ge (by omega)), if_pos (by rw [Int32.lt_iff_toInt_lt, nI_toInt (by omega)]; omega)]
theorem dec_i {x : Int32} (h : 0 ≤ x.toInt) : (x - 1).toInt = x.toInt - 1 := by
  have lt := Int32.toInt_lt x
  rw [Int32.toInt_sub, show (1 : Int32).toInt = 1 from rfl, Int.bmod_eq_of_le (by omega) (by omega)]
theorem cnt_i {x : Int32} (h : 0 ≤ x.toInt) : x.toInt = (x.toNatClampNeg : Int) := by
  have e : x.toNatClampNeg = x.toInt.toNat := rfl
  omega
theorem noRole_out {p : Int32} (h : p.toInt < 0 ∨ (4 : Int) ≤ p.toInt) : sp_X10_isNoRole p = 1 := by
  unfold sp_X10_isNoRole; rw [from_out (n := 4) h rfl, if_pos rfl]
theorem noRole_q {q : Nat} (h : q < 4) : sp_X10_isNoRole (nI q) = 0 := by
  unfold sp_X10_isNoRole; rw [from_q (n := 4) (by decide) h rfl, if_neg (by decide)]
theorem noItem_out {p : Int32} (h : p.toInt < 0 ∨ (4 : Int) ≤ p.toInt) : sp_X10_isNoItem p = 1 := noRole_out h
theorem noItem_q {q : Nat} (h : q < 4) : sp_X10_isNoItem (nI q) = 0 := noRole_q h
theorem knows_iff {S : STT} {p : Int32} {m : Nat} (hm : m ≤ 12) (e : S 1 0 0 = nI m) : (sp_X2_knows S p = 0 ↔ ¬ lb p m) ∧ (sp_X2_knows S p = 0 ∨ sp_X2_knows S p = 1) := by
  unfold sp_X2_knows
  rw [e]
  have e0 : ((nI m &&& 31 : Int32).toBitVec.smod 32).toNat = m := by
    have h : ∀ m, m < 13 → ((nI m &&& 31 : Int32).toBitVec.smod 32).toNat = m := by decide +kernel
    exact h m (by omega)
  have e1 : (p >>> (nI m &&& 31)).toBitVec = p.toBitVec.sshiftRight m := by
    rw [Int32.toBitVec_shiftRight]
    show p.toBitVec.sshiftRight ((nI m &&& 31 : Int32).toBitVec.smod 32).toNat = _
    rw [e0]
  have e2 : ∀ i, qb (p >>> (nI m &&& 31)) i = (!decide (32 ≤ i) && if m + i < 32 then qb p (m + i) else p.toBitVec.msb) := by
    intro i
    unfold qb
    rw [e1, BitVec.getLsbD_sshiftRight]
  by_cases c : p < 0
  · rw [if_pos c]
    refine ⟨⟨fun _ z => ?_, fun _ => rfl⟩, .inl rfl⟩
    rw [Int32.lt_iff_toInt_lt] at c
    have := (lb_pos z hm).1
    have h0 : (0 : Int32).toInt = 0 := rfl
    omega
  · rw [if_neg c]
    by_cases d : lb p m
    · rw [if_pos]
      · exact ⟨⟨fun z => by exact absurd z (by decide), fun z => absurd d z⟩, .inr rfl⟩
      · refine qb_nil.mpr fun i hi => ?_
        rw [e2]
        have hmsb : p.toBitVec.msb = false := by
          rw [BitVec.msb_eq_getLsbD_last]
          cases z : p.toBitVec.getLsbD (32 - 1)
          · rfl
          · have := d 31 z; omega
        by_cases q : m + i < 32
        · rw [if_pos q]
          cases z : qb p (m + i)
          · exact Bool.and_false _
          · have := d _ z; omega
        · rw [if_neg q, hmsb]; exact Bool.and_false _
    · rw [if_neg]
      · exact ⟨⟨fun _ => d, fun _ => rfl⟩, .inl rfl⟩
      · intro z
        apply d
        intro k hk
        rcases Nat.lt_or_ge k m with y | y
        · exact y
        · exfalso
          have hk32 : k < 32 := by
            rcases Nat.lt_or_ge k 32 with w | w
            · exact w
            · rw [qb_out p w] at hk; exact nomatch hk
          have := qb_nil.mp z (k - m) (by omega)
          rw [e2, if_pos (by omega), show m + (k - m) = k by omega, hk, decide_eq_false (by omega)] at this
          exact nomatch this
theorem noSet_eq {S M : STT} (hv : IV M) (R : RW S M) (p : Int32) : sp_X10_isNoSet M p = some (if sp_X2_knows S p = 0 then 1 else 0) := by
  have hm := hv.m12
  have e := cn_eq hv.ci.1.1
  have k := (knows_iff (S := S) (p := p) hm (by rw [R.r1]; exact e)).1
  unfold sp_X10_isNoSet
  rw [e]
  generalize (M 1 0 0).toNatClampNeg = m at hm k ⊢
  have e1 : (((1 : Int32) <<< (nI m &&& 31)) - 1).toInt = 2 ^ m - 1 := by
    have h : ∀ m, m < 13 → (((1 : Int32) <<< (nI m &&& 31)) - 1).toInt = 2 ^ m - 1 := by decide +kernel
    exact h m (by omega)
  by_cases d : lb p m
  · obtain ⟨a, b⟩ := lb_pos d hm
    rw [from_pos (by exact a) (by rw [e1]; omega), if_neg (by decide), if_neg (fun z => k.mp z d)]
  · rw [if_pos (k.mpr d), from_neg, if_pos rfl]
    refine Classical.byContradiction fun z => d (lb_of ?_ ?_)
    · have h0 : (0 : Int32).toInt = 0 := rfl
      omega
    · rw [e1] at z; omega
theorem knows_lb {S M : STT} (hv : IV M) (R : RW S M) {p : Int32} (h : ¬ sp_X2_knows S p = 0) : lb p (M 1 0 0).toNatClampNeg :=
  Classical.byContradiction fun z => h ((knows_iff (S := S) hv.m12 (by rw [R.r1]; exact cn_eq hv.ci.1.1)).1.mpr z)
theorem noDay_eq {S M : STT} (hv : IV M) (R : RW S M) (p : Int32) : sp_X10_isNoDay M p = some (if sp_X5_isAhead S p = 0 then 1 else 0) := by
  have e := tom hv
  unfold sp_X10_isNoDay sp_X5_isAhead
  rw [R.r0]
  by_cases c : p ≤ M 0 0 1
  · rw [if_pos c, if_pos rfl, from_neg (.inl (by rw [e]; rw [Int32.le_iff_toInt_le] at c; omega)), if_pos rfl]
  · rw [if_neg c]
    rw [Int32.le_iff_toInt_le] at c
    by_cases d : 199 < p
    · rw [if_pos d, if_pos rfl, from_neg (.inr (by rw [Int32.lt_iff_toInt_lt] at d; exact d)), if_pos rfl]
    · rw [if_neg d, from_pos (a := M 0 0 1 + 1) (b := 199) (by rw [e]; omega) (by rw [Int32.lt_iff_toInt_lt] at d; omega), if_neg (by decide), if_neg (by decide)]
theorem ahead_i {S M : STT} (R : RW S M) {p : Int32} (h : ¬ sp_X5_isAhead S p = 0) : (M 0 0 1).toInt < p.toInt ∧ p.toInt ≤ 199 := by
  unfold sp_X5_isAhead at h
  rw [R.r0] at h
  by_cases c : p ≤ M 0 0 1
  · rw [if_pos c] at h; exact absurd rfl h
  · rw [if_neg c] at h
    by_cases d : 199 < p
    · rw [if_pos d] at h; exact absurd rfl h
    · rw [Int32.le_iff_toInt_le] at c
      rw [Int32.lt_iff_toInt_lt] at d
      have e : (199 : Int32).toInt = 199 := rfl
      omega
theorem within_i {p a b : Int32} (h : ¬ sp_X5_isWithin p a b = 0) : a.toInt ≤ p.toInt ∧ p.toInt ≤ b.toInt := by
  rw [← isFrom_within] at h
  refine Classical.byContradiction fun z => h (from_neg ?_)
  omega
theorem within_01 (p a b : Int32) : sp_X5_isWithin p a b = 0 ∨ sp_X5_isWithin p a b = 1 := by
  unfold sp_X5_isWithin
  split
  · exact .inl rfl
  · split
    · exact .inl rfl
    · exact .inr rfl
end PLAINM
