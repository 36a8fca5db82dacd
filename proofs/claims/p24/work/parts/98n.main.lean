section P24N
def LSt (kd nd st : Nat → Int32) (ns nr i : Nat) (S : STT) : Prop := ∃ r M, r ≤ 20 + i ∧ RLn r S M ∧ NI S ∧ (S 0 0 1).toInt ≤ i ∧ S 1 0 0 = nI ns ∧ S 1 0 1 = nI nr ∧ (∀ a, a < ns → S 7 0 a = kd a ∧ S 9 0 a = nd a) ∧ (∀ a, a < nr → S 12 0 a = st a) ∧ (∀ q, q < 4 → ¬ S 11 0 q = 0)
variable {kd nd st : Nat → Int32} {ns nr i r r' : Nat} {S T M : STT}
theorem LSt.first (h : LO kd nd st ns nr 4 S) : LSt kd nd st ns nr 0 S := by
  obtain ⟨r, M, g1, g2, g3, g4, g5, g6, g7, g8, g9, g10, g11⟩ := h
  exact ⟨r, M, by omega, g2, NI.zero (by rw [g3]; decide) g5 g6, by rw [g4]; decide, g7, g8, g9, g10, fun q hq => (g11 q hq).1 hq⟩
theorem LSt.next {M' : STT} (h : LSt kd nd st ns nr i S) (hr : r ≤ 20 + i) (hT : RLn (r + 1) T M') (hN : NI T) (hF : FR5 S T) (ht : (T 0 0 1).toInt ≤ (S 0 0 1).toInt + 1) : LSt kd nd st ns nr (i + 1) T := by
  obtain ⟨r0, M0, -, -, -, g4, g5, g6, g7, g8, g9⟩ := h
  obtain ⟨f1, f7, f9, f11, f12⟩ := hF
  refine ⟨r + 1, M', by omega, hT, hN, by omega, by rw [f1]; exact g5, by rw [f1]; exact g6, by rw [f7, f9]; exact g7, by rw [f12]; exact g8, by rw [f11]; exact g9⟩
theorem LSt.stay {k : Nat} (h : LSt kd nd st ns nr i S) (hik : i ≤ k) (h0 : RLn r S M) (hr : r' ≤ 20 + k) (hT : RLn r' T M) (hN : NI S) : LSt kd nd st ns nr k T := by
  obtain ⟨r0, M0, -, -, -, g4, g5, g6, g7, g8, g9⟩ := h
  have e : ∀ f, rr f = true → T f = S f := fun f hf => (hT.c.rw f hf).trans (h0.c.rw f hf).symm
  have e0 : T 0 = S 0 := e 0 rfl
  have e1 : T 1 = S 1 := e 1 rfl
  exact ⟨r', M, hr, hT, NI.ask h0 hT hN, by rw [e0]; omega, by rw [e1]; exact g5, by rw [e1]; exact g6, by rw [e 7 rfl, e 9 rfl]; exact g7, by rw [e 12 rfl]; exact g8, by rw [e 11 rfl]; exact g9⟩
theorem ahead_n {x : Nat} (h1 : (S 0 0 1).toInt < x) (h2 : x ≤ 199) : ¬ sp_X5_isAhead S (nI x) = 0 := by
  unfold sp_X5_isAhead
  rw [if_neg (by rw [Int32.le_iff_toInt_le, nI_toInt (by omega)]; omega), if_neg (by
    rw [Int32.lt_iff_toInt_lt, nI_toInt (by omega)]
    have z : (199 : Int32).toInt = 199 := rfl
    omega)]
  decide
theorem add_swap (a b : Int32) : a + b = b + a := Int32.add_comm a b
/-- who has left ends nowhere -/
theorem left_end (h : RLn r S M) {j : Nat} (hj : j < (S 0 0 0).toNatClampNeg) (hl : ¬ S 6 j 2 = 0) : sp_X0_greatestEnd (sp_X0_foresee S j (S 0 0 1) (-1) 0) (S 6 j 0) = -1 := by
  obtain ⟨⟨-, -, a⟩, -⟩ := fore_s h (q := j) (by rw [← h.c.rw.r0]; exact hj)
  exact ge_left (a (by rw [← h.c.rw.r6]; exact hl))
/-- how many one has begun or done -/
noncomputable def CT (S : STT) (j : Nat) : Nat := qn (sp_X1_stepsIn S j 2) 12 + qn (sp_X1_stepsIn S j 1) 12
theorem cnt_q (S : STT) (j : Nat) (p : Int32) : sp_X1_countIn S j p = nI (qn (sp_X1_stepsIn S j p) 12) := by
  unfold sp_X1_countIn
  exact bits_cnt (stepsIn_lb S j p)
theorem CT_le (S : STT) (j : Nat) : CT S j ≤ 24 := by
  unfold CT
  have a := qn_le (sp_X1_stepsIn S j 2) 12
  have b := qn_le (sp_X1_stepsIn S j 1) 12
  omega
noncomputable def LV (S : STT) (j : Nat) : Int32 := if S 6 j 2 = 0 then -1 else nI (CT S j)
theorem qn_same {a b : Int32} {n : Nat} (h : ∀ k, k < n → qb a k = qb b k) : qn a n = qn b n := qn_cong n h
theorem qn_drop {a b : Int32} {k : Nat} (h1 : qb a k = true) (h2 : ¬ qb b k = true) (h : ∀ i, i ≠ k → qb b i = qb a i) : ∀ n, k < n → qn b n + 1 = qn a n := by
  intro n
  induction n with
  | zero => intro z; omega
  | succ n ih =>
    intro hk
    show qn b n + (if qb b n = true then 1 else 0) + 1 = qn a n + (if qb a n = true then 1 else 0)
    by_cases z : k = n
    · subst z
      rw [if_pos h1, if_neg h2, qn_same (a := b) (b := a) (fun i hi => h i (by omega))]
    · rw [h n (fun y => z y.symm)]
      have := ih (by omega)
      omega
theorem ct_dec {j : Nat} (hs : ∀ k, k < 12 → ¬ S 24 j k = 0 → qb (S 6 j 0) k = true) (e6 : T 6 = S 6) (d : DEC (S 24 j) (T 24 j)) : CT T j = CT S j - 1 := by
  have tq : ∀ (p : Int32) (i : Nat), i < 32 → qb (sp_X1_stepsIn T j p) i = (decide (i < 12) && decide (T 24 j i = p) && qb (S 6 j 0) i) := fun p i hi => by rw [stepsIn_qb T j p hi, e6]
  rcases d with ⟨d1, d2⟩ | ⟨a, ha, d1, d2⟩
  · have z : ∀ p : Int32, (p = 1 ∨ p = 2) → qn (sp_X1_stepsIn S j p) 12 = 0 := fun p hp => by
      have y : sp_X1_stepsIn S j p = 0 := qb_nil.mpr fun i hi => by
        rw [stepsIn_qb S j p hi]
        by_cases c : i < 12
        · have := d1 i c
          have n : ¬ S 24 j i = p := fun w => by
            rcases hp with q | q
            · rw [q] at w; exact this.1 w
            · rw [q] at w; exact this.2 w
          rw [decide_eq_false n, Bool.and_false, Bool.false_and]
        · rw [decide_eq_false c, Bool.false_and, Bool.false_and]
      rw [y]; rfl
    have e : ∀ p, sp_X1_stepsIn T j p = sp_X1_stepsIn S j p := fun p => stepsIn_cong (by rw [e6]) d2 p
    unfold CT
    rw [e, e, z 1 (Or.inl rfl), z 2 (Or.inr rfl)]
  · have ho := hs a ha (by rcases d1 with q | q <;> rw [q] <;> decide)
    have ea : T 24 j a = 3 := by rw [d2, upd_e]
    have eo : ∀ i, i ≠ a → T 24 j i = S 24 j i := fun i hi => by rw [d2, upd_n hi]
    have same : ∀ p : Int32, ¬ S 24 j a = p → ¬ p = 3 → qn (sp_X1_stepsIn T j p) 12 = qn (sp_X1_stepsIn S j p) 12 := fun p h1 h2 => qn_same fun i hi => by
      rw [tq p i (by omega), stepsIn_qb S j p (by omega)]
      by_cases z : i = a
      · rw [z, ea, decide_eq_false (p := (3 : Int32) = p) (fun w => h2 w.symm), decide_eq_false h1]
      · rw [eo i z]
    have less : ∀ p : Int32, S 24 j a = p → ¬ p = 3 → qn (sp_X1_stepsIn T j p) 12 + 1 = qn (sp_X1_stepsIn S j p) 12 := fun p h1 h2 => by
      refine qn_drop (k := a) ((stepsIn_iff S j p ha).mpr ⟨h1, ho⟩) (fun w => ?_) (fun i hi => ?_) 12 ha
      · have := ((stepsIn_iff T j p ha).mp w).1
        rw [ea] at this; exact h2 this.symm
      · by_cases c : i < 32
        · rw [tq p i c, stepsIn_qb S j p c, eo i hi]
        · rw [qb_out _ (by omega), qb_out _ (by omega)]
    unfold CT
    rcases d1 with q | q
    · have x := same 2 (by rw [q]; decide) (by decide)
      have y := less 1 q (by decide)
      omega
    · have x := same 1 (by rw [q]; decide) (by decide)
      have y := less 2 q (by decide)
      omega
theorem max_dec {x : Nat} (hx : x < 1000) : (if (0 : Int32) < nI x - 1 then nI x - 1 else 0) = nI (x - 1) := by
  by_cases z : x = 0
  · subst z; decide
  · have e : nI x - 1 = nI (x - 1) := pk_sub (a := x) (b := 1) (by omega)
    rw [e]
    by_cases y : x - 1 = 0
    · rw [y]; decide
    · rw [if_pos (by rw [Int32.lt_iff_toInt_lt, nI_toInt (by omega), z_i]; omega)]
theorem dig_out {M : STT} {v : Int64 × STT} (h : sp_X10_digest M = some v) : v.2 = up3 M 40 0 0 0 := by
  unfold sp_X10_digest at h
  obtain ⟨w1, -, h⟩ := Option.bind_eq_some_iff.mp h
  obtain ⟨w2, -, h⟩ := Option.bind_eq_some_iff.mp h
  obtain ⟨w3, -, h⟩ := Option.bind_eq_some_iff.mp h
  obtain ⟨w4, -, h⟩ := Option.bind_eq_some_iff.mp h
  rw [← Option.some.inj h]
/-- asking leaves the checksum -/
theorem dig_one (hr : r < 512) (h : RLn r S M) : ∃ d, (sp_X5_digest S).1 = d ∧ RLn (r + 1) (sp_X5_digest S).2 (up3 M 40 0 0 0) ∧ ∀ (r' : Nat) (T : STT), r' < 512 → RLn r' T (up3 M 40 0 0 0) → (sp_X5_digest T).1 = d := by
  obtain ⟨v, v1, v2, v3⟩ := s_digest r S (up3 M 40 0 0 0) hr h.th
  have e : v.2 = up3 M 40 0 0 0 := (dig_out v1).trans set_set
  rw [e] at v3
  refine ⟨v.1, v2, v3, fun r' T hr' hT => ?_⟩
  obtain ⟨w, w1, w2, -⟩ := s_digest r' T (up3 M 40 0 0 0) hr' hT
  rw [w2, Option.some.inj (w1.symm.trans v1)]
end P24N
section P24NR
variable {p : Program} {l : Launch} {e : Env} {R : Room} {s : State} {m : MethodId} {args : Array Value} {below : List Frame} {meth : Method} {c : Code} {H : Heap} {locs : List Loc} {cells slots : Nat} {Q : State → Prop} {cc : ByteArray} {pc : Nat} {ls : Array Slot} {rest : List Value} {D : va_G} {cI cG cJ cO : ClassId} {K0 : Nat → Nat} {A : Nat → Prop} {L : List (Nat × Nat)} {ad : Nat → Nat → Nat} {ce : Nat → Nat → va_E} {S Z M : STT} {r r' index nL ns nr : Nat} {kd nd st : Nat → Int32} {own : String}
theorem r_fair (F : CallFix p m c cc nL s args BIG own) (hK : va_K D vwCl (ktys cI cG cJ cO) s) (hO : OW A K0 s) (hL : ∀ f o, cid f o = true → (f, o) ∈ L) (hA : ∀ q, s.heap.size ≤ q → A q) (hr : r ≤ 512) (hZ : RLn r S M) (hN : NI S) (m90 : (90, 0) ∈ L) (m91 : (91, 0) ∈ L) (m92 : (92, 0) ∈ L) (h90 : ce 90 0 = .inl (cI, ns, .inl kd)) (h91 : ce 91 0 = .inl (cI, ns, .inl nd)) (h92 : ce 92 0 = .inl (cI, nr, .inl st)) (ens : ns = (S 1 0 0).toNatClampNeg) (enr : nr = (S 1 0 1).toNatClampNeg) (ekd : ∀ k, k < ns → kd k = S 7 0 k) (end_ : ∀ k, k < ns → nd k = S 9 0 k) (est : ∀ k, k < nr → st k = S 12 0 k) (hw : wk D A L ad (cK cI cJ ad ce S) s.heap H locs) (cw : CallB R s args own index yL_isFair cL_isFair 18 (some .boolean) bw_L_isFair rm_L_isFair 0 0 4 ∧ (Cond.static yL_isFair).before args s = true) (hsz : ls.size = nL) (hW : (rest.map fun v => v.category).sum ≤ 8) (hf : cells ≤ R.cells ∧ slots ≤ R.slots) (hdg : decode cc pc = .ok (.invokestatic index, 3))
    (kk : ∀ (S1 : STT) (H1 : Heap) (locs1 : List Loc), RLn r S1 M → wk D A L ad (cK cI cJ ad ce S1) s.heap H1 locs1 → W p l e R s m args below meth c H1 locs1 cells slots Q (F0 m (pc + 3) ls (.int 1 :: rest))) : W p l e R s m args below meth c H locs cells slots Q (F0 m pc ls (.ref (ad 92 0) :: .ref (ad 91 0) :: .ref (ad 90 0) :: .ref (ad 0 0) :: rest)) := by
  have h := k_rS (As := [.ref (ad 0 0), .ref (ad 90 0), .ref (ad 91 0), .ref (ad 92 0)]) (rest := rest) (ls := ls) (pc := pc) (cells := cells) (slots := slots) (meth := meth) (below := below) (e := e) (l := l) F hK hO hw (ct_L_isFair hL hr hZ hN m90 m91 m92 h90 h91 h92 ens enr ekd end_ est _ (wk.hA hw hA)) cw rfl hsz rfl hW hdg hf
  refine va_calli h hw.2.2 (fun _ _ h => h) (fun _ h => h) (fun x S1 t H1 locs1 ht _ hp hB _ _ hS => ?_)
  obtain ⟨rfl, hp⟩ := hp
  exact kk S1 H1 locs1 hp ⟨by rw [← ht]; exact hB.1, hB.2, hS⟩
theorem r_digest (F : CallFix p m c cc nL s args BIG own) (hK : va_K D vwCl (ktys cI cG cJ cO) s) (hO : OW A K0 s) (hL : ∀ f o, cid f o = true → (f, o) ∈ L) (hA : ∀ q, s.heap.size ≤ q → A q) (hI : CI S) {d : Int64} (hd : (sp_X5_digest S).1 = d) (hw : wk D A L ad (cK cI cJ ad ce S) s.heap H locs) (cw : CallW R s args own RX5 index yX5_digest cX5_digest 5 (some .long) bw_X5_digest rm_X5_digest 0 0 0) (hsz : ls.size = nL) (hW : (rest.map fun v => v.category).sum ≤ 8) (hf : cells ≤ R.cells ∧ slots ≤ R.slots) (hdg : decode cc pc = .ok (.invokevirtual index, 3))
    (kk : ∀ (H1 : Heap) (locs1 : List Loc), wk D A L ad (cK cI cJ ad ce (sp_X5_digest S).2) s.heap H1 locs1 → W p l e R s m args below meth c H1 locs1 cells slots Q (F0 m (pc + 3) ls (.long d :: rest))) : W p l e R s m args below meth c H locs cells slots Q (F0 m pc ls (.ref (ad 0 0) :: rest)) := by
  subst hd
  exact k_cl0 hw (k_rV (As := []) (rest := rest) F hK hO hw (ct_X5_digest hL S hI _ (wk.hA hw hA)) cw (hL 0 0 rfl) cke_0 rfl rfl hsz rfl hW hdg hf) kk
end P24NR
