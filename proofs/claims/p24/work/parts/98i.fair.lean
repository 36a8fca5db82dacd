section P24I
theorem bit_z {p : Int32} {i : Nat} (hi : i < 32) : (p >>> (nI i &&& 31)) &&& 1 = 0 ↔ ¬ qb p i = true := by
  have h := has_zero (p := p) hi
  have h2 := has_qb p hi
  have e : ∀ x : Int32, x &&& 1 = 0 ∨ x &&& 1 = 1 := fun x => by
    have a : x &&& 1 = if qb x 0 = true then 1 else 0 := by
      apply qb_ext
      intro k hk
      rw [qb_and]
      have b : qb 1 k = decide (k = 0) := by revert hk; revert k; decide
      rw [b]
      by_cases z : k = 0
      · subst z
        cases c : qb x 0
        · rw [if_neg (by decide), qb_zero]; rfl
        · rw [if_pos rfl]; rfl
      · rw [decide_eq_false z, Bool.and_false]
        by_cases c : qb x 0 = true
        · rw [if_pos c, b, decide_eq_false z]
        · rw [if_neg c, qb_zero]
    rw [a]
    by_cases c : qb x 0 = true
    · rw [if_pos c]; exact Or.inr rfl
    · rw [if_neg c]; exact Or.inl rfl
  unfold sp_X5_has at h
  rcases e (p >>> (nI i &&& 31)) with z | z
  · rw [z] at h ⊢
    rw [if_neg (by decide)] at h
    exact ⟨fun _ => h.mp rfl, fun _ => rfl⟩
  · rw [z] at h ⊢
    rw [if_pos rfl] at h
    exact ⟨fun y => absurd y (by decide), fun y => absurd (h.mpr y) (by decide)⟩
theorem bit_m {a b : Int32} {i : Nat} (hi : i < 32) : ((a &&& b) &&& (1 <<< (nI i &&& 31))) = 0 ↔ ¬ qb (b &&& a) i = true := by
  rw [qb_nil]
  constructor
  · intro h z
    have k := h i hi
    rw [qb_and, qb_one_lt hi hi, decide_eq_true rfl, Bool.and_true, qb_and, Bool.and_comm, ← qb_and] at k
    rw [k] at z; exact nomatch z
  · intro h k hk
    rw [qb_and, qb_one_lt hi hk]
    by_cases z : k = i
    · subst z
      rw [decide_eq_true rfl, Bool.and_true, qb_and, Bool.and_comm, ← qb_and]
      cases c : qb (b &&& a) k
      · rfl
      · exact absurd c h
    · rw [decide_eq_false z, Bool.and_false]
theorem seat_add {P : Prop} [Decidable P] (a : Nat) : nI a + (if P then (0 : Int32) else 1) = nI (a + (if P then 0 else 1)) := by
  by_cases c : P
  · rw [if_pos c, if_pos c]; exact Int32.add_zero _
  · rw [if_neg c, if_neg c]; exact q_succ a
theorem lt_i {x y : Int32} (h : x.toInt < y.toInt) : x < y := Int32.lt_iff_toInt_lt.mpr h
theorem nlt_i {x y : Int32} (h : y.toInt ≤ x.toInt) : ¬ x < y := fun z => by rw [Int32.lt_iff_toInt_lt] at z; omega
theorem le_i {x y : Int32} (h : x.toInt ≤ y.toInt) : x ≤ y := Int32.le_iff_toInt_le.mpr h
theorem nle_i {x y : Int32} (h : y.toInt < x.toInt) : ¬ x ≤ y := fun z => by rw [Int32.le_iff_toInt_le] at z; omega
theorem le_0 {x : Int32} (h : 0 ≤ x.toInt) : 0 ≤ x := Int32.le_iff_toInt_le.mpr h
theorem nneg {x : Int32} (h : 0 ≤ x.toInt) : ¬ x < 0 := nlt_i h

set_option maxHeartbeats 2000000 in
set_option maxRecDepth 100000 in
theorem fair_need {p : Program} {l : Launch} {e : Env} {R : Room} {s : State} {m : MethodId} {args : Array Value} {below : List Frame} {meth : Method} {c : Code} {cells slots : Nat} {Q : State → Prop} {D : va_G} {cI cG cJ cO : ClassId} {K0 : Nat → Nat} {A : Nat → Prop} {L : List (Nat × Nat)} {ad : Nat → Nat → Nat} {ce : Nat → Nat → va_E} {Z M : STT} {r r' : Nat} {ns nr : Nat} {kd nd st : Nat → Int32} (F : CallFix p m c cL_isFair 18 s args BIG RL) (hK : va_K D vwCl (ktys cI cG cJ cO) s) (hO : OW A K0 s) (hL : ∀ f o, cid f o = true → (f, o) ∈ L) (hA : ∀ q, s.heap.size ≤ q → A q) (hfr : 6 ≤ R.frames) (hlo : 140 ≤ R.locals) (hc : cells ≤ R.cells ∧ slots ≤ R.slots) (hr : r ≤ 512) (hZ : RLn r Z M) (hN : NI Z) (m90 : (90, 0) ∈ L) (m91 : (91, 0) ∈ L) (m92 : (92, 0) ∈ L) (h90 : ce 90 0 = .inl (cI, ns, .inl kd)) (h91 : ce 91 0 = .inl (cI, ns, .inl nd)) (h92 : ce 92 0 = .inl (cI, nr, .inl st)) (ens : ns = (Z 1 0 0).toNatClampNeg) (enr : nr = (Z 1 0 1).toNatClampNeg) (ekd : ∀ k, k < ns → kd k = Z 7 0 k) (end_ : ∀ k, k < ns → nd k = Z 9 0 k) (est : ∀ k, k < nr → st k = Z 12 0 k) {j k : Nat} (hj : j < (Z 0 0 0).toNatClampNeg) (hk : k < ns) {b v4 v5 v6 v9 v10 v11 v12 v14 v16 : Int32} (hne : ∀ n, n < k → qb (Z 9 0 k &&& Z 6 j 0) n = true → ¬ b < 0 → ¬ EX Z j n < 0 ∧ EX Z j n < b) (kk : ∀ (S : STT) (H : Heap) (locs : List Loc) (ls : Array Slot), RLn r' S M → wk D A L ad (cK cI cJ ad ce S) s.heap H locs → lv_has ls 18 [(16, .int v16), (15, .int b), (14, .int v14), (13, .int (nI k)), (12, .int v12), (11, .int v11), (10, .int v10), (9, .int v9), (8, .int (Z 6 j 0)), (7, .int (nI j)), (6, .int v6), (5, .int v5), (4, .int v4), (3, .ref (ad 92 0)), (2, .ref (ad 91 0)), (1, .ref (ad 90 0)), (0, .ref (ad 0 0))] → W p l e R s m args below meth c H locs cells slots Q (F0 m 444 ls [])) : ∀ (n i : Nat) (S : STT) (H : Heap) (locs : List Loc) (ls : Array Slot), i + n = k → RLn r' S M → wk D A L ad (cK cI cJ ad ce S) s.heap H locs → lv_has ls 18 [(17, .int (nI i)), (16, .int v16), (15, .int b), (14, .int v14), (13, .int (nI k)), (12, .int v12), (11, .int v11), (10, .int v10), (9, .int v9), (8, .int (Z 6 j 0)), (7, .int (nI j)), (6, .int v6), (5, .int v5), (4, .int v4), (3, .ref (ad 92 0)), (2, .ref (ad 91 0)), (1, .ref (ad 90 0)), (0, .ref (ad 0 0))] → W p l e R s m args below meth c H locs cells slots Q (F0 m 383 ls []) := by
  obtain ⟨hx, hb, hml, hown, hts⟩ := F
  have hm12 := hZ.c.self.iv.m12
  have hj8 := hZ.c.self.iv.j8
  intro n
  induction n with
  | zero =>
    intro i S H locs ls hi hS hw hl
    refine lv_iload hx hb dL_isFair_383 (lv_at hl 0 rfl) ?_
    refine lv_iload hx hb dL_isFair_385 (lv_at hl 4 rfl) ?_
    refine lv_icmp_ge (tgt := 444) hx hb dL_isFair_387 (by decide) (fun _ => ?_) (fun h => absurd (nI_le (by omega) (by omega)) h)
    exact kk S H locs ls hS hw (lv_sub hl [1, 2, 3, 4, 5, 6, 7, 8, 9, 10, 11, 12, 13, 14, 15, 16, 17] rfl)
  | succ n ih =>
    intro i S H locs ls hi hS hw hl
    have hlt : ¬ nI k ≤ nI i := nI_ge (by omega) (by omega)
    by_cases hq : qb (Z 9 0 k &&& Z 6 j 0) i = true
    · refine lv_iload hx hb dL_isFair_383 (lv_at hl 0 rfl) ?_
      refine lv_iload hx hb dL_isFair_385 (lv_at hl 4 rfl) ?_
      refine lv_icmp_ge (tgt := 444) hx hb dL_isFair_387 (by decide) (fun h => absurd h hlt) (fun _ => ?_)
      refine lv_iload hx hb dL_isFair_390 (lv_at hl 9 rfl) ?_
      refine lv_aload_n hx hb dL_isFair_392 rfl (lv_at hl 15 rfl) ?_
      refine lv_iload hx hb dL_isFair_393 (lv_at hl 4 rfl) ?_
      refine r_ald ⟨hx, hb, hml, hown, hts⟩ hK hw (i := k) (v := Z 9 0 k) m91 (by decide) h91 (by omega) (by omega) (end_ k hk) dL_isFair_395 ?_
      refine lv_iand hx hb dL_isFair_396 ?_
      refine lv_iconst (v := 1) hx hb dL_isFair_397 (by decide) ?_
      refine lv_iload hx hb dL_isFair_398 (lv_at hl 0 rfl) ?_
      refine lv_ishl hx hb dL_isFair_400 ?_
      refine lv_iand hx hb dL_isFair_401 ?_
      refine lv_if_eq (tgt := 438) hx hb dL_isFair_402 (by decide) (fun h => absurd h (fun z => (bit_m (by omega)).mp z hq)) (fun _ => ?_)
      refine lv_iload hx hb dL_isFair_405 (lv_at hl 2 rfl) ?_
      refine lv_if_lt (tgt := 438) hx hb dL_isFair_407 (by decide) (fun c_1 => ?_) (fun c_1 => ?_)
      · refine lv_iinc (v := (nI (i + 1))) (lv' := [(17, .int (nI (i + 1))), (16, .int v16), (15, .int b), (14, .int v14), (13, .int (nI k)), (12, .int v12), (11, .int v11), (10, .int v10), (9, .int v9), (8, .int (Z 6 j 0)), (7, .int (nI j)), (6, .int v6), (5, .int v5), (4, .int v4), (3, .ref (ad 92 0)), (2, .ref (ad 91 0)), (1, .ref (ad 90 0)), (0, .ref (ad 0 0))]) hx hb dL_isFair_438 hl (k := 0) rfl (nI_1 _) (by decide) rfl (fun ls hl => ?_)
        refine lv_goto (tgt := 383) hx hb dL_isFair_441 (by decide) ?_
        exact ih (i + 1) S H locs ls (by omega) hS hw (lv_sub hl [0, 1, 2, 3, 4, 5, 6, 7, 8, 9, 10, 11, 12, 13, 14, 15, 16, 17] rfl)
      · refine lv_aload_n hx hb dL_isFair_410 rfl (lv_at hl 17 rfl) ?_
        refine lv_iload hx hb dL_isFair_411 (lv_at hl 10 rfl) ?_
        refine lv_iload hx hb dL_isFair_413 (lv_at hl 0 rfl) ?_
        refine lv_iconst (v := 2) hx hb dL_isFair_415 (by decide) ?_
        refine r_step ⟨hx, hb, hml, hown, hts⟩ hK hO hL hA hw hZ hS (j := j) (k := i) (w := 2) hj (by omega) (qb_r hq) (by decide) (v := EX Z j i) (w_s2 (by omega)) (cwV 3 hts (gB_V w_ml_L_81 w_im_X5_ofStep w_se_X5_ofStep w_in_X5 w_co_X5_ofStep) rfl rfl rfl (by decide +kernel) ⟨Nat.le_trans (Nat.le_of_ble_eq_true rfl) hfr, Nat.le_trans (Nat.le_of_ble_eq_true rfl) hlo⟩) hl.1 (Nat.le_of_ble_eq_true rfl) hc dL_isFair_416 (fun S H locs hS hw => ?_)
        refine lv_if_lt (tgt := 436) hx hb dL_isFair_419 (by decide) (fun h => absurd h (hne i (by omega) hq c_1).1) (fun _ => ?_)
        refine lv_aload_n hx hb dL_isFair_422 rfl (lv_at hl 17 rfl) ?_
        refine lv_iload hx hb dL_isFair_423 (lv_at hl 10 rfl) ?_
        refine lv_iload hx hb dL_isFair_425 (lv_at hl 0 rfl) ?_
        refine lv_iconst (v := 2) hx hb dL_isFair_427 (by decide) ?_
        refine r_step ⟨hx, hb, hml, hown, hts⟩ hK hO hL hA hw hZ hS (j := j) (k := i) (w := 2) hj (by omega) (qb_r hq) (by decide) (v := EX Z j i) (w_s2 (by omega)) (cwV 3 hts (gB_V w_ml_L_81 w_im_X5_ofStep w_se_X5_ofStep w_in_X5 w_co_X5_ofStep) rfl rfl rfl (by decide +kernel) ⟨Nat.le_trans (Nat.le_of_ble_eq_true rfl) hfr, Nat.le_trans (Nat.le_of_ble_eq_true rfl) hlo⟩) hl.1 (Nat.le_of_ble_eq_true rfl) hc dL_isFair_428 (fun S H locs hS hw => ?_)
        refine lv_iload hx hb dL_isFair_431 (lv_at hl 2 rfl) ?_
        refine lv_icmp_lt (tgt := 438) hx hb dL_isFair_433 (by decide) (fun _ => ?_) (fun h => absurd (hne i (by omega) hq c_1).2 h)
        refine lv_iinc (v := (nI (i + 1))) (lv' := [(17, .int (nI (i + 1))), (16, .int v16), (15, .int b), (14, .int v14), (13, .int (nI k)), (12, .int v12), (11, .int v11), (10, .int v10), (9, .int v9), (8, .int (Z 6 j 0)), (7, .int (nI j)), (6, .int v6), (5, .int v5), (4, .int v4), (3, .ref (ad 92 0)), (2, .ref (ad 91 0)), (1, .ref (ad 90 0)), (0, .ref (ad 0 0))]) hx hb dL_isFair_438 hl (k := 0) rfl (nI_1 _) (by decide) rfl (fun ls hl => ?_)
        refine lv_goto (tgt := 383) hx hb dL_isFair_441 (by decide) ?_
        exact ih (i + 1) S H locs ls (by omega) hS hw (lv_sub hl [0, 1, 2, 3, 4, 5, 6, 7, 8, 9, 10, 11, 12, 13, 14, 15, 16, 17] rfl)
    · refine lv_iload hx hb dL_isFair_383 (lv_at hl 0 rfl) ?_
      refine lv_iload hx hb dL_isFair_385 (lv_at hl 4 rfl) ?_
      refine lv_icmp_ge (tgt := 444) hx hb dL_isFair_387 (by decide) (fun h => absurd h hlt) (fun _ => ?_)
      refine lv_iload hx hb dL_isFair_390 (lv_at hl 9 rfl) ?_
      refine lv_aload_n hx hb dL_isFair_392 rfl (lv_at hl 15 rfl) ?_
      refine lv_iload hx hb dL_isFair_393 (lv_at hl 4 rfl) ?_
      refine r_ald ⟨hx, hb, hml, hown, hts⟩ hK hw (i := k) (v := Z 9 0 k) m91 (by decide) h91 (by omega) (by omega) (end_ k hk) dL_isFair_395 ?_
      refine lv_iand hx hb dL_isFair_396 ?_
      refine lv_iconst (v := 1) hx hb dL_isFair_397 (by decide) ?_
      refine lv_iload hx hb dL_isFair_398 (lv_at hl 0 rfl) ?_
      refine lv_ishl hx hb dL_isFair_400 ?_
      refine lv_iand hx hb dL_isFair_401 ?_
      refine lv_if_eq (tgt := 438) hx hb dL_isFair_402 (by decide) (fun _ => ?_) (fun h => absurd ((bit_m (by omega)).mpr hq) h)
      refine lv_iinc (v := (nI (i + 1))) (lv' := [(17, .int (nI (i + 1))), (16, .int v16), (15, .int b), (14, .int v14), (13, .int (nI k)), (12, .int v12), (11, .int v11), (10, .int v10), (9, .int v9), (8, .int (Z 6 j 0)), (7, .int (nI j)), (6, .int v6), (5, .int v5), (4, .int v4), (3, .ref (ad 92 0)), (2, .ref (ad 91 0)), (1, .ref (ad 90 0)), (0, .ref (ad 0 0))]) hx hb dL_isFair_438 hl (k := 0) rfl (nI_1 _) (by decide) rfl (fun ls hl => ?_)
      refine lv_goto (tgt := 383) hx hb dL_isFair_441 (by decide) ?_
      exact ih (i + 1) S H locs ls (by omega) hS hw (lv_sub hl [0, 1, 2, 3, 4, 5, 6, 7, 8, 9, 10, 11, 12, 13, 14, 15, 16, 17] rfl)

set_option maxHeartbeats 2000000 in
set_option maxRecDepth 100000 in
theorem fair_kN {p : Program} {l : Launch} {e : Env} {R : Room} {s : State} {m : MethodId} {args : Array Value} {below : List Frame} {meth : Method} {c : Code} {cells slots : Nat} {Q : State → Prop} {D : va_G} {cI cG cJ cO : ClassId} {K0 : Nat → Nat} {A : Nat → Prop} {L : List (Nat × Nat)} {ad : Nat → Nat → Nat} {ce : Nat → Nat → va_E} {Z M : STT} {r r' : Nat} {ns nr : Nat} {kd nd st : Nat → Int32} (F : CallFix p m c cL_isFair 18 s args BIG RL) (hK : va_K D vwCl (ktys cI cG cJ cO) s) (hO : OW A K0 s) (hL : ∀ f o, cid f o = true → (f, o) ∈ L) (hA : ∀ q, s.heap.size ≤ q → A q) (hfr : 6 ≤ R.frames) (hlo : 140 ≤ R.locals) (hc : cells ≤ R.cells ∧ slots ≤ R.slots) (hr : r ≤ 512) (hZ : RLn r Z M) (hN : NI Z) (m90 : (90, 0) ∈ L) (m91 : (91, 0) ∈ L) (m92 : (92, 0) ∈ L) (h90 : ce 90 0 = .inl (cI, ns, .inl kd)) (h91 : ce 91 0 = .inl (cI, ns, .inl nd)) (h92 : ce 92 0 = .inl (cI, nr, .inl st)) (ens : ns = (Z 1 0 0).toNatClampNeg) (enr : nr = (Z 1 0 1).toNatClampNeg) (ekd : ∀ k, k < ns → kd k = Z 7 0 k) (end_ : ∀ k, k < ns → nd k = Z 9 0 k) (est : ∀ k, k < nr → st k = Z 12 0 k) {j c0 : Nat} (hj : j < (Z 0 0 0).toNatClampNeg) (hl6 :  Z 6 j 2 = 0) {v6 : Int32} (kk : ∀ (S : STT) (H : Heap) (locs : List Loc) (ls : Array Slot), RLn r' S M → wk D A L ad (cK cI cJ ad ce S) s.heap H locs → lv_has ls 18 [(12, .int (KW Z j ns)), (11, .int (GR Z j ns)), (10, .int (DN Z j ns)), (9, .int 0), (8, .int (Z 6 j 0)), (7, .int (nI j)), (6, .int v6), (5, .int (nI (c0 + cb (Z 27 j) ns))), (4, .int (Z 0 0 1)), (3, .ref (ad 92 0)), (2, .ref (ad 91 0)), (1, .ref (ad 90 0)), (0, .ref (ad 0 0))] → W p l e R s m args below meth c H locs cells slots Q (F0 m 450 ls [])) : ∀ (n i : Nat) (S : STT) (H : Heap) (locs : List Loc) (ls : Array Slot), i + n = ns → RLn r' S M → wk D A L ad (cK cI cJ ad ce S) s.heap H locs → lv_has ls 18 [(13, .int (nI i)), (12, .int (KW Z j i)), (11, .int (GR Z j i)), (10, .int (DN Z j i)), (9, .int 0), (8, .int (Z 6 j 0)), (7, .int (nI j)), (6, .int v6), (5, .int (nI (c0 + cb (Z 27 j) i))), (4, .int (Z 0 0 1)), (3, .ref (ad 92 0)), (2, .ref (ad 91 0)), (1, .ref (ad 90 0)), (0, .ref (ad 0 0))] → W p l e R s m args below meth c H locs cells slots Q (F0 m 66 ls []) := by
  obtain ⟨hx, hb, hml, hown, hts⟩ := F
  have hm12 := hZ.c.self.iv.m12
  have hj8 := hZ.c.self.iv.j8
  intro n
  induction n with
  | zero =>
    intro i S H locs ls hi hS hw hl
    obtain rfl : i = ns := hi
    refine lv_iload hx hb dL_isFair_66 (lv_at hl 0 rfl) ?_
    refine lv_aload_n hx hb dL_isFair_68 rfl (lv_at hl 12 rfl) ?_
    refine r_len ⟨hx, hb, hml, hown, hts⟩ hK hw m90 (by decide) h90 dL_isFair_69 ?_
    refine lv_icmp_ge (tgt := 450) hx hb dL_isFair_70 (by decide) (fun _ => ?_) (fun h => absurd (nI_le (Nat.le_refl _) (by omega)) h)
    exact kk S H locs ls hS hw (lv_sub hl [1, 2, 3, 4, 5, 6, 7, 8, 9, 10, 11, 12, 13] rfl)
  | succ n ih =>
    intro i S H locs ls hi hS hw hl
    have hlt : ¬ nI ns ≤ nI i := nI_ge (by omega) (by omega)
    have hi12 : i < 12 := by omega
    by_cases hq : qb (Z 6 j 0) i = true
    · have eDN : DN Z j (i + 1) = DN Z j i ||| (if Z 24 j i = 2 then 1 <<< (nI i &&& 31) else 0) := if_pos hq
      have eCB : nI (c0 + cb (Z 27 j) (i + 1)) = nI (c0 + cb (Z 27 j) i) + (if Z 27 j i < 0 then 0 else 1) := by rw [seat_add, Nat.add_assoc]; rfl
      have b2 : ¬ Z 27 j i < 0 → kd i = 2 ∧ Z 27 j i = nI (Z 27 j i).toNatClampNeg ∧ (Z 27 j i).toNatClampNeg < (Z 3 0 0).toNatClampNeg ∧ Z 17 0 (Z 27 j i).toNatClampNeg = nI i := fun z => by
        have nb : ¬ Z 27 j i = -1 := fun y => z (by rw [y]; decide)
        obtain ⟨y1, y2, y3⟩ := hN.2.1 j hj i hi12 nb
        refine ⟨by rw [ekd i (by omega)]; exact y1, cn_nn z, ?_, y2⟩
        rcases hZ.c.self.iv.bk j hj i hi12 with y | ⟨w1, w2, -⟩
        · exact absurd y nb
        · have z1 := cnt_i w1; have z2 := cnt_i hZ.c.self.iv.ci.2.2.2.1.1; omega
      have eKW : KW Z j (i + 1) = KW Z j i &&& (if EX Z j i < 0 then 0 else 1) := if_pos hq
      have eGR : GR Z j (i + 1) = (if GR Z j i < EX Z j i then EX Z j i else GR Z j i) := if_pos hq
      rcases fair_o hr hZ hN hj hl6 hi12 hq with ⟨e1, e2, z24⟩ | ⟨f1, f2, f3, f4, f5, f6⟩
      · have eDN : DN Z j (i + 1) = DN Z j i ||| 0 := by rw [eDN, z24]; rfl
        have eKW : KW Z j (i + 1) = KW Z j i &&& 0 := by rw [eKW, e2]; rfl
        have eGR : GR Z j (i + 1) = (if GR Z j i < (-1) then (-1) else GR Z j i) := by rw [eGR, e2]
        refine lv_iload hx hb dL_isFair_66 (lv_at hl 0 rfl) ?_
        refine lv_aload_n hx hb dL_isFair_68 rfl (lv_at hl 12 rfl) ?_
        refine r_len ⟨hx, hb, hml, hown, hts⟩ hK hw m90 (by decide) h90 dL_isFair_69 ?_
        refine lv_icmp_ge (tgt := 450) hx hb dL_isFair_70 (by decide) (fun h => absurd h hlt) (fun _ => ?_)
        refine lv_iload hx hb dL_isFair_73 (lv_at hl 5 rfl) ?_
        refine lv_iload hx hb dL_isFair_75 (lv_at hl 0 rfl) ?_
        refine lv_ishr hx hb dL_isFair_77 ?_
        refine lv_iconst (v := 1) hx hb dL_isFair_78 (by decide) ?_
        refine lv_iand hx hb dL_isFair_79 ?_
        refine lv_if_ne (tgt := 86) hx hb dL_isFair_80 (by decide) (fun _ => ?_) (fun h => absurd h (fun z => (bit_z (by omega)).mp z hq))
        refine lv_aload_n hx hb dL_isFair_86 rfl (lv_at hl 13 rfl) ?_
        refine lv_iload hx hb dL_isFair_87 (lv_at hl 6 rfl) ?_
        refine lv_iload hx hb dL_isFair_89 (lv_at hl 0 rfl) ?_
        refine lv_iconst (v := 0) hx hb dL_isFair_91 (by decide) ?_
        refine r_step ⟨hx, hb, hml, hown, hts⟩ hK hO hL hA hw hZ hS (j := j) (k := i) (w := 0) hj hi12 hq (by decide) (v := 0) ((w_s0 hi12).trans z24) (cwV 3 hts (gB_V w_ml_L_81 w_im_X5_ofStep w_se_X5_ofStep w_in_X5 w_co_X5_ofStep) rfl rfl rfl (by decide +kernel) ⟨Nat.le_trans (Nat.le_of_ble_eq_true rfl) hfr, Nat.le_trans (Nat.le_of_ble_eq_true rfl) hlo⟩) hl.1 (Nat.le_of_ble_eq_true rfl) hc dL_isFair_92 (fun S H locs hS hw => ?_)
        refine lv_istore (lv' := [(14, .int 0), (13, .int (nI i)), (12, .int (KW Z j i)), (11, .int (GR Z j i)), (10, .int (DN Z j i)), (9, .int 0), (8, .int (Z 6 j 0)), (7, .int (nI j)), (6, .int v6), (5, .int (nI (c0 + cb (Z 27 j) i))), (4, .int (Z 0 0 1)), (3, .ref (ad 92 0)), (2, .ref (ad 91 0)), (1, .ref (ad 90 0)), (0, .ref (ad 0 0))]) hx hb dL_isFair_95 hl (by decide) rfl (fun ls hl => ?_)
        refine lv_aload_n hx hb dL_isFair_97 rfl (lv_at hl 14 rfl) ?_
        refine lv_iload hx hb dL_isFair_98 (lv_at hl 7 rfl) ?_
        refine lv_iload hx hb dL_isFair_100 (lv_at hl 1 rfl) ?_
        refine lv_iconst (v := 1) hx hb dL_isFair_102 (by decide) ?_
        refine r_step ⟨hx, hb, hml, hown, hts⟩ hK hO hL hA hw hZ hS (j := j) (k := i) (w := 1) hj hi12 hq (by decide) (v := (-1)) ((w_s1 hi12).trans e1) (cwV 3 hts (gB_V w_ml_L_81 w_im_X5_ofStep w_se_X5_ofStep w_in_X5 w_co_X5_ofStep) rfl rfl rfl (by decide +kernel) ⟨Nat.le_trans (Nat.le_of_ble_eq_true rfl) hfr, Nat.le_trans (Nat.le_of_ble_eq_true rfl) hlo⟩) hl.1 (Nat.le_of_ble_eq_true rfl) hc dL_isFair_103 (fun S H locs hS hw => ?_)
        refine lv_istore (lv' := [(15, .int (-1)), (14, .int 0), (13, .int (nI i)), (12, .int (KW Z j i)), (11, .int (GR Z j i)), (10, .int (DN Z j i)), (9, .int 0), (8, .int (Z 6 j 0)), (7, .int (nI j)), (6, .int v6), (5, .int (nI (c0 + cb (Z 27 j) i))), (4, .int (Z 0 0 1)), (3, .ref (ad 92 0)), (2, .ref (ad 91 0)), (1, .ref (ad 90 0)), (0, .ref (ad 0 0))]) hx hb dL_isFair_106 hl (by decide) rfl (fun ls hl => ?_)
        refine lv_aload_n hx hb dL_isFair_108 rfl (lv_at hl 15 rfl) ?_
        refine lv_iload hx hb dL_isFair_109 (lv_at hl 8 rfl) ?_
        refine lv_iload hx hb dL_isFair_111 (lv_at hl 2 rfl) ?_
        refine lv_iconst (v := 2) hx hb dL_isFair_113 (by decide) ?_
        refine r_step ⟨hx, hb, hml, hown, hts⟩ hK hO hL hA hw hZ hS (j := j) (k := i) (w := 2) hj hi12 hq (by decide) (v := (-1)) ((w_s2 hi12).trans e2) (cwV 3 hts (gB_V w_ml_L_81 w_im_X5_ofStep w_se_X5_ofStep w_in_X5 w_co_X5_ofStep) rfl rfl rfl (by decide +kernel) ⟨Nat.le_trans (Nat.le_of_ble_eq_true rfl) hfr, Nat.le_trans (Nat.le_of_ble_eq_true rfl) hlo⟩) hl.1 (Nat.le_of_ble_eq_true rfl) hc dL_isFair_114 (fun S H locs hS hw => ?_)
        refine lv_istore (lv' := [(16, .int (-1)), (15, .int (-1)), (14, .int 0), (13, .int (nI i)), (12, .int (KW Z j i)), (11, .int (GR Z j i)), (10, .int (DN Z j i)), (9, .int 0), (8, .int (Z 6 j 0)), (7, .int (nI j)), (6, .int v6), (5, .int (nI (c0 + cb (Z 27 j) i))), (4, .int (Z 0 0 1)), (3, .ref (ad 92 0)), (2, .ref (ad 91 0)), (1, .ref (ad 90 0)), (0, .ref (ad 0 0))]) hx hb dL_isFair_117 hl (by decide) rfl (fun ls hl => ?_)
        refine lv_iload hx hb dL_isFair_119 (lv_at hl 11 rfl) ?_
        refine lv_aload_n hx hb dL_isFair_121 rfl (lv_at hl 16 rfl) ?_
        refine lv_iload hx hb dL_isFair_122 (lv_at hl 9 rfl) ?_
        refine lv_iload hx hb dL_isFair_124 (lv_at hl 3 rfl) ?_
        refine lv_iconst (v := 3) hx hb dL_isFair_126 (by decide) ?_
        refine r_step ⟨hx, hb, hml, hown, hts⟩ hK hO hL hA hw hZ hS (j := j) (k := i) (w := 3) hj hi12 hq (by decide) (v := (Z 27 j i)) (w_s3 hi12) (cwV 3 hts (gB_V w_ml_L_81 w_im_X5_ofStep w_se_X5_ofStep w_in_X5 w_co_X5_ofStep) rfl rfl rfl (by decide +kernel) ⟨Nat.le_trans (Nat.le_of_ble_eq_true rfl) hfr, Nat.le_trans (Nat.le_of_ble_eq_true rfl) hlo⟩) hl.1 (Nat.le_of_ble_eq_true rfl) hc dL_isFair_127 (fun S H locs hS hw => ?_)
        have k138_c_1 : W p l e R s m args below meth c H locs cells slots Q (F0 m 138 ls [.int (if (Z 27 j i) < 0 then 0 else 1), .int (nI (c0 + cb (Z 27 j) i))]) := by
          refine lv_iadd hx hb dL_isFair_138 ?_
          refine lv_istore (lv' := [(5, .int ((nI (c0 + cb (Z 27 j) i)) + (if (Z 27 j i) < 0 then 0 else 1))), (16, .int (-1)), (15, .int (-1)), (14, .int 0), (13, .int (nI i)), (12, .int (KW Z j i)), (11, .int (GR Z j i)), (10, .int (DN Z j i)), (9, .int 0), (8, .int (Z 6 j 0)), (7, .int (nI j)), (6, .int v6), (4, .int (Z 0 0 1)), (3, .ref (ad 92 0)), (2, .ref (ad 91 0)), (1, .ref (ad 90 0)), (0, .ref (ad 0 0))]) hx hb dL_isFair_139 hl (by decide) rfl (fun ls hl => ?_)
          refine lv_iload hx hb dL_isFair_141 (lv_at hl 7 rfl) ?_
          refine lv_iload hx hb dL_isFair_143 (lv_at hl 3 rfl) ?_
          refine lv_iconst (v := 2) hx hb dL_isFair_145 (by decide) ?_
          refine lv_icmp_ne (tgt := 156) hx hb dL_isFair_146 (by decide) (fun _ => ?_) (fun h => absurd h (by decide))
          refine lv_iconst (v := 0) hx hb dL_isFair_156 (by decide) ?_
          refine lv_ior hx hb dL_isFair_157 ?_
          refine lv_istore (lv' := [(10, .int ((DN Z j i) ||| 0)), (5, .int ((nI (c0 + cb (Z 27 j) i)) + (if (Z 27 j i) < 0 then 0 else 1))), (16, .int (-1)), (15, .int (-1)), (14, .int 0), (13, .int (nI i)), (12, .int (KW Z j i)), (11, .int (GR Z j i)), (9, .int 0), (8, .int (Z 6 j 0)), (7, .int (nI j)), (6, .int v6), (4, .int (Z 0 0 1)), (3, .ref (ad 92 0)), (2, .ref (ad 91 0)), (1, .ref (ad 90 0)), (0, .ref (ad 0 0))]) hx hb dL_isFair_158 hl (by decide) rfl (fun ls hl => ?_)
          refine lv_aload_n hx hb dL_isFair_160 rfl (lv_at hl 16 rfl) ?_
          refine lv_iload hx hb dL_isFair_161 (lv_at hl 10 rfl) ?_
          refine lv_iload hx hb dL_isFair_163 (lv_at hl 5 rfl) ?_
          refine lv_iconst (v := 3) hx hb dL_isFair_165 (by decide) ?_
          refine r_step ⟨hx, hb, hml, hown, hts⟩ hK hO hL hA hw hZ hS (j := j) (k := i) (w := 3) hj hi12 hq (by decide) (v := (Z 27 j i)) (w_s3 hi12) (cwV 3 hts (gB_V w_ml_L_81 w_im_X5_ofStep w_se_X5_ofStep w_in_X5 w_co_X5_ofStep) rfl rfl rfl (by decide +kernel) ⟨Nat.le_trans (Nat.le_of_ble_eq_true rfl) hfr, Nat.le_trans (Nat.le_of_ble_eq_true rfl) hlo⟩) hl.1 (Nat.le_of_ble_eq_true rfl) hc dL_isFair_166 (fun S H locs hS hw => ?_)
          have k201_c_2 : ∀ (S : STT) (H : Heap) (locs : List Loc), RLn r' S M → wk D A L ad (cK cI cJ ad ce S) s.heap H locs → W p l e R s m args below meth c H locs cells slots Q (F0 m 201 ls []) := by
            intro S H locs hS hw
            refine lv_iload hx hb dL_isFair_201 (lv_at hl 8 rfl) ?_
            refine lv_if_eq (tgt := 237) hx hb dL_isFair_203 (by decide) (fun _ => ?_) (fun h => absurd (by decide) h)
            refine lv_iload hx hb dL_isFair_237 (lv_at hl 6 rfl) ?_
            refine lv_iload hx hb dL_isFair_239 (lv_at hl 2 rfl) ?_
            refine lv_if_lt (tgt := 248) hx hb dL_isFair_241 (by decide) (fun _ => ?_) (fun h => absurd (by decide) h)
            refine lv_iconst (v := 0) hx hb dL_isFair_248 (by decide) ?_
            refine lv_iand hx hb dL_isFair_249 ?_
            refine lv_istore (lv' := [(12, .int ((KW Z j i) &&& 0)), (10, .int ((DN Z j i) ||| 0)), (5, .int ((nI (c0 + cb (Z 27 j) i)) + (if (Z 27 j i) < 0 then 0 else 1))), (16, .int (-1)), (15, .int (-1)), (14, .int 0), (13, .int (nI i)), (11, .int (GR Z j i)), (9, .int 0), (8, .int (Z 6 j 0)), (7, .int (nI j)), (6, .int v6), (4, .int (Z 0 0 1)), (3, .ref (ad 92 0)), (2, .ref (ad 91 0)), (1, .ref (ad 90 0)), (0, .ref (ad 0 0))]) hx hb dL_isFair_250 hl (by decide) rfl (fun ls hl => ?_)
            refine lv_iload hx hb dL_isFair_252 (lv_at hl 7 rfl) ?_
            refine lv_iload hx hb dL_isFair_254 (lv_at hl 3 rfl) ?_
            refine va_mmax hx hb (hml.trans hl.1.symm) hown (hts _ w_ml_L_65) (hts _ w_st_max) (hts _ w_in_J9) (hts _ w_co_max) (Nat.le_trans (Nat.le_of_ble_eq_true rfl) hfr) (Nat.le_trans (Nat.le_of_ble_eq_true rfl) hlo) hc.1 hc.2 dL_isFair_256 ?_
            refine lv_istore (lv' := [(11, .int (if (GR Z j i) < (-1) then (-1) else (GR Z j i))), (12, .int ((KW Z j i) &&& 0)), (10, .int ((DN Z j i) ||| 0)), (5, .int ((nI (c0 + cb (Z 27 j) i)) + (if (Z 27 j i) < 0 then 0 else 1))), (16, .int (-1)), (15, .int (-1)), (14, .int 0), (13, .int (nI i)), (9, .int 0), (8, .int (Z 6 j 0)), (7, .int (nI j)), (6, .int v6), (4, .int (Z 0 0 1)), (3, .ref (ad 92 0)), (2, .ref (ad 91 0)), (1, .ref (ad 90 0)), (0, .ref (ad 0 0))]) hx hb dL_isFair_259 hl (by decide) rfl (fun ls hl => ?_)
            refine lv_iload hx hb dL_isFair_261 (lv_at hl 5 rfl) ?_
            refine lv_if_ge (tgt := 270) hx hb dL_isFair_263 (by decide) (fun h => absurd h (by decide)) (fun _ => ?_)
            refine lv_iconst (v := 1) hx hb dL_isFair_266 (by decide) ?_
            refine lv_goto (tgt := 271) hx hb dL_isFair_267 (by decide) ?_
            refine lv_iload hx hb dL_isFair_271 (lv_at hl 4 rfl) ?_
            refine lv_if_ge (tgt := 280) hx hb dL_isFair_273 (by decide) (fun h => absurd h (by decide)) (fun _ => ?_)
            refine lv_iconst (v := 1) hx hb dL_isFair_276 (by decide) ?_
            refine lv_goto (tgt := 281) hx hb dL_isFair_277 (by decide) ?_
            refine lv_icmp_ne (tgt := 314) hx hb dL_isFair_281 (by decide) (fun h => absurd (by decide) h) (fun _ => ?_)
            refine lv_iload hx hb dL_isFair_284 (lv_at hl 5 rfl) ?_
            refine lv_if_lt (tgt := 308) hx hb dL_isFair_286 (by decide) (fun _ => ?_) (fun h => absurd (by decide) h)
            refine lv_iload hx hb dL_isFair_308 (lv_at hl 6 rfl) ?_
            refine lv_iconst (v := 3) hx hb dL_isFair_310 (by decide) ?_
            refine lv_icmp_ne (tgt := 316) hx hb dL_isFair_311 (by decide) (fun _ => ?_) (fun h => absurd h (by decide))
            refine lv_iload hx hb dL_isFair_316 (lv_at hl 5 rfl) ?_
            refine lv_if_lt (tgt := 380) hx hb dL_isFair_318 (by decide) (fun _ => ?_) (fun h => absurd (by decide) h)
            refine lv_iconst (v := 0) hx hb dL_isFair_380 (by decide) ?_
            refine lv_istore (lv' := [(17, .int 0), (11, .int (if (GR Z j i) < (-1) then (-1) else (GR Z j i))), (12, .int ((KW Z j i) &&& 0)), (10, .int ((DN Z j i) ||| 0)), (5, .int ((nI (c0 + cb (Z 27 j) i)) + (if (Z 27 j i) < 0 then 0 else 1))), (16, .int (-1)), (15, .int (-1)), (14, .int 0), (13, .int (nI i)), (9, .int 0), (8, .int (Z 6 j 0)), (7, .int (nI j)), (6, .int v6), (4, .int (Z 0 0 1)), (3, .ref (ad 92 0)), (2, .ref (ad 91 0)), (1, .ref (ad 90 0)), (0, .ref (ad 0 0))]) hx hb dL_isFair_381 hl (by decide) rfl (fun ls hl => ?_)
            refine fair_need (r' := r') ⟨hx, hb, hml, hown, hts⟩ hK hO hL hA hfr hlo hc hr hZ hN m90 m91 m92 h90 h91 h92 ens enr ekd end_ est hj (show i < ns by omega) (fun n _ _ z => absurd (by decide) z) ?_ i 0 S H locs ls (Nat.zero_add _) hS hw (lv_sub hl [0, 5, 6, 7, 8, 2, 1, 3, 9, 10, 11, 12, 4, 13, 14, 15, 16, 17] rfl)
            intro S H locs ls hS hw hl
            refine lv_iinc (v := (nI (i + 1))) (lv' := [(13, .int (nI (i + 1))), (16, .int (-1)), (15, .int (-1)), (14, .int 0), (12, .int ((KW Z j i) &&& 0)), (11, .int (if (GR Z j i) < (-1) then (-1) else (GR Z j i))), (10, .int ((DN Z j i) ||| 0)), (9, .int 0), (8, .int (Z 6 j 0)), (7, .int (nI j)), (6, .int v6), (5, .int ((nI (c0 + cb (Z 27 j) i)) + (if (Z 27 j i) < 0 then 0 else 1))), (4, .int (Z 0 0 1)), (3, .ref (ad 92 0)), (2, .ref (ad 91 0)), (1, .ref (ad 90 0)), (0, .ref (ad 0 0))]) hx hb dL_isFair_444 hl (k := 3) rfl (nI_1 _) (by decide) rfl (fun ls hl => ?_)
            refine lv_goto (tgt := 66) hx hb dL_isFair_447 (by decide) ?_
            refine ih (i + 1) S H locs ls (by omega) hS hw ?_
            rw [eKW, eGR, eDN, eCB]
            exact lv_sub hl [0, 4, 5, 6, 7, 8, 9, 10, 11, 12, 13, 14, 15, 16] rfl
          refine lv_if_lt (tgt := 201) hx hb dL_isFair_169 (by decide) (fun c_2 => ?_) (fun c_2 => ?_)
          · exact k201_c_2 S H locs hS hw
          · refine lv_aload_n hx hb dL_isFair_172 rfl (lv_at hl 15 rfl) ?_
            refine lv_iload hx hb dL_isFair_173 (lv_at hl 5 rfl) ?_
            refine r_ald ⟨hx, hb, hml, hown, hts⟩ hK hw (i := i) (v := kd i) m90 (by decide) h90 (by omega) (by omega) rfl dL_isFair_175 ?_
            refine lv_iconst (v := 2) hx hb dL_isFair_176 (by decide) ?_
            refine lv_icmp_ne (tgt := 199) hx hb dL_isFair_177 (by decide) (fun h => absurd (b2 c_2).1 h) (fun _ => ?_)
            refine lv_aload_n hx hb dL_isFair_180 rfl (lv_at hl 16 rfl) ?_
            refine lv_aload_n hx hb dL_isFair_181 rfl (lv_at hl 16 rfl) ?_
            refine lv_iload hx hb dL_isFair_182 (lv_at hl 10 rfl) ?_
            refine lv_iload hx hb dL_isFair_184 (lv_at hl 5 rfl) ?_
            refine lv_iconst (v := 3) hx hb dL_isFair_186 (by decide) ?_
            refine r_step ⟨hx, hb, hml, hown, hts⟩ hK hO hL hA hw hZ hS (j := j) (k := i) (w := 3) hj hi12 hq (by decide) (v := nI (Z 27 j i).toNatClampNeg) ((w_s3 hi12).trans (b2 c_2).2.1) (cwV 3 hts (gB_V w_ml_L_81 w_im_X5_ofStep w_se_X5_ofStep w_in_X5 w_co_X5_ofStep) rfl rfl rfl (by decide +kernel) ⟨Nat.le_trans (Nat.le_of_ble_eq_true rfl) hfr, Nat.le_trans (Nat.le_of_ble_eq_true rfl) hlo⟩) hl.1 (Nat.le_of_ble_eq_true rfl) hc dL_isFair_187 (fun S H locs hS hw => ?_)
            refine lv_iconst (v := 0) hx hb dL_isFair_190 (by decide) ?_
            refine r_sess ⟨hx, hb, hml, hown, hts⟩ hK hO hL hA hw hZ hS (q := ((Z 27 j i).toNatClampNeg)) (w := 0) (b2 c_2).2.2.1 (by decide) (v := nI i) ((w_e0 (by have := hZ.c.self.iv.e20; have := (b2 c_2).2.2.1; omega)).trans (b2 c_2).2.2.2) (cwV 2 hts (gB_V w_ml_L_84 w_im_X5_ofSession w_se_X5_ofSession w_in_X5 w_co_X5_ofSession) rfl rfl rfl (by decide +kernel) ⟨Nat.le_trans (Nat.le_of_ble_eq_true rfl) hfr, Nat.le_trans (Nat.le_of_ble_eq_true rfl) hlo⟩) hl.1 (Nat.le_of_ble_eq_true rfl) hc dL_isFair_191 (fun H locs hw => ?_)
            refine lv_iload hx hb dL_isFair_194 (lv_at hl 5 rfl) ?_
            refine lv_icmp_eq (tgt := 201) hx hb dL_isFair_196 (by decide) (fun _ => ?_) (fun h => absurd rfl h)
            exact k201_c_2 S H locs hS hw
        refine lv_if_lt (tgt := 137) hx hb dL_isFair_130 (by decide) (fun c_1 => ?_) (fun c_1 => ?_)
        · rw [if_pos c_1] at k138_c_1
          refine lv_iconst (v := 0) hx hb dL_isFair_137 (by decide) ?_
          exact k138_c_1
        · rw [if_neg c_1] at k138_c_1
          refine lv_iconst (v := 1) hx hb dL_isFair_133 (by decide) ?_
          refine lv_goto (tgt := 138) hx hb dL_isFair_134 (by decide) ?_
          exact k138_c_1
      · have eKW : KW Z j (i + 1) = KW Z j i &&& 1 := by rw [eKW, if_neg (nneg f2)]
        rcases f5 with ⟨z24, y1⟩ | ⟨z24, y1, y2⟩ | ⟨z24, y1⟩
        · have eDN : DN Z j (i + 1) = DN Z j i ||| 0 := by rw [eDN, z24]; rfl
          refine lv_iload hx hb dL_isFair_66 (lv_at hl 0 rfl) ?_
          refine lv_aload_n hx hb dL_isFair_68 rfl (lv_at hl 12 rfl) ?_
          refine r_len ⟨hx, hb, hml, hown, hts⟩ hK hw m90 (by decide) h90 dL_isFair_69 ?_
          refine lv_icmp_ge (tgt := 450) hx hb dL_isFair_70 (by decide) (fun h => absurd h hlt) (fun _ => ?_)
          refine lv_iload hx hb dL_isFair_73 (lv_at hl 5 rfl) ?_
          refine lv_iload hx hb dL_isFair_75 (lv_at hl 0 rfl) ?_
          refine lv_ishr hx hb dL_isFair_77 ?_
          refine lv_iconst (v := 1) hx hb dL_isFair_78 (by decide) ?_
          refine lv_iand hx hb dL_isFair_79 ?_
          refine lv_if_ne (tgt := 86) hx hb dL_isFair_80 (by decide) (fun _ => ?_) (fun h => absurd h (fun z => (bit_z (by omega)).mp z hq))
          refine lv_aload_n hx hb dL_isFair_86 rfl (lv_at hl 13 rfl) ?_
          refine lv_iload hx hb dL_isFair_87 (lv_at hl 6 rfl) ?_
          refine lv_iload hx hb dL_isFair_89 (lv_at hl 0 rfl) ?_
          refine lv_iconst (v := 0) hx hb dL_isFair_91 (by decide) ?_
          refine r_step ⟨hx, hb, hml, hown, hts⟩ hK hO hL hA hw hZ hS (j := j) (k := i) (w := 0) hj hi12 hq (by decide) (v := 0) ((w_s0 hi12).trans z24) (cwV 3 hts (gB_V w_ml_L_81 w_im_X5_ofStep w_se_X5_ofStep w_in_X5 w_co_X5_ofStep) rfl rfl rfl (by decide +kernel) ⟨Nat.le_trans (Nat.le_of_ble_eq_true rfl) hfr, Nat.le_trans (Nat.le_of_ble_eq_true rfl) hlo⟩) hl.1 (Nat.le_of_ble_eq_true rfl) hc dL_isFair_92 (fun S H locs hS hw => ?_)
          refine lv_istore (lv' := [(14, .int 0), (13, .int (nI i)), (12, .int (KW Z j i)), (11, .int (GR Z j i)), (10, .int (DN Z j i)), (9, .int 0), (8, .int (Z 6 j 0)), (7, .int (nI j)), (6, .int v6), (5, .int (nI (c0 + cb (Z 27 j) i))), (4, .int (Z 0 0 1)), (3, .ref (ad 92 0)), (2, .ref (ad 91 0)), (1, .ref (ad 90 0)), (0, .ref (ad 0 0))]) hx hb dL_isFair_95 hl (by decide) rfl (fun ls hl => ?_)
          refine lv_aload_n hx hb dL_isFair_97 rfl (lv_at hl 14 rfl) ?_
          refine lv_iload hx hb dL_isFair_98 (lv_at hl 7 rfl) ?_
          refine lv_iload hx hb dL_isFair_100 (lv_at hl 1 rfl) ?_
          refine lv_iconst (v := 1) hx hb dL_isFair_102 (by decide) ?_
          refine r_step ⟨hx, hb, hml, hown, hts⟩ hK hO hL hA hw hZ hS (j := j) (k := i) (w := 1) hj hi12 hq (by decide) (v := BX Z j i) (w_s1 hi12) (cwV 3 hts (gB_V w_ml_L_81 w_im_X5_ofStep w_se_X5_ofStep w_in_X5 w_co_X5_ofStep) rfl rfl rfl (by decide +kernel) ⟨Nat.le_trans (Nat.le_of_ble_eq_true rfl) hfr, Nat.le_trans (Nat.le_of_ble_eq_true rfl) hlo⟩) hl.1 (Nat.le_of_ble_eq_true rfl) hc dL_isFair_103 (fun S H locs hS hw => ?_)
          refine lv_istore (lv' := [(15, .int (BX Z j i)), (14, .int 0), (13, .int (nI i)), (12, .int (KW Z j i)), (11, .int (GR Z j i)), (10, .int (DN Z j i)), (9, .int 0), (8, .int (Z 6 j 0)), (7, .int (nI j)), (6, .int v6), (5, .int (nI (c0 + cb (Z 27 j) i))), (4, .int (Z 0 0 1)), (3, .ref (ad 92 0)), (2, .ref (ad 91 0)), (1, .ref (ad 90 0)), (0, .ref (ad 0 0))]) hx hb dL_isFair_106 hl (by decide) rfl (fun ls hl => ?_)
          refine lv_aload_n hx hb dL_isFair_108 rfl (lv_at hl 15 rfl) ?_
          refine lv_iload hx hb dL_isFair_109 (lv_at hl 8 rfl) ?_
          refine lv_iload hx hb dL_isFair_111 (lv_at hl 2 rfl) ?_
          refine lv_iconst (v := 2) hx hb dL_isFair_113 (by decide) ?_
          refine r_step ⟨hx, hb, hml, hown, hts⟩ hK hO hL hA hw hZ hS (j := j) (k := i) (w := 2) hj hi12 hq (by decide) (v := EX Z j i) (w_s2 hi12) (cwV 3 hts (gB_V w_ml_L_81 w_im_X5_ofStep w_se_X5_ofStep w_in_X5 w_co_X5_ofStep) rfl rfl rfl (by decide +kernel) ⟨Nat.le_trans (Nat.le_of_ble_eq_true rfl) hfr, Nat.le_trans (Nat.le_of_ble_eq_true rfl) hlo⟩) hl.1 (Nat.le_of_ble_eq_true rfl) hc dL_isFair_114 (fun S H locs hS hw => ?_)
          refine lv_istore (lv' := [(16, .int (EX Z j i)), (15, .int (BX Z j i)), (14, .int 0), (13, .int (nI i)), (12, .int (KW Z j i)), (11, .int (GR Z j i)), (10, .int (DN Z j i)), (9, .int 0), (8, .int (Z 6 j 0)), (7, .int (nI j)), (6, .int v6), (5, .int (nI (c0 + cb (Z 27 j) i))), (4, .int (Z 0 0 1)), (3, .ref (ad 92 0)), (2, .ref (ad 91 0)), (1, .ref (ad 90 0)), (0, .ref (ad 0 0))]) hx hb dL_isFair_117 hl (by decide) rfl (fun ls hl => ?_)
          refine lv_iload hx hb dL_isFair_119 (lv_at hl 11 rfl) ?_
          refine lv_aload_n hx hb dL_isFair_121 rfl (lv_at hl 16 rfl) ?_
          refine lv_iload hx hb dL_isFair_122 (lv_at hl 9 rfl) ?_
          refine lv_iload hx hb dL_isFair_124 (lv_at hl 3 rfl) ?_
          refine lv_iconst (v := 3) hx hb dL_isFair_126 (by decide) ?_
          refine r_step ⟨hx, hb, hml, hown, hts⟩ hK hO hL hA hw hZ hS (j := j) (k := i) (w := 3) hj hi12 hq (by decide) (v := (Z 27 j i)) (w_s3 hi12) (cwV 3 hts (gB_V w_ml_L_81 w_im_X5_ofStep w_se_X5_ofStep w_in_X5 w_co_X5_ofStep) rfl rfl rfl (by decide +kernel) ⟨Nat.le_trans (Nat.le_of_ble_eq_true rfl) hfr, Nat.le_trans (Nat.le_of_ble_eq_true rfl) hlo⟩) hl.1 (Nat.le_of_ble_eq_true rfl) hc dL_isFair_127 (fun S H locs hS hw => ?_)
          have k138_c_1 : W p l e R s m args below meth c H locs cells slots Q (F0 m 138 ls [.int (if (Z 27 j i) < 0 then 0 else 1), .int (nI (c0 + cb (Z 27 j) i))]) := by
            refine lv_iadd hx hb dL_isFair_138 ?_
            refine lv_istore (lv' := [(5, .int ((nI (c0 + cb (Z 27 j) i)) + (if (Z 27 j i) < 0 then 0 else 1))), (16, .int (EX Z j i)), (15, .int (BX Z j i)), (14, .int 0), (13, .int (nI i)), (12, .int (KW Z j i)), (11, .int (GR Z j i)), (10, .int (DN Z j i)), (9, .int 0), (8, .int (Z 6 j 0)), (7, .int (nI j)), (6, .int v6), (4, .int (Z 0 0 1)), (3, .ref (ad 92 0)), (2, .ref (ad 91 0)), (1, .ref (ad 90 0)), (0, .ref (ad 0 0))]) hx hb dL_isFair_139 hl (by decide) rfl (fun ls hl => ?_)
            refine lv_iload hx hb dL_isFair_141 (lv_at hl 7 rfl) ?_
            refine lv_iload hx hb dL_isFair_143 (lv_at hl 3 rfl) ?_
            refine lv_iconst (v := 2) hx hb dL_isFair_145 (by decide) ?_
            refine lv_icmp_ne (tgt := 156) hx hb dL_isFair_146 (by decide) (fun _ => ?_) (fun h => absurd h (by decide))
            refine lv_iconst (v := 0) hx hb dL_isFair_156 (by decide) ?_
            refine lv_ior hx hb dL_isFair_157 ?_
            refine lv_istore (lv' := [(10, .int ((DN Z j i) ||| 0)), (5, .int ((nI (c0 + cb (Z 27 j) i)) + (if (Z 27 j i) < 0 then 0 else 1))), (16, .int (EX Z j i)), (15, .int (BX Z j i)), (14, .int 0), (13, .int (nI i)), (12, .int (KW Z j i)), (11, .int (GR Z j i)), (9, .int 0), (8, .int (Z 6 j 0)), (7, .int (nI j)), (6, .int v6), (4, .int (Z 0 0 1)), (3, .ref (ad 92 0)), (2, .ref (ad 91 0)), (1, .ref (ad 90 0)), (0, .ref (ad 0 0))]) hx hb dL_isFair_158 hl (by decide) rfl (fun ls hl => ?_)
            refine lv_aload_n hx hb dL_isFair_160 rfl (lv_at hl 16 rfl) ?_
            refine lv_iload hx hb dL_isFair_161 (lv_at hl 10 rfl) ?_
            refine lv_iload hx hb dL_isFair_163 (lv_at hl 5 rfl) ?_
            refine lv_iconst (v := 3) hx hb dL_isFair_165 (by decide) ?_
            refine r_step ⟨hx, hb, hml, hown, hts⟩ hK hO hL hA hw hZ hS (j := j) (k := i) (w := 3) hj hi12 hq (by decide) (v := (Z 27 j i)) (w_s3 hi12) (cwV 3 hts (gB_V w_ml_L_81 w_im_X5_ofStep w_se_X5_ofStep w_in_X5 w_co_X5_ofStep) rfl rfl rfl (by decide +kernel) ⟨Nat.le_trans (Nat.le_of_ble_eq_true rfl) hfr, Nat.le_trans (Nat.le_of_ble_eq_true rfl) hlo⟩) hl.1 (Nat.le_of_ble_eq_true rfl) hc dL_isFair_166 (fun S H locs hS hw => ?_)
            have k201_c_2 : ∀ (S : STT) (H : Heap) (locs : List Loc), RLn r' S M → wk D A L ad (cK cI cJ ad ce S) s.heap H locs → W p l e R s m args below meth c H locs cells slots Q (F0 m 201 ls []) := by
              intro S H locs hS hw
              refine lv_iload hx hb dL_isFair_201 (lv_at hl 8 rfl) ?_
              refine lv_if_eq (tgt := 237) hx hb dL_isFair_203 (by decide) (fun _ => ?_) (fun h => absurd (by decide) h)
              refine lv_iload hx hb dL_isFair_237 (lv_at hl 6 rfl) ?_
              refine lv_iload hx hb dL_isFair_239 (lv_at hl 2 rfl) ?_
              refine lv_if_lt (tgt := 248) hx hb dL_isFair_241 (by decide) (fun h => absurd h (nneg f2)) (fun _ => ?_)
              refine lv_iconst (v := 1) hx hb dL_isFair_244 (by decide) ?_
              refine lv_goto (tgt := 249) hx hb dL_isFair_245 (by decide) ?_
              refine lv_iand hx hb dL_isFair_249 ?_
              refine lv_istore (lv' := [(12, .int ((KW Z j i) &&& 1)), (10, .int ((DN Z j i) ||| 0)), (5, .int ((nI (c0 + cb (Z 27 j) i)) + (if (Z 27 j i) < 0 then 0 else 1))), (16, .int (EX Z j i)), (15, .int (BX Z j i)), (14, .int 0), (13, .int (nI i)), (11, .int (GR Z j i)), (9, .int 0), (8, .int (Z 6 j 0)), (7, .int (nI j)), (6, .int v6), (4, .int (Z 0 0 1)), (3, .ref (ad 92 0)), (2, .ref (ad 91 0)), (1, .ref (ad 90 0)), (0, .ref (ad 0 0))]) hx hb dL_isFair_250 hl (by decide) rfl (fun ls hl => ?_)
              refine lv_iload hx hb dL_isFair_252 (lv_at hl 7 rfl) ?_
              refine lv_iload hx hb dL_isFair_254 (lv_at hl 3 rfl) ?_
              refine va_mmax hx hb (hml.trans hl.1.symm) hown (hts _ w_ml_L_65) (hts _ w_st_max) (hts _ w_in_J9) (hts _ w_co_max) (Nat.le_trans (Nat.le_of_ble_eq_true rfl) hfr) (Nat.le_trans (Nat.le_of_ble_eq_true rfl) hlo) hc.1 hc.2 dL_isFair_256 ?_
              refine lv_istore (lv' := [(11, .int (if (GR Z j i) < EX Z j i then EX Z j i else (GR Z j i))), (12, .int ((KW Z j i) &&& 1)), (10, .int ((DN Z j i) ||| 0)), (5, .int ((nI (c0 + cb (Z 27 j) i)) + (if (Z 27 j i) < 0 then 0 else 1))), (16, .int (EX Z j i)), (15, .int (BX Z j i)), (14, .int 0), (13, .int (nI i)), (9, .int 0), (8, .int (Z 6 j 0)), (7, .int (nI j)), (6, .int v6), (4, .int (Z 0 0 1)), (3, .ref (ad 92 0)), (2, .ref (ad 91 0)), (1, .ref (ad 90 0)), (0, .ref (ad 0 0))]) hx hb dL_isFair_259 hl (by decide) rfl (fun ls hl => ?_)
              refine lv_iload hx hb dL_isFair_261 (lv_at hl 5 rfl) ?_
              refine lv_if_ge (tgt := 270) hx hb dL_isFair_263 (by decide) (fun _ => ?_) (fun h => absurd (le_0 f1) h)
              refine lv_iconst (v := 0) hx hb dL_isFair_270 (by decide) ?_
              refine lv_iload hx hb dL_isFair_271 (lv_at hl 4 rfl) ?_
              refine lv_if_ge (tgt := 280) hx hb dL_isFair_273 (by decide) (fun _ => ?_) (fun h => absurd (le_0 f2) h)
              refine lv_iconst (v := 0) hx hb dL_isFair_280 (by decide) ?_
              refine lv_icmp_ne (tgt := 314) hx hb dL_isFair_281 (by decide) (fun h => absurd (by decide) h) (fun _ => ?_)
              refine lv_iload hx hb dL_isFair_284 (lv_at hl 5 rfl) ?_
              refine lv_if_lt (tgt := 308) hx hb dL_isFair_286 (by decide) (fun h => absurd h (nneg f1)) (fun _ => ?_)
              refine lv_iload hx hb dL_isFair_289 (lv_at hl 4 rfl) ?_
              refine lv_iload hx hb dL_isFair_291 (lv_at hl 5 rfl) ?_
              refine lv_aload_n hx hb dL_isFair_293 rfl (lv_at hl 16 rfl) ?_
              refine lv_iload hx hb dL_isFair_294 (lv_at hl 10 rfl) ?_
              refine lv_iload hx hb dL_isFair_296 (lv_at hl 7 rfl) ?_
              refine lv_iconst (v := 4) hx hb dL_isFair_298 (by decide) ?_
              refine r_step ⟨hx, hb, hml, hown, hts⟩ hK hO hL hA hw hZ hS (j := j) (k := i) (w := 4) hj hi12 hq (by decide) (v := sp_X2_lengthFor Z j (nI i)) (w_s4 hi12) (cwV 3 hts (gB_V w_ml_L_81 w_im_X5_ofStep w_se_X5_ofStep w_in_X5 w_co_X5_ofStep) rfl rfl rfl (by decide +kernel) ⟨Nat.le_trans (Nat.le_of_ble_eq_true rfl) hfr, Nat.le_trans (Nat.le_of_ble_eq_true rfl) hlo⟩) hl.1 (Nat.le_of_ble_eq_true rfl) hc dL_isFair_299 (fun S H locs hS hw => ?_)
              refine lv_iadd hx hb dL_isFair_302 ?_
              refine lv_iconst (v := 1) hx hb dL_isFair_303 (by decide) ?_
              refine lv_isub hx hb dL_isFair_304 ?_
              refine lv_icmp_ne (tgt := 314) hx hb dL_isFair_305 (by decide) (fun h => absurd f3 h) (fun _ => ?_)
              refine lv_iload hx hb dL_isFair_308 (lv_at hl 6 rfl) ?_
              refine lv_iconst (v := 3) hx hb dL_isFair_310 (by decide) ?_
              refine lv_icmp_ne (tgt := 316) hx hb dL_isFair_311 (by decide) (fun _ => ?_) (fun h => absurd h (by decide))
              refine lv_iload hx hb dL_isFair_316 (lv_at hl 5 rfl) ?_
              refine lv_if_lt (tgt := 380) hx hb dL_isFair_318 (by decide) (fun h => absurd h (nneg f1)) (fun _ => ?_)
              refine lv_iload hx hb dL_isFair_321 (lv_at hl 5 rfl) ?_
              refine lv_aload_n hx hb dL_isFair_323 rfl (lv_at hl 16 rfl) ?_
              refine lv_iload hx hb dL_isFair_324 (lv_at hl 10 rfl) ?_
              refine lv_iconst (v := 1) hx hb dL_isFair_326 (by decide) ?_
              refine r_joiner ⟨hx, hb, hml, hown, hts⟩ hK hO hL hA hw hZ hS (j := j) (w := 1) hj (by decide) (v := Z 6 j 1) w_j1 (cwV 2 hts (gB_V w_ml_L_52 w_im_X5_ofJoiner w_se_X5_ofJoiner w_in_X5 w_co_X5_ofJoiner) rfl rfl rfl (by decide +kernel) ⟨Nat.le_trans (Nat.le_of_ble_eq_true rfl) hfr, Nat.le_trans (Nat.le_of_ble_eq_true rfl) hlo⟩) hl.1 (Nat.le_of_ble_eq_true rfl) hc dL_isFair_327 (fun S H locs hS hw => ?_)
              refine lv_icmp_lt (tgt := 378) hx hb dL_isFair_330 (by decide) (fun h => absurd h (nlt_i f4)) (fun _ => ?_)
              refine lv_iload hx hb dL_isFair_333 (lv_at hl 6 rfl) ?_
              refine lv_if_ne (tgt := 345) hx hb dL_isFair_335 (by decide) (fun h => absurd (by decide) h) (fun _ => ?_)
              refine lv_iload hx hb dL_isFair_338 (lv_at hl 5 rfl) ?_
              refine lv_iload hx hb dL_isFair_340 (lv_at hl 12 rfl) ?_
              refine lv_icmp_le (tgt := 378) hx hb dL_isFair_342 (by decide) (fun h => absurd h (nle_i y1)) (fun _ => ?_)
              refine lv_iload hx hb dL_isFair_345 (lv_at hl 6 rfl) ?_
              refine lv_iconst (v := 1) hx hb dL_isFair_347 (by decide) ?_
              refine lv_icmp_ne (tgt := 365) hx hb dL_isFair_348 (by decide) (fun _ => ?_) (fun h => absurd h (by decide))
              refine lv_iload hx hb dL_isFair_365 (lv_at hl 6 rfl) ?_
              refine lv_iconst (v := 2) hx hb dL_isFair_367 (by decide) ?_
              refine lv_icmp_ne (tgt := 380) hx hb dL_isFair_368 (by decide) (fun _ => ?_) (fun h => absurd h (by decide))
              refine lv_iconst (v := 0) hx hb dL_isFair_380 (by decide) ?_
              refine lv_istore (lv' := [(17, .int 0), (11, .int (if (GR Z j i) < EX Z j i then EX Z j i else (GR Z j i))), (12, .int ((KW Z j i) &&& 1)), (10, .int ((DN Z j i) ||| 0)), (5, .int ((nI (c0 + cb (Z 27 j) i)) + (if (Z 27 j i) < 0 then 0 else 1))), (16, .int (EX Z j i)), (15, .int (BX Z j i)), (14, .int 0), (13, .int (nI i)), (9, .int 0), (8, .int (Z 6 j 0)), (7, .int (nI j)), (6, .int v6), (4, .int (Z 0 0 1)), (3, .ref (ad 92 0)), (2, .ref (ad 91 0)), (1, .ref (ad 90 0)), (0, .ref (ad 0 0))]) hx hb dL_isFair_381 hl (by decide) rfl (fun ls hl => ?_)
              refine fair_need (r' := r') ⟨hx, hb, hml, hown, hts⟩ hK hO hL hA hfr hlo hc hr hZ hN m90 m91 m92 h90 h91 h92 ens enr ekd end_ est hj (show i < ns by omega) (fun n hn hq2 _ => ⟨nneg (f6 n hn hq2).1, lt_i (f6 n hn hq2).2⟩) ?_ i 0 S H locs ls (Nat.zero_add _) hS hw (lv_sub hl [0, 5, 6, 7, 8, 2, 1, 3, 9, 10, 11, 12, 4, 13, 14, 15, 16, 17] rfl)
              intro S H locs ls hS hw hl
              refine lv_iinc (v := (nI (i + 1))) (lv' := [(13, .int (nI (i + 1))), (16, .int (EX Z j i)), (15, .int (BX Z j i)), (14, .int 0), (12, .int ((KW Z j i) &&& 1)), (11, .int (if (GR Z j i) < EX Z j i then EX Z j i else (GR Z j i))), (10, .int ((DN Z j i) ||| 0)), (9, .int 0), (8, .int (Z 6 j 0)), (7, .int (nI j)), (6, .int v6), (5, .int ((nI (c0 + cb (Z 27 j) i)) + (if (Z 27 j i) < 0 then 0 else 1))), (4, .int (Z 0 0 1)), (3, .ref (ad 92 0)), (2, .ref (ad 91 0)), (1, .ref (ad 90 0)), (0, .ref (ad 0 0))]) hx hb dL_isFair_444 hl (k := 3) rfl (nI_1 _) (by decide) rfl (fun ls hl => ?_)
              refine lv_goto (tgt := 66) hx hb dL_isFair_447 (by decide) ?_
              refine ih (i + 1) S H locs ls (by omega) hS hw ?_
              rw [eKW, eGR, eDN, eCB]
              exact lv_sub hl [0, 4, 5, 6, 7, 8, 9, 10, 11, 12, 13, 14, 15, 16] rfl
            refine lv_if_lt (tgt := 201) hx hb dL_isFair_169 (by decide) (fun c_2 => ?_) (fun c_2 => ?_)
            · exact k201_c_2 S H locs hS hw
            · refine lv_aload_n hx hb dL_isFair_172 rfl (lv_at hl 15 rfl) ?_
              refine lv_iload hx hb dL_isFair_173 (lv_at hl 5 rfl) ?_
              refine r_ald ⟨hx, hb, hml, hown, hts⟩ hK hw (i := i) (v := kd i) m90 (by decide) h90 (by omega) (by omega) rfl dL_isFair_175 ?_
              refine lv_iconst (v := 2) hx hb dL_isFair_176 (by decide) ?_
              refine lv_icmp_ne (tgt := 199) hx hb dL_isFair_177 (by decide) (fun h => absurd (b2 c_2).1 h) (fun _ => ?_)
              refine lv_aload_n hx hb dL_isFair_180 rfl (lv_at hl 16 rfl) ?_
              refine lv_aload_n hx hb dL_isFair_181 rfl (lv_at hl 16 rfl) ?_
              refine lv_iload hx hb dL_isFair_182 (lv_at hl 10 rfl) ?_
              refine lv_iload hx hb dL_isFair_184 (lv_at hl 5 rfl) ?_
              refine lv_iconst (v := 3) hx hb dL_isFair_186 (by decide) ?_
              refine r_step ⟨hx, hb, hml, hown, hts⟩ hK hO hL hA hw hZ hS (j := j) (k := i) (w := 3) hj hi12 hq (by decide) (v := nI (Z 27 j i).toNatClampNeg) ((w_s3 hi12).trans (b2 c_2).2.1) (cwV 3 hts (gB_V w_ml_L_81 w_im_X5_ofStep w_se_X5_ofStep w_in_X5 w_co_X5_ofStep) rfl rfl rfl (by decide +kernel) ⟨Nat.le_trans (Nat.le_of_ble_eq_true rfl) hfr, Nat.le_trans (Nat.le_of_ble_eq_true rfl) hlo⟩) hl.1 (Nat.le_of_ble_eq_true rfl) hc dL_isFair_187 (fun S H locs hS hw => ?_)
              refine lv_iconst (v := 0) hx hb dL_isFair_190 (by decide) ?_
              refine r_sess ⟨hx, hb, hml, hown, hts⟩ hK hO hL hA hw hZ hS (q := ((Z 27 j i).toNatClampNeg)) (w := 0) (b2 c_2).2.2.1 (by decide) (v := nI i) ((w_e0 (by have := hZ.c.self.iv.e20; have := (b2 c_2).2.2.1; omega)).trans (b2 c_2).2.2.2) (cwV 2 hts (gB_V w_ml_L_84 w_im_X5_ofSession w_se_X5_ofSession w_in_X5 w_co_X5_ofSession) rfl rfl rfl (by decide +kernel) ⟨Nat.le_trans (Nat.le_of_ble_eq_true rfl) hfr, Nat.le_trans (Nat.le_of_ble_eq_true rfl) hlo⟩) hl.1 (Nat.le_of_ble_eq_true rfl) hc dL_isFair_191 (fun H locs hw => ?_)
              refine lv_iload hx hb dL_isFair_194 (lv_at hl 5 rfl) ?_
              refine lv_icmp_eq (tgt := 201) hx hb dL_isFair_196 (by decide) (fun _ => ?_) (fun h => absurd rfl h)
              exact k201_c_2 S H locs hS hw
          refine lv_if_lt (tgt := 137) hx hb dL_isFair_130 (by decide) (fun c_1 => ?_) (fun c_1 => ?_)
          · rw [if_pos c_1] at k138_c_1
            refine lv_iconst (v := 0) hx hb dL_isFair_137 (by decide) ?_
            exact k138_c_1
          · rw [if_neg c_1] at k138_c_1
            refine lv_iconst (v := 1) hx hb dL_isFair_133 (by decide) ?_
            refine lv_goto (tgt := 138) hx hb dL_isFair_134 (by decide) ?_
            exact k138_c_1
        · have eDN : DN Z j (i + 1) = DN Z j i ||| 0 := by rw [eDN, z24]; rfl
          refine lv_iload hx hb dL_isFair_66 (lv_at hl 0 rfl) ?_
          refine lv_aload_n hx hb dL_isFair_68 rfl (lv_at hl 12 rfl) ?_
          refine r_len ⟨hx, hb, hml, hown, hts⟩ hK hw m90 (by decide) h90 dL_isFair_69 ?_
          refine lv_icmp_ge (tgt := 450) hx hb dL_isFair_70 (by decide) (fun h => absurd h hlt) (fun _ => ?_)
          refine lv_iload hx hb dL_isFair_73 (lv_at hl 5 rfl) ?_
          refine lv_iload hx hb dL_isFair_75 (lv_at hl 0 rfl) ?_
          refine lv_ishr hx hb dL_isFair_77 ?_
          refine lv_iconst (v := 1) hx hb dL_isFair_78 (by decide) ?_
          refine lv_iand hx hb dL_isFair_79 ?_
          refine lv_if_ne (tgt := 86) hx hb dL_isFair_80 (by decide) (fun _ => ?_) (fun h => absurd h (fun z => (bit_z (by omega)).mp z hq))
          refine lv_aload_n hx hb dL_isFair_86 rfl (lv_at hl 13 rfl) ?_
          refine lv_iload hx hb dL_isFair_87 (lv_at hl 6 rfl) ?_
          refine lv_iload hx hb dL_isFair_89 (lv_at hl 0 rfl) ?_
          refine lv_iconst (v := 0) hx hb dL_isFair_91 (by decide) ?_
          refine r_step ⟨hx, hb, hml, hown, hts⟩ hK hO hL hA hw hZ hS (j := j) (k := i) (w := 0) hj hi12 hq (by decide) (v := 1) ((w_s0 hi12).trans z24) (cwV 3 hts (gB_V w_ml_L_81 w_im_X5_ofStep w_se_X5_ofStep w_in_X5 w_co_X5_ofStep) rfl rfl rfl (by decide +kernel) ⟨Nat.le_trans (Nat.le_of_ble_eq_true rfl) hfr, Nat.le_trans (Nat.le_of_ble_eq_true rfl) hlo⟩) hl.1 (Nat.le_of_ble_eq_true rfl) hc dL_isFair_92 (fun S H locs hS hw => ?_)
          refine lv_istore (lv' := [(14, .int 1), (13, .int (nI i)), (12, .int (KW Z j i)), (11, .int (GR Z j i)), (10, .int (DN Z j i)), (9, .int 0), (8, .int (Z 6 j 0)), (7, .int (nI j)), (6, .int v6), (5, .int (nI (c0 + cb (Z 27 j) i))), (4, .int (Z 0 0 1)), (3, .ref (ad 92 0)), (2, .ref (ad 91 0)), (1, .ref (ad 90 0)), (0, .ref (ad 0 0))]) hx hb dL_isFair_95 hl (by decide) rfl (fun ls hl => ?_)
          refine lv_aload_n hx hb dL_isFair_97 rfl (lv_at hl 14 rfl) ?_
          refine lv_iload hx hb dL_isFair_98 (lv_at hl 7 rfl) ?_
          refine lv_iload hx hb dL_isFair_100 (lv_at hl 1 rfl) ?_
          refine lv_iconst (v := 1) hx hb dL_isFair_102 (by decide) ?_
          refine r_step ⟨hx, hb, hml, hown, hts⟩ hK hO hL hA hw hZ hS (j := j) (k := i) (w := 1) hj hi12 hq (by decide) (v := BX Z j i) (w_s1 hi12) (cwV 3 hts (gB_V w_ml_L_81 w_im_X5_ofStep w_se_X5_ofStep w_in_X5 w_co_X5_ofStep) rfl rfl rfl (by decide +kernel) ⟨Nat.le_trans (Nat.le_of_ble_eq_true rfl) hfr, Nat.le_trans (Nat.le_of_ble_eq_true rfl) hlo⟩) hl.1 (Nat.le_of_ble_eq_true rfl) hc dL_isFair_103 (fun S H locs hS hw => ?_)
          refine lv_istore (lv' := [(15, .int (BX Z j i)), (14, .int 1), (13, .int (nI i)), (12, .int (KW Z j i)), (11, .int (GR Z j i)), (10, .int (DN Z j i)), (9, .int 0), (8, .int (Z 6 j 0)), (7, .int (nI j)), (6, .int v6), (5, .int (nI (c0 + cb (Z 27 j) i))), (4, .int (Z 0 0 1)), (3, .ref (ad 92 0)), (2, .ref (ad 91 0)), (1, .ref (ad 90 0)), (0, .ref (ad 0 0))]) hx hb dL_isFair_106 hl (by decide) rfl (fun ls hl => ?_)
          refine lv_aload_n hx hb dL_isFair_108 rfl (lv_at hl 15 rfl) ?_
          refine lv_iload hx hb dL_isFair_109 (lv_at hl 8 rfl) ?_
          refine lv_iload hx hb dL_isFair_111 (lv_at hl 2 rfl) ?_
          refine lv_iconst (v := 2) hx hb dL_isFair_113 (by decide) ?_
          refine r_step ⟨hx, hb, hml, hown, hts⟩ hK hO hL hA hw hZ hS (j := j) (k := i) (w := 2) hj hi12 hq (by decide) (v := EX Z j i) (w_s2 hi12) (cwV 3 hts (gB_V w_ml_L_81 w_im_X5_ofStep w_se_X5_ofStep w_in_X5 w_co_X5_ofStep) rfl rfl rfl (by decide +kernel) ⟨Nat.le_trans (Nat.le_of_ble_eq_true rfl) hfr, Nat.le_trans (Nat.le_of_ble_eq_true rfl) hlo⟩) hl.1 (Nat.le_of_ble_eq_true rfl) hc dL_isFair_114 (fun S H locs hS hw => ?_)
          refine lv_istore (lv' := [(16, .int (EX Z j i)), (15, .int (BX Z j i)), (14, .int 1), (13, .int (nI i)), (12, .int (KW Z j i)), (11, .int (GR Z j i)), (10, .int (DN Z j i)), (9, .int 0), (8, .int (Z 6 j 0)), (7, .int (nI j)), (6, .int v6), (5, .int (nI (c0 + cb (Z 27 j) i))), (4, .int (Z 0 0 1)), (3, .ref (ad 92 0)), (2, .ref (ad 91 0)), (1, .ref (ad 90 0)), (0, .ref (ad 0 0))]) hx hb dL_isFair_117 hl (by decide) rfl (fun ls hl => ?_)
          refine lv_iload hx hb dL_isFair_119 (lv_at hl 11 rfl) ?_
          refine lv_aload_n hx hb dL_isFair_121 rfl (lv_at hl 16 rfl) ?_
          refine lv_iload hx hb dL_isFair_122 (lv_at hl 9 rfl) ?_
          refine lv_iload hx hb dL_isFair_124 (lv_at hl 3 rfl) ?_
          refine lv_iconst (v := 3) hx hb dL_isFair_126 (by decide) ?_
          refine r_step ⟨hx, hb, hml, hown, hts⟩ hK hO hL hA hw hZ hS (j := j) (k := i) (w := 3) hj hi12 hq (by decide) (v := (Z 27 j i)) (w_s3 hi12) (cwV 3 hts (gB_V w_ml_L_81 w_im_X5_ofStep w_se_X5_ofStep w_in_X5 w_co_X5_ofStep) rfl rfl rfl (by decide +kernel) ⟨Nat.le_trans (Nat.le_of_ble_eq_true rfl) hfr, Nat.le_trans (Nat.le_of_ble_eq_true rfl) hlo⟩) hl.1 (Nat.le_of_ble_eq_true rfl) hc dL_isFair_127 (fun S H locs hS hw => ?_)
          have k138_c_1 : W p l e R s m args below meth c H locs cells slots Q (F0 m 138 ls [.int (if (Z 27 j i) < 0 then 0 else 1), .int (nI (c0 + cb (Z 27 j) i))]) := by
            refine lv_iadd hx hb dL_isFair_138 ?_
            refine lv_istore (lv' := [(5, .int ((nI (c0 + cb (Z 27 j) i)) + (if (Z 27 j i) < 0 then 0 else 1))), (16, .int (EX Z j i)), (15, .int (BX Z j i)), (14, .int 1), (13, .int (nI i)), (12, .int (KW Z j i)), (11, .int (GR Z j i)), (10, .int (DN Z j i)), (9, .int 0), (8, .int (Z 6 j 0)), (7, .int (nI j)), (6, .int v6), (4, .int (Z 0 0 1)), (3, .ref (ad 92 0)), (2, .ref (ad 91 0)), (1, .ref (ad 90 0)), (0, .ref (ad 0 0))]) hx hb dL_isFair_139 hl (by decide) rfl (fun ls hl => ?_)
            refine lv_iload hx hb dL_isFair_141 (lv_at hl 7 rfl) ?_
            refine lv_iload hx hb dL_isFair_143 (lv_at hl 3 rfl) ?_
            refine lv_iconst (v := 2) hx hb dL_isFair_145 (by decide) ?_
            refine lv_icmp_ne (tgt := 156) hx hb dL_isFair_146 (by decide) (fun _ => ?_) (fun h => absurd h (by decide))
            refine lv_iconst (v := 0) hx hb dL_isFair_156 (by decide) ?_
            refine lv_ior hx hb dL_isFair_157 ?_
            refine lv_istore (lv' := [(10, .int ((DN Z j i) ||| 0)), (5, .int ((nI (c0 + cb (Z 27 j) i)) + (if (Z 27 j i) < 0 then 0 else 1))), (16, .int (EX Z j i)), (15, .int (BX Z j i)), (14, .int 1), (13, .int (nI i)), (12, .int (KW Z j i)), (11, .int (GR Z j i)), (9, .int 0), (8, .int (Z 6 j 0)), (7, .int (nI j)), (6, .int v6), (4, .int (Z 0 0 1)), (3, .ref (ad 92 0)), (2, .ref (ad 91 0)), (1, .ref (ad 90 0)), (0, .ref (ad 0 0))]) hx hb dL_isFair_158 hl (by decide) rfl (fun ls hl => ?_)
            refine lv_aload_n hx hb dL_isFair_160 rfl (lv_at hl 16 rfl) ?_
            refine lv_iload hx hb dL_isFair_161 (lv_at hl 10 rfl) ?_
            refine lv_iload hx hb dL_isFair_163 (lv_at hl 5 rfl) ?_
            refine lv_iconst (v := 3) hx hb dL_isFair_165 (by decide) ?_
            refine r_step ⟨hx, hb, hml, hown, hts⟩ hK hO hL hA hw hZ hS (j := j) (k := i) (w := 3) hj hi12 hq (by decide) (v := (Z 27 j i)) (w_s3 hi12) (cwV 3 hts (gB_V w_ml_L_81 w_im_X5_ofStep w_se_X5_ofStep w_in_X5 w_co_X5_ofStep) rfl rfl rfl (by decide +kernel) ⟨Nat.le_trans (Nat.le_of_ble_eq_true rfl) hfr, Nat.le_trans (Nat.le_of_ble_eq_true rfl) hlo⟩) hl.1 (Nat.le_of_ble_eq_true rfl) hc dL_isFair_166 (fun S H locs hS hw => ?_)
            have k201_c_2 : ∀ (S : STT) (H : Heap) (locs : List Loc), RLn r' S M → wk D A L ad (cK cI cJ ad ce S) s.heap H locs → W p l e R s m args below meth c H locs cells slots Q (F0 m 201 ls []) := by
              intro S H locs hS hw
              refine lv_iload hx hb dL_isFair_201 (lv_at hl 8 rfl) ?_
              refine lv_if_eq (tgt := 237) hx hb dL_isFair_203 (by decide) (fun _ => ?_) (fun h => absurd (by decide) h)
              refine lv_iload hx hb dL_isFair_237 (lv_at hl 6 rfl) ?_
              refine lv_iload hx hb dL_isFair_239 (lv_at hl 2 rfl) ?_
              refine lv_if_lt (tgt := 248) hx hb dL_isFair_241 (by decide) (fun h => absurd h (nneg f2)) (fun _ => ?_)
              refine lv_iconst (v := 1) hx hb dL_isFair_244 (by decide) ?_
              refine lv_goto (tgt := 249) hx hb dL_isFair_245 (by decide) ?_
              refine lv_iand hx hb dL_isFair_249 ?_
              refine lv_istore (lv' := [(12, .int ((KW Z j i) &&& 1)), (10, .int ((DN Z j i) ||| 0)), (5, .int ((nI (c0 + cb (Z 27 j) i)) + (if (Z 27 j i) < 0 then 0 else 1))), (16, .int (EX Z j i)), (15, .int (BX Z j i)), (14, .int 1), (13, .int (nI i)), (11, .int (GR Z j i)), (9, .int 0), (8, .int (Z 6 j 0)), (7, .int (nI j)), (6, .int v6), (4, .int (Z 0 0 1)), (3, .ref (ad 92 0)), (2, .ref (ad 91 0)), (1, .ref (ad 90 0)), (0, .ref (ad 0 0))]) hx hb dL_isFair_250 hl (by decide) rfl (fun ls hl => ?_)
              refine lv_iload hx hb dL_isFair_252 (lv_at hl 7 rfl) ?_
              refine lv_iload hx hb dL_isFair_254 (lv_at hl 3 rfl) ?_
              refine va_mmax hx hb (hml.trans hl.1.symm) hown (hts _ w_ml_L_65) (hts _ w_st_max) (hts _ w_in_J9) (hts _ w_co_max) (Nat.le_trans (Nat.le_of_ble_eq_true rfl) hfr) (Nat.le_trans (Nat.le_of_ble_eq_true rfl) hlo) hc.1 hc.2 dL_isFair_256 ?_
              refine lv_istore (lv' := [(11, .int (if (GR Z j i) < EX Z j i then EX Z j i else (GR Z j i))), (12, .int ((KW Z j i) &&& 1)), (10, .int ((DN Z j i) ||| 0)), (5, .int ((nI (c0 + cb (Z 27 j) i)) + (if (Z 27 j i) < 0 then 0 else 1))), (16, .int (EX Z j i)), (15, .int (BX Z j i)), (14, .int 1), (13, .int (nI i)), (9, .int 0), (8, .int (Z 6 j 0)), (7, .int (nI j)), (6, .int v6), (4, .int (Z 0 0 1)), (3, .ref (ad 92 0)), (2, .ref (ad 91 0)), (1, .ref (ad 90 0)), (0, .ref (ad 0 0))]) hx hb dL_isFair_259 hl (by decide) rfl (fun ls hl => ?_)
              refine lv_iload hx hb dL_isFair_261 (lv_at hl 5 rfl) ?_
              refine lv_if_ge (tgt := 270) hx hb dL_isFair_263 (by decide) (fun _ => ?_) (fun h => absurd (le_0 f1) h)
              refine lv_iconst (v := 0) hx hb dL_isFair_270 (by decide) ?_
              refine lv_iload hx hb dL_isFair_271 (lv_at hl 4 rfl) ?_
              refine lv_if_ge (tgt := 280) hx hb dL_isFair_273 (by decide) (fun _ => ?_) (fun h => absurd (le_0 f2) h)
              refine lv_iconst (v := 0) hx hb dL_isFair_280 (by decide) ?_
              refine lv_icmp_ne (tgt := 314) hx hb dL_isFair_281 (by decide) (fun h => absurd (by decide) h) (fun _ => ?_)
              refine lv_iload hx hb dL_isFair_284 (lv_at hl 5 rfl) ?_
              refine lv_if_lt (tgt := 308) hx hb dL_isFair_286 (by decide) (fun h => absurd h (nneg f1)) (fun _ => ?_)
              refine lv_iload hx hb dL_isFair_289 (lv_at hl 4 rfl) ?_
              refine lv_iload hx hb dL_isFair_291 (lv_at hl 5 rfl) ?_
              refine lv_aload_n hx hb dL_isFair_293 rfl (lv_at hl 16 rfl) ?_
              refine lv_iload hx hb dL_isFair_294 (lv_at hl 10 rfl) ?_
              refine lv_iload hx hb dL_isFair_296 (lv_at hl 7 rfl) ?_
              refine lv_iconst (v := 4) hx hb dL_isFair_298 (by decide) ?_
              refine r_step ⟨hx, hb, hml, hown, hts⟩ hK hO hL hA hw hZ hS (j := j) (k := i) (w := 4) hj hi12 hq (by decide) (v := sp_X2_lengthFor Z j (nI i)) (w_s4 hi12) (cwV 3 hts (gB_V w_ml_L_81 w_im_X5_ofStep w_se_X5_ofStep w_in_X5 w_co_X5_ofStep) rfl rfl rfl (by decide +kernel) ⟨Nat.le_trans (Nat.le_of_ble_eq_true rfl) hfr, Nat.le_trans (Nat.le_of_ble_eq_true rfl) hlo⟩) hl.1 (Nat.le_of_ble_eq_true rfl) hc dL_isFair_299 (fun S H locs hS hw => ?_)
              refine lv_iadd hx hb dL_isFair_302 ?_
              refine lv_iconst (v := 1) hx hb dL_isFair_303 (by decide) ?_
              refine lv_isub hx hb dL_isFair_304 ?_
              refine lv_icmp_ne (tgt := 314) hx hb dL_isFair_305 (by decide) (fun h => absurd f3 h) (fun _ => ?_)
              refine lv_iload hx hb dL_isFair_308 (lv_at hl 6 rfl) ?_
              refine lv_iconst (v := 3) hx hb dL_isFair_310 (by decide) ?_
              refine lv_icmp_ne (tgt := 316) hx hb dL_isFair_311 (by decide) (fun _ => ?_) (fun h => absurd h (by decide))
              refine lv_iload hx hb dL_isFair_316 (lv_at hl 5 rfl) ?_
              refine lv_if_lt (tgt := 380) hx hb dL_isFair_318 (by decide) (fun h => absurd h (nneg f1)) (fun _ => ?_)
              refine lv_iload hx hb dL_isFair_321 (lv_at hl 5 rfl) ?_
              refine lv_aload_n hx hb dL_isFair_323 rfl (lv_at hl 16 rfl) ?_
              refine lv_iload hx hb dL_isFair_324 (lv_at hl 10 rfl) ?_
              refine lv_iconst (v := 1) hx hb dL_isFair_326 (by decide) ?_
              refine r_joiner ⟨hx, hb, hml, hown, hts⟩ hK hO hL hA hw hZ hS (j := j) (w := 1) hj (by decide) (v := Z 6 j 1) w_j1 (cwV 2 hts (gB_V w_ml_L_52 w_im_X5_ofJoiner w_se_X5_ofJoiner w_in_X5 w_co_X5_ofJoiner) rfl rfl rfl (by decide +kernel) ⟨Nat.le_trans (Nat.le_of_ble_eq_true rfl) hfr, Nat.le_trans (Nat.le_of_ble_eq_true rfl) hlo⟩) hl.1 (Nat.le_of_ble_eq_true rfl) hc dL_isFair_327 (fun S H locs hS hw => ?_)
              refine lv_icmp_lt (tgt := 378) hx hb dL_isFair_330 (by decide) (fun h => absurd h (nlt_i f4)) (fun _ => ?_)
              refine lv_iload hx hb dL_isFair_333 (lv_at hl 6 rfl) ?_
              refine lv_if_ne (tgt := 345) hx hb dL_isFair_335 (by decide) (fun _ => ?_) (fun h => absurd h (by decide))
              refine lv_iload hx hb dL_isFair_345 (lv_at hl 6 rfl) ?_
              refine lv_iconst (v := 1) hx hb dL_isFair_347 (by decide) ?_
              refine lv_icmp_ne (tgt := 365) hx hb dL_isFair_348 (by decide) (fun h => absurd (by decide) h) (fun _ => ?_)
              refine lv_iload hx hb dL_isFair_351 (lv_at hl 5 rfl) ?_
              refine lv_iload hx hb dL_isFair_353 (lv_at hl 12 rfl) ?_
              refine lv_icmp_gt (tgt := 378) hx hb dL_isFair_355 (by decide) (fun h => absurd h (nlt_i y1)) (fun _ => ?_)
              refine lv_iload hx hb dL_isFair_358 (lv_at hl 4 rfl) ?_
              refine lv_iload hx hb dL_isFair_360 (lv_at hl 12 rfl) ?_
              refine lv_icmp_lt (tgt := 378) hx hb dL_isFair_362 (by decide) (fun h => absurd h (nlt_i y2)) (fun _ => ?_)
              refine lv_iload hx hb dL_isFair_365 (lv_at hl 6 rfl) ?_
              refine lv_iconst (v := 2) hx hb dL_isFair_367 (by decide) ?_
              refine lv_icmp_ne (tgt := 380) hx hb dL_isFair_368 (by decide) (fun _ => ?_) (fun h => absurd h (by decide))
              refine lv_iconst (v := 0) hx hb dL_isFair_380 (by decide) ?_
              refine lv_istore (lv' := [(17, .int 0), (11, .int (if (GR Z j i) < EX Z j i then EX Z j i else (GR Z j i))), (12, .int ((KW Z j i) &&& 1)), (10, .int ((DN Z j i) ||| 0)), (5, .int ((nI (c0 + cb (Z 27 j) i)) + (if (Z 27 j i) < 0 then 0 else 1))), (16, .int (EX Z j i)), (15, .int (BX Z j i)), (14, .int 1), (13, .int (nI i)), (9, .int 0), (8, .int (Z 6 j 0)), (7, .int (nI j)), (6, .int v6), (4, .int (Z 0 0 1)), (3, .ref (ad 92 0)), (2, .ref (ad 91 0)), (1, .ref (ad 90 0)), (0, .ref (ad 0 0))]) hx hb dL_isFair_381 hl (by decide) rfl (fun ls hl => ?_)
              refine fair_need (r' := r') ⟨hx, hb, hml, hown, hts⟩ hK hO hL hA hfr hlo hc hr hZ hN m90 m91 m92 h90 h91 h92 ens enr ekd end_ est hj (show i < ns by omega) (fun n hn hq2 _ => ⟨nneg (f6 n hn hq2).1, lt_i (f6 n hn hq2).2⟩) ?_ i 0 S H locs ls (Nat.zero_add _) hS hw (lv_sub hl [0, 5, 6, 7, 8, 2, 1, 3, 9, 10, 11, 12, 4, 13, 14, 15, 16, 17] rfl)
              intro S H locs ls hS hw hl
              refine lv_iinc (v := (nI (i + 1))) (lv' := [(13, .int (nI (i + 1))), (16, .int (EX Z j i)), (15, .int (BX Z j i)), (14, .int 1), (12, .int ((KW Z j i) &&& 1)), (11, .int (if (GR Z j i) < EX Z j i then EX Z j i else (GR Z j i))), (10, .int ((DN Z j i) ||| 0)), (9, .int 0), (8, .int (Z 6 j 0)), (7, .int (nI j)), (6, .int v6), (5, .int ((nI (c0 + cb (Z 27 j) i)) + (if (Z 27 j i) < 0 then 0 else 1))), (4, .int (Z 0 0 1)), (3, .ref (ad 92 0)), (2, .ref (ad 91 0)), (1, .ref (ad 90 0)), (0, .ref (ad 0 0))]) hx hb dL_isFair_444 hl (k := 3) rfl (nI_1 _) (by decide) rfl (fun ls hl => ?_)
              refine lv_goto (tgt := 66) hx hb dL_isFair_447 (by decide) ?_
              refine ih (i + 1) S H locs ls (by omega) hS hw ?_
              rw [eKW, eGR, eDN, eCB]
              exact lv_sub hl [0, 4, 5, 6, 7, 8, 9, 10, 11, 12, 13, 14, 15, 16] rfl
            refine lv_if_lt (tgt := 201) hx hb dL_isFair_169 (by decide) (fun c_2 => ?_) (fun c_2 => ?_)
            · exact k201_c_2 S H locs hS hw
            · refine lv_aload_n hx hb dL_isFair_172 rfl (lv_at hl 15 rfl) ?_
              refine lv_iload hx hb dL_isFair_173 (lv_at hl 5 rfl) ?_
              refine r_ald ⟨hx, hb, hml, hown, hts⟩ hK hw (i := i) (v := kd i) m90 (by decide) h90 (by omega) (by omega) rfl dL_isFair_175 ?_
              refine lv_iconst (v := 2) hx hb dL_isFair_176 (by decide) ?_
              refine lv_icmp_ne (tgt := 199) hx hb dL_isFair_177 (by decide) (fun h => absurd (b2 c_2).1 h) (fun _ => ?_)
              refine lv_aload_n hx hb dL_isFair_180 rfl (lv_at hl 16 rfl) ?_
              refine lv_aload_n hx hb dL_isFair_181 rfl (lv_at hl 16 rfl) ?_
              refine lv_iload hx hb dL_isFair_182 (lv_at hl 10 rfl) ?_
              refine lv_iload hx hb dL_isFair_184 (lv_at hl 5 rfl) ?_
              refine lv_iconst (v := 3) hx hb dL_isFair_186 (by decide) ?_
              refine r_step ⟨hx, hb, hml, hown, hts⟩ hK hO hL hA hw hZ hS (j := j) (k := i) (w := 3) hj hi12 hq (by decide) (v := nI (Z 27 j i).toNatClampNeg) ((w_s3 hi12).trans (b2 c_2).2.1) (cwV 3 hts (gB_V w_ml_L_81 w_im_X5_ofStep w_se_X5_ofStep w_in_X5 w_co_X5_ofStep) rfl rfl rfl (by decide +kernel) ⟨Nat.le_trans (Nat.le_of_ble_eq_true rfl) hfr, Nat.le_trans (Nat.le_of_ble_eq_true rfl) hlo⟩) hl.1 (Nat.le_of_ble_eq_true rfl) hc dL_isFair_187 (fun S H locs hS hw => ?_)
              refine lv_iconst (v := 0) hx hb dL_isFair_190 (by decide) ?_
              refine r_sess ⟨hx, hb, hml, hown, hts⟩ hK hO hL hA hw hZ hS (q := ((Z 27 j i).toNatClampNeg)) (w := 0) (b2 c_2).2.2.1 (by decide) (v := nI i) ((w_e0 (by have := hZ.c.self.iv.e20; have := (b2 c_2).2.2.1; omega)).trans (b2 c_2).2.2.2) (cwV 2 hts (gB_V w_ml_L_84 w_im_X5_ofSession w_se_X5_ofSession w_in_X5 w_co_X5_ofSession) rfl rfl rfl (by decide +kernel) ⟨Nat.le_trans (Nat.le_of_ble_eq_true rfl) hfr, Nat.le_trans (Nat.le_of_ble_eq_true rfl) hlo⟩) hl.1 (Nat.le_of_ble_eq_true rfl) hc dL_isFair_191 (fun H locs hw => ?_)
              refine lv_iload hx hb dL_isFair_194 (lv_at hl 5 rfl) ?_
              refine lv_icmp_eq (tgt := 201) hx hb dL_isFair_196 (by decide) (fun _ => ?_) (fun h => absurd rfl h)
              exact k201_c_2 S H locs hS hw
          refine lv_if_lt (tgt := 137) hx hb dL_isFair_130 (by decide) (fun c_1 => ?_) (fun c_1 => ?_)
          · rw [if_pos c_1] at k138_c_1
            refine lv_iconst (v := 0) hx hb dL_isFair_137 (by decide) ?_
            exact k138_c_1
          · rw [if_neg c_1] at k138_c_1
            refine lv_iconst (v := 1) hx hb dL_isFair_133 (by decide) ?_
            refine lv_goto (tgt := 138) hx hb dL_isFair_134 (by decide) ?_
            exact k138_c_1
        · have eDN : DN Z j (i + 1) = DN Z j i ||| (1 <<< (nI i &&& 31)) := by rw [eDN, z24]; rfl
          refine lv_iload hx hb dL_isFair_66 (lv_at hl 0 rfl) ?_
          refine lv_aload_n hx hb dL_isFair_68 rfl (lv_at hl 12 rfl) ?_
          refine r_len ⟨hx, hb, hml, hown, hts⟩ hK hw m90 (by decide) h90 dL_isFair_69 ?_
          refine lv_icmp_ge (tgt := 450) hx hb dL_isFair_70 (by decide) (fun h => absurd h hlt) (fun _ => ?_)
          refine lv_iload hx hb dL_isFair_73 (lv_at hl 5 rfl) ?_
          refine lv_iload hx hb dL_isFair_75 (lv_at hl 0 rfl) ?_
          refine lv_ishr hx hb dL_isFair_77 ?_
          refine lv_iconst (v := 1) hx hb dL_isFair_78 (by decide) ?_
          refine lv_iand hx hb dL_isFair_79 ?_
          refine lv_if_ne (tgt := 86) hx hb dL_isFair_80 (by decide) (fun _ => ?_) (fun h => absurd h (fun z => (bit_z (by omega)).mp z hq))
          refine lv_aload_n hx hb dL_isFair_86 rfl (lv_at hl 13 rfl) ?_
          refine lv_iload hx hb dL_isFair_87 (lv_at hl 6 rfl) ?_
          refine lv_iload hx hb dL_isFair_89 (lv_at hl 0 rfl) ?_
          refine lv_iconst (v := 0) hx hb dL_isFair_91 (by decide) ?_
          refine r_step ⟨hx, hb, hml, hown, hts⟩ hK hO hL hA hw hZ hS (j := j) (k := i) (w := 0) hj hi12 hq (by decide) (v := 2) ((w_s0 hi12).trans z24) (cwV 3 hts (gB_V w_ml_L_81 w_im_X5_ofStep w_se_X5_ofStep w_in_X5 w_co_X5_ofStep) rfl rfl rfl (by decide +kernel) ⟨Nat.le_trans (Nat.le_of_ble_eq_true rfl) hfr, Nat.le_trans (Nat.le_of_ble_eq_true rfl) hlo⟩) hl.1 (Nat.le_of_ble_eq_true rfl) hc dL_isFair_92 (fun S H locs hS hw => ?_)
          refine lv_istore (lv' := [(14, .int 2), (13, .int (nI i)), (12, .int (KW Z j i)), (11, .int (GR Z j i)), (10, .int (DN Z j i)), (9, .int 0), (8, .int (Z 6 j 0)), (7, .int (nI j)), (6, .int v6), (5, .int (nI (c0 + cb (Z 27 j) i))), (4, .int (Z 0 0 1)), (3, .ref (ad 92 0)), (2, .ref (ad 91 0)), (1, .ref (ad 90 0)), (0, .ref (ad 0 0))]) hx hb dL_isFair_95 hl (by decide) rfl (fun ls hl => ?_)
          refine lv_aload_n hx hb dL_isFair_97 rfl (lv_at hl 14 rfl) ?_
          refine lv_iload hx hb dL_isFair_98 (lv_at hl 7 rfl) ?_
          refine lv_iload hx hb dL_isFair_100 (lv_at hl 1 rfl) ?_
          refine lv_iconst (v := 1) hx hb dL_isFair_102 (by decide) ?_
          refine r_step ⟨hx, hb, hml, hown, hts⟩ hK hO hL hA hw hZ hS (j := j) (k := i) (w := 1) hj hi12 hq (by decide) (v := BX Z j i) (w_s1 hi12) (cwV 3 hts (gB_V w_ml_L_81 w_im_X5_ofStep w_se_X5_ofStep w_in_X5 w_co_X5_ofStep) rfl rfl rfl (by decide +kernel) ⟨Nat.le_trans (Nat.le_of_ble_eq_true rfl) hfr, Nat.le_trans (Nat.le_of_ble_eq_true rfl) hlo⟩) hl.1 (Nat.le_of_ble_eq_true rfl) hc dL_isFair_103 (fun S H locs hS hw => ?_)
          refine lv_istore (lv' := [(15, .int (BX Z j i)), (14, .int 2), (13, .int (nI i)), (12, .int (KW Z j i)), (11, .int (GR Z j i)), (10, .int (DN Z j i)), (9, .int 0), (8, .int (Z 6 j 0)), (7, .int (nI j)), (6, .int v6), (5, .int (nI (c0 + cb (Z 27 j) i))), (4, .int (Z 0 0 1)), (3, .ref (ad 92 0)), (2, .ref (ad 91 0)), (1, .ref (ad 90 0)), (0, .ref (ad 0 0))]) hx hb dL_isFair_106 hl (by decide) rfl (fun ls hl => ?_)
          refine lv_aload_n hx hb dL_isFair_108 rfl (lv_at hl 15 rfl) ?_
          refine lv_iload hx hb dL_isFair_109 (lv_at hl 8 rfl) ?_
          refine lv_iload hx hb dL_isFair_111 (lv_at hl 2 rfl) ?_
          refine lv_iconst (v := 2) hx hb dL_isFair_113 (by decide) ?_
          refine r_step ⟨hx, hb, hml, hown, hts⟩ hK hO hL hA hw hZ hS (j := j) (k := i) (w := 2) hj hi12 hq (by decide) (v := EX Z j i) (w_s2 hi12) (cwV 3 hts (gB_V w_ml_L_81 w_im_X5_ofStep w_se_X5_ofStep w_in_X5 w_co_X5_ofStep) rfl rfl rfl (by decide +kernel) ⟨Nat.le_trans (Nat.le_of_ble_eq_true rfl) hfr, Nat.le_trans (Nat.le_of_ble_eq_true rfl) hlo⟩) hl.1 (Nat.le_of_ble_eq_true rfl) hc dL_isFair_114 (fun S H locs hS hw => ?_)
          refine lv_istore (lv' := [(16, .int (EX Z j i)), (15, .int (BX Z j i)), (14, .int 2), (13, .int (nI i)), (12, .int (KW Z j i)), (11, .int (GR Z j i)), (10, .int (DN Z j i)), (9, .int 0), (8, .int (Z 6 j 0)), (7, .int (nI j)), (6, .int v6), (5, .int (nI (c0 + cb (Z 27 j) i))), (4, .int (Z 0 0 1)), (3, .ref (ad 92 0)), (2, .ref (ad 91 0)), (1, .ref (ad 90 0)), (0, .ref (ad 0 0))]) hx hb dL_isFair_117 hl (by decide) rfl (fun ls hl => ?_)
          refine lv_iload hx hb dL_isFair_119 (lv_at hl 11 rfl) ?_
          refine lv_aload_n hx hb dL_isFair_121 rfl (lv_at hl 16 rfl) ?_
          refine lv_iload hx hb dL_isFair_122 (lv_at hl 9 rfl) ?_
          refine lv_iload hx hb dL_isFair_124 (lv_at hl 3 rfl) ?_
          refine lv_iconst (v := 3) hx hb dL_isFair_126 (by decide) ?_
          refine r_step ⟨hx, hb, hml, hown, hts⟩ hK hO hL hA hw hZ hS (j := j) (k := i) (w := 3) hj hi12 hq (by decide) (v := (Z 27 j i)) (w_s3 hi12) (cwV 3 hts (gB_V w_ml_L_81 w_im_X5_ofStep w_se_X5_ofStep w_in_X5 w_co_X5_ofStep) rfl rfl rfl (by decide +kernel) ⟨Nat.le_trans (Nat.le_of_ble_eq_true rfl) hfr, Nat.le_trans (Nat.le_of_ble_eq_true rfl) hlo⟩) hl.1 (Nat.le_of_ble_eq_true rfl) hc dL_isFair_127 (fun S H locs hS hw => ?_)
          have k138_c_1 : W p l e R s m args below meth c H locs cells slots Q (F0 m 138 ls [.int (if (Z 27 j i) < 0 then 0 else 1), .int (nI (c0 + cb (Z 27 j) i))]) := by
            refine lv_iadd hx hb dL_isFair_138 ?_
            refine lv_istore (lv' := [(5, .int ((nI (c0 + cb (Z 27 j) i)) + (if (Z 27 j i) < 0 then 0 else 1))), (16, .int (EX Z j i)), (15, .int (BX Z j i)), (14, .int 2), (13, .int (nI i)), (12, .int (KW Z j i)), (11, .int (GR Z j i)), (10, .int (DN Z j i)), (9, .int 0), (8, .int (Z 6 j 0)), (7, .int (nI j)), (6, .int v6), (4, .int (Z 0 0 1)), (3, .ref (ad 92 0)), (2, .ref (ad 91 0)), (1, .ref (ad 90 0)), (0, .ref (ad 0 0))]) hx hb dL_isFair_139 hl (by decide) rfl (fun ls hl => ?_)
            refine lv_iload hx hb dL_isFair_141 (lv_at hl 7 rfl) ?_
            refine lv_iload hx hb dL_isFair_143 (lv_at hl 3 rfl) ?_
            refine lv_iconst (v := 2) hx hb dL_isFair_145 (by decide) ?_
            refine lv_icmp_ne (tgt := 156) hx hb dL_isFair_146 (by decide) (fun h => absurd (by decide) h) (fun _ => ?_)
            refine lv_iconst (v := 1) hx hb dL_isFair_149 (by decide) ?_
            refine lv_iload hx hb dL_isFair_150 (lv_at hl 4 rfl) ?_
            refine lv_ishl hx hb dL_isFair_152 ?_
            refine lv_goto (tgt := 157) hx hb dL_isFair_153 (by decide) ?_
            refine lv_ior hx hb dL_isFair_157 ?_
            refine lv_istore (lv' := [(10, .int ((DN Z j i) ||| (1 <<< ((nI i) &&& 31)))), (5, .int ((nI (c0 + cb (Z 27 j) i)) + (if (Z 27 j i) < 0 then 0 else 1))), (16, .int (EX Z j i)), (15, .int (BX Z j i)), (14, .int 2), (13, .int (nI i)), (12, .int (KW Z j i)), (11, .int (GR Z j i)), (9, .int 0), (8, .int (Z 6 j 0)), (7, .int (nI j)), (6, .int v6), (4, .int (Z 0 0 1)), (3, .ref (ad 92 0)), (2, .ref (ad 91 0)), (1, .ref (ad 90 0)), (0, .ref (ad 0 0))]) hx hb dL_isFair_158 hl (by decide) rfl (fun ls hl => ?_)
            refine lv_aload_n hx hb dL_isFair_160 rfl (lv_at hl 16 rfl) ?_
            refine lv_iload hx hb dL_isFair_161 (lv_at hl 10 rfl) ?_
            refine lv_iload hx hb dL_isFair_163 (lv_at hl 5 rfl) ?_
            refine lv_iconst (v := 3) hx hb dL_isFair_165 (by decide) ?_
            refine r_step ⟨hx, hb, hml, hown, hts⟩ hK hO hL hA hw hZ hS (j := j) (k := i) (w := 3) hj hi12 hq (by decide) (v := (Z 27 j i)) (w_s3 hi12) (cwV 3 hts (gB_V w_ml_L_81 w_im_X5_ofStep w_se_X5_ofStep w_in_X5 w_co_X5_ofStep) rfl rfl rfl (by decide +kernel) ⟨Nat.le_trans (Nat.le_of_ble_eq_true rfl) hfr, Nat.le_trans (Nat.le_of_ble_eq_true rfl) hlo⟩) hl.1 (Nat.le_of_ble_eq_true rfl) hc dL_isFair_166 (fun S H locs hS hw => ?_)
            have k201_c_2 : ∀ (S : STT) (H : Heap) (locs : List Loc), RLn r' S M → wk D A L ad (cK cI cJ ad ce S) s.heap H locs → W p l e R s m args below meth c H locs cells slots Q (F0 m 201 ls []) := by
              intro S H locs hS hw
              refine lv_iload hx hb dL_isFair_201 (lv_at hl 8 rfl) ?_
              refine lv_if_eq (tgt := 237) hx hb dL_isFair_203 (by decide) (fun _ => ?_) (fun h => absurd (by decide) h)
              refine lv_iload hx hb dL_isFair_237 (lv_at hl 6 rfl) ?_
              refine lv_iload hx hb dL_isFair_239 (lv_at hl 2 rfl) ?_
              refine lv_if_lt (tgt := 248) hx hb dL_isFair_241 (by decide) (fun h => absurd h (nneg f2)) (fun _ => ?_)
              refine lv_iconst (v := 1) hx hb dL_isFair_244 (by decide) ?_
              refine lv_goto (tgt := 249) hx hb dL_isFair_245 (by decide) ?_
              refine lv_iand hx hb dL_isFair_249 ?_
              refine lv_istore (lv' := [(12, .int ((KW Z j i) &&& 1)), (10, .int ((DN Z j i) ||| (1 <<< ((nI i) &&& 31)))), (5, .int ((nI (c0 + cb (Z 27 j) i)) + (if (Z 27 j i) < 0 then 0 else 1))), (16, .int (EX Z j i)), (15, .int (BX Z j i)), (14, .int 2), (13, .int (nI i)), (11, .int (GR Z j i)), (9, .int 0), (8, .int (Z 6 j 0)), (7, .int (nI j)), (6, .int v6), (4, .int (Z 0 0 1)), (3, .ref (ad 92 0)), (2, .ref (ad 91 0)), (1, .ref (ad 90 0)), (0, .ref (ad 0 0))]) hx hb dL_isFair_250 hl (by decide) rfl (fun ls hl => ?_)
              refine lv_iload hx hb dL_isFair_252 (lv_at hl 7 rfl) ?_
              refine lv_iload hx hb dL_isFair_254 (lv_at hl 3 rfl) ?_
              refine va_mmax hx hb (hml.trans hl.1.symm) hown (hts _ w_ml_L_65) (hts _ w_st_max) (hts _ w_in_J9) (hts _ w_co_max) (Nat.le_trans (Nat.le_of_ble_eq_true rfl) hfr) (Nat.le_trans (Nat.le_of_ble_eq_true rfl) hlo) hc.1 hc.2 dL_isFair_256 ?_
              refine lv_istore (lv' := [(11, .int (if (GR Z j i) < EX Z j i then EX Z j i else (GR Z j i))), (12, .int ((KW Z j i) &&& 1)), (10, .int ((DN Z j i) ||| (1 <<< ((nI i) &&& 31)))), (5, .int ((nI (c0 + cb (Z 27 j) i)) + (if (Z 27 j i) < 0 then 0 else 1))), (16, .int (EX Z j i)), (15, .int (BX Z j i)), (14, .int 2), (13, .int (nI i)), (9, .int 0), (8, .int (Z 6 j 0)), (7, .int (nI j)), (6, .int v6), (4, .int (Z 0 0 1)), (3, .ref (ad 92 0)), (2, .ref (ad 91 0)), (1, .ref (ad 90 0)), (0, .ref (ad 0 0))]) hx hb dL_isFair_259 hl (by decide) rfl (fun ls hl => ?_)
              refine lv_iload hx hb dL_isFair_261 (lv_at hl 5 rfl) ?_
              refine lv_if_ge (tgt := 270) hx hb dL_isFair_263 (by decide) (fun _ => ?_) (fun h => absurd (le_0 f1) h)
              refine lv_iconst (v := 0) hx hb dL_isFair_270 (by decide) ?_
              refine lv_iload hx hb dL_isFair_271 (lv_at hl 4 rfl) ?_
              refine lv_if_ge (tgt := 280) hx hb dL_isFair_273 (by decide) (fun _ => ?_) (fun h => absurd (le_0 f2) h)
              refine lv_iconst (v := 0) hx hb dL_isFair_280 (by decide) ?_
              refine lv_icmp_ne (tgt := 314) hx hb dL_isFair_281 (by decide) (fun h => absurd (by decide) h) (fun _ => ?_)
              refine lv_iload hx hb dL_isFair_284 (lv_at hl 5 rfl) ?_
              refine lv_if_lt (tgt := 308) hx hb dL_isFair_286 (by decide) (fun h => absurd h (nneg f1)) (fun _ => ?_)
              refine lv_iload hx hb dL_isFair_289 (lv_at hl 4 rfl) ?_
              refine lv_iload hx hb dL_isFair_291 (lv_at hl 5 rfl) ?_
              refine lv_aload_n hx hb dL_isFair_293 rfl (lv_at hl 16 rfl) ?_
              refine lv_iload hx hb dL_isFair_294 (lv_at hl 10 rfl) ?_
              refine lv_iload hx hb dL_isFair_296 (lv_at hl 7 rfl) ?_
              refine lv_iconst (v := 4) hx hb dL_isFair_298 (by decide) ?_
              refine r_step ⟨hx, hb, hml, hown, hts⟩ hK hO hL hA hw hZ hS (j := j) (k := i) (w := 4) hj hi12 hq (by decide) (v := sp_X2_lengthFor Z j (nI i)) (w_s4 hi12) (cwV 3 hts (gB_V w_ml_L_81 w_im_X5_ofStep w_se_X5_ofStep w_in_X5 w_co_X5_ofStep) rfl rfl rfl (by decide +kernel) ⟨Nat.le_trans (Nat.le_of_ble_eq_true rfl) hfr, Nat.le_trans (Nat.le_of_ble_eq_true rfl) hlo⟩) hl.1 (Nat.le_of_ble_eq_true rfl) hc dL_isFair_299 (fun S H locs hS hw => ?_)
              refine lv_iadd hx hb dL_isFair_302 ?_
              refine lv_iconst (v := 1) hx hb dL_isFair_303 (by decide) ?_
              refine lv_isub hx hb dL_isFair_304 ?_
              refine lv_icmp_ne (tgt := 314) hx hb dL_isFair_305 (by decide) (fun h => absurd f3 h) (fun _ => ?_)
              refine lv_iload hx hb dL_isFair_308 (lv_at hl 6 rfl) ?_
              refine lv_iconst (v := 3) hx hb dL_isFair_310 (by decide) ?_
              refine lv_icmp_ne (tgt := 316) hx hb dL_isFair_311 (by decide) (fun _ => ?_) (fun h => absurd h (by decide))
              refine lv_iload hx hb dL_isFair_316 (lv_at hl 5 rfl) ?_
              refine lv_if_lt (tgt := 380) hx hb dL_isFair_318 (by decide) (fun h => absurd h (nneg f1)) (fun _ => ?_)
              refine lv_iload hx hb dL_isFair_321 (lv_at hl 5 rfl) ?_
              refine lv_aload_n hx hb dL_isFair_323 rfl (lv_at hl 16 rfl) ?_
              refine lv_iload hx hb dL_isFair_324 (lv_at hl 10 rfl) ?_
              refine lv_iconst (v := 1) hx hb dL_isFair_326 (by decide) ?_
              refine r_joiner ⟨hx, hb, hml, hown, hts⟩ hK hO hL hA hw hZ hS (j := j) (w := 1) hj (by decide) (v := Z 6 j 1) w_j1 (cwV 2 hts (gB_V w_ml_L_52 w_im_X5_ofJoiner w_se_X5_ofJoiner w_in_X5 w_co_X5_ofJoiner) rfl rfl rfl (by decide +kernel) ⟨Nat.le_trans (Nat.le_of_ble_eq_true rfl) hfr, Nat.le_trans (Nat.le_of_ble_eq_true rfl) hlo⟩) hl.1 (Nat.le_of_ble_eq_true rfl) hc dL_isFair_327 (fun S H locs hS hw => ?_)
              refine lv_icmp_lt (tgt := 378) hx hb dL_isFair_330 (by decide) (fun h => absurd h (nlt_i f4)) (fun _ => ?_)
              refine lv_iload hx hb dL_isFair_333 (lv_at hl 6 rfl) ?_
              refine lv_if_ne (tgt := 345) hx hb dL_isFair_335 (by decide) (fun _ => ?_) (fun h => absurd h (by decide))
              refine lv_iload hx hb dL_isFair_345 (lv_at hl 6 rfl) ?_
              refine lv_iconst (v := 1) hx hb dL_isFair_347 (by decide) ?_
              refine lv_icmp_ne (tgt := 365) hx hb dL_isFair_348 (by decide) (fun _ => ?_) (fun h => absurd h (by decide))
              refine lv_iload hx hb dL_isFair_365 (lv_at hl 6 rfl) ?_
              refine lv_iconst (v := 2) hx hb dL_isFair_367 (by decide) ?_
              refine lv_icmp_ne (tgt := 380) hx hb dL_isFair_368 (by decide) (fun h => absurd (by decide) h) (fun _ => ?_)
              refine lv_iload hx hb dL_isFair_371 (lv_at hl 4 rfl) ?_
              refine lv_iload hx hb dL_isFair_373 (lv_at hl 12 rfl) ?_
              refine lv_icmp_lt (tgt := 380) hx hb dL_isFair_375 (by decide) (fun _ => ?_) (fun h => absurd (lt_i y1) h)
              refine lv_iconst (v := 0) hx hb dL_isFair_380 (by decide) ?_
              refine lv_istore (lv' := [(17, .int 0), (11, .int (if (GR Z j i) < EX Z j i then EX Z j i else (GR Z j i))), (12, .int ((KW Z j i) &&& 1)), (10, .int ((DN Z j i) ||| (1 <<< ((nI i) &&& 31)))), (5, .int ((nI (c0 + cb (Z 27 j) i)) + (if (Z 27 j i) < 0 then 0 else 1))), (16, .int (EX Z j i)), (15, .int (BX Z j i)), (14, .int 2), (13, .int (nI i)), (9, .int 0), (8, .int (Z 6 j 0)), (7, .int (nI j)), (6, .int v6), (4, .int (Z 0 0 1)), (3, .ref (ad 92 0)), (2, .ref (ad 91 0)), (1, .ref (ad 90 0)), (0, .ref (ad 0 0))]) hx hb dL_isFair_381 hl (by decide) rfl (fun ls hl => ?_)
              refine fair_need (r' := r') ⟨hx, hb, hml, hown, hts⟩ hK hO hL hA hfr hlo hc hr hZ hN m90 m91 m92 h90 h91 h92 ens enr ekd end_ est hj (show i < ns by omega) (fun n hn hq2 _ => ⟨nneg (f6 n hn hq2).1, lt_i (f6 n hn hq2).2⟩) ?_ i 0 S H locs ls (Nat.zero_add _) hS hw (lv_sub hl [0, 5, 6, 7, 8, 2, 1, 3, 9, 10, 11, 12, 4, 13, 14, 15, 16, 17] rfl)
              intro S H locs ls hS hw hl
              refine lv_iinc (v := (nI (i + 1))) (lv' := [(13, .int (nI (i + 1))), (16, .int (EX Z j i)), (15, .int (BX Z j i)), (14, .int 2), (12, .int ((KW Z j i) &&& 1)), (11, .int (if (GR Z j i) < EX Z j i then EX Z j i else (GR Z j i))), (10, .int ((DN Z j i) ||| (1 <<< ((nI i) &&& 31)))), (9, .int 0), (8, .int (Z 6 j 0)), (7, .int (nI j)), (6, .int v6), (5, .int ((nI (c0 + cb (Z 27 j) i)) + (if (Z 27 j i) < 0 then 0 else 1))), (4, .int (Z 0 0 1)), (3, .ref (ad 92 0)), (2, .ref (ad 91 0)), (1, .ref (ad 90 0)), (0, .ref (ad 0 0))]) hx hb dL_isFair_444 hl (k := 3) rfl (nI_1 _) (by decide) rfl (fun ls hl => ?_)
              refine lv_goto (tgt := 66) hx hb dL_isFair_447 (by decide) ?_
              refine ih (i + 1) S H locs ls (by omega) hS hw ?_
              rw [eKW, eGR, eDN, eCB]
              exact lv_sub hl [0, 4, 5, 6, 7, 8, 9, 10, 11, 12, 13, 14, 15, 16] rfl
            refine lv_if_lt (tgt := 201) hx hb dL_isFair_169 (by decide) (fun c_2 => ?_) (fun c_2 => ?_)
            · exact k201_c_2 S H locs hS hw
            · refine lv_aload_n hx hb dL_isFair_172 rfl (lv_at hl 15 rfl) ?_
              refine lv_iload hx hb dL_isFair_173 (lv_at hl 5 rfl) ?_
              refine r_ald ⟨hx, hb, hml, hown, hts⟩ hK hw (i := i) (v := kd i) m90 (by decide) h90 (by omega) (by omega) rfl dL_isFair_175 ?_
              refine lv_iconst (v := 2) hx hb dL_isFair_176 (by decide) ?_
              refine lv_icmp_ne (tgt := 199) hx hb dL_isFair_177 (by decide) (fun h => absurd (b2 c_2).1 h) (fun _ => ?_)
              refine lv_aload_n hx hb dL_isFair_180 rfl (lv_at hl 16 rfl) ?_
              refine lv_aload_n hx hb dL_isFair_181 rfl (lv_at hl 16 rfl) ?_
              refine lv_iload hx hb dL_isFair_182 (lv_at hl 10 rfl) ?_
              refine lv_iload hx hb dL_isFair_184 (lv_at hl 5 rfl) ?_
              refine lv_iconst (v := 3) hx hb dL_isFair_186 (by decide) ?_
              refine r_step ⟨hx, hb, hml, hown, hts⟩ hK hO hL hA hw hZ hS (j := j) (k := i) (w := 3) hj hi12 hq (by decide) (v := nI (Z 27 j i).toNatClampNeg) ((w_s3 hi12).trans (b2 c_2).2.1) (cwV 3 hts (gB_V w_ml_L_81 w_im_X5_ofStep w_se_X5_ofStep w_in_X5 w_co_X5_ofStep) rfl rfl rfl (by decide +kernel) ⟨Nat.le_trans (Nat.le_of_ble_eq_true rfl) hfr, Nat.le_trans (Nat.le_of_ble_eq_true rfl) hlo⟩) hl.1 (Nat.le_of_ble_eq_true rfl) hc dL_isFair_187 (fun S H locs hS hw => ?_)
              refine lv_iconst (v := 0) hx hb dL_isFair_190 (by decide) ?_
              refine r_sess ⟨hx, hb, hml, hown, hts⟩ hK hO hL hA hw hZ hS (q := ((Z 27 j i).toNatClampNeg)) (w := 0) (b2 c_2).2.2.1 (by decide) (v := nI i) ((w_e0 (by have := hZ.c.self.iv.e20; have := (b2 c_2).2.2.1; omega)).trans (b2 c_2).2.2.2) (cwV 2 hts (gB_V w_ml_L_84 w_im_X5_ofSession w_se_X5_ofSession w_in_X5 w_co_X5_ofSession) rfl rfl rfl (by decide +kernel) ⟨Nat.le_trans (Nat.le_of_ble_eq_true rfl) hfr, Nat.le_trans (Nat.le_of_ble_eq_true rfl) hlo⟩) hl.1 (Nat.le_of_ble_eq_true rfl) hc dL_isFair_191 (fun H locs hw => ?_)
              refine lv_iload hx hb dL_isFair_194 (lv_at hl 5 rfl) ?_
              refine lv_icmp_eq (tgt := 201) hx hb dL_isFair_196 (by decide) (fun _ => ?_) (fun h => absurd rfl h)
              exact k201_c_2 S H locs hS hw
          refine lv_if_lt (tgt := 137) hx hb dL_isFair_130 (by decide) (fun c_1 => ?_) (fun c_1 => ?_)
          · rw [if_pos c_1] at k138_c_1
            refine lv_iconst (v := 0) hx hb dL_isFair_137 (by decide) ?_
            exact k138_c_1
          · rw [if_neg c_1] at k138_c_1
            refine lv_iconst (v := 1) hx hb dL_isFair_133 (by decide) ?_
            refine lv_goto (tgt := 138) hx hb dL_isFair_134 (by decide) ?_
            exact k138_c_1
    · have eDN : DN Z j (i + 1) = DN Z j i := if_neg hq
      have z27 : Z 27 j i < 0 := by
        rcases hZ.c.self.iv.bk j hj i hi12 with y | ⟨-, -, y⟩
        · rw [y]; decide
        · exact absurd y hq
      have eCB : nI (c0 + cb (Z 27 j) (i + 1)) = nI (c0 + cb (Z 27 j) i) := by
        show nI (c0 + (cb (Z 27 j) i + (if Z 27 j i < 0 then 0 else 1))) = _
        rw [if_pos z27, Nat.add_zero]
      have eKW : KW Z j (i + 1) = KW Z j i := if_neg hq
      have eGR : GR Z j (i + 1) = GR Z j i := if_neg hq
      refine lv_iload hx hb dL_isFair_66 (lv_at hl 0 rfl) ?_
      refine lv_aload_n hx hb dL_isFair_68 rfl (lv_at hl 12 rfl) ?_
      refine r_len ⟨hx, hb, hml, hown, hts⟩ hK hw m90 (by decide) h90 dL_isFair_69 ?_
      refine lv_icmp_ge (tgt := 450) hx hb dL_isFair_70 (by decide) (fun h => absurd h hlt) (fun _ => ?_)
      refine lv_iload hx hb dL_isFair_73 (lv_at hl 5 rfl) ?_
      refine lv_iload hx hb dL_isFair_75 (lv_at hl 0 rfl) ?_
      refine lv_ishr hx hb dL_isFair_77 ?_
      refine lv_iconst (v := 1) hx hb dL_isFair_78 (by decide) ?_
      refine lv_iand hx hb dL_isFair_79 ?_
      refine lv_if_ne (tgt := 86) hx hb dL_isFair_80 (by decide) (fun h => absurd ((bit_z (by omega)).mpr hq) h) (fun _ => ?_)
      refine lv_goto (tgt := 444) hx hb dL_isFair_83 (by decide) ?_
      refine lv_iinc (v := (nI (i + 1))) (lv' := [(13, .int (nI (i + 1))), (12, .int (KW Z j i)), (11, .int (GR Z j i)), (10, .int (DN Z j i)), (9, .int 0), (8, .int (Z 6 j 0)), (7, .int (nI j)), (6, .int v6), (5, .int (nI (c0 + cb (Z 27 j) i))), (4, .int (Z 0 0 1)), (3, .ref (ad 92 0)), (2, .ref (ad 91 0)), (1, .ref (ad 90 0)), (0, .ref (ad 0 0))]) hx hb dL_isFair_444 hl (k := 0) rfl (nI_1 _) (by decide) rfl (fun ls hl => ?_)
      refine lv_goto (tgt := 66) hx hb dL_isFair_447 (by decide) ?_
      refine ih (i + 1) S H locs ls (by omega) hS hw ?_
      rw [eDN, eCB, eKW, eGR]
      exact lv_sub hl [0, 1, 2, 3, 4, 5, 6, 7, 8, 9, 10, 11, 12, 13] rfl

set_option maxHeartbeats 2000000 in
set_option maxRecDepth 100000 in
theorem fair_kL {p : Program} {l : Launch} {e : Env} {R : Room} {s : State} {m : MethodId} {args : Array Value} {below : List Frame} {meth : Method} {c : Code} {cells slots : Nat} {Q : State → Prop} {D : va_G} {cI cG cJ cO : ClassId} {K0 : Nat → Nat} {A : Nat → Prop} {L : List (Nat × Nat)} {ad : Nat → Nat → Nat} {ce : Nat → Nat → va_E} {Z M : STT} {r r' : Nat} {ns nr : Nat} {kd nd st : Nat → Int32} (F : CallFix p m c cL_isFair 18 s args BIG RL) (hK : va_K D vwCl (ktys cI cG cJ cO) s) (hO : OW A K0 s) (hL : ∀ f o, cid f o = true → (f, o) ∈ L) (hA : ∀ q, s.heap.size ≤ q → A q) (hfr : 6 ≤ R.frames) (hlo : 140 ≤ R.locals) (hc : cells ≤ R.cells ∧ slots ≤ R.slots) (hr : r ≤ 512) (hZ : RLn r Z M) (hN : NI Z) (m90 : (90, 0) ∈ L) (m91 : (91, 0) ∈ L) (m92 : (92, 0) ∈ L) (h90 : ce 90 0 = .inl (cI, ns, .inl kd)) (h91 : ce 91 0 = .inl (cI, ns, .inl nd)) (h92 : ce 92 0 = .inl (cI, nr, .inl st)) (ens : ns = (Z 1 0 0).toNatClampNeg) (enr : nr = (Z 1 0 1).toNatClampNeg) (ekd : ∀ k, k < ns → kd k = Z 7 0 k) (end_ : ∀ k, k < ns → nd k = Z 9 0 k) (est : ∀ k, k < nr → st k = Z 12 0 k) {j c0 : Nat} (hj : j < (Z 0 0 0).toNatClampNeg) (hl6 : ¬ Z 6 j 2 = 0) {v6 : Int32} (kk : ∀ (S : STT) (H : Heap) (locs : List Loc) (ls : Array Slot), RLn r' S M → wk D A L ad (cK cI cJ ad ce S) s.heap H locs → lv_has ls 18 [(12, .int 1), (11, .int (-1)), (10, .int (DN Z j ns)), (9, .int 1), (8, .int (Z 6 j 0)), (7, .int (nI j)), (6, .int v6), (5, .int (nI (c0 + cb (Z 27 j) ns))), (4, .int (Z 0 0 1)), (3, .ref (ad 92 0)), (2, .ref (ad 91 0)), (1, .ref (ad 90 0)), (0, .ref (ad 0 0))] → W p l e R s m args below meth c H locs cells slots Q (F0 m 450 ls [])) : ∀ (n i : Nat) (S : STT) (H : Heap) (locs : List Loc) (ls : Array Slot), i + n = ns → RLn r' S M → wk D A L ad (cK cI cJ ad ce S) s.heap H locs → lv_has ls 18 [(13, .int (nI i)), (12, .int 1), (11, .int (-1)), (10, .int (DN Z j i)), (9, .int 1), (8, .int (Z 6 j 0)), (7, .int (nI j)), (6, .int v6), (5, .int (nI (c0 + cb (Z 27 j) i))), (4, .int (Z 0 0 1)), (3, .ref (ad 92 0)), (2, .ref (ad 91 0)), (1, .ref (ad 90 0)), (0, .ref (ad 0 0))] → W p l e R s m args below meth c H locs cells slots Q (F0 m 66 ls []) := by
  obtain ⟨hx, hb, hml, hown, hts⟩ := F
  have hm12 := hZ.c.self.iv.m12
  have hj8 := hZ.c.self.iv.j8
  intro n
  induction n with
  | zero =>
    intro i S H locs ls hi hS hw hl
    obtain rfl : i = ns := hi
    refine lv_iload hx hb dL_isFair_66 (lv_at hl 0 rfl) ?_
    refine lv_aload_n hx hb dL_isFair_68 rfl (lv_at hl 12 rfl) ?_
    refine r_len ⟨hx, hb, hml, hown, hts⟩ hK hw m90 (by decide) h90 dL_isFair_69 ?_
    refine lv_icmp_ge (tgt := 450) hx hb dL_isFair_70 (by decide) (fun _ => ?_) (fun h => absurd (nI_le (Nat.le_refl _) (by omega)) h)
    exact kk S H locs ls hS hw (lv_sub hl [1, 2, 3, 4, 5, 6, 7, 8, 9, 10, 11, 12, 13] rfl)
  | succ n ih =>
    intro i S H locs ls hi hS hw hl
    have hlt : ¬ nI ns ≤ nI i := nI_ge (by omega) (by omega)
    have hi12 : i < 12 := by omega
    by_cases hq : qb (Z 6 j 0) i = true
    · have eDN : DN Z j (i + 1) = DN Z j i ||| (if Z 24 j i = 2 then 1 <<< (nI i &&& 31) else 0) := if_pos hq
      have eCB : nI (c0 + cb (Z 27 j) (i + 1)) = nI (c0 + cb (Z 27 j) i) + (if Z 27 j i < 0 then 0 else 1) := by rw [seat_add, Nat.add_assoc]; rfl
      have b2 : ¬ Z 27 j i < 0 → kd i = 2 ∧ Z 27 j i = nI (Z 27 j i).toNatClampNeg ∧ (Z 27 j i).toNatClampNeg < (Z 3 0 0).toNatClampNeg ∧ Z 17 0 (Z 27 j i).toNatClampNeg = nI i := fun z => by
        have nb : ¬ Z 27 j i = -1 := fun y => z (by rw [y]; decide)
        obtain ⟨y1, y2, y3⟩ := hN.2.1 j hj i hi12 nb
        refine ⟨by rw [ekd i (by omega)]; exact y1, cn_nn z, ?_, y2⟩
        rcases hZ.c.self.iv.bk j hj i hi12 with y | ⟨w1, w2, -⟩
        · exact absurd y nb
        · have z1 := cnt_i w1; have z2 := cnt_i hZ.c.self.iv.ci.2.2.2.1.1; omega
      obtain ⟨e1, e2⟩ := fair_n hr hZ hN hj hi12 (Or.inr hl6)
      by_cases z24 : Z 24 j i = 0
      · have eDN : DN Z j (i + 1) = DN Z j i ||| 0 := by rw [eDN, z24]; rfl
        have z27 : Z 27 j i < 0 := (by by_cases y : Z 27 j i = -1; (rw [y]; decide); exact absurd z24 ((hN.2.1 j hj i hi12 y).2.2 hl6))
        have eCB : nI (c0 + cb (Z 27 j) (i + 1)) = nI (c0 + cb (Z 27 j) i) + 0 := by rw [eCB, if_pos z27]
        refine lv_iload hx hb dL_isFair_66 (lv_at hl 0 rfl) ?_
        refine lv_aload_n hx hb dL_isFair_68 rfl (lv_at hl 12 rfl) ?_
        refine r_len ⟨hx, hb, hml, hown, hts⟩ hK hw m90 (by decide) h90 dL_isFair_69 ?_
        refine lv_icmp_ge (tgt := 450) hx hb dL_isFair_70 (by decide) (fun h => absurd h hlt) (fun _ => ?_)
        refine lv_iload hx hb dL_isFair_73 (lv_at hl 5 rfl) ?_
        refine lv_iload hx hb dL_isFair_75 (lv_at hl 0 rfl) ?_
        refine lv_ishr hx hb dL_isFair_77 ?_
        refine lv_iconst (v := 1) hx hb dL_isFair_78 (by decide) ?_
        refine lv_iand hx hb dL_isFair_79 ?_
        refine lv_if_ne (tgt := 86) hx hb dL_isFair_80 (by decide) (fun _ => ?_) (fun h => absurd h (fun z => (bit_z (by omega)).mp z hq))
        refine lv_aload_n hx hb dL_isFair_86 rfl (lv_at hl 13 rfl) ?_
        refine lv_iload hx hb dL_isFair_87 (lv_at hl 6 rfl) ?_
        refine lv_iload hx hb dL_isFair_89 (lv_at hl 0 rfl) ?_
        refine lv_iconst (v := 0) hx hb dL_isFair_91 (by decide) ?_
        refine r_step ⟨hx, hb, hml, hown, hts⟩ hK hO hL hA hw hZ hS (j := j) (k := i) (w := 0) hj hi12 hq (by decide) (v := 0) ((w_s0 hi12).trans z24) (cwV 3 hts (gB_V w_ml_L_81 w_im_X5_ofStep w_se_X5_ofStep w_in_X5 w_co_X5_ofStep) rfl rfl rfl (by decide +kernel) ⟨Nat.le_trans (Nat.le_of_ble_eq_true rfl) hfr, Nat.le_trans (Nat.le_of_ble_eq_true rfl) hlo⟩) hl.1 (Nat.le_of_ble_eq_true rfl) hc dL_isFair_92 (fun S H locs hS hw => ?_)
        refine lv_istore (lv' := [(14, .int 0), (13, .int (nI i)), (12, .int 1), (11, .int (-1)), (10, .int (DN Z j i)), (9, .int 1), (8, .int (Z 6 j 0)), (7, .int (nI j)), (6, .int v6), (5, .int (nI (c0 + cb (Z 27 j) i))), (4, .int (Z 0 0 1)), (3, .ref (ad 92 0)), (2, .ref (ad 91 0)), (1, .ref (ad 90 0)), (0, .ref (ad 0 0))]) hx hb dL_isFair_95 hl (by decide) rfl (fun ls hl => ?_)
        refine lv_aload_n hx hb dL_isFair_97 rfl (lv_at hl 14 rfl) ?_
        refine lv_iload hx hb dL_isFair_98 (lv_at hl 7 rfl) ?_
        refine lv_iload hx hb dL_isFair_100 (lv_at hl 1 rfl) ?_
        refine lv_iconst (v := 1) hx hb dL_isFair_102 (by decide) ?_
        refine r_step ⟨hx, hb, hml, hown, hts⟩ hK hO hL hA hw hZ hS (j := j) (k := i) (w := 1) hj hi12 hq (by decide) (v := (-1)) ((w_s1 hi12).trans e1) (cwV 3 hts (gB_V w_ml_L_81 w_im_X5_ofStep w_se_X5_ofStep w_in_X5 w_co_X5_ofStep) rfl rfl rfl (by decide +kernel) ⟨Nat.le_trans (Nat.le_of_ble_eq_true rfl) hfr, Nat.le_trans (Nat.le_of_ble_eq_true rfl) hlo⟩) hl.1 (Nat.le_of_ble_eq_true rfl) hc dL_isFair_103 (fun S H locs hS hw => ?_)
        refine lv_istore (lv' := [(15, .int (-1)), (14, .int 0), (13, .int (nI i)), (12, .int 1), (11, .int (-1)), (10, .int (DN Z j i)), (9, .int 1), (8, .int (Z 6 j 0)), (7, .int (nI j)), (6, .int v6), (5, .int (nI (c0 + cb (Z 27 j) i))), (4, .int (Z 0 0 1)), (3, .ref (ad 92 0)), (2, .ref (ad 91 0)), (1, .ref (ad 90 0)), (0, .ref (ad 0 0))]) hx hb dL_isFair_106 hl (by decide) rfl (fun ls hl => ?_)
        refine lv_aload_n hx hb dL_isFair_108 rfl (lv_at hl 15 rfl) ?_
        refine lv_iload hx hb dL_isFair_109 (lv_at hl 8 rfl) ?_
        refine lv_iload hx hb dL_isFair_111 (lv_at hl 2 rfl) ?_
        refine lv_iconst (v := 2) hx hb dL_isFair_113 (by decide) ?_
        refine r_step ⟨hx, hb, hml, hown, hts⟩ hK hO hL hA hw hZ hS (j := j) (k := i) (w := 2) hj hi12 hq (by decide) (v := (-1)) ((w_s2 hi12).trans e2) (cwV 3 hts (gB_V w_ml_L_81 w_im_X5_ofStep w_se_X5_ofStep w_in_X5 w_co_X5_ofStep) rfl rfl rfl (by decide +kernel) ⟨Nat.le_trans (Nat.le_of_ble_eq_true rfl) hfr, Nat.le_trans (Nat.le_of_ble_eq_true rfl) hlo⟩) hl.1 (Nat.le_of_ble_eq_true rfl) hc dL_isFair_114 (fun S H locs hS hw => ?_)
        refine lv_istore (lv' := [(16, .int (-1)), (15, .int (-1)), (14, .int 0), (13, .int (nI i)), (12, .int 1), (11, .int (-1)), (10, .int (DN Z j i)), (9, .int 1), (8, .int (Z 6 j 0)), (7, .int (nI j)), (6, .int v6), (5, .int (nI (c0 + cb (Z 27 j) i))), (4, .int (Z 0 0 1)), (3, .ref (ad 92 0)), (2, .ref (ad 91 0)), (1, .ref (ad 90 0)), (0, .ref (ad 0 0))]) hx hb dL_isFair_117 hl (by decide) rfl (fun ls hl => ?_)
        refine lv_iload hx hb dL_isFair_119 (lv_at hl 11 rfl) ?_
        refine lv_aload_n hx hb dL_isFair_121 rfl (lv_at hl 16 rfl) ?_
        refine lv_iload hx hb dL_isFair_122 (lv_at hl 9 rfl) ?_
        refine lv_iload hx hb dL_isFair_124 (lv_at hl 3 rfl) ?_
        refine lv_iconst (v := 3) hx hb dL_isFair_126 (by decide) ?_
        refine r_step ⟨hx, hb, hml, hown, hts⟩ hK hO hL hA hw hZ hS (j := j) (k := i) (w := 3) hj hi12 hq (by decide) (v := (Z 27 j i)) (w_s3 hi12) (cwV 3 hts (gB_V w_ml_L_81 w_im_X5_ofStep w_se_X5_ofStep w_in_X5 w_co_X5_ofStep) rfl rfl rfl (by decide +kernel) ⟨Nat.le_trans (Nat.le_of_ble_eq_true rfl) hfr, Nat.le_trans (Nat.le_of_ble_eq_true rfl) hlo⟩) hl.1 (Nat.le_of_ble_eq_true rfl) hc dL_isFair_127 (fun S H locs hS hw => ?_)
        refine lv_if_lt (tgt := 137) hx hb dL_isFair_130 (by decide) (fun _ => ?_) (fun h => absurd (by by_cases y : Z 27 j i = -1; (rw [y]; decide); exact absurd z24 ((hN.2.1 j hj i hi12 y).2.2 hl6)) h)
        refine lv_iconst (v := 0) hx hb dL_isFair_137 (by decide) ?_
        refine lv_iadd hx hb dL_isFair_138 ?_
        refine lv_istore (lv' := [(5, .int ((nI (c0 + cb (Z 27 j) i)) + 0)), (16, .int (-1)), (15, .int (-1)), (14, .int 0), (13, .int (nI i)), (12, .int 1), (11, .int (-1)), (10, .int (DN Z j i)), (9, .int 1), (8, .int (Z 6 j 0)), (7, .int (nI j)), (6, .int v6), (4, .int (Z 0 0 1)), (3, .ref (ad 92 0)), (2, .ref (ad 91 0)), (1, .ref (ad 90 0)), (0, .ref (ad 0 0))]) hx hb dL_isFair_139 hl (by decide) rfl (fun ls hl => ?_)
        refine lv_iload hx hb dL_isFair_141 (lv_at hl 7 rfl) ?_
        refine lv_iload hx hb dL_isFair_143 (lv_at hl 3 rfl) ?_
        refine lv_iconst (v := 2) hx hb dL_isFair_145 (by decide) ?_
        refine lv_icmp_ne (tgt := 156) hx hb dL_isFair_146 (by decide) (fun _ => ?_) (fun h => absurd h (by decide))
        refine lv_iconst (v := 0) hx hb dL_isFair_156 (by decide) ?_
        refine lv_ior hx hb dL_isFair_157 ?_
        refine lv_istore (lv' := [(10, .int ((DN Z j i) ||| 0)), (5, .int ((nI (c0 + cb (Z 27 j) i)) + 0)), (16, .int (-1)), (15, .int (-1)), (14, .int 0), (13, .int (nI i)), (12, .int 1), (11, .int (-1)), (9, .int 1), (8, .int (Z 6 j 0)), (7, .int (nI j)), (6, .int v6), (4, .int (Z 0 0 1)), (3, .ref (ad 92 0)), (2, .ref (ad 91 0)), (1, .ref (ad 90 0)), (0, .ref (ad 0 0))]) hx hb dL_isFair_158 hl (by decide) rfl (fun ls hl => ?_)
        refine lv_aload_n hx hb dL_isFair_160 rfl (lv_at hl 16 rfl) ?_
        refine lv_iload hx hb dL_isFair_161 (lv_at hl 10 rfl) ?_
        refine lv_iload hx hb dL_isFair_163 (lv_at hl 5 rfl) ?_
        refine lv_iconst (v := 3) hx hb dL_isFair_165 (by decide) ?_
        refine r_step ⟨hx, hb, hml, hown, hts⟩ hK hO hL hA hw hZ hS (j := j) (k := i) (w := 3) hj hi12 hq (by decide) (v := (Z 27 j i)) (w_s3 hi12) (cwV 3 hts (gB_V w_ml_L_81 w_im_X5_ofStep w_se_X5_ofStep w_in_X5 w_co_X5_ofStep) rfl rfl rfl (by decide +kernel) ⟨Nat.le_trans (Nat.le_of_ble_eq_true rfl) hfr, Nat.le_trans (Nat.le_of_ble_eq_true rfl) hlo⟩) hl.1 (Nat.le_of_ble_eq_true rfl) hc dL_isFair_166 (fun S H locs hS hw => ?_)
        refine lv_if_lt (tgt := 201) hx hb dL_isFair_169 (by decide) (fun _ => ?_) (fun h => absurd (by by_cases y : Z 27 j i = -1; (rw [y]; decide); exact absurd z24 ((hN.2.1 j hj i hi12 y).2.2 hl6)) h)
        refine lv_iload hx hb dL_isFair_201 (lv_at hl 8 rfl) ?_
        refine lv_if_eq (tgt := 237) hx hb dL_isFair_203 (by decide) (fun h => absurd h (by decide)) (fun _ => ?_)
        refine lv_iload hx hb dL_isFair_206 (lv_at hl 3 rfl) ?_
        refine lv_iconst (v := (-1)) hx hb dL_isFair_208 (by decide) ?_
        refine lv_icmp_ne (tgt := 235) hx hb dL_isFair_209 (by decide) (fun h => absurd (by decide) h) (fun _ => ?_)
        refine lv_iload hx hb dL_isFair_212 (lv_at hl 2 rfl) ?_
        refine lv_iconst (v := (-1)) hx hb dL_isFair_214 (by decide) ?_
        refine lv_icmp_ne (tgt := 235) hx hb dL_isFair_215 (by decide) (fun h => absurd (by decide) h) (fun _ => ?_)
        refine lv_iload hx hb dL_isFair_218 (lv_at hl 4 rfl) ?_
        refine lv_if_ne (tgt := 444) hx hb dL_isFair_220 (by decide) (fun h => absurd (by decide) h) (fun _ => ?_)
        refine lv_aload_n hx hb dL_isFair_223 rfl (lv_at hl 16 rfl) ?_
        refine lv_iload hx hb dL_isFair_224 (lv_at hl 10 rfl) ?_
        refine lv_iload hx hb dL_isFair_226 (lv_at hl 5 rfl) ?_
        refine lv_iconst (v := 3) hx hb dL_isFair_228 (by decide) ?_
        refine r_step ⟨hx, hb, hml, hown, hts⟩ hK hO hL hA hw hZ hS (j := j) (k := i) (w := 3) hj hi12 hq (by decide) (v := (Z 27 j i)) (w_s3 hi12) (cwV 3 hts (gB_V w_ml_L_81 w_im_X5_ofStep w_se_X5_ofStep w_in_X5 w_co_X5_ofStep) rfl rfl rfl (by decide +kernel) ⟨Nat.le_trans (Nat.le_of_ble_eq_true rfl) hfr, Nat.le_trans (Nat.le_of_ble_eq_true rfl) hlo⟩) hl.1 (Nat.le_of_ble_eq_true rfl) hc dL_isFair_229 (fun S H locs hS hw => ?_)
        refine lv_if_lt (tgt := 444) hx hb dL_isFair_232 (by decide) (fun _ => ?_) (fun h => absurd (by by_cases y : Z 27 j i = -1; (rw [y]; decide); exact absurd z24 ((hN.2.1 j hj i hi12 y).2.2 hl6)) h)
        refine lv_iinc (v := (nI (i + 1))) (lv' := [(13, .int (nI (i + 1))), (10, .int ((DN Z j i) ||| 0)), (5, .int ((nI (c0 + cb (Z 27 j) i)) + 0)), (16, .int (-1)), (15, .int (-1)), (14, .int 0), (12, .int 1), (11, .int (-1)), (9, .int 1), (8, .int (Z 6 j 0)), (7, .int (nI j)), (6, .int v6), (4, .int (Z 0 0 1)), (3, .ref (ad 92 0)), (2, .ref (ad 91 0)), (1, .ref (ad 90 0)), (0, .ref (ad 0 0))]) hx hb dL_isFair_444 hl (k := 5) rfl (nI_1 _) (by decide) rfl (fun ls hl => ?_)
        refine lv_goto (tgt := 66) hx hb dL_isFair_447 (by decide) ?_
        refine ih (i + 1) S H locs ls (by omega) hS hw ?_
        rw [eDN, eCB]
        exact lv_sub hl [0, 6, 7, 1, 8, 9, 10, 11, 2, 12, 13, 14, 15, 16] rfl
      · refine lv_iload hx hb dL_isFair_66 (lv_at hl 0 rfl) ?_
        refine lv_aload_n hx hb dL_isFair_68 rfl (lv_at hl 12 rfl) ?_
        refine r_len ⟨hx, hb, hml, hown, hts⟩ hK hw m90 (by decide) h90 dL_isFair_69 ?_
        refine lv_icmp_ge (tgt := 450) hx hb dL_isFair_70 (by decide) (fun h => absurd h hlt) (fun _ => ?_)
        refine lv_iload hx hb dL_isFair_73 (lv_at hl 5 rfl) ?_
        refine lv_iload hx hb dL_isFair_75 (lv_at hl 0 rfl) ?_
        refine lv_ishr hx hb dL_isFair_77 ?_
        refine lv_iconst (v := 1) hx hb dL_isFair_78 (by decide) ?_
        refine lv_iand hx hb dL_isFair_79 ?_
        refine lv_if_ne (tgt := 86) hx hb dL_isFair_80 (by decide) (fun _ => ?_) (fun h => absurd h (fun z => (bit_z (by omega)).mp z hq))
        refine lv_aload_n hx hb dL_isFair_86 rfl (lv_at hl 13 rfl) ?_
        refine lv_iload hx hb dL_isFair_87 (lv_at hl 6 rfl) ?_
        refine lv_iload hx hb dL_isFair_89 (lv_at hl 0 rfl) ?_
        refine lv_iconst (v := 0) hx hb dL_isFair_91 (by decide) ?_
        refine r_step ⟨hx, hb, hml, hown, hts⟩ hK hO hL hA hw hZ hS (j := j) (k := i) (w := 0) hj hi12 hq (by decide) (v := (Z 24 j i)) (w_s0 hi12) (cwV 3 hts (gB_V w_ml_L_81 w_im_X5_ofStep w_se_X5_ofStep w_in_X5 w_co_X5_ofStep) rfl rfl rfl (by decide +kernel) ⟨Nat.le_trans (Nat.le_of_ble_eq_true rfl) hfr, Nat.le_trans (Nat.le_of_ble_eq_true rfl) hlo⟩) hl.1 (Nat.le_of_ble_eq_true rfl) hc dL_isFair_92 (fun S H locs hS hw => ?_)
        refine lv_istore (lv' := [(14, .int (Z 24 j i)), (13, .int (nI i)), (12, .int 1), (11, .int (-1)), (10, .int (DN Z j i)), (9, .int 1), (8, .int (Z 6 j 0)), (7, .int (nI j)), (6, .int v6), (5, .int (nI (c0 + cb (Z 27 j) i))), (4, .int (Z 0 0 1)), (3, .ref (ad 92 0)), (2, .ref (ad 91 0)), (1, .ref (ad 90 0)), (0, .ref (ad 0 0))]) hx hb dL_isFair_95 hl (by decide) rfl (fun ls hl => ?_)
        refine lv_aload_n hx hb dL_isFair_97 rfl (lv_at hl 14 rfl) ?_
        refine lv_iload hx hb dL_isFair_98 (lv_at hl 7 rfl) ?_
        refine lv_iload hx hb dL_isFair_100 (lv_at hl 1 rfl) ?_
        refine lv_iconst (v := 1) hx hb dL_isFair_102 (by decide) ?_
        refine r_step ⟨hx, hb, hml, hown, hts⟩ hK hO hL hA hw hZ hS (j := j) (k := i) (w := 1) hj hi12 hq (by decide) (v := (-1)) ((w_s1 hi12).trans e1) (cwV 3 hts (gB_V w_ml_L_81 w_im_X5_ofStep w_se_X5_ofStep w_in_X5 w_co_X5_ofStep) rfl rfl rfl (by decide +kernel) ⟨Nat.le_trans (Nat.le_of_ble_eq_true rfl) hfr, Nat.le_trans (Nat.le_of_ble_eq_true rfl) hlo⟩) hl.1 (Nat.le_of_ble_eq_true rfl) hc dL_isFair_103 (fun S H locs hS hw => ?_)
        refine lv_istore (lv' := [(15, .int (-1)), (14, .int (Z 24 j i)), (13, .int (nI i)), (12, .int 1), (11, .int (-1)), (10, .int (DN Z j i)), (9, .int 1), (8, .int (Z 6 j 0)), (7, .int (nI j)), (6, .int v6), (5, .int (nI (c0 + cb (Z 27 j) i))), (4, .int (Z 0 0 1)), (3, .ref (ad 92 0)), (2, .ref (ad 91 0)), (1, .ref (ad 90 0)), (0, .ref (ad 0 0))]) hx hb dL_isFair_106 hl (by decide) rfl (fun ls hl => ?_)
        refine lv_aload_n hx hb dL_isFair_108 rfl (lv_at hl 15 rfl) ?_
        refine lv_iload hx hb dL_isFair_109 (lv_at hl 8 rfl) ?_
        refine lv_iload hx hb dL_isFair_111 (lv_at hl 2 rfl) ?_
        refine lv_iconst (v := 2) hx hb dL_isFair_113 (by decide) ?_
        refine r_step ⟨hx, hb, hml, hown, hts⟩ hK hO hL hA hw hZ hS (j := j) (k := i) (w := 2) hj hi12 hq (by decide) (v := (-1)) ((w_s2 hi12).trans e2) (cwV 3 hts (gB_V w_ml_L_81 w_im_X5_ofStep w_se_X5_ofStep w_in_X5 w_co_X5_ofStep) rfl rfl rfl (by decide +kernel) ⟨Nat.le_trans (Nat.le_of_ble_eq_true rfl) hfr, Nat.le_trans (Nat.le_of_ble_eq_true rfl) hlo⟩) hl.1 (Nat.le_of_ble_eq_true rfl) hc dL_isFair_114 (fun S H locs hS hw => ?_)
        refine lv_istore (lv' := [(16, .int (-1)), (15, .int (-1)), (14, .int (Z 24 j i)), (13, .int (nI i)), (12, .int 1), (11, .int (-1)), (10, .int (DN Z j i)), (9, .int 1), (8, .int (Z 6 j 0)), (7, .int (nI j)), (6, .int v6), (5, .int (nI (c0 + cb (Z 27 j) i))), (4, .int (Z 0 0 1)), (3, .ref (ad 92 0)), (2, .ref (ad 91 0)), (1, .ref (ad 90 0)), (0, .ref (ad 0 0))]) hx hb dL_isFair_117 hl (by decide) rfl (fun ls hl => ?_)
        refine lv_iload hx hb dL_isFair_119 (lv_at hl 11 rfl) ?_
        refine lv_aload_n hx hb dL_isFair_121 rfl (lv_at hl 16 rfl) ?_
        refine lv_iload hx hb dL_isFair_122 (lv_at hl 9 rfl) ?_
        refine lv_iload hx hb dL_isFair_124 (lv_at hl 3 rfl) ?_
        refine lv_iconst (v := 3) hx hb dL_isFair_126 (by decide) ?_
        refine r_step ⟨hx, hb, hml, hown, hts⟩ hK hO hL hA hw hZ hS (j := j) (k := i) (w := 3) hj hi12 hq (by decide) (v := (Z 27 j i)) (w_s3 hi12) (cwV 3 hts (gB_V w_ml_L_81 w_im_X5_ofStep w_se_X5_ofStep w_in_X5 w_co_X5_ofStep) rfl rfl rfl (by decide +kernel) ⟨Nat.le_trans (Nat.le_of_ble_eq_true rfl) hfr, Nat.le_trans (Nat.le_of_ble_eq_true rfl) hlo⟩) hl.1 (Nat.le_of_ble_eq_true rfl) hc dL_isFair_127 (fun S H locs hS hw => ?_)
        have k138_c_1 : W p l e R s m args below meth c H locs cells slots Q (F0 m 138 ls [.int (if (Z 27 j i) < 0 then 0 else 1), .int (nI (c0 + cb (Z 27 j) i))]) := by
          refine lv_iadd hx hb dL_isFair_138 ?_
          refine lv_istore (lv' := [(5, .int ((nI (c0 + cb (Z 27 j) i)) + (if (Z 27 j i) < 0 then 0 else 1))), (16, .int (-1)), (15, .int (-1)), (14, .int (Z 24 j i)), (13, .int (nI i)), (12, .int 1), (11, .int (-1)), (10, .int (DN Z j i)), (9, .int 1), (8, .int (Z 6 j 0)), (7, .int (nI j)), (6, .int v6), (4, .int (Z 0 0 1)), (3, .ref (ad 92 0)), (2, .ref (ad 91 0)), (1, .ref (ad 90 0)), (0, .ref (ad 0 0))]) hx hb dL_isFair_139 hl (by decide) rfl (fun ls hl => ?_)
          refine lv_iload hx hb dL_isFair_141 (lv_at hl 7 rfl) ?_
          refine lv_iload hx hb dL_isFair_143 (lv_at hl 3 rfl) ?_
          refine lv_iconst (v := 2) hx hb dL_isFair_145 (by decide) ?_
          have k157_c_2 : W p l e R s m args below meth c H locs cells slots Q (F0 m 157 ls [.int (if (Z 24 j i) = 2 then 1 <<< ((nI i) &&& 31) else 0), .int (DN Z j i)]) := by
            refine lv_ior hx hb dL_isFair_157 ?_
            refine lv_istore (lv' := [(10, .int ((DN Z j i) ||| (if (Z 24 j i) = 2 then 1 <<< ((nI i) &&& 31) else 0))), (5, .int ((nI (c0 + cb (Z 27 j) i)) + (if (Z 27 j i) < 0 then 0 else 1))), (16, .int (-1)), (15, .int (-1)), (14, .int (Z 24 j i)), (13, .int (nI i)), (12, .int 1), (11, .int (-1)), (9, .int 1), (8, .int (Z 6 j 0)), (7, .int (nI j)), (6, .int v6), (4, .int (Z 0 0 1)), (3, .ref (ad 92 0)), (2, .ref (ad 91 0)), (1, .ref (ad 90 0)), (0, .ref (ad 0 0))]) hx hb dL_isFair_158 hl (by decide) rfl (fun ls hl => ?_)
            refine lv_aload_n hx hb dL_isFair_160 rfl (lv_at hl 16 rfl) ?_
            refine lv_iload hx hb dL_isFair_161 (lv_at hl 10 rfl) ?_
            refine lv_iload hx hb dL_isFair_163 (lv_at hl 5 rfl) ?_
            refine lv_iconst (v := 3) hx hb dL_isFair_165 (by decide) ?_
            refine r_step ⟨hx, hb, hml, hown, hts⟩ hK hO hL hA hw hZ hS (j := j) (k := i) (w := 3) hj hi12 hq (by decide) (v := (Z 27 j i)) (w_s3 hi12) (cwV 3 hts (gB_V w_ml_L_81 w_im_X5_ofStep w_se_X5_ofStep w_in_X5 w_co_X5_ofStep) rfl rfl rfl (by decide +kernel) ⟨Nat.le_trans (Nat.le_of_ble_eq_true rfl) hfr, Nat.le_trans (Nat.le_of_ble_eq_true rfl) hlo⟩) hl.1 (Nat.le_of_ble_eq_true rfl) hc dL_isFair_166 (fun S H locs hS hw => ?_)
            have k201_c_3 : ∀ (S : STT) (H : Heap) (locs : List Loc), RLn r' S M → wk D A L ad (cK cI cJ ad ce S) s.heap H locs → W p l e R s m args below meth c H locs cells slots Q (F0 m 201 ls []) := by
              intro S H locs hS hw
              refine lv_iload hx hb dL_isFair_201 (lv_at hl 8 rfl) ?_
              refine lv_if_eq (tgt := 237) hx hb dL_isFair_203 (by decide) (fun h => absurd h (by decide)) (fun _ => ?_)
              refine lv_iload hx hb dL_isFair_206 (lv_at hl 3 rfl) ?_
              refine lv_iconst (v := (-1)) hx hb dL_isFair_208 (by decide) ?_
              refine lv_icmp_ne (tgt := 235) hx hb dL_isFair_209 (by decide) (fun h => absurd (by decide) h) (fun _ => ?_)
              refine lv_iload hx hb dL_isFair_212 (lv_at hl 2 rfl) ?_
              refine lv_iconst (v := (-1)) hx hb dL_isFair_214 (by decide) ?_
              refine lv_icmp_ne (tgt := 235) hx hb dL_isFair_215 (by decide) (fun h => absurd (by decide) h) (fun _ => ?_)
              refine lv_iload hx hb dL_isFair_218 (lv_at hl 4 rfl) ?_
              refine lv_if_ne (tgt := 444) hx hb dL_isFair_220 (by decide) (fun _ => ?_) (fun h => absurd h z24)
              refine lv_iinc (v := (nI (i + 1))) (lv' := [(13, .int (nI (i + 1))), (10, .int ((DN Z j i) ||| (if (Z 24 j i) = 2 then 1 <<< ((nI i) &&& 31) else 0))), (5, .int ((nI (c0 + cb (Z 27 j) i)) + (if (Z 27 j i) < 0 then 0 else 1))), (16, .int (-1)), (15, .int (-1)), (14, .int (Z 24 j i)), (12, .int 1), (11, .int (-1)), (9, .int 1), (8, .int (Z 6 j 0)), (7, .int (nI j)), (6, .int v6), (4, .int (Z 0 0 1)), (3, .ref (ad 92 0)), (2, .ref (ad 91 0)), (1, .ref (ad 90 0)), (0, .ref (ad 0 0))]) hx hb dL_isFair_444 hl (k := 5) rfl (nI_1 _) (by decide) rfl (fun ls hl => ?_)
              refine lv_goto (tgt := 66) hx hb dL_isFair_447 (by decide) ?_
              refine ih (i + 1) S H locs ls (by omega) hS hw ?_
              rw [eDN, eCB]
              exact lv_sub hl [0, 6, 7, 1, 8, 9, 10, 11, 2, 12, 13, 14, 15, 16] rfl
            refine lv_if_lt (tgt := 201) hx hb dL_isFair_169 (by decide) (fun c_3 => ?_) (fun c_3 => ?_)
            · exact k201_c_3 S H locs hS hw
            · refine lv_aload_n hx hb dL_isFair_172 rfl (lv_at hl 15 rfl) ?_
              refine lv_iload hx hb dL_isFair_173 (lv_at hl 5 rfl) ?_
              refine r_ald ⟨hx, hb, hml, hown, hts⟩ hK hw (i := i) (v := kd i) m90 (by decide) h90 (by omega) (by omega) rfl dL_isFair_175 ?_
              refine lv_iconst (v := 2) hx hb dL_isFair_176 (by decide) ?_
              refine lv_icmp_ne (tgt := 199) hx hb dL_isFair_177 (by decide) (fun h => absurd (b2 c_3).1 h) (fun _ => ?_)
              refine lv_aload_n hx hb dL_isFair_180 rfl (lv_at hl 16 rfl) ?_
              refine lv_aload_n hx hb dL_isFair_181 rfl (lv_at hl 16 rfl) ?_
              refine lv_iload hx hb dL_isFair_182 (lv_at hl 10 rfl) ?_
              refine lv_iload hx hb dL_isFair_184 (lv_at hl 5 rfl) ?_
              refine lv_iconst (v := 3) hx hb dL_isFair_186 (by decide) ?_
              refine r_step ⟨hx, hb, hml, hown, hts⟩ hK hO hL hA hw hZ hS (j := j) (k := i) (w := 3) hj hi12 hq (by decide) (v := nI (Z 27 j i).toNatClampNeg) ((w_s3 hi12).trans (b2 c_3).2.1) (cwV 3 hts (gB_V w_ml_L_81 w_im_X5_ofStep w_se_X5_ofStep w_in_X5 w_co_X5_ofStep) rfl rfl rfl (by decide +kernel) ⟨Nat.le_trans (Nat.le_of_ble_eq_true rfl) hfr, Nat.le_trans (Nat.le_of_ble_eq_true rfl) hlo⟩) hl.1 (Nat.le_of_ble_eq_true rfl) hc dL_isFair_187 (fun S H locs hS hw => ?_)
              refine lv_iconst (v := 0) hx hb dL_isFair_190 (by decide) ?_
              refine r_sess ⟨hx, hb, hml, hown, hts⟩ hK hO hL hA hw hZ hS (q := ((Z 27 j i).toNatClampNeg)) (w := 0) (b2 c_3).2.2.1 (by decide) (v := nI i) ((w_e0 (by have := hZ.c.self.iv.e20; have := (b2 c_3).2.2.1; omega)).trans (b2 c_3).2.2.2) (cwV 2 hts (gB_V w_ml_L_84 w_im_X5_ofSession w_se_X5_ofSession w_in_X5 w_co_X5_ofSession) rfl rfl rfl (by decide +kernel) ⟨Nat.le_trans (Nat.le_of_ble_eq_true rfl) hfr, Nat.le_trans (Nat.le_of_ble_eq_true rfl) hlo⟩) hl.1 (Nat.le_of_ble_eq_true rfl) hc dL_isFair_191 (fun H locs hw => ?_)
              refine lv_iload hx hb dL_isFair_194 (lv_at hl 5 rfl) ?_
              refine lv_icmp_eq (tgt := 201) hx hb dL_isFair_196 (by decide) (fun _ => ?_) (fun h => absurd rfl h)
              exact k201_c_3 S H locs hS hw
          refine lv_icmp_ne (tgt := 156) hx hb dL_isFair_146 (by decide) (fun c_2 => ?_) (fun c_2 => ?_)
          · rw [if_neg c_2] at k157_c_2
            refine lv_iconst (v := 0) hx hb dL_isFair_156 (by decide) ?_
            exact k157_c_2
          · rw [if_pos c_2] at k157_c_2
            refine lv_iconst (v := 1) hx hb dL_isFair_149 (by decide) ?_
            refine lv_iload hx hb dL_isFair_150 (lv_at hl 4 rfl) ?_
            refine lv_ishl hx hb dL_isFair_152 ?_
            refine lv_goto (tgt := 157) hx hb dL_isFair_153 (by decide) ?_
            exact k157_c_2
        refine lv_if_lt (tgt := 137) hx hb dL_isFair_130 (by decide) (fun c_1 => ?_) (fun c_1 => ?_)
        · rw [if_pos c_1] at k138_c_1
          refine lv_iconst (v := 0) hx hb dL_isFair_137 (by decide) ?_
          exact k138_c_1
        · rw [if_neg c_1] at k138_c_1
          refine lv_iconst (v := 1) hx hb dL_isFair_133 (by decide) ?_
          refine lv_goto (tgt := 138) hx hb dL_isFair_134 (by decide) ?_
          exact k138_c_1
    · have eDN : DN Z j (i + 1) = DN Z j i := if_neg hq
      have z27 : Z 27 j i < 0 := by
        rcases hZ.c.self.iv.bk j hj i hi12 with y | ⟨-, -, y⟩
        · rw [y]; decide
        · exact absurd y hq
      have eCB : nI (c0 + cb (Z 27 j) (i + 1)) = nI (c0 + cb (Z 27 j) i) := by
        show nI (c0 + (cb (Z 27 j) i + (if Z 27 j i < 0 then 0 else 1))) = _
        rw [if_pos z27, Nat.add_zero]
      refine lv_iload hx hb dL_isFair_66 (lv_at hl 0 rfl) ?_
      refine lv_aload_n hx hb dL_isFair_68 rfl (lv_at hl 12 rfl) ?_
      refine r_len ⟨hx, hb, hml, hown, hts⟩ hK hw m90 (by decide) h90 dL_isFair_69 ?_
      refine lv_icmp_ge (tgt := 450) hx hb dL_isFair_70 (by decide) (fun h => absurd h hlt) (fun _ => ?_)
      refine lv_iload hx hb dL_isFair_73 (lv_at hl 5 rfl) ?_
      refine lv_iload hx hb dL_isFair_75 (lv_at hl 0 rfl) ?_
      refine lv_ishr hx hb dL_isFair_77 ?_
      refine lv_iconst (v := 1) hx hb dL_isFair_78 (by decide) ?_
      refine lv_iand hx hb dL_isFair_79 ?_
      refine lv_if_ne (tgt := 86) hx hb dL_isFair_80 (by decide) (fun h => absurd ((bit_z (by omega)).mpr hq) h) (fun _ => ?_)
      refine lv_goto (tgt := 444) hx hb dL_isFair_83 (by decide) ?_
      refine lv_iinc (v := (nI (i + 1))) (lv' := [(13, .int (nI (i + 1))), (12, .int 1), (11, .int (-1)), (10, .int (DN Z j i)), (9, .int 1), (8, .int (Z 6 j 0)), (7, .int (nI j)), (6, .int v6), (5, .int (nI (c0 + cb (Z 27 j) i))), (4, .int (Z 0 0 1)), (3, .ref (ad 92 0)), (2, .ref (ad 91 0)), (1, .ref (ad 90 0)), (0, .ref (ad 0 0))]) hx hb dL_isFair_444 hl (k := 0) rfl (nI_1 _) (by decide) rfl (fun ls hl => ?_)
      refine lv_goto (tgt := 66) hx hb dL_isFair_447 (by decide) ?_
      refine ih (i + 1) S H locs ls (by omega) hS hw ?_
      rw [eDN, eCB]
      exact lv_sub hl [0, 1, 2, 3, 4, 5, 6, 7, 8, 9, 10, 11, 12, 13] rfl

end P24I
