section P24J
abbrev cJb : (Nat → Nat → Int32) → Int32 → Nat → Nat := cJ

set_option maxHeartbeats 2000000 in
set_option maxRecDepth 100000 in
theorem fair_rt {p : Program} {l : Launch} {e : Env} {R : Room} {s : State} {m : MethodId} {args : Array Value} {below : List Frame} {meth : Method} {c : Code} {cells slots : Nat} {Q : State → Prop} {D : va_G} {cI cG cJ cO : ClassId} {K0 : Nat → Nat} {A : Nat → Prop} {L : List (Nat × Nat)} {ad : Nat → Nat → Nat} {ce : Nat → Nat → va_E} {Z M : STT} {r r' : Nat} {ns nr : Nat} {kd nd st : Nat → Int32} (F : CallFix p m c cL_isFair 18 s args BIG RL) (hK : va_K D vwCl (ktys cI cG cJ cO) s) (hO : OW A K0 s) (hL : ∀ f o, cid f o = true → (f, o) ∈ L) (hA : ∀ q, s.heap.size ≤ q → A q) (hfr : 6 ≤ R.frames) (hlo : 140 ≤ R.locals) (hc : cells ≤ R.cells ∧ slots ≤ R.slots) (hr : r ≤ 512) (hZ : RLn r Z M) (hN : NI Z) (m90 : (90, 0) ∈ L) (m91 : (91, 0) ∈ L) (m92 : (92, 0) ∈ L) (h90 : ce 90 0 = .inl (cI, ns, .inl kd)) (h91 : ce 91 0 = .inl (cI, ns, .inl nd)) (h92 : ce 92 0 = .inl (cI, nr, .inl st)) (ens : ns = (Z 1 0 0).toNatClampNeg) (enr : nr = (Z 1 0 1).toNatClampNeg) (ekd : ∀ k, k < ns → kd k = Z 7 0 k) (end_ : ∀ k, k < ns → nd k = Z 9 0 k) (est : ∀ k, k < nr → st k = Z 12 0 k) {d v4 v5 v6 v7 v8 v9 v11 v12 : Int32} (kk : ∀ (S : STT) (H : Heap) (locs : List Loc) (ls : Array Slot), RLn r' S M → wk D A L ad (cK cI cJ ad ce S) s.heap H locs → lv_has ls 18 [(13, .int (RT st d nr)), (12, .int v12), (11, .int v11), (10, .int d), (9, .int v9), (8, .int v8), (7, .int v7), (6, .int v6), (5, .int v5), (4, .int v4), (3, .ref (ad 92 0)), (2, .ref (ad 91 0)), (1, .ref (ad 90 0)), (0, .ref (ad 0 0))] → W p l e R s m args below meth c H locs cells slots Q (F0 m 494 ls [])) : ∀ (n i : Nat) (S : STT) (H : Heap) (locs : List Loc) (ls : Array Slot), i + n = nr → RLn r' S M → wk D A L ad (cK cI cJ ad ce S) s.heap H locs → lv_has ls 18 [(14, .int (nI i)), (13, .int (RT st d i)), (12, .int v12), (11, .int v11), (10, .int d), (9, .int v9), (8, .int v8), (7, .int v7), (6, .int v6), (5, .int v5), (4, .int v4), (3, .ref (ad 92 0)), (2, .ref (ad 91 0)), (1, .ref (ad 90 0)), (0, .ref (ad 0 0))] → W p l e R s m args below meth c H locs cells slots Q (F0 m 456 ls []) := by
  obtain ⟨hx, hb, hml, hown, hts⟩ := F
  have hm12 := hZ.c.self.iv.m12
  have hj8 := hZ.c.self.iv.j8
  have hm6 := hZ.c.self.iv.r6
  intro n
  induction n with
  | zero =>
    intro i S H locs ls hi hS hw hl
    obtain rfl : i = nr := hi
    refine lv_iload hx hb dL_isFair_456 (lv_at hl 0 rfl) ?_
    refine lv_aload_n hx hb dL_isFair_458 rfl (lv_at hl 11 rfl) ?_
    refine r_len ⟨hx, hb, hml, hown, hts⟩ hK hw m92 (by decide) h92 dL_isFair_459 ?_
    refine lv_icmp_ge (tgt := 494) hx hb dL_isFair_460 (by decide) (fun _ => ?_) (fun h => absurd (nI_le (Nat.le_refl _) (by omega)) h)
    exact kk S H locs ls hS hw (lv_sub hl [1, 2, 3, 4, 5, 6, 7, 8, 9, 10, 11, 12, 13, 14] rfl)
  | succ n ih =>
    intro i S H locs ls hi hS hw hl
    have hlt : ¬ nI nr ≤ nI i := nI_ge (by omega) (by omega)
    refine lv_iload hx hb dL_isFair_456 (lv_at hl 0 rfl) ?_
    refine lv_aload_n hx hb dL_isFair_458 rfl (lv_at hl 11 rfl) ?_
    refine r_len ⟨hx, hb, hml, hown, hts⟩ hK hw m92 (by decide) h92 dL_isFair_459 ?_
    refine lv_icmp_ge (tgt := 494) hx hb dL_isFair_460 (by decide) (fun h => absurd h hlt) (fun _ => ?_)
    refine lv_iload hx hb dL_isFair_463 (lv_at hl 1 rfl) ?_
    refine lv_aload_n hx hb dL_isFair_465 rfl (lv_at hl 11 rfl) ?_
    refine lv_iload hx hb dL_isFair_466 (lv_at hl 0 rfl) ?_
    refine r_ald ⟨hx, hb, hml, hown, hts⟩ hK hw (i := i) (v := st i) m92 (by decide) h92 (by omega) (by omega) rfl dL_isFair_468 ?_
    refine lv_iload hx hb dL_isFair_469 (lv_at hl 4 rfl) ?_
    refine lv_iconst (v := (-1)) hx hb dL_isFair_471 (by decide) ?_
    refine lv_ixor hx hb dL_isFair_472 ?_
    refine lv_iand hx hb dL_isFair_473 ?_
    have k485_c_1 : W p l e R s m args below meth c H locs cells slots Q (F0 m 485 ls [.int (if (st i) &&& (d ^^^ (-1)) = 0 then 1 <<< ((nI i) &&& 31) else 0), .int (RT st d i)]) := by
      refine lv_ior hx hb dL_isFair_485 ?_
      refine lv_istore (lv' := [(13, .int ((RT st d i) ||| (if (st i) &&& (d ^^^ (-1)) = 0 then 1 <<< ((nI i) &&& 31) else 0))), (14, .int (nI i)), (12, .int v12), (11, .int v11), (10, .int d), (9, .int v9), (8, .int v8), (7, .int v7), (6, .int v6), (5, .int v5), (4, .int v4), (3, .ref (ad 92 0)), (2, .ref (ad 91 0)), (1, .ref (ad 90 0)), (0, .ref (ad 0 0))]) hx hb dL_isFair_486 hl (by decide) rfl (fun ls hl => ?_)
      refine lv_iinc (v := (nI (i + 1))) (lv' := [(14, .int (nI (i + 1))), (13, .int ((RT st d i) ||| (if (st i) &&& (d ^^^ (-1)) = 0 then 1 <<< ((nI i) &&& 31) else 0))), (12, .int v12), (11, .int v11), (10, .int d), (9, .int v9), (8, .int v8), (7, .int v7), (6, .int v6), (5, .int v5), (4, .int v4), (3, .ref (ad 92 0)), (2, .ref (ad 91 0)), (1, .ref (ad 90 0)), (0, .ref (ad 0 0))]) hx hb dL_isFair_488 hl (k := 1) rfl (nI_1 _) (by decide) rfl (fun ls hl => ?_)
      refine lv_goto (tgt := 456) hx hb dL_isFair_491 (by decide) ?_
      exact ih (i + 1) S H locs ls (by omega) hS hw (lv_sub hl [0, 1, 2, 3, 4, 5, 6, 7, 8, 9, 10, 11, 12, 13, 14] rfl)
    refine lv_if_ne (tgt := 484) hx hb dL_isFair_474 (by decide) (fun c_1 => ?_) (fun c_1 => ?_)
    · rw [if_neg c_1] at k485_c_1
      refine lv_iconst (v := 0) hx hb dL_isFair_484 (by decide) ?_
      exact k485_c_1
    · rw [if_pos c_1] at k485_c_1
      refine lv_iconst (v := 1) hx hb dL_isFair_477 (by decide) ?_
      refine lv_iload hx hb dL_isFair_478 (lv_at hl 0 rfl) ?_
      refine lv_ishl hx hb dL_isFair_480 ?_
      refine lv_goto (tgt := 485) hx hb dL_isFair_481 (by decide) ?_
      exact k485_c_1

set_option maxHeartbeats 2000000 in
set_option maxRecDepth 100000 in
theorem fair_j {p : Program} {l : Launch} {e : Env} {R : Room} {s : State} {m : MethodId} {args : Array Value} {below : List Frame} {meth : Method} {c : Code} {cells slots : Nat} {Q : State → Prop} {D : va_G} {cI cG cJ cO : ClassId} {K0 : Nat → Nat} {A : Nat → Prop} {L : List (Nat × Nat)} {ad : Nat → Nat → Nat} {ce : Nat → Nat → va_E} {Z M : STT} {r r' : Nat} {ns nr : Nat} {kd nd st : Nat → Int32} (F : CallFix p m c cL_isFair 18 s args BIG RL) (hK : va_K D vwCl (ktys cI cG cJ cO) s) (hO : OW A K0 s) (hL : ∀ f o, cid f o = true → (f, o) ∈ L) (hA : ∀ q, s.heap.size ≤ q → A q) (hfr : 6 ≤ R.frames) (hlo : 140 ≤ R.locals) (hc : cells ≤ R.cells ∧ slots ≤ R.slots) (hr : r ≤ 512) (hZ : RLn r Z M) (hN : NI Z) (m90 : (90, 0) ∈ L) (m91 : (91, 0) ∈ L) (m92 : (92, 0) ∈ L) (h90 : ce 90 0 = .inl (cI, ns, .inl kd)) (h91 : ce 91 0 = .inl (cI, ns, .inl nd)) (h92 : ce 92 0 = .inl (cI, nr, .inl st)) (ens : ns = (Z 1 0 0).toNatClampNeg) (enr : nr = (Z 1 0 1).toNatClampNeg) (ekd : ∀ k, k < ns → kd k = Z 7 0 k) (end_ : ∀ k, k < ns → nd k = Z 9 0 k) (est : ∀ k, k < nr → st k = Z 12 0 k) (kk : ∀ (S : STT) (H : Heap) (locs : List Loc) (ls : Array Slot), RLn r' S M → wk D A L ad (cK cI cJ ad ce S) s.heap H locs → lv_has ls 18 [(6, .int (dJ Z (Z 0 0 0).toNatClampNeg)), (5, .int (nI (sJ Z (Z 0 0 0).toNatClampNeg))), (4, .int (Z 0 0 1)), (3, .ref (ad 92 0)), (2, .ref (ad 91 0)), (1, .ref (ad 90 0)), (0, .ref (ad 0 0))] → W p l e R s m args below meth c H locs cells slots Q (F0 m 566 ls [])) : ∀ (n i : Nat) (S : STT) (H : Heap) (locs : List Loc) (ls : Array Slot), i + n = (Z 0 0 0).toNatClampNeg → RLn r' S M → wk D A L ad (cK cI cJ ad ce S) s.heap H locs → lv_has ls 18 [(7, .int (nI i)), (6, .int (dJ Z i)), (5, .int (nI (sJ Z i))), (4, .int (Z 0 0 1)), (3, .ref (ad 92 0)), (2, .ref (ad 91 0)), (1, .ref (ad 90 0)), (0, .ref (ad 0 0))] → W p l e R s m args below meth c H locs cells slots Q (F0 m 17 ls []) := by
  obtain ⟨hx, hb, hml, hown, hts⟩ := F
  have hm12 := hZ.c.self.iv.m12
  have hj8 := hZ.c.self.iv.j8
  have hm6 := hZ.c.self.iv.r6
  have hc0 := cn_eq hZ.c.self.iv.ci.2.2.2.2.1
  have ert : ∀ j, sp_X2_rightsOf Z j = RT st (sp_X1_stepsIn Z j 2) nr := fun j => by rw [enr]; exact rights_fair (fun a ha => est a (by omega))
  intro n
  induction n with
  | zero =>
    intro i S H locs ls hi hS hw hl
    refine lv_iload hx hb dL_isFair_17 (lv_at hl 0 rfl) ?_
    refine lv_aload_n hx hb dL_isFair_19 rfl (lv_at hl 7 rfl) ?_
    refine lv_iconst (v := 4) hx hb dL_isFair_20 (by decide) ?_
    refine r_many ⟨hx, hb, hml, hown, hts⟩ hK hO hL hA hw hZ hS (w := 4) (by decide) (v := nI (Z 0 0 0).toNatClampNeg) (w_m4.trans hc0) (cwV 1 hts (gB_V w_ml_L_33 w_im_X5_many w_se_X5_many w_in_X5 w_co_X5_many) rfl rfl rfl (by decide +kernel) ⟨Nat.le_trans (Nat.le_of_ble_eq_true rfl) hfr, Nat.le_trans (Nat.le_of_ble_eq_true rfl) hlo⟩) hl.1 (Nat.le_of_ble_eq_true rfl) hc dL_isFair_21 (fun H locs hw => ?_)
    refine lv_icmp_ge (tgt := 566) hx hb dL_isFair_24 (by decide) (fun _ => ?_) (fun h => absurd (nI_le (by omega) (by omega)) h)
    obtain rfl : i = (Z 0 0 0).toNatClampNeg := hi
    exact kk S H locs ls hS hw (lv_sub hl [1, 2, 3, 4, 5, 6, 7] rfl)
  | succ n ih =>
    intro i S H locs ls hi hS hw hl
    have hlt : ¬ nI (Z 0 0 0).toNatClampNeg ≤ nI i := nI_ge (by omega) (by omega)
    have hj : i < (Z 0 0 0).toNatClampNeg := by omega
    have eDN : DN Z i ns = sp_X1_stepsIn Z i 2 := by rw [ens]; exact DN_eq hZ.c.self hj
    have eD : dJ Z (i + 1) = dJ Z i + sp_J6_bitCount_0f7a4 (DN Z i ns) := by rw [eDN]; rfl
    have eS : nI (sJ Z (i + 1)) = nI (sJ Z i + cb (Z 27 i) ns) := by rw [ens, cb_stop hZ.c.self hj]; rfl
    by_cases hl6 : Z 6 i 2 = 0
    · refine lv_iload hx hb dL_isFair_17 (lv_at hl 0 rfl) ?_
      refine lv_aload_n hx hb dL_isFair_19 rfl (lv_at hl 7 rfl) ?_
      refine lv_iconst (v := 4) hx hb dL_isFair_20 (by decide) ?_
      refine r_many ⟨hx, hb, hml, hown, hts⟩ hK hO hL hA hw hZ hS (w := 4) (by decide) (v := nI (Z 0 0 0).toNatClampNeg) (w_m4.trans hc0) (cwV 1 hts (gB_V w_ml_L_33 w_im_X5_many w_se_X5_many w_in_X5 w_co_X5_many) rfl rfl rfl (by decide +kernel) ⟨Nat.le_trans (Nat.le_of_ble_eq_true rfl) hfr, Nat.le_trans (Nat.le_of_ble_eq_true rfl) hlo⟩) hl.1 (Nat.le_of_ble_eq_true rfl) hc dL_isFair_21 (fun H locs hw => ?_)
      refine lv_icmp_ge (tgt := 566) hx hb dL_isFair_24 (by decide) (fun h => absurd h hlt) (fun _ => ?_)
      refine lv_aload_n hx hb dL_isFair_27 rfl (lv_at hl 7 rfl) ?_
      refine lv_iload hx hb dL_isFair_28 (lv_at hl 0 rfl) ?_
      refine lv_iconst (v := 0) hx hb dL_isFair_30 (by decide) ?_
      refine r_joiner ⟨hx, hb, hml, hown, hts⟩ hK hO hL hA hw hZ hS (j := i) (w := 0) hj (by decide) (v := Z 6 i 0) w_j0 (cwV 2 hts (gB_V w_ml_L_52 w_im_X5_ofJoiner w_se_X5_ofJoiner w_in_X5 w_co_X5_ofJoiner) rfl rfl rfl (by decide +kernel) ⟨Nat.le_trans (Nat.le_of_ble_eq_true rfl) hfr, Nat.le_trans (Nat.le_of_ble_eq_true rfl) hlo⟩) hl.1 (Nat.le_of_ble_eq_true rfl) hc dL_isFair_31 (fun S H locs hS hw => ?_)
      refine lv_istore (lv' := [(8, .int (Z 6 i 0)), (7, .int (nI i)), (6, .int (dJ Z i)), (5, .int (nI (sJ Z i))), (4, .int (Z 0 0 1)), (3, .ref (ad 92 0)), (2, .ref (ad 91 0)), (1, .ref (ad 90 0)), (0, .ref (ad 0 0))]) hx hb dL_isFair_34 hl (by decide) rfl (fun ls hl => ?_)
      refine lv_aload_n hx hb dL_isFair_36 rfl (lv_at hl 8 rfl) ?_
      refine lv_iload hx hb dL_isFair_37 (lv_at hl 1 rfl) ?_
      refine lv_iconst (v := 5) hx hb dL_isFair_39 (by decide) ?_
      refine r_joiner ⟨hx, hb, hml, hown, hts⟩ hK hO hL hA hw hZ hS (j := i) (w := 5) hj (by decide) (v := 0) (w_j5.trans (if_pos hl6)) (cwV 2 hts (gB_V w_ml_L_52 w_im_X5_ofJoiner w_se_X5_ofJoiner w_in_X5 w_co_X5_ofJoiner) rfl rfl rfl (by decide +kernel) ⟨Nat.le_trans (Nat.le_of_ble_eq_true rfl) hfr, Nat.le_trans (Nat.le_of_ble_eq_true rfl) hlo⟩) hl.1 (Nat.le_of_ble_eq_true rfl) hc dL_isFair_40 (fun S H locs hS hw => ?_)
      refine lv_iconst (v := 1) hx hb dL_isFair_43 (by decide) ?_
      refine lv_icmp_ne (tgt := 51) hx hb dL_isFair_44 (by decide) (fun _ => ?_) (fun h => absurd h (by decide))
      refine lv_iconst (v := 0) hx hb dL_isFair_51 (by decide) ?_
      refine lv_istore (lv' := [(9, .int 0), (8, .int (Z 6 i 0)), (7, .int (nI i)), (6, .int (dJ Z i)), (5, .int (nI (sJ Z i))), (4, .int (Z 0 0 1)), (3, .ref (ad 92 0)), (2, .ref (ad 91 0)), (1, .ref (ad 90 0)), (0, .ref (ad 0 0))]) hx hb dL_isFair_52 hl (by decide) rfl (fun ls hl => ?_)
      refine lv_iconst (v := 0) hx hb dL_isFair_54 (by decide) ?_
      refine lv_istore (lv' := [(10, .int 0), (9, .int 0), (8, .int (Z 6 i 0)), (7, .int (nI i)), (6, .int (dJ Z i)), (5, .int (nI (sJ Z i))), (4, .int (Z 0 0 1)), (3, .ref (ad 92 0)), (2, .ref (ad 91 0)), (1, .ref (ad 90 0)), (0, .ref (ad 0 0))]) hx hb dL_isFair_55 hl (by decide) rfl (fun ls hl => ?_)
      refine lv_iconst (v := (-1)) hx hb dL_isFair_57 (by decide) ?_
      refine lv_istore (lv' := [(11, .int (-1)), (10, .int 0), (9, .int 0), (8, .int (Z 6 i 0)), (7, .int (nI i)), (6, .int (dJ Z i)), (5, .int (nI (sJ Z i))), (4, .int (Z 0 0 1)), (3, .ref (ad 92 0)), (2, .ref (ad 91 0)), (1, .ref (ad 90 0)), (0, .ref (ad 0 0))]) hx hb dL_isFair_58 hl (by decide) rfl (fun ls hl => ?_)
      refine lv_iconst (v := 1) hx hb dL_isFair_60 (by decide) ?_
      refine lv_istore (lv' := [(12, .int 1), (11, .int (-1)), (10, .int 0), (9, .int 0), (8, .int (Z 6 i 0)), (7, .int (nI i)), (6, .int (dJ Z i)), (5, .int (nI (sJ Z i))), (4, .int (Z 0 0 1)), (3, .ref (ad 92 0)), (2, .ref (ad 91 0)), (1, .ref (ad 90 0)), (0, .ref (ad 0 0))]) hx hb dL_isFair_61 hl (by decide) rfl (fun ls hl => ?_)
      refine lv_iconst (v := 0) hx hb dL_isFair_63 (by decide) ?_
      refine lv_istore (lv' := [(13, .int 0), (12, .int 1), (11, .int (-1)), (10, .int 0), (9, .int 0), (8, .int (Z 6 i 0)), (7, .int (nI i)), (6, .int (dJ Z i)), (5, .int (nI (sJ Z i))), (4, .int (Z 0 0 1)), (3, .ref (ad 92 0)), (2, .ref (ad 91 0)), (1, .ref (ad 90 0)), (0, .ref (ad 0 0))]) hx hb dL_isFair_64 hl (by decide) rfl (fun ls hl => ?_)
      refine fair_kN (r' := r') (c0 := sJ Z i) ⟨hx, hb, hml, hown, hts⟩ hK hO hL hA hfr hlo hc hr hZ hN m90 m91 m92 h90 h91 h92 ens enr ekd end_ est hj hl6 ?_ ns 0 S H locs ls (Nat.zero_add _) hS hw (lv_sub hl [0, 1, 2, 3, 4, 5, 6, 7, 8, 9, 10, 11, 12, 13] rfl)
      intro S H locs ls hS hw hl
      refine lv_iconst (v := 0) hx hb dL_isFair_450 (by decide) ?_
      refine lv_istore (lv' := [(13, .int 0), (12, .int (KW Z i ns)), (11, .int (GR Z i ns)), (10, .int (DN Z i ns)), (9, .int 0), (8, .int (Z 6 i 0)), (7, .int (nI i)), (6, .int (dJ Z i)), (5, .int (nI (sJ Z i + cb (Z 27 i) ns))), (4, .int (Z 0 0 1)), (3, .ref (ad 92 0)), (2, .ref (ad 91 0)), (1, .ref (ad 90 0)), (0, .ref (ad 0 0))]) hx hb dL_isFair_451 hl (by decide) rfl (fun ls hl => ?_)
      refine lv_iconst (v := 0) hx hb dL_isFair_453 (by decide) ?_
      refine lv_istore (lv' := [(14, .int 0), (13, .int 0), (12, .int (KW Z i ns)), (11, .int (GR Z i ns)), (10, .int (DN Z i ns)), (9, .int 0), (8, .int (Z 6 i 0)), (7, .int (nI i)), (6, .int (dJ Z i)), (5, .int (nI (sJ Z i + cb (Z 27 i) ns))), (4, .int (Z 0 0 1)), (3, .ref (ad 92 0)), (2, .ref (ad 91 0)), (1, .ref (ad 90 0)), (0, .ref (ad 0 0))]) hx hb dL_isFair_454 hl (by decide) rfl (fun ls hl => ?_)
      refine fair_rt (r' := r') (d := DN Z i ns) ⟨hx, hb, hml, hown, hts⟩ hK hO hL hA hfr hlo hc hr hZ hN m90 m91 m92 h90 h91 h92 ens enr ekd end_ est ?_ nr 0 S H locs ls (Nat.zero_add _) hS hw (lv_sub hl [0, 1, 2, 3, 4, 5, 6, 7, 8, 9, 10, 11, 12, 13, 14] rfl)
      intro S H locs ls hS hw hl
      obtain ⟨w6, hw6⟩ : ∃ w : Int32, w = (if KW Z i ns = 0 then (-1) else GR Z i ns) := ⟨_, rfl⟩
      refine lv_aload_n hx hb dL_isFair_494 rfl (lv_at hl 13 rfl) ?_
      refine lv_iload hx hb dL_isFair_495 (lv_at hl 6 rfl) ?_
      refine lv_iconst (v := 4) hx hb dL_isFair_497 (by decide) ?_
      refine r_joiner ⟨hx, hb, hml, hown, hts⟩ hK hO hL hA hw hZ hS (j := i) (w := 4) hj (by decide) (v := RT st (DN Z i ns) nr) (w_j4.trans (by rw [eDN]; exact ert i)) (cwV 2 hts (gB_V w_ml_L_52 w_im_X5_ofJoiner w_se_X5_ofJoiner w_in_X5 w_co_X5_ofJoiner) rfl rfl rfl (by decide +kernel) ⟨Nat.le_trans (Nat.le_of_ble_eq_true rfl) hfr, Nat.le_trans (Nat.le_of_ble_eq_true rfl) hlo⟩) hl.1 (Nat.le_of_ble_eq_true rfl) hc dL_isFair_498 (fun S H locs hS hw => ?_)
      refine lv_iload hx hb dL_isFair_501 (lv_at hl 0 rfl) ?_
      refine lv_icmp_ne (tgt := 548) hx hb dL_isFair_503 (by decide) (fun h => absurd rfl h) (fun _ => ?_)
      refine lv_aload_n hx hb dL_isFair_506 rfl (lv_at hl 13 rfl) ?_
      refine lv_iload hx hb dL_isFair_507 (lv_at hl 6 rfl) ?_
      refine lv_iconst (v := 2) hx hb dL_isFair_509 (by decide) ?_
      refine r_joiner ⟨hx, hb, hml, hown, hts⟩ hK hO hL hA hw hZ hS (j := i) (w := 2) hj (by decide) (v := sp_J6_bitCount_0f7a4 (DN Z i ns)) (w_j2.trans (by rw [eDN]; rfl)) (cwV 2 hts (gB_V w_ml_L_52 w_im_X5_ofJoiner w_se_X5_ofJoiner w_in_X5 w_co_X5_ofJoiner) rfl rfl rfl (by decide +kernel) ⟨Nat.le_trans (Nat.le_of_ble_eq_true rfl) hfr, Nat.le_trans (Nat.le_of_ble_eq_true rfl) hlo⟩) hl.1 (Nat.le_of_ble_eq_true rfl) hc dL_isFair_510 (fun S H locs hS hw => ?_)
      refine lv_iload hx hb dL_isFair_513 (lv_at hl 3 rfl) ?_
      refine k_ci0 hw (k_rS (As := [.int (DN Z i ns)]) (rest := [.int (sp_J6_bitCount_0f7a4 (DN Z i ns))]) ⟨hx, hb, hml, hown, hts⟩ hK hO hw (ct_J6_bitCount_0f7a4 (DN Z i ns) _ (wk.hA hw hA)) (va_cwS 1 hts (gB_S w_ml_L_87 w_st_J6_bitCount_0f7a4 w_in_J6 w_co_J6_bitCount_0f7a4) rfl rfl rfl (by decide +kernel) ⟨Nat.le_trans (Nat.le_of_ble_eq_true rfl) hfr, Nat.le_trans (Nat.le_of_ble_eq_true rfl) hlo⟩) rfl hl.1 rfl (Nat.le_of_ble_eq_true rfl) dL_isFair_515 hc) (fun H locs hw => ?_)
      refine lv_icmp_ne (tgt := 548) hx hb dL_isFair_518 (by decide) (fun h => absurd rfl h) (fun _ => ?_)
      refine lv_iload hx hb dL_isFair_521 (lv_at hl 4 rfl) ?_
      refine lv_if_ne (tgt := 550) hx hb dL_isFair_523 (by decide) (fun h => absurd (by decide) h) (fun _ => ?_)
      refine lv_aload_n hx hb dL_isFair_526 rfl (lv_at hl 13 rfl) ?_
      refine lv_iload hx hb dL_isFair_527 (lv_at hl 6 rfl) ?_
      refine lv_bipush (v := 6) hx hb dL_isFair_529 (by decide) ?_
      refine r_joiner ⟨hx, hb, hml, hown, hts⟩ hK hO hL hA hw hZ hS (j := i) (w := 6) hj (by decide) (v := w6) (w_j6.trans ((show _ = (if KW Z i ns = 0 then (-1) else GR Z i ns) by rw [ens]; exact ge_fair hr hZ hN hj hl6).trans hw6.symm)) (cwV 2 hts (gB_V w_ml_L_52 w_im_X5_ofJoiner w_se_X5_ofJoiner w_in_X5 w_co_X5_ofJoiner) rfl rfl rfl (by decide +kernel) ⟨Nat.le_trans (Nat.le_of_ble_eq_true rfl) hfr, Nat.le_trans (Nat.le_of_ble_eq_true rfl) hlo⟩) hl.1 (Nat.le_of_ble_eq_true rfl) hc dL_isFair_531 (fun S H locs hS hw => ?_)
      refine lv_iload hx hb dL_isFair_534 (lv_at hl 1 rfl) ?_
      have k545_c_401 : W p l e R s m args below meth c H locs cells slots Q (F0 m 545 ls [.int (if KW Z i ns = 0 then (-1) else GR Z i ns), .int w6]) := by
        refine lv_icmp_eq (tgt := 550) hx hb dL_isFair_545 (by decide) (fun _ => ?_) (fun h => absurd hw6 h)
        refine lv_iload hx hb dL_isFair_550 (lv_at hl 7 rfl) ?_
        refine lv_iload hx hb dL_isFair_552 (lv_at hl 3 rfl) ?_
        refine k_ci0 hw (k_rS (As := [.int (DN Z i ns)]) (rest := [.int (dJ Z i)]) ⟨hx, hb, hml, hown, hts⟩ hK hO hw (ct_J6_bitCount_0f7a4 (DN Z i ns) _ (wk.hA hw hA)) (va_cwS 1 hts (gB_S w_ml_L_87 w_st_J6_bitCount_0f7a4 w_in_J6 w_co_J6_bitCount_0f7a4) rfl rfl rfl (by decide +kernel) ⟨Nat.le_trans (Nat.le_of_ble_eq_true rfl) hfr, Nat.le_trans (Nat.le_of_ble_eq_true rfl) hlo⟩) rfl hl.1 rfl (Nat.le_of_ble_eq_true rfl) dL_isFair_554 hc) (fun H locs hw => ?_)
        refine lv_iadd hx hb dL_isFair_557 ?_
        refine lv_istore (lv' := [(6, .int ((dJ Z i) + (sp_J6_bitCount_0f7a4 (DN Z i ns)))), (13, .int (RT st (DN Z i ns) nr)), (12, .int (KW Z i ns)), (11, .int (GR Z i ns)), (10, .int (DN Z i ns)), (9, .int 0), (8, .int (Z 6 i 0)), (7, .int (nI i)), (5, .int (nI (sJ Z i + cb (Z 27 i) ns))), (4, .int (Z 0 0 1)), (3, .ref (ad 92 0)), (2, .ref (ad 91 0)), (1, .ref (ad 90 0)), (0, .ref (ad 0 0))]) hx hb dL_isFair_558 hl (by decide) rfl (fun ls hl => ?_)
        refine lv_iinc (v := (nI (i + 1))) (lv' := [(7, .int (nI (i + 1))), (6, .int ((dJ Z i) + (sp_J6_bitCount_0f7a4 (DN Z i ns)))), (13, .int (RT st (DN Z i ns) nr)), (12, .int (KW Z i ns)), (11, .int (GR Z i ns)), (10, .int (DN Z i ns)), (9, .int 0), (8, .int (Z 6 i 0)), (5, .int (nI (sJ Z i + cb (Z 27 i) ns))), (4, .int (Z 0 0 1)), (3, .ref (ad 92 0)), (2, .ref (ad 91 0)), (1, .ref (ad 90 0)), (0, .ref (ad 0 0))]) hx hb dL_isFair_560 hl (k := 7) rfl (nI_1 _) (by decide) rfl (fun ls hl => ?_)
        refine lv_goto (tgt := 17) hx hb dL_isFair_563 (by decide) ?_
        refine ih (i + 1) S H locs ls (by omega) hS hw ?_
        rw [eD, eS]
        exact lv_sub hl [0, 1, 8, 9, 10, 11, 12, 13] rfl
      refine lv_if_eq (tgt := 544) hx hb dL_isFair_536 (by decide) (fun c_401 => ?_) (fun c_401 => ?_)
      · rw [if_pos c_401] at k545_c_401
        refine lv_iconst (v := (-1)) hx hb dL_isFair_544 (by decide) ?_
        exact k545_c_401
      · rw [if_neg c_401] at k545_c_401
        refine lv_iload hx hb dL_isFair_539 (lv_at hl 2 rfl) ?_
        refine lv_goto (tgt := 545) hx hb dL_isFair_541 (by decide) ?_
        exact k545_c_401
    · refine lv_iload hx hb dL_isFair_17 (lv_at hl 0 rfl) ?_
      refine lv_aload_n hx hb dL_isFair_19 rfl (lv_at hl 7 rfl) ?_
      refine lv_iconst (v := 4) hx hb dL_isFair_20 (by decide) ?_
      refine r_many ⟨hx, hb, hml, hown, hts⟩ hK hO hL hA hw hZ hS (w := 4) (by decide) (v := nI (Z 0 0 0).toNatClampNeg) (w_m4.trans hc0) (cwV 1 hts (gB_V w_ml_L_33 w_im_X5_many w_se_X5_many w_in_X5 w_co_X5_many) rfl rfl rfl (by decide +kernel) ⟨Nat.le_trans (Nat.le_of_ble_eq_true rfl) hfr, Nat.le_trans (Nat.le_of_ble_eq_true rfl) hlo⟩) hl.1 (Nat.le_of_ble_eq_true rfl) hc dL_isFair_21 (fun H locs hw => ?_)
      refine lv_icmp_ge (tgt := 566) hx hb dL_isFair_24 (by decide) (fun h => absurd h hlt) (fun _ => ?_)
      refine lv_aload_n hx hb dL_isFair_27 rfl (lv_at hl 7 rfl) ?_
      refine lv_iload hx hb dL_isFair_28 (lv_at hl 0 rfl) ?_
      refine lv_iconst (v := 0) hx hb dL_isFair_30 (by decide) ?_
      refine r_joiner ⟨hx, hb, hml, hown, hts⟩ hK hO hL hA hw hZ hS (j := i) (w := 0) hj (by decide) (v := Z 6 i 0) w_j0 (cwV 2 hts (gB_V w_ml_L_52 w_im_X5_ofJoiner w_se_X5_ofJoiner w_in_X5 w_co_X5_ofJoiner) rfl rfl rfl (by decide +kernel) ⟨Nat.le_trans (Nat.le_of_ble_eq_true rfl) hfr, Nat.le_trans (Nat.le_of_ble_eq_true rfl) hlo⟩) hl.1 (Nat.le_of_ble_eq_true rfl) hc dL_isFair_31 (fun S H locs hS hw => ?_)
      refine lv_istore (lv' := [(8, .int (Z 6 i 0)), (7, .int (nI i)), (6, .int (dJ Z i)), (5, .int (nI (sJ Z i))), (4, .int (Z 0 0 1)), (3, .ref (ad 92 0)), (2, .ref (ad 91 0)), (1, .ref (ad 90 0)), (0, .ref (ad 0 0))]) hx hb dL_isFair_34 hl (by decide) rfl (fun ls hl => ?_)
      refine lv_aload_n hx hb dL_isFair_36 rfl (lv_at hl 8 rfl) ?_
      refine lv_iload hx hb dL_isFair_37 (lv_at hl 1 rfl) ?_
      refine lv_iconst (v := 5) hx hb dL_isFair_39 (by decide) ?_
      refine r_joiner ⟨hx, hb, hml, hown, hts⟩ hK hO hL hA hw hZ hS (j := i) (w := 5) hj (by decide) (v := 1) (w_j5.trans (if_neg hl6)) (cwV 2 hts (gB_V w_ml_L_52 w_im_X5_ofJoiner w_se_X5_ofJoiner w_in_X5 w_co_X5_ofJoiner) rfl rfl rfl (by decide +kernel) ⟨Nat.le_trans (Nat.le_of_ble_eq_true rfl) hfr, Nat.le_trans (Nat.le_of_ble_eq_true rfl) hlo⟩) hl.1 (Nat.le_of_ble_eq_true rfl) hc dL_isFair_40 (fun S H locs hS hw => ?_)
      refine lv_iconst (v := 1) hx hb dL_isFair_43 (by decide) ?_
      refine lv_icmp_ne (tgt := 51) hx hb dL_isFair_44 (by decide) (fun h => absurd (by decide) h) (fun _ => ?_)
      refine lv_iconst (v := 1) hx hb dL_isFair_47 (by decide) ?_
      refine lv_goto (tgt := 52) hx hb dL_isFair_48 (by decide) ?_
      refine lv_istore (lv' := [(9, .int 1), (8, .int (Z 6 i 0)), (7, .int (nI i)), (6, .int (dJ Z i)), (5, .int (nI (sJ Z i))), (4, .int (Z 0 0 1)), (3, .ref (ad 92 0)), (2, .ref (ad 91 0)), (1, .ref (ad 90 0)), (0, .ref (ad 0 0))]) hx hb dL_isFair_52 hl (by decide) rfl (fun ls hl => ?_)
      refine lv_iconst (v := 0) hx hb dL_isFair_54 (by decide) ?_
      refine lv_istore (lv' := [(10, .int 0), (9, .int 1), (8, .int (Z 6 i 0)), (7, .int (nI i)), (6, .int (dJ Z i)), (5, .int (nI (sJ Z i))), (4, .int (Z 0 0 1)), (3, .ref (ad 92 0)), (2, .ref (ad 91 0)), (1, .ref (ad 90 0)), (0, .ref (ad 0 0))]) hx hb dL_isFair_55 hl (by decide) rfl (fun ls hl => ?_)
      refine lv_iconst (v := (-1)) hx hb dL_isFair_57 (by decide) ?_
      refine lv_istore (lv' := [(11, .int (-1)), (10, .int 0), (9, .int 1), (8, .int (Z 6 i 0)), (7, .int (nI i)), (6, .int (dJ Z i)), (5, .int (nI (sJ Z i))), (4, .int (Z 0 0 1)), (3, .ref (ad 92 0)), (2, .ref (ad 91 0)), (1, .ref (ad 90 0)), (0, .ref (ad 0 0))]) hx hb dL_isFair_58 hl (by decide) rfl (fun ls hl => ?_)
      refine lv_iconst (v := 1) hx hb dL_isFair_60 (by decide) ?_
      refine lv_istore (lv' := [(12, .int 1), (11, .int (-1)), (10, .int 0), (9, .int 1), (8, .int (Z 6 i 0)), (7, .int (nI i)), (6, .int (dJ Z i)), (5, .int (nI (sJ Z i))), (4, .int (Z 0 0 1)), (3, .ref (ad 92 0)), (2, .ref (ad 91 0)), (1, .ref (ad 90 0)), (0, .ref (ad 0 0))]) hx hb dL_isFair_61 hl (by decide) rfl (fun ls hl => ?_)
      refine lv_iconst (v := 0) hx hb dL_isFair_63 (by decide) ?_
      refine lv_istore (lv' := [(13, .int 0), (12, .int 1), (11, .int (-1)), (10, .int 0), (9, .int 1), (8, .int (Z 6 i 0)), (7, .int (nI i)), (6, .int (dJ Z i)), (5, .int (nI (sJ Z i))), (4, .int (Z 0 0 1)), (3, .ref (ad 92 0)), (2, .ref (ad 91 0)), (1, .ref (ad 90 0)), (0, .ref (ad 0 0))]) hx hb dL_isFair_64 hl (by decide) rfl (fun ls hl => ?_)
      refine fair_kL (r' := r') (c0 := sJ Z i) ⟨hx, hb, hml, hown, hts⟩ hK hO hL hA hfr hlo hc hr hZ hN m90 m91 m92 h90 h91 h92 ens enr ekd end_ est hj hl6 ?_ ns 0 S H locs ls (Nat.zero_add _) hS hw (lv_sub hl [0, 1, 2, 3, 4, 5, 6, 7, 8, 9, 10, 11, 12, 13] rfl)
      intro S H locs ls hS hw hl
      refine lv_iconst (v := 0) hx hb dL_isFair_450 (by decide) ?_
      refine lv_istore (lv' := [(13, .int 0), (12, .int 1), (11, .int (-1)), (10, .int (DN Z i ns)), (9, .int 1), (8, .int (Z 6 i 0)), (7, .int (nI i)), (6, .int (dJ Z i)), (5, .int (nI (sJ Z i + cb (Z 27 i) ns))), (4, .int (Z 0 0 1)), (3, .ref (ad 92 0)), (2, .ref (ad 91 0)), (1, .ref (ad 90 0)), (0, .ref (ad 0 0))]) hx hb dL_isFair_451 hl (by decide) rfl (fun ls hl => ?_)
      refine lv_iconst (v := 0) hx hb dL_isFair_453 (by decide) ?_
      refine lv_istore (lv' := [(14, .int 0), (13, .int 0), (12, .int 1), (11, .int (-1)), (10, .int (DN Z i ns)), (9, .int 1), (8, .int (Z 6 i 0)), (7, .int (nI i)), (6, .int (dJ Z i)), (5, .int (nI (sJ Z i + cb (Z 27 i) ns))), (4, .int (Z 0 0 1)), (3, .ref (ad 92 0)), (2, .ref (ad 91 0)), (1, .ref (ad 90 0)), (0, .ref (ad 0 0))]) hx hb dL_isFair_454 hl (by decide) rfl (fun ls hl => ?_)
      refine fair_rt (r' := r') (d := DN Z i ns) ⟨hx, hb, hml, hown, hts⟩ hK hO hL hA hfr hlo hc hr hZ hN m90 m91 m92 h90 h91 h92 ens enr ekd end_ est ?_ nr 0 S H locs ls (Nat.zero_add _) hS hw (lv_sub hl [0, 1, 2, 3, 4, 5, 6, 7, 8, 9, 10, 11, 12, 13, 14] rfl)
      intro S H locs ls hS hw hl
      refine lv_aload_n hx hb dL_isFair_494 rfl (lv_at hl 13 rfl) ?_
      refine lv_iload hx hb dL_isFair_495 (lv_at hl 6 rfl) ?_
      refine lv_iconst (v := 4) hx hb dL_isFair_497 (by decide) ?_
      refine r_joiner ⟨hx, hb, hml, hown, hts⟩ hK hO hL hA hw hZ hS (j := i) (w := 4) hj (by decide) (v := RT st (DN Z i ns) nr) (w_j4.trans (by rw [eDN]; exact ert i)) (cwV 2 hts (gB_V w_ml_L_52 w_im_X5_ofJoiner w_se_X5_ofJoiner w_in_X5 w_co_X5_ofJoiner) rfl rfl rfl (by decide +kernel) ⟨Nat.le_trans (Nat.le_of_ble_eq_true rfl) hfr, Nat.le_trans (Nat.le_of_ble_eq_true rfl) hlo⟩) hl.1 (Nat.le_of_ble_eq_true rfl) hc dL_isFair_498 (fun S H locs hS hw => ?_)
      refine lv_iload hx hb dL_isFair_501 (lv_at hl 0 rfl) ?_
      refine lv_icmp_ne (tgt := 548) hx hb dL_isFair_503 (by decide) (fun h => absurd rfl h) (fun _ => ?_)
      refine lv_aload_n hx hb dL_isFair_506 rfl (lv_at hl 13 rfl) ?_
      refine lv_iload hx hb dL_isFair_507 (lv_at hl 6 rfl) ?_
      refine lv_iconst (v := 2) hx hb dL_isFair_509 (by decide) ?_
      refine r_joiner ⟨hx, hb, hml, hown, hts⟩ hK hO hL hA hw hZ hS (j := i) (w := 2) hj (by decide) (v := sp_J6_bitCount_0f7a4 (DN Z i ns)) (w_j2.trans (by rw [eDN]; rfl)) (cwV 2 hts (gB_V w_ml_L_52 w_im_X5_ofJoiner w_se_X5_ofJoiner w_in_X5 w_co_X5_ofJoiner) rfl rfl rfl (by decide +kernel) ⟨Nat.le_trans (Nat.le_of_ble_eq_true rfl) hfr, Nat.le_trans (Nat.le_of_ble_eq_true rfl) hlo⟩) hl.1 (Nat.le_of_ble_eq_true rfl) hc dL_isFair_510 (fun S H locs hS hw => ?_)
      refine lv_iload hx hb dL_isFair_513 (lv_at hl 3 rfl) ?_
      refine k_ci0 hw (k_rS (As := [.int (DN Z i ns)]) (rest := [.int (sp_J6_bitCount_0f7a4 (DN Z i ns))]) ⟨hx, hb, hml, hown, hts⟩ hK hO hw (ct_J6_bitCount_0f7a4 (DN Z i ns) _ (wk.hA hw hA)) (va_cwS 1 hts (gB_S w_ml_L_87 w_st_J6_bitCount_0f7a4 w_in_J6 w_co_J6_bitCount_0f7a4) rfl rfl rfl (by decide +kernel) ⟨Nat.le_trans (Nat.le_of_ble_eq_true rfl) hfr, Nat.le_trans (Nat.le_of_ble_eq_true rfl) hlo⟩) rfl hl.1 rfl (Nat.le_of_ble_eq_true rfl) dL_isFair_515 hc) (fun H locs hw => ?_)
      refine lv_icmp_ne (tgt := 548) hx hb dL_isFair_518 (by decide) (fun h => absurd rfl h) (fun _ => ?_)
      refine lv_iload hx hb dL_isFair_521 (lv_at hl 4 rfl) ?_
      refine lv_if_ne (tgt := 550) hx hb dL_isFair_523 (by decide) (fun _ => ?_) (fun h => absurd h (by decide))
      refine lv_iload hx hb dL_isFair_550 (lv_at hl 7 rfl) ?_
      refine lv_iload hx hb dL_isFair_552 (lv_at hl 3 rfl) ?_
      refine k_ci0 hw (k_rS (As := [.int (DN Z i ns)]) (rest := [.int (dJ Z i)]) ⟨hx, hb, hml, hown, hts⟩ hK hO hw (ct_J6_bitCount_0f7a4 (DN Z i ns) _ (wk.hA hw hA)) (va_cwS 1 hts (gB_S w_ml_L_87 w_st_J6_bitCount_0f7a4 w_in_J6 w_co_J6_bitCount_0f7a4) rfl rfl rfl (by decide +kernel) ⟨Nat.le_trans (Nat.le_of_ble_eq_true rfl) hfr, Nat.le_trans (Nat.le_of_ble_eq_true rfl) hlo⟩) rfl hl.1 rfl (Nat.le_of_ble_eq_true rfl) dL_isFair_554 hc) (fun H locs hw => ?_)
      refine lv_iadd hx hb dL_isFair_557 ?_
      refine lv_istore (lv' := [(6, .int ((dJ Z i) + (sp_J6_bitCount_0f7a4 (DN Z i ns)))), (13, .int (RT st (DN Z i ns) nr)), (12, .int 1), (11, .int (-1)), (10, .int (DN Z i ns)), (9, .int 1), (8, .int (Z 6 i 0)), (7, .int (nI i)), (5, .int (nI (sJ Z i + cb (Z 27 i) ns))), (4, .int (Z 0 0 1)), (3, .ref (ad 92 0)), (2, .ref (ad 91 0)), (1, .ref (ad 90 0)), (0, .ref (ad 0 0))]) hx hb dL_isFair_558 hl (by decide) rfl (fun ls hl => ?_)
      refine lv_iinc (v := (nI (i + 1))) (lv' := [(7, .int (nI (i + 1))), (6, .int ((dJ Z i) + (sp_J6_bitCount_0f7a4 (DN Z i ns)))), (13, .int (RT st (DN Z i ns) nr)), (12, .int 1), (11, .int (-1)), (10, .int (DN Z i ns)), (9, .int 1), (8, .int (Z 6 i 0)), (5, .int (nI (sJ Z i + cb (Z 27 i) ns))), (4, .int (Z 0 0 1)), (3, .ref (ad 92 0)), (2, .ref (ad 91 0)), (1, .ref (ad 90 0)), (0, .ref (ad 0 0))]) hx hb dL_isFair_560 hl (k := 7) rfl (nI_1 _) (by decide) rfl (fun ls hl => ?_)
      refine lv_goto (tgt := 17) hx hb dL_isFair_563 (by decide) ?_
      refine ih (i + 1) S H locs ls (by omega) hS hw ?_
      rw [eD, eS]
      exact lv_sub hl [0, 1, 8, 9, 10, 11, 12, 13] rfl

set_option maxHeartbeats 2000000 in
set_option maxRecDepth 100000 in
theorem fair_s {p : Program} {l : Launch} {e : Env} {R : Room} {s : State} {m : MethodId} {args : Array Value} {below : List Frame} {meth : Method} {c : Code} {cells slots : Nat} {Q : State → Prop} {D : va_G} {cI cG cJ cO : ClassId} {K0 : Nat → Nat} {A : Nat → Prop} {L : List (Nat × Nat)} {ad : Nat → Nat → Nat} {ce : Nat → Nat → va_E} {Z M : STT} {r r' : Nat} {ns nr : Nat} {kd nd st : Nat → Int32} (F : CallFix p m c cL_isFair 18 s args BIG RL) (hK : va_K D vwCl (ktys cI cG cJ cO) s) (hO : OW A K0 s) (hL : ∀ f o, cid f o = true → (f, o) ∈ L) (hA : ∀ q, s.heap.size ≤ q → A q) (hfr : 6 ≤ R.frames) (hlo : 140 ≤ R.locals) (hc : cells ≤ R.cells ∧ slots ≤ R.slots) (hr : r ≤ 512) (hZ : RLn r Z M) (hN : NI Z) (m90 : (90, 0) ∈ L) (m91 : (91, 0) ∈ L) (m92 : (92, 0) ∈ L) (h90 : ce 90 0 = .inl (cI, ns, .inl kd)) (h91 : ce 91 0 = .inl (cI, ns, .inl nd)) (h92 : ce 92 0 = .inl (cI, nr, .inl st)) (ens : ns = (Z 1 0 0).toNatClampNeg) (enr : nr = (Z 1 0 1).toNatClampNeg) (ekd : ∀ k, k < ns → kd k = Z 7 0 k) (end_ : ∀ k, k < ns → nd k = Z 9 0 k) (est : ∀ k, k < nr → st k = Z 12 0 k) {v4 v5 v6 : Int32} (kk : ∀ (S : STT) (H : Heap) (locs : List Loc) (ls : Array Slot), RLn r' S M → wk D A L ad (cK cI cJ ad ce S) s.heap H locs → lv_has ls 18 [(7, .int (nI (cJs (Z 27) (Z 0 0 0).toNatClampNeg (Z 3 0 0).toNatClampNeg))), (6, .int v6), (5, .int v5), (4, .int v4), (3, .ref (ad 92 0)), (2, .ref (ad 91 0)), (1, .ref (ad 90 0)), (0, .ref (ad 0 0))] → W p l e R s m args below meth c H locs cells slots Q (F0 m 619 ls [])) : ∀ (n i : Nat) (S : STT) (H : Heap) (locs : List Loc) (ls : Array Slot), i + n = (Z 3 0 0).toNatClampNeg → RLn r' S M → wk D A L ad (cK cI cJ ad ce S) s.heap H locs → lv_has ls 18 [(8, .int (nI i)), (7, .int (nI (cJs (Z 27) (Z 0 0 0).toNatClampNeg i))), (6, .int v6), (5, .int v5), (4, .int v4), (3, .ref (ad 92 0)), (2, .ref (ad 91 0)), (1, .ref (ad 90 0)), (0, .ref (ad 0 0))] → W p l e R s m args below meth c H locs cells slots Q (F0 m 572 ls []) := by
  obtain ⟨hx, hb, hml, hown, hts⟩ := F
  have hm12 := hZ.c.self.iv.m12
  have hj8 := hZ.c.self.iv.j8
  have he20 := hZ.c.self.iv.e20
  have hc0 := cn_eq hZ.c.self.iv.ci.2.2.2.1.1
  intro n
  induction n with
  | zero =>
    intro i S H locs ls hi hS hw hl
    refine lv_iload hx hb dL_isFair_572 (lv_at hl 0 rfl) ?_
    refine lv_aload_n hx hb dL_isFair_574 rfl (lv_at hl 8 rfl) ?_
    refine lv_iconst (v := 3) hx hb dL_isFair_575 (by decide) ?_
    refine r_many ⟨hx, hb, hml, hown, hts⟩ hK hO hL hA hw hZ hS (w := 3) (by decide) (v := nI (Z 3 0 0).toNatClampNeg) (w_m3.trans hc0) (cwV 1 hts (gB_V w_ml_L_33 w_im_X5_many w_se_X5_many w_in_X5 w_co_X5_many) rfl rfl rfl (by decide +kernel) ⟨Nat.le_trans (Nat.le_of_ble_eq_true rfl) hfr, Nat.le_trans (Nat.le_of_ble_eq_true rfl) hlo⟩) hl.1 (Nat.le_of_ble_eq_true rfl) hc dL_isFair_576 (fun H locs hw => ?_)
    refine lv_icmp_ge (tgt := 619) hx hb dL_isFair_579 (by decide) (fun _ => ?_) (fun h => absurd (nI_le (by omega) (by omega)) h)
    obtain rfl : i = (Z 3 0 0).toNatClampNeg := hi
    exact kk S H locs ls hS hw (lv_sub hl [1, 2, 3, 4, 5, 6, 7, 8] rfl)
  | succ n ih =>
    intro i S H locs ls hi hS hw hl
    have hlt : ¬ nI (Z 3 0 0).toNatClampNeg ≤ nI i := nI_ge (by omega) (by omega)
    have hs : i < (Z 3 0 0).toNatClampNeg := by omega
    refine lv_iload hx hb dL_isFair_572 (lv_at hl 0 rfl) ?_
    refine lv_aload_n hx hb dL_isFair_574 rfl (lv_at hl 8 rfl) ?_
    refine lv_iconst (v := 3) hx hb dL_isFair_575 (by decide) ?_
    refine r_many ⟨hx, hb, hml, hown, hts⟩ hK hO hL hA hw hZ hS (w := 3) (by decide) (v := nI (Z 3 0 0).toNatClampNeg) (w_m3.trans hc0) (cwV 1 hts (gB_V w_ml_L_33 w_im_X5_many w_se_X5_many w_in_X5 w_co_X5_many) rfl rfl rfl (by decide +kernel) ⟨Nat.le_trans (Nat.le_of_ble_eq_true rfl) hfr, Nat.le_trans (Nat.le_of_ble_eq_true rfl) hlo⟩) hl.1 (Nat.le_of_ble_eq_true rfl) hc dL_isFair_576 (fun H locs hw => ?_)
    refine lv_icmp_ge (tgt := 619) hx hb dL_isFair_579 (by decide) (fun h => absurd h hlt) (fun _ => ?_)
    refine lv_aload_n hx hb dL_isFair_582 rfl (lv_at hl 8 rfl) ?_
    refine lv_iload hx hb dL_isFair_583 (lv_at hl 0 rfl) ?_
    refine lv_iconst (v := 3) hx hb dL_isFair_585 (by decide) ?_
    refine r_sess ⟨hx, hb, hml, hown, hts⟩ hK hO hL hA hw hZ hS (q := i) (w := 3) hs (by decide) (v := Z 20 0 i) (w_e3 (by omega)) (cwV 2 hts (gB_V w_ml_L_84 w_im_X5_ofSession w_se_X5_ofSession w_in_X5 w_co_X5_ofSession) rfl rfl rfl (by decide +kernel) ⟨Nat.le_trans (Nat.le_of_ble_eq_true rfl) hfr, Nat.le_trans (Nat.le_of_ble_eq_true rfl) hlo⟩) hl.1 (Nat.le_of_ble_eq_true rfl) hc dL_isFair_586 (fun H locs hw => ?_)
    refine lv_aload_n hx hb dL_isFair_589 rfl (lv_at hl 8 rfl) ?_
    refine lv_iload hx hb dL_isFair_590 (lv_at hl 0 rfl) ?_
    refine lv_iconst (v := 2) hx hb dL_isFair_592 (by decide) ?_
    refine r_sess ⟨hx, hb, hml, hown, hts⟩ hK hO hL hA hw hZ hS (q := i) (w := 2) hs (by decide) (v := Z 19 0 i) (w_e2 (by omega)) (cwV 2 hts (gB_V w_ml_L_84 w_im_X5_ofSession w_se_X5_ofSession w_in_X5 w_co_X5_ofSession) rfl rfl rfl (by decide +kernel) ⟨Nat.le_trans (Nat.le_of_ble_eq_true rfl) hfr, Nat.le_trans (Nat.le_of_ble_eq_true rfl) hlo⟩) hl.1 (Nat.le_of_ble_eq_true rfl) hc dL_isFair_593 (fun H locs hw => ?_)
    refine lv_icmp_le (tgt := 601) hx hb dL_isFair_596 (by decide) (fun _ => ?_) (fun h => absurd (le_i (hN.2.2.1 i (by omega))) h)
    refine lv_iload hx hb dL_isFair_601 (lv_at hl 1 rfl) ?_
    refine lv_aload_n hx hb dL_isFair_603 rfl (lv_at hl 8 rfl) ?_
    refine lv_iload hx hb dL_isFair_604 (lv_at hl 0 rfl) ?_
    refine lv_iconst (v := 3) hx hb dL_isFair_606 (by decide) ?_
    refine r_sess ⟨hx, hb, hml, hown, hts⟩ hK hO hL hA hw hZ hS (q := i) (w := 3) hs (by decide) (v := nI (cJb (Z 27) (nI i) (Z 0 0 0).toNatClampNeg)) ((w_e3 (by omega)).trans (hZ.c.self.tk i (by omega))) (cwV 2 hts (gB_V w_ml_L_84 w_im_X5_ofSession w_se_X5_ofSession w_in_X5 w_co_X5_ofSession) rfl rfl rfl (by decide +kernel) ⟨Nat.le_trans (Nat.le_of_ble_eq_true rfl) hfr, Nat.le_trans (Nat.le_of_ble_eq_true rfl) hlo⟩) hl.1 (Nat.le_of_ble_eq_true rfl) hc dL_isFair_607 (fun H locs hw => ?_)
    refine lv_iadd hx hb dL_isFair_610 ?_
    refine lv_istore (lv' := [(7, .int ((nI (cJs (Z 27) (Z 0 0 0).toNatClampNeg i)) + (nI (cJb (Z 27) (nI i) (Z 0 0 0).toNatClampNeg)))), (8, .int (nI i)), (6, .int v6), (5, .int v5), (4, .int v4), (3, .ref (ad 92 0)), (2, .ref (ad 91 0)), (1, .ref (ad 90 0)), (0, .ref (ad 0 0))]) hx hb dL_isFair_611 hl (by decide) rfl (fun ls hl => ?_)
    refine lv_iinc (v := (nI (i + 1))) (lv' := [(8, .int (nI (i + 1))), (7, .int ((nI (cJs (Z 27) (Z 0 0 0).toNatClampNeg i)) + (nI (cJb (Z 27) (nI i) (Z 0 0 0).toNatClampNeg)))), (6, .int v6), (5, .int v5), (4, .int v4), (3, .ref (ad 92 0)), (2, .ref (ad 91 0)), (1, .ref (ad 90 0)), (0, .ref (ad 0 0))]) hx hb dL_isFair_613 hl (k := 1) rfl (nI_1 _) (by decide) rfl (fun ls hl => ?_)
    refine lv_goto (tgt := 572) hx hb dL_isFair_616 (by decide) ?_
    rw [nI_add] at hl
    exact ih (i + 1) S H locs ls (by omega) hS hw (lv_sub hl [0, 1, 2, 3, 4, 5, 6, 7, 8] rfl)

abbrev bw_L_isFair : List Cond := .code yL_isFair cL_isFair 18 (some .boolean) :: BIG
abbrev rm_L_isFair : Room := { frames := 6, cells := 0, slots := 0, locals := 140 }
set_option maxHeartbeats 2000000 in
set_option maxRecDepth 100000 in
theorem ct_L_isFair {l : Launch} {D : va_G} {cI cG cJ cO : ClassId} {K0 : Nat → Nat} {A : Nat → Prop} {L : List (Nat × Nat)} {ad : Nat → Nat → Nat} {ce : Nat → Nat → va_E} {Z M : STT} {r : Nat} {ns nr : Nat} {kd nd st : Nat → Int32} (hL : ∀ f o, cid f o = true → (f, o) ∈ L) (hr : r ≤ 512) (hZ : RLn r Z M) (hN : NI Z) (m90 : (90, 0) ∈ L) (m91 : (91, 0) ∈ L) (m92 : (92, 0) ∈ L) (h90 : ce 90 0 = .inl (cI, ns, .inl kd)) (h91 : ce 91 0 = .inl (cI, ns, .inl nd)) (h92 : ce 92 0 = .inl (cI, nr, .inl st)) (ens : ns = (Z 1 0 0).toNatClampNeg) (enr : nr = (Z 1 0 1).toNatClampNeg) (ekd : ∀ k, k < ns → kd k = Z 7 0 k) (end_ : ∀ k, k < ns → nd k = Z 9 0 k) (est : ∀ k, k < nr → st k = Z 12 0 k) (sz : Nat) (hA : ∀ q, sz ≤ q → A q) : Met l yL_isFair bw_L_isFair rm_L_isFair (kP D (ktys cI cG cJ cO) K0 A L ad (cK cI cJ ad ce Z) sz [.ref (ad 0 0), .ref (ad 90 0), .ref (ad 91 0), .ref (ad 92 0)]) (va_Qi (fun (x : Int32) (S : STT) => x = 1 ∧ RLn r S M) (fun S t => WE D A L ad (cK cI cJ ad ce S) t) A) 0 0 A := by
  refine Met.ofW (cc := cL_isFair) (maxL := 18) (ret := (some .boolean)) (by decide) rfl ?_
  intro p e s m args below meth c s₁ B hml hv
  obtain ⟨hav, hsz, hP, hD, hK, hO⟩ := hv
  have hx := B.exec
  have hb := B.bytes
  have hret := B.returns
  have hts : ∀ w ∈ BIG, w.before args s = true := fun w h => atoms_spec (ws := bw_L_isFair) B.pre w (List.mem_cons_of_mem _ h)
  have hown : s.vm.findClass RL = some m.cls := findClass_of_methodNamed B.named
  have hlocks := B.notSynchronized
  subst hsz
  have hw := wk.start hP hD
  refine k_start (by rfl) hav (Nat.le_of_ble_eq_true rfl) (fun ls hl => ?_)
  have hl : lv_has ls 18 [(0, .ref (ad 0 0)), (1, .ref (ad 90 0)), (2, .ref (ad 91 0)), (3, .ref (ad 92 0))] := hl
  have hfr : 6 ≤ (headSpec bw_L_isFair rm_L_isFair).room.frames := Nat.le_refl _
  have hlo : 140 ≤ (headSpec bw_L_isFair rm_L_isFair).room.locals := Nat.le_refl _
  have hc : 0 ≤ (headSpec bw_L_isFair rm_L_isFair).room.cells ∧ 0 ≤ (headSpec bw_L_isFair rm_L_isFair).room.slots := ⟨Nat.le_refl _, Nat.le_refl _⟩
  have hS := hZ
  have v := hZ.c.self.iv
  obtain ⟨S, hSe⟩ : ∃ S, S = Z := ⟨_, rfl⟩
  rw [← hSe] at hS hw
  refine lv_aload_n hx hb dL_isFair_0 rfl (lv_at hl 0 rfl) ?_
  refine lv_bipush (v := 10) hx hb dL_isFair_1 (by decide) ?_
  refine r_many ⟨hx, hb, hml, hown, hts⟩ hK hO hL hA hw hZ hS (w := 10) (by decide) (v := Z 0 0 1) w_m10 (cwV 1 hts (gB_V w_ml_L_33 w_im_X5_many w_se_X5_many w_in_X5 w_co_X5_many) rfl rfl rfl (by decide +kernel) ⟨Nat.le_trans (Nat.le_of_ble_eq_true rfl) hfr, Nat.le_trans (Nat.le_of_ble_eq_true rfl) hlo⟩) hl.1 (Nat.le_of_ble_eq_true rfl) hc dL_isFair_3 (fun H locs hw => ?_)
  refine lv_istore (lv' := [(4, .int (Z 0 0 1)), (0, .ref (ad 0 0)), (1, .ref (ad 90 0)), (2, .ref (ad 91 0)), (3, .ref (ad 92 0))]) hx hb dL_isFair_6 hl (by decide) rfl (fun ls hl => ?_)
  refine lv_iconst (v := 0) hx hb dL_isFair_8 (by decide) ?_
  refine lv_istore (lv' := [(5, .int 0), (4, .int (Z 0 0 1)), (0, .ref (ad 0 0)), (1, .ref (ad 90 0)), (2, .ref (ad 91 0)), (3, .ref (ad 92 0))]) hx hb dL_isFair_9 hl (by decide) rfl (fun ls hl => ?_)
  refine lv_iconst (v := 0) hx hb dL_isFair_11 (by decide) ?_
  refine lv_istore (lv' := [(6, .int 0), (5, .int 0), (4, .int (Z 0 0 1)), (0, .ref (ad 0 0)), (1, .ref (ad 90 0)), (2, .ref (ad 91 0)), (3, .ref (ad 92 0))]) hx hb dL_isFair_12 hl (by decide) rfl (fun ls hl => ?_)
  refine lv_iconst (v := 0) hx hb dL_isFair_14 (by decide) ?_
  refine lv_istore (lv' := [(7, .int 0), (6, .int 0), (5, .int 0), (4, .int (Z 0 0 1)), (0, .ref (ad 0 0)), (1, .ref (ad 90 0)), (2, .ref (ad 91 0)), (3, .ref (ad 92 0))]) hx hb dL_isFair_15 hl (by decide) rfl (fun ls hl => ?_)
  refine fair_j (r' := r) ⟨hx, hb, hml, hown, hts⟩ hK hO hL hA hfr hlo hc hr hZ hN m90 m91 m92 h90 h91 h92 ens enr ekd end_ est ?_ (Z 0 0 0).toNatClampNeg 0 S H locs ls (Nat.zero_add _) hS hw (lv_sub hl [0, 1, 2, 3, 7, 6, 5, 4] rfl)
  intro S H locs ls hS hw hl
  refine lv_iconst (v := 0) hx hb dL_isFair_566 (by decide) ?_
  refine lv_istore (lv' := [(7, .int 0), (6, .int (dJ Z (Z 0 0 0).toNatClampNeg)), (5, .int (nI (sJ Z (Z 0 0 0).toNatClampNeg))), (4, .int (Z 0 0 1)), (3, .ref (ad 92 0)), (2, .ref (ad 91 0)), (1, .ref (ad 90 0)), (0, .ref (ad 0 0))]) hx hb dL_isFair_567 hl (by decide) rfl (fun ls hl => ?_)
  refine lv_iconst (v := 0) hx hb dL_isFair_569 (by decide) ?_
  refine lv_istore (lv' := [(8, .int 0), (7, .int 0), (6, .int (dJ Z (Z 0 0 0).toNatClampNeg)), (5, .int (nI (sJ Z (Z 0 0 0).toNatClampNeg))), (4, .int (Z 0 0 1)), (3, .ref (ad 92 0)), (2, .ref (ad 91 0)), (1, .ref (ad 90 0)), (0, .ref (ad 0 0))]) hx hb dL_isFair_570 hl (by decide) rfl (fun ls hl => ?_)
  refine fair_s (r' := r) ⟨hx, hb, hml, hown, hts⟩ hK hO hL hA hfr hlo hc hr hZ hN m90 m91 m92 h90 h91 h92 ens enr ekd end_ est ?_ (Z 3 0 0).toNatClampNeg 0 S H locs ls (Nat.zero_add _) hS hw (lv_sub hl [0, 1, 2, 3, 4, 5, 6, 7, 8] rfl)
  intro S H locs ls hS hw hl
  rw [cJs_sJ hZ.c.self _ (Nat.le_refl _)] at hl
  refine lv_iload hx hb dL_isFair_619 (lv_at hl 0 rfl) ?_
  refine lv_iload hx hb dL_isFair_621 (lv_at hl 2 rfl) ?_
  refine lv_icmp_ne (tgt := 670) hx hb dL_isFair_623 (by decide) (fun h => absurd rfl h) (fun _ => ?_)
  refine lv_aload_n hx hb dL_isFair_626 rfl (lv_at hl 7 rfl) ?_
  refine lv_bipush (v := 9) hx hb dL_isFair_627 (by decide) ?_
  refine r_many ⟨hx, hb, hml, hown, hts⟩ hK hO hL hA hw hZ hS (w := 9) (by decide) (v := nI (sJ Z (Z 0 0 0).toNatClampNeg)) (w_m9.trans (seats_fair hZ.c.self)) (cwV 1 hts (gB_V w_ml_L_33 w_im_X5_many w_se_X5_many w_in_X5 w_co_X5_many) rfl rfl rfl (by decide +kernel) ⟨Nat.le_trans (Nat.le_of_ble_eq_true rfl) hfr, Nat.le_trans (Nat.le_of_ble_eq_true rfl) hlo⟩) hl.1 (Nat.le_of_ble_eq_true rfl) hc dL_isFair_629 (fun H locs hw => ?_)
  refine lv_iload hx hb dL_isFair_632 (lv_at hl 2 rfl) ?_
  refine lv_icmp_ne (tgt := 670) hx hb dL_isFair_634 (by decide) (fun h => absurd rfl h) (fun _ => ?_)
  refine lv_aload_n hx hb dL_isFair_637 rfl (lv_at hl 7 rfl) ?_
  refine lv_bipush (v := 6) hx hb dL_isFair_638 (by decide) ?_
  refine r_many ⟨hx, hb, hml, hown, hts⟩ hK hO hL hA hw hZ hS (w := 6) (by decide) (v := dJ Z (Z 0 0 0).toNatClampNeg) (w_m6.trans done_fair) (cwV 1 hts (gB_V w_ml_L_33 w_im_X5_many w_se_X5_many w_in_X5 w_co_X5_many) rfl rfl rfl (by decide +kernel) ⟨Nat.le_trans (Nat.le_of_ble_eq_true rfl) hfr, Nat.le_trans (Nat.le_of_ble_eq_true rfl) hlo⟩) hl.1 (Nat.le_of_ble_eq_true rfl) hc dL_isFair_640 (fun H locs hw => ?_)
  refine lv_iload hx hb dL_isFair_643 (lv_at hl 1 rfl) ?_
  refine lv_icmp_ne (tgt := 670) hx hb dL_isFair_645 (by decide) (fun h => absurd rfl h) (fun _ => ?_)
  refine lv_aload_n hx hb dL_isFair_648 rfl (lv_at hl 7 rfl) ?_
  refine lv_iconst (v := 0) hx hb dL_isFair_649 (by decide) ?_
  refine lv_iconst (v := 0) hx hb dL_isFair_650 (by decide) ?_
  refine r_item ⟨hx, hb, hml, hown, hts⟩ hK hO hL hA hw hZ hS (q := 0) (w := 0) (by decide) (by decide) (v := Z 13 0 0) (w_i0 (q := 0) (by decide)) (cwV 2 hts (gB_V w_ml_L_43 w_im_X5_ofItem w_se_X5_ofItem w_in_X5 w_co_X5_ofItem) rfl rfl rfl (by decide +kernel) ⟨Nat.le_trans (Nat.le_of_ble_eq_true rfl) hfr, Nat.le_trans (Nat.le_of_ble_eq_true rfl) hlo⟩) hl.1 (Nat.le_of_ble_eq_true rfl) hc dL_isFair_651 (fun H locs hw => ?_)
  refine lv_if_lt (tgt := 670) hx hb dL_isFair_654 (by decide) (fun h => absurd h (nneg (v.sk 0 (by decide)))) (fun _ => ?_)
  refine lv_aload_n hx hb dL_isFair_657 rfl (lv_at hl 7 rfl) ?_
  refine lv_iconst (v := 1) hx hb dL_isFair_658 (by decide) ?_
  refine lv_iconst (v := 0) hx hb dL_isFair_659 (by decide) ?_
  refine r_item ⟨hx, hb, hml, hown, hts⟩ hK hO hL hA hw hZ hS (q := 1) (w := 0) (by decide) (by decide) (v := Z 13 0 1) (w_i0 (q := 1) (by decide)) (cwV 2 hts (gB_V w_ml_L_43 w_im_X5_ofItem w_se_X5_ofItem w_in_X5 w_co_X5_ofItem) rfl rfl rfl (by decide +kernel) ⟨Nat.le_trans (Nat.le_of_ble_eq_true rfl) hfr, Nat.le_trans (Nat.le_of_ble_eq_true rfl) hlo⟩) hl.1 (Nat.le_of_ble_eq_true rfl) hc dL_isFair_660 (fun H locs hw => ?_)
  refine lv_if_lt (tgt := 670) hx hb dL_isFair_663 (by decide) (fun h => absurd h (nneg (v.sk 1 (by decide)))) (fun _ => ?_)
  refine lv_iconst (v := 1) hx hb dL_isFair_666 (by decide) ?_
  refine lv_goto (tgt := 671) hx hb dL_isFair_667 (by decide) ?_
  exact W.zret hx hb hret rfl (fun t ht _ => ⟨⟨_, S, rfl, ⟨rfl, hS⟩, by rw [ht]; exact hw.1, hw.2.1⟩, hw.2.2.F ht⟩) hw.2.2.2.2 dL_isFair_671 hlocks

end P24J
