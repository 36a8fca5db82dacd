section P24O

set_option maxHeartbeats 4000000 in
set_option maxRecDepth 100000 in
theorem law_c0 {p : Program} {l : Launch} {e : Env} {R : Room} {s : State} {m : MethodId} {args : Array Value} {below : List Frame} {meth : Method} {c : Code} {Q : State → Prop} {D : va_G} {cI cG cJ cO : ClassId} {K0 : Nat → Nat} {A : Nat → Prop} {L : List (Nat × Nat)} {ad : Nat → Nat → Nat} (F : CallFix p m c cL_law 17 s args BIG RL) (hK : va_K D vwCl (ktys cI cG cJ cO) s) (hO : OW A K0 s) (hL : ∀ f o, cid f o = true → (f, o) ∈ L) (hA : ∀ q, s.heap.size ≤ q → A q) (hst : l.stackTraces = false) (hfr : 8 ≤ R.frames) (hlo : 180 ≤ R.locals) (hRc : 2000 ≤ R.cells) (hRs : 20000 ≤ R.slots) (h1 : K0 1 < 2 ^ 31) (m90 : (90, 0) ∈ L) (m91 : (91, 0) ∈ L) (m92 : (92, 0) ∈ L) {ns nr : Nat} (hns4 : 4 ≤ ns) (hns : ns ≤ 10) (hnr : nr ≤ 6) {kd nd : Nat → Int32} {st : Nat → Int32} {ce : Nat → Nat → va_E} (h90 : ce 90 0 = .inl (cI, ns, .inl kd)) (h91 : ce 91 0 = .inl (cI, ns, .inl nd)) (h92 : ce 92 0 = .inl (cI, nr, .inl st)) {i t J : Nat} (hi : i < 50) {Z : STT} (hLS : LSt kd nd st ns nr i Z) (hJ : Z 0 0 0 = nI J) (ht : Z 0 0 1 = nI t) (hJ8 : J ≤ 8) (htI : t ≤ i) {x : Int32} (k849 : ∀ (S : STT) (H : Heap) (locs : List Loc) (ls : Array Slot), LSt kd nd st ns nr (i + 1) S → wk D A L ad (cK cI cJ ad ce S) s.heap H locs → lv_has ls 17 [(7, .int (nI i)), (6, .ref (ad 92 0)), (5, .int (nI nr)), (4, .ref (ad 91 0)), (3, .ref (ad 90 0)), (2, .int (nI ns)), (1, .ref (ad 0 0)), (0, .ref (K0 0))] → W p l e R s m args below meth c H locs (206 + 6 * i) (2040 + 40 * i) Q (F0 m 849 ls [])) {H : Heap} {locs : List Loc} {ls : Array Slot} (hw : wk D A L ad (cK cI cJ ad ce Z) s.heap H locs) (hl : lv_has ls 17 [(10, .int (nI J)), (9, .int (nI t)), (8, .int x), (7, .int (nI i)), (6, .ref (ad 92 0)), (5, .int (nI nr)), (4, .ref (ad 91 0)), (3, .ref (ad 90 0)), (2, .int (nI ns)), (1, .ref (ad 0 0)), (0, .ref (K0 0))]) : W p l e R s m args below meth c H locs (200 + 6 * i) (2000 + 40 * i) Q (F0 m 408 ls []) := by
  obtain ⟨hx, hb, hml, hown, hts⟩ := F
  obtain ⟨r, M, g1, hZ, hN, g4, g5, g6, g7, g8, g9⟩ := id hLS
  have hS := hZ
  have v := hZ.c.self.iv
  have hc : 200 + 6 * i ≤ R.cells ∧ 2000 + 40 * i ≤ R.slots := ⟨by omega, by omega⟩
  have eJ : (Z 0 0 0).toNatClampNeg = J := by rw [hJ, q_cl (by omega)]
  have et : (Z 0 0 1).toInt = t := by rw [ht, nI_toInt (by omega)]
  refine lv_iload hx hb dL_law_408 (lv_at hl 0 rfl) ?_
  refine lv_bipush (v := 8) hx hb dL_law_410 (by decide) ?_
  refine lv_icmp_ge (tgt := 849) hx hb dL_law_412 (by decide) (fun c_1 => ?_) (fun c_1 => ?_)
  · refine W.widen (k := 206 + 6 * i) (n := 2040 + 40 * i) (by omega) (by omega) ?_
    exact k849 Z H locs ls (hLS.stay (Nat.le_succ i) hZ (by omega) hZ hN) hw (lv_sub hl [3, 4, 5, 6, 7, 8, 9, 10] rfl)
  · refine lv_aload_n hx hb dL_law_415 rfl (lv_at hl 9 rfl) ?_
    refine lv_iload hx hb dL_law_416 (lv_at hl 2 rfl) ?_
    refine lv_iconst (v := 2) hx hb dL_law_418 (by decide) ?_
    refine lv_ishr hx hb dL_law_419 ?_
    refine lv_iconst (v := 4) hx hb dL_law_420 (by decide) ?_
    refine k_ci0 hw (k_rS (As := [.int (x >>> (2 &&& 31)), .int (nI 4)]) (rest := [.ref (ad 0 0)]) ⟨hx, hb, hml, hown, hts⟩ hK hO hw (ct_L_below (x >>> (2 &&& 31)) (n := 4) (by omega) (by omega) _ (wk.hA hw hA)) (va_cwS 2 hts (gB_S w_ml_L_18 w_st_L_below w_in_L w_co_L_below) rfl rfl rfl (by decide +kernel) ⟨Nat.le_trans (Nat.le_of_ble_eq_true rfl) hfr, Nat.le_trans (Nat.le_of_ble_eq_true rfl) hlo⟩) rfl hl.1 rfl (Nat.le_of_ble_eq_true rfl) dL_law_421 hc) (fun H locs hw => ?_)
    obtain ⟨q, hq, eq⟩ : ∃ q : Nat, q < 4 ∧ q = bl (x >>> (2 &&& 31)) 4 := ⟨_, bl_lt (by omega), rfl⟩
    rw [← eq]
    refine lv_iload hx hb dL_law_424 (lv_at hl 1 rfl) ?_
    refine lv_iconst (v := 1) hx hb dL_law_426 (by decide) ?_
    refine lv_iadd hx hb dL_law_427 ?_
    rw [show ((nI t) + 1 : Int32) = nI (t + 1) from nI_add t 1]
    refine lv_iload hx hb dL_law_428 (lv_at hl 2 rfl) ?_
    refine lv_iconst (v := 4) hx hb dL_law_430 (by decide) ?_
    refine lv_ishr hx hb dL_law_431 ?_
    refine lv_iconst (v := 3) hx hb dL_law_432 (by decide) ?_
    refine k_ci0 hw (k_rS (As := [.int (x >>> (4 &&& 31)), .int (nI 3)]) (rest := [.int (nI (t + 1)), .int (nI q), .ref (ad 0 0)]) ⟨hx, hb, hml, hown, hts⟩ hK hO hw (ct_L_below (x >>> (4 &&& 31)) (n := 3) (by omega) (by omega) _ (wk.hA hw hA)) (va_cwS 2 hts (gB_S w_ml_L_18 w_st_L_below w_in_L w_co_L_below) rfl rfl rfl (by decide +kernel) ⟨Nat.le_trans (Nat.le_of_ble_eq_true rfl) hfr, Nat.le_trans (Nat.le_of_ble_eq_true rfl) hlo⟩) rfl hl.1 rfl (Nat.le_of_ble_eq_true rfl) dL_law_433 hc) (fun H locs hw => ?_)
    obtain ⟨pp, hpp, epp⟩ : ∃ q : Nat, q < 3 ∧ q = bl (x >>> (4 &&& 31)) 3 := ⟨_, bl_lt (by omega), rfl⟩
    rw [← epp]
    refine lv_iadd hx hb dL_law_436 ?_
    rw [show ((nI (t + 1)) + (nI pp) : Int32) = nI ((t + 1) + pp) from nI_add (t + 1) pp]
    have hJl : J < 8 := Nat.lt_of_not_le (fun z => c_1 (nI_le (a := 8) z (by omega)))
    obtain ⟨e0, e1, ⟨M1, e2⟩, e3, e4, e5⟩ := n_join (r := r) (by omega) hZ hN (q := q) hq (p2 := nI ((t + 1) + pp)) (ahead_n (by rw [et]; omega) (by omega)) (by omega) (g9 q hq)
    have e1 := e1.trans hJ
    refine x_ci hw (x_rV (As := [.int (nI q), .int (nI ((t + 1) + pp))]) (rest := []) ⟨hx, hb, hml, hown, hts⟩ hK hO hw (ct_X5_join hL Z (RLn.ci hS).1 (nI q) (nI ((t + 1) + pp)) hst _ (wk.hA hw hA)) (cwV 2 hts (gB_V w_ml_L_36 w_im_X5_join w_se_X5_join w_in_X5 w_co_X5_join) rfl rfl rfl (by decide +kernel) ⟨Nat.le_trans (Nat.le_of_ble_eq_true rfl) hfr, Nat.le_trans (Nat.le_of_ble_eq_true rfl) hlo⟩) (hL 0 0 rfl) cke_0 rfl rfl hl.1 rfl (Nat.le_of_ble_eq_true rfl) dL_law_437 ⟨by omega, by omega⟩) (fun E cx q9 H locs hx9 hw hcx hvx hclx => absurd e0 hx9.ne) (fun H locs hc0 hw => ?_)
    rw [e1]
    generalize (sp_X5_join Z (nI q) (nI ((t + 1) + pp))).2.2 = S1 at e2 e3 e4 e5 hw
    have hLS1 := hLS.next g1 e2 e3 e4 (by rw [e5]; omega)
    have hc : 200 + 6 * i + 2 ≤ R.cells ∧ 2000 + 40 * i + 12 ≤ R.slots := ⟨by omega, by omega⟩
    refine lv_iload hx hb dL_law_440 (lv_at hl 0 rfl) ?_
    refine lv_icmp_eq (tgt := 849) hx hb dL_law_442 (by decide) (fun _ => ?_) (fun h => absurd rfl h)
    refine W.widen (k := 206 + 6 * i) (n := 2040 + 40 * i) (by omega) (by omega) ?_
    exact k849 S1 H locs ls hLS1 hw (lv_sub hl [3, 4, 5, 6, 7, 8, 9, 10] rfl)

set_option maxHeartbeats 4000000 in
set_option maxRecDepth 100000 in
theorem law_c1 {p : Program} {l : Launch} {e : Env} {R : Room} {s : State} {m : MethodId} {args : Array Value} {below : List Frame} {meth : Method} {c : Code} {Q : State → Prop} {D : va_G} {cI cG cJ cO : ClassId} {K0 : Nat → Nat} {A : Nat → Prop} {L : List (Nat × Nat)} {ad : Nat → Nat → Nat} (F : CallFix p m c cL_law 17 s args BIG RL) (hK : va_K D vwCl (ktys cI cG cJ cO) s) (hO : OW A K0 s) (hL : ∀ f o, cid f o = true → (f, o) ∈ L) (hA : ∀ q, s.heap.size ≤ q → A q) (hst : l.stackTraces = false) (hfr : 8 ≤ R.frames) (hlo : 180 ≤ R.locals) (hRc : 2000 ≤ R.cells) (hRs : 20000 ≤ R.slots) (h1 : K0 1 < 2 ^ 31) (m90 : (90, 0) ∈ L) (m91 : (91, 0) ∈ L) (m92 : (92, 0) ∈ L) {ns nr : Nat} (hns4 : 4 ≤ ns) (hns : ns ≤ 10) (hnr : nr ≤ 6) {kd nd : Nat → Int32} {st : Nat → Int32} {ce : Nat → Nat → va_E} (h90 : ce 90 0 = .inl (cI, ns, .inl kd)) (h91 : ce 91 0 = .inl (cI, ns, .inl nd)) (h92 : ce 92 0 = .inl (cI, nr, .inl st)) {i t J : Nat} (hi : i < 50) {Z : STT} (hLS : LSt kd nd st ns nr i Z) (hJ : Z 0 0 0 = nI J) (ht : Z 0 0 1 = nI t) (hJ8 : J ≤ 8) (htI : t ≤ i) {x : Int32} (k849 : ∀ (S : STT) (H : Heap) (locs : List Loc) (ls : Array Slot), LSt kd nd st ns nr (i + 1) S → wk D A L ad (cK cI cJ ad ce S) s.heap H locs → lv_has ls 17 [(7, .int (nI i)), (6, .ref (ad 92 0)), (5, .int (nI nr)), (4, .ref (ad 91 0)), (3, .ref (ad 90 0)), (2, .int (nI ns)), (1, .ref (ad 0 0)), (0, .ref (K0 0))] → W p l e R s m args below meth c H locs (206 + 6 * i) (2040 + 40 * i) Q (F0 m 849 ls [])) {H : Heap} {locs : List Loc} {ls : Array Slot} (hw : wk D A L ad (cK cI cJ ad ce Z) s.heap H locs) (hl : lv_has ls 17 [(10, .int (nI J)), (9, .int (nI t)), (8, .int x), (7, .int (nI i)), (6, .ref (ad 92 0)), (5, .int (nI nr)), (4, .ref (ad 91 0)), (3, .ref (ad 90 0)), (2, .int (nI ns)), (1, .ref (ad 0 0)), (0, .ref (K0 0))]) : W p l e R s m args below meth c H locs (200 + 6 * i) (2000 + 40 * i) Q (F0 m 447 ls []) := by
  obtain ⟨hx, hb, hml, hown, hts⟩ := F
  obtain ⟨r, M, g1, hZ, hN, g4, g5, g6, g7, g8, g9⟩ := id hLS
  have hS := hZ
  have v := hZ.c.self.iv
  have hc : 200 + 6 * i ≤ R.cells ∧ 2000 + 40 * i ≤ R.slots := ⟨by omega, by omega⟩
  have eJ : (Z 0 0 0).toNatClampNeg = J := by rw [hJ, q_cl (by omega)]
  have et : (Z 0 0 1).toInt = t := by rw [ht, nI_toInt (by omega)]
  refine lv_iload hx hb dL_law_447 (lv_at hl 2 rfl) ?_
  refine lv_iconst (v := 2) hx hb dL_law_449 (by decide) ?_
  refine lv_ishr hx hb dL_law_450 ?_
  refine lv_iload_n hx hb dL_law_451 rfl (lv_at hl 8 rfl) ?_
  refine k_ci0 hw (k_rS (As := [.int (x >>> (2 &&& 31)), .int (nI ns)]) (rest := []) ⟨hx, hb, hml, hown, hts⟩ hK hO hw (ct_L_below (x >>> (2 &&& 31)) (n := ns) (by omega) (by omega) _ (wk.hA hw hA)) (va_cwS 2 hts (gB_S w_ml_L_18 w_st_L_below w_in_L w_co_L_below) rfl rfl rfl (by decide +kernel) ⟨Nat.le_trans (Nat.le_of_ble_eq_true rfl) hfr, Nat.le_trans (Nat.le_of_ble_eq_true rfl) hlo⟩) rfl hl.1 rfl (Nat.le_of_ble_eq_true rfl) dL_law_452 hc) (fun H locs hw => ?_)
  obtain ⟨qc, hqc, eqc⟩ : ∃ q : Nat, q < ns ∧ q = bl (x >>> (2 &&& 31)) ns := ⟨_, bl_lt (by omega), rfl⟩
  rw [← eqc]
  refine lv_istore (lv' := [(11, .int (nI qc)), (10, .int (nI J)), (9, .int (nI t)), (8, .int x), (7, .int (nI i)), (6, .ref (ad 92 0)), (5, .int (nI nr)), (4, .ref (ad 91 0)), (3, .ref (ad 90 0)), (2, .int (nI ns)), (1, .ref (ad 0 0)), (0, .ref (K0 0))]) hx hb dL_law_455 hl (by decide) rfl (fun ls hl => ?_)
  refine lv_aload_n hx hb dL_law_457 rfl (lv_at hl 8 rfl) ?_
  refine lv_iload hx hb dL_law_458 (lv_at hl 0 rfl) ?_
  refine r_ald ⟨hx, hb, hml, hown, hts⟩ hK hw (i := qc) (v := kd qc) m90 (by decide) h90 (by omega) (by omega) rfl dL_law_460 ?_
  refine lv_iconst (v := 2) hx hb dL_law_461 (by decide) ?_
  refine lv_icmp_ne (tgt := 849) hx hb dL_law_462 (by decide) (fun c_1 => ?_) (fun c_1 => ?_)
  · refine W.widen (k := 206 + 6 * i) (n := 2040 + 40 * i) (by omega) (by omega) ?_
    exact k849 Z H locs ls (hLS.stay (Nat.le_succ i) hZ (by omega) hZ hN) hw (lv_sub hl [4, 5, 6, 7, 8, 9, 10, 11] rfl)
  · refine lv_aload_n hx hb dL_law_465 rfl (lv_at hl 10 rfl) ?_
    refine lv_iconst (v := 3) hx hb dL_law_466 (by decide) ?_
    refine r_many ⟨hx, hb, hml, hown, hts⟩ hK hO hL hA hw hZ hS (w := 3) (by decide) (v := nI (Z 3 0 0).toNatClampNeg) (w_m3.trans (cn_eq v.ci.2.2.2.1.1)) (cwV 1 hts (gB_V w_ml_L_33 w_im_X5_many w_se_X5_many w_in_X5 w_co_X5_many) rfl rfl rfl (by decide +kernel) ⟨Nat.le_trans (Nat.le_of_ble_eq_true rfl) hfr, Nat.le_trans (Nat.le_of_ble_eq_true rfl) hlo⟩) hl.1 (Nat.le_of_ble_eq_true rfl) hc dL_law_467 (fun H locs hw => ?_)
    refine lv_bipush (v := 20) hx hb dL_law_470 (by decide) ?_
    refine lv_icmp_ge (tgt := 849) hx hb dL_law_472 (by decide) (fun c_2 => ?_) (fun c_2 => ?_)
    · refine W.widen (k := 206 + 6 * i) (n := 2040 + 40 * i) (by omega) (by omega) ?_
      exact k849 Z H locs ls (hLS.stay (Nat.le_succ i) hZ (by omega) hZ hN) hw (lv_sub hl [4, 5, 6, 7, 8, 9, 10, 11] rfl)
    · refine lv_aload_n hx hb dL_law_475 rfl (lv_at hl 10 rfl) ?_
      refine lv_iload hx hb dL_law_476 (lv_at hl 0 rfl) ?_
      refine lv_iload hx hb dL_law_478 (lv_at hl 2 rfl) ?_
      refine lv_iconst (v := 1) hx hb dL_law_480 (by decide) ?_
      refine lv_iadd hx hb dL_law_481 ?_
      rw [show ((nI t) + 1 : Int32) = nI (t + 1) from nI_add t 1]
      refine lv_iload hx hb dL_law_482 (lv_at hl 3 rfl) ?_
      refine lv_iconst (v := 4) hx hb dL_law_484 (by decide) ?_
      refine lv_ishr hx hb dL_law_485 ?_
      refine lv_bipush (v := 9) hx hb dL_law_486 (by decide) ?_
      refine k_ci0 hw (k_rS (As := [.int (x >>> (4 &&& 31)), .int (nI 9)]) (rest := [.int (nI (t + 1)), .int (nI qc), .ref (ad 0 0)]) ⟨hx, hb, hml, hown, hts⟩ hK hO hw (ct_L_below (x >>> (4 &&& 31)) (n := 9) (by omega) (by omega) _ (wk.hA hw hA)) (va_cwS 2 hts (gB_S w_ml_L_18 w_st_L_below w_in_L w_co_L_below) rfl rfl rfl (by decide +kernel) ⟨Nat.le_trans (Nat.le_of_ble_eq_true rfl) hfr, Nat.le_trans (Nat.le_of_ble_eq_true rfl) hlo⟩) rfl hl.1 rfl (Nat.le_of_ble_eq_true rfl) dL_law_488 hc) (fun H locs hw => ?_)
      obtain ⟨p9, hp9, ep9⟩ : ∃ q : Nat, q < 9 ∧ q = bl (x >>> (4 &&& 31)) 9 := ⟨_, bl_lt (by omega), rfl⟩
      rw [← ep9]
      refine lv_iadd hx hb dL_law_491 ?_
      rw [show ((nI (t + 1)) + (nI p9) : Int32) = nI ((t + 1) + p9) from nI_add (t + 1) p9]
      refine lv_iconst (v := 1) hx hb dL_law_492 (by decide) ?_
      refine lv_iload hx hb dL_law_493 (lv_at hl 3 rfl) ?_
      refine lv_bipush (v := 6) hx hb dL_law_495 (by decide) ?_
      refine lv_ishr hx hb dL_law_497 ?_
      refine lv_iconst (v := 3) hx hb dL_law_498 (by decide) ?_
      refine k_ci0 hw (k_rS (As := [.int (x >>> (6 &&& 31)), .int (nI 3)]) (rest := [.int 1, .int (nI ((t + 1) + p9)), .int (nI qc), .ref (ad 0 0)]) ⟨hx, hb, hml, hown, hts⟩ hK hO hw (ct_L_below (x >>> (6 &&& 31)) (n := 3) (by omega) (by omega) _ (wk.hA hw hA)) (va_cwS 2 hts (gB_S w_ml_L_18 w_st_L_below w_in_L w_co_L_below) rfl rfl rfl (by decide +kernel) ⟨Nat.le_trans (Nat.le_of_ble_eq_true rfl) hfr, Nat.le_trans (Nat.le_of_ble_eq_true rfl) hlo⟩) rfl hl.1 rfl (Nat.le_of_ble_eq_true rfl) dL_law_499 hc) (fun H locs hw => ?_)
      obtain ⟨q3, hq3, eq3⟩ : ∃ q : Nat, q < 3 ∧ q = bl (x >>> (6 &&& 31)) 3 := ⟨_, bl_lt (by omega), rfl⟩
      rw [← eq3]
      refine lv_iadd hx hb dL_law_502 ?_
      rw [show (1 + (nI q3) : Int32) = nI (1 + q3) from nI_add 1 q3]
      have hE : (Z 3 0 0).toNatClampNeg < 20 := Nat.lt_of_not_le (fun z => c_2 (nI_le (a := 20) z (by have := v.e20; omega)))
      obtain ⟨e0, e1, ⟨M1, e2⟩, e3, e4, e5⟩ := n_session (r := r) (by omega) hZ hN (q := qc) (by rw [g5, q_cl (by omega)]; exact hqc) (p2 := nI ((t + 1) + p9)) (p3 := nI (1 + q3)) ((g7 qc hqc).1.trans c_1) (ahead_n (by rw [et]; omega) (by omega)) (within_n (a := 1) (b := 9) (by omega) (by omega) (by decide)) hE
      refine x_ci hw (x_rV (As := [.int (nI qc), .int (nI ((t + 1) + p9)), .int (nI (1 + q3))]) (rest := []) ⟨hx, hb, hml, hown, hts⟩ hK hO hw (ct_X5_session hL Z (RLn.ci hS).1 (nI qc) (nI ((t + 1) + p9)) (nI (1 + q3)) hst _ (wk.hA hw hA)) (cwV 3 hts (gB_V w_ml_L_39 w_im_X5_session w_se_X5_session w_in_X5 w_co_X5_session) rfl rfl rfl (by decide +kernel) ⟨Nat.le_trans (Nat.le_of_ble_eq_true rfl) hfr, Nat.le_trans (Nat.le_of_ble_eq_true rfl) hlo⟩) (hL 0 0 rfl) cke_0 rfl rfl hl.1 rfl (Nat.le_of_ble_eq_true rfl) dL_law_503 ⟨by omega, by omega⟩) (fun E cx q9 H locs hx9 hw hcx hvx hclx => absurd e0 hx9.ne) (fun H locs hc0 hw => ?_)
      rw [e1]
      generalize (sp_X5_session Z (nI qc) (nI ((t + 1) + p9)) (nI (1 + q3))).2.2 = S1 at e2 e3 e4 e5 hw ⊢
      have hLS1 := hLS.next g1 e2 e3 e4 (by rw [e5]; omega)
      have hc : 200 + 6 * i + 2 ≤ R.cells ∧ 2000 + 40 * i + 12 ≤ R.slots := ⟨by omega, by omega⟩
      have hZ := e2
      have hS := e2
      refine lv_aload_n hx hb dL_law_506 rfl (lv_at hl 10 rfl) ?_
      refine lv_iconst (v := 3) hx hb dL_law_507 (by decide) ?_
      refine r_many ⟨hx, hb, hml, hown, hts⟩ hK hO hL hA hw hZ hS (w := 3) (by decide) (v := S1 3 0 0) w_m3 (cwV 1 hts (gB_V w_ml_L_33 w_im_X5_many w_se_X5_many w_in_X5 w_co_X5_many) rfl rfl rfl (by decide +kernel) ⟨Nat.le_trans (Nat.le_of_ble_eq_true rfl) hfr, Nat.le_trans (Nat.le_of_ble_eq_true rfl) hlo⟩) hl.1 (Nat.le_of_ble_eq_true rfl) hc dL_law_508 (fun H locs hw => ?_)
      refine lv_iconst (v := 1) hx hb dL_law_511 (by decide) ?_
      refine lv_isub hx hb dL_law_512 ?_
      refine lv_icmp_eq (tgt := 849) hx hb dL_law_513 (by decide) (fun _ => ?_) (fun h => absurd rfl h)
      refine W.widen (k := 206 + 6 * i) (n := 2040 + 40 * i) (by omega) (by omega) ?_
      exact k849 S1 H locs ls hLS1 hw (lv_sub hl [4, 5, 6, 7, 8, 9, 10, 11] rfl)

set_option maxHeartbeats 4000000 in
set_option maxRecDepth 100000 in
theorem law_c2 {p : Program} {l : Launch} {e : Env} {R : Room} {s : State} {m : MethodId} {args : Array Value} {below : List Frame} {meth : Method} {c : Code} {Q : State → Prop} {D : va_G} {cI cG cJ cO : ClassId} {K0 : Nat → Nat} {A : Nat → Prop} {L : List (Nat × Nat)} {ad : Nat → Nat → Nat} (F : CallFix p m c cL_law 17 s args BIG RL) (hK : va_K D vwCl (ktys cI cG cJ cO) s) (hO : OW A K0 s) (hL : ∀ f o, cid f o = true → (f, o) ∈ L) (hA : ∀ q, s.heap.size ≤ q → A q) (hst : l.stackTraces = false) (hfr : 8 ≤ R.frames) (hlo : 180 ≤ R.locals) (hRc : 2000 ≤ R.cells) (hRs : 20000 ≤ R.slots) (h1 : K0 1 < 2 ^ 31) (m90 : (90, 0) ∈ L) (m91 : (91, 0) ∈ L) (m92 : (92, 0) ∈ L) {ns nr : Nat} (hns4 : 4 ≤ ns) (hns : ns ≤ 10) (hnr : nr ≤ 6) {kd nd : Nat → Int32} {st : Nat → Int32} {ce : Nat → Nat → va_E} (h90 : ce 90 0 = .inl (cI, ns, .inl kd)) (h91 : ce 91 0 = .inl (cI, ns, .inl nd)) (h92 : ce 92 0 = .inl (cI, nr, .inl st)) {i t J : Nat} (hi : i < 50) {Z : STT} (hLS : LSt kd nd st ns nr i Z) (hJ : Z 0 0 0 = nI J) (ht : Z 0 0 1 = nI t) (hJ8 : J ≤ 8) (htI : t ≤ i) {x : Int32} (k849 : ∀ (S : STT) (H : Heap) (locs : List Loc) (ls : Array Slot), LSt kd nd st ns nr (i + 1) S → wk D A L ad (cK cI cJ ad ce S) s.heap H locs → lv_has ls 17 [(7, .int (nI i)), (6, .ref (ad 92 0)), (5, .int (nI nr)), (4, .ref (ad 91 0)), (3, .ref (ad 90 0)), (2, .int (nI ns)), (1, .ref (ad 0 0)), (0, .ref (K0 0))] → W p l e R s m args below meth c H locs (206 + 6 * i) (2040 + 40 * i) Q (F0 m 849 ls [])) {H : Heap} {locs : List Loc} {ls : Array Slot} (hw : wk D A L ad (cK cI cJ ad ce Z) s.heap H locs) (hl : lv_has ls 17 [(10, .int (nI J)), (9, .int (nI t)), (8, .int x), (7, .int (nI i)), (6, .ref (ad 92 0)), (5, .int (nI nr)), (4, .ref (ad 91 0)), (3, .ref (ad 90 0)), (2, .int (nI ns)), (1, .ref (ad 0 0)), (0, .ref (K0 0))]) : W p l e R s m args below meth c H locs (200 + 6 * i) (2000 + 40 * i) Q (F0 m 518 ls []) := by
  obtain ⟨hx, hb, hml, hown, hts⟩ := F
  obtain ⟨r, M, g1, hZ, hN, g4, g5, g6, g7, g8, g9⟩ := id hLS
  have hS := hZ
  have v := hZ.c.self.iv
  have hc : 200 + 6 * i ≤ R.cells ∧ 2000 + 40 * i ≤ R.slots := ⟨by omega, by omega⟩
  have eJ : (Z 0 0 0).toNatClampNeg = J := by rw [hJ, q_cl (by omega)]
  have et : (Z 0 0 1).toInt = t := by rw [ht, nI_toInt (by omega)]
  refine lv_aload_n hx hb dL_law_518 rfl (lv_at hl 9 rfl) ?_
  refine lv_iload hx hb dL_law_519 (lv_at hl 2 rfl) ?_
  refine lv_iconst (v := 2) hx hb dL_law_521 (by decide) ?_
  refine lv_ishr hx hb dL_law_522 ?_
  refine lv_iconst (v := 2) hx hb dL_law_523 (by decide) ?_
  refine k_ci0 hw (k_rS (As := [.int (x >>> (2 &&& 31)), .int (nI 2)]) (rest := [.ref (ad 0 0)]) ⟨hx, hb, hml, hown, hts⟩ hK hO hw (ct_L_below (x >>> (2 &&& 31)) (n := 2) (by omega) (by omega) _ (wk.hA hw hA)) (va_cwS 2 hts (gB_S w_ml_L_18 w_st_L_below w_in_L w_co_L_below) rfl rfl rfl (by decide +kernel) ⟨Nat.le_trans (Nat.le_of_ble_eq_true rfl) hfr, Nat.le_trans (Nat.le_of_ble_eq_true rfl) hlo⟩) rfl hl.1 rfl (Nat.le_of_ble_eq_true rfl) dL_law_524 hc) (fun H locs hw => ?_)
  refine lv_iconst (v := 0) hx hb dL_law_527 (by decide) ?_
  refine r_item ⟨hx, hb, hml, hown, hts⟩ hK hO hL hA hw hZ hS (q := (bl (x >>> (2 &&& 31)) 2)) (w := 0) (by have := bl_lt (v := x >>> (2 &&& 31)) (n := 2) (by decide); omega) (by decide) (v := Z 13 0 (bl (x >>> (2 &&& 31)) 2)) (w_i0 (by have := bl_lt (v := x >>> (2 &&& 31)) (n := 2) (by decide); omega)) (cwV 2 hts (gB_V w_ml_L_43 w_im_X5_ofItem w_se_X5_ofItem w_in_X5 w_co_X5_ofItem) rfl rfl rfl (by decide +kernel) ⟨Nat.le_trans (Nat.le_of_ble_eq_true rfl) hfr, Nat.le_trans (Nat.le_of_ble_eq_true rfl) hlo⟩) hl.1 (Nat.le_of_ble_eq_true rfl) hc dL_law_528 (fun H locs hw => ?_)
  refine lv_istore (lv' := [(12, .int (Z 13 0 (bl (x >>> (2 &&& 31)) 2))), (10, .int (nI J)), (9, .int (nI t)), (8, .int x), (7, .int (nI i)), (6, .ref (ad 92 0)), (5, .int (nI nr)), (4, .ref (ad 91 0)), (3, .ref (ad 90 0)), (2, .int (nI ns)), (1, .ref (ad 0 0)), (0, .ref (K0 0))]) hx hb dL_law_531 hl (by decide) rfl (fun ls hl => ?_)
  refine lv_aload_n hx hb dL_law_533 rfl (lv_at hl 10 rfl) ?_
  refine lv_iload hx hb dL_law_534 (lv_at hl 3 rfl) ?_
  refine lv_iconst (v := 2) hx hb dL_law_536 (by decide) ?_
  refine lv_ishr hx hb dL_law_537 ?_
  refine lv_iconst (v := 2) hx hb dL_law_538 (by decide) ?_
  refine k_ci0 hw (k_rS (As := [.int (x >>> (2 &&& 31)), .int (nI 2)]) (rest := [.ref (ad 0 0)]) ⟨hx, hb, hml, hown, hts⟩ hK hO hw (ct_L_below (x >>> (2 &&& 31)) (n := 2) (by omega) (by omega) _ (wk.hA hw hA)) (va_cwS 2 hts (gB_S w_ml_L_18 w_st_L_below w_in_L w_co_L_below) rfl rfl rfl (by decide +kernel) ⟨Nat.le_trans (Nat.le_of_ble_eq_true rfl) hfr, Nat.le_trans (Nat.le_of_ble_eq_true rfl) hlo⟩) rfl hl.1 rfl (Nat.le_of_ble_eq_true rfl) dL_law_539 hc) (fun H locs hw => ?_)
  refine lv_iconst (v := 1) hx hb dL_law_542 (by decide) ?_
  obtain ⟨e0, e1, ⟨M1, e2⟩, e3, e4, e5⟩ := n_stock (r := r) (by omega) hZ hN (q := (bl (x >>> (2 &&& 31)) 2)) (by have := bl_lt (v := x >>> (2 &&& 31)) (n := 2) (by decide); omega) (p2 := 1) (show ¬ sp_X5_isWithin (nI 1) 1 20 = 0 from within_n (a := 1) (b := 20) (by decide) (by decide) (by decide))
  refine x_ci hw (x_rV (As := [.int (nI (bl (x >>> (2 &&& 31)) 2)), .int 1]) (rest := []) ⟨hx, hb, hml, hown, hts⟩ hK hO hw (ct_X5_stock hL Z (RLn.ci hS).1 (nI (bl (x >>> (2 &&& 31)) 2)) 1 hst _ (wk.hA hw hA)) (cwV 2 hts (gB_V w_ml_L_46 w_im_X5_stock w_se_X5_stock w_in_X5 w_co_X5_stock) rfl rfl rfl (by decide +kernel) ⟨Nat.le_trans (Nat.le_of_ble_eq_true rfl) hfr, Nat.le_trans (Nat.le_of_ble_eq_true rfl) hlo⟩) (hL 0 0 rfl) cke_0 rfl rfl hl.1 rfl (Nat.le_of_ble_eq_true rfl) dL_law_543 ⟨by omega, by omega⟩) (fun E cx q9 H locs hx9 hw hcx hvx hclx => absurd e0 hx9.ne) (fun H locs hc0 hw => ?_)
  rw [e1]
  generalize (sp_X5_stock Z (nI (bl (x >>> (2 &&& 31)) 2)) 1).2.2 = S1 at e2 e3 e4 e5 hw
  have hLS1 := hLS.next g1 e2 e3 e4 (by rw [e5]; omega)
  have hc : 200 + 6 * i + 2 ≤ R.cells ∧ 2000 + 40 * i + 12 ≤ R.slots := ⟨by omega, by omega⟩
  refine lv_iload hx hb dL_law_546 (lv_at hl 0 rfl) ?_
  refine lv_iconst (v := 1) hx hb dL_law_548 (by decide) ?_
  refine lv_iadd hx hb dL_law_549 ?_
  refine lv_icmp_eq (tgt := 849) hx hb dL_law_550 (by decide) (fun _ => ?_) (fun h => absurd rfl h)
  refine W.widen (k := 206 + 6 * i) (n := 2040 + 40 * i) (by omega) (by omega) ?_
  exact k849 S1 H locs ls hLS1 hw (lv_sub hl [4, 5, 6, 7, 8, 9, 10, 11] rfl)

set_option maxHeartbeats 4000000 in
set_option maxRecDepth 100000 in
theorem law_c3 {p : Program} {l : Launch} {e : Env} {R : Room} {s : State} {m : MethodId} {args : Array Value} {below : List Frame} {meth : Method} {c : Code} {Q : State → Prop} {D : va_G} {cI cG cJ cO : ClassId} {K0 : Nat → Nat} {A : Nat → Prop} {L : List (Nat × Nat)} {ad : Nat → Nat → Nat} (F : CallFix p m c cL_law 17 s args BIG RL) (hK : va_K D vwCl (ktys cI cG cJ cO) s) (hO : OW A K0 s) (hL : ∀ f o, cid f o = true → (f, o) ∈ L) (hA : ∀ q, s.heap.size ≤ q → A q) (hst : l.stackTraces = false) (hfr : 8 ≤ R.frames) (hlo : 180 ≤ R.locals) (hRc : 2000 ≤ R.cells) (hRs : 20000 ≤ R.slots) (h1 : K0 1 < 2 ^ 31) (m90 : (90, 0) ∈ L) (m91 : (91, 0) ∈ L) (m92 : (92, 0) ∈ L) {ns nr : Nat} (hns4 : 4 ≤ ns) (hns : ns ≤ 10) (hnr : nr ≤ 6) {kd nd : Nat → Int32} {st : Nat → Int32} {ce : Nat → Nat → va_E} (h90 : ce 90 0 = .inl (cI, ns, .inl kd)) (h91 : ce 91 0 = .inl (cI, ns, .inl nd)) (h92 : ce 92 0 = .inl (cI, nr, .inl st)) {i t J : Nat} (hi : i < 50) {Z : STT} (hLS : LSt kd nd st ns nr i Z) (hJ : Z 0 0 0 = nI J) (ht : Z 0 0 1 = nI t) (hJ8 : J ≤ 8) (htI : t ≤ i) {x : Int32} (k849 : ∀ (S : STT) (H : Heap) (locs : List Loc) (ls : Array Slot), LSt kd nd st ns nr (i + 1) S → wk D A L ad (cK cI cJ ad ce S) s.heap H locs → lv_has ls 17 [(7, .int (nI i)), (6, .ref (ad 92 0)), (5, .int (nI nr)), (4, .ref (ad 91 0)), (3, .ref (ad 90 0)), (2, .int (nI ns)), (1, .ref (ad 0 0)), (0, .ref (K0 0))] → W p l e R s m args below meth c H locs (206 + 6 * i) (2040 + 40 * i) Q (F0 m 849 ls [])) {H : Heap} {locs : List Loc} {ls : Array Slot} (hw : wk D A L ad (cK cI cJ ad ce Z) s.heap H locs) (hl : lv_has ls 17 [(10, .int (nI J)), (9, .int (nI t)), (8, .int x), (7, .int (nI i)), (6, .ref (ad 92 0)), (5, .int (nI nr)), (4, .ref (ad 91 0)), (3, .ref (ad 90 0)), (2, .int (nI ns)), (1, .ref (ad 0 0)), (0, .ref (K0 0))]) : W p l e R s m args below meth c H locs (200 + 6 * i) (2000 + 40 * i) Q (F0 m 555 ls []) := by
  obtain ⟨hx, hb, hml, hown, hts⟩ := F
  obtain ⟨r, M, g1, hZ, hN, g4, g5, g6, g7, g8, g9⟩ := id hLS
  have hS := hZ
  have v := hZ.c.self.iv
  have hc : 200 + 6 * i ≤ R.cells ∧ 2000 + 40 * i ≤ R.slots := ⟨by omega, by omega⟩
  have eJ : (Z 0 0 0).toNatClampNeg = J := by rw [hJ, q_cl (by omega)]
  have et : (Z 0 0 1).toInt = t := by rw [ht, nI_toInt (by omega)]
  refine lv_aload_n hx hb dL_law_555 rfl (lv_at hl 9 rfl) ?_
  refine lv_iconst (v := 2) hx hb dL_law_556 (by decide) ?_
  refine r_many ⟨hx, hb, hml, hown, hts⟩ hK hO hL hA hw hZ hS (w := 2) (by decide) (v := nI (Z 2 0 0).toNatClampNeg) (w_m2.trans (cn_eq v.ci.2.2.1.1)) (cwV 1 hts (gB_V w_ml_L_33 w_im_X5_many w_se_X5_many w_in_X5 w_co_X5_many) rfl rfl rfl (by decide +kernel) ⟨Nat.le_trans (Nat.le_of_ble_eq_true rfl) hfr, Nat.le_trans (Nat.le_of_ble_eq_true rfl) hlo⟩) hl.1 (Nat.le_of_ble_eq_true rfl) hc dL_law_557 (fun H locs hw => ?_)
  refine lv_bipush (v := 20) hx hb dL_law_560 (by decide) ?_
  refine lv_icmp_ge (tgt := 849) hx hb dL_law_562 (by decide) (fun c_1 => ?_) (fun c_1 => ?_)
  · refine W.widen (k := 206 + 6 * i) (n := 2040 + 40 * i) (by omega) (by omega) ?_
    exact k849 Z H locs ls (hLS.stay (Nat.le_succ i) hZ (by omega) hZ hN) hw (lv_sub hl [3, 4, 5, 6, 7, 8, 9, 10] rfl)
  · refine lv_aload_n hx hb dL_law_565 rfl (lv_at hl 9 rfl) ?_
    refine lv_iload hx hb dL_law_566 (lv_at hl 2 rfl) ?_
    refine lv_iconst (v := 2) hx hb dL_law_568 (by decide) ?_
    refine lv_ishr hx hb dL_law_569 ?_
    refine lv_iconst (v := 2) hx hb dL_law_570 (by decide) ?_
    refine k_ci0 hw (k_rS (As := [.int (x >>> (2 &&& 31)), .int (nI 2)]) (rest := [.ref (ad 0 0)]) ⟨hx, hb, hml, hown, hts⟩ hK hO hw (ct_L_below (x >>> (2 &&& 31)) (n := 2) (by omega) (by omega) _ (wk.hA hw hA)) (va_cwS 2 hts (gB_S w_ml_L_18 w_st_L_below w_in_L w_co_L_below) rfl rfl rfl (by decide +kernel) ⟨Nat.le_trans (Nat.le_of_ble_eq_true rfl) hfr, Nat.le_trans (Nat.le_of_ble_eq_true rfl) hlo⟩) rfl hl.1 rfl (Nat.le_of_ble_eq_true rfl) dL_law_571 hc) (fun H locs hw => ?_)
    obtain ⟨q, hq, eq⟩ : ∃ q : Nat, q < 2 ∧ q = bl (x >>> (2 &&& 31)) 2 := ⟨_, bl_lt (by omega), rfl⟩
    rw [← eq]
    refine lv_iconst (v := 1) hx hb dL_law_574 (by decide) ?_
    refine lv_iload hx hb dL_law_575 (lv_at hl 2 rfl) ?_
    refine lv_iconst (v := 3) hx hb dL_law_577 (by decide) ?_
    refine lv_ishr hx hb dL_law_578 ?_
    refine lv_iconst (v := 3) hx hb dL_law_579 (by decide) ?_
    refine k_ci0 hw (k_rS (As := [.int (x >>> (3 &&& 31)), .int (nI 3)]) (rest := [.int 1, .int (nI q), .ref (ad 0 0)]) ⟨hx, hb, hml, hown, hts⟩ hK hO hw (ct_L_below (x >>> (3 &&& 31)) (n := 3) (by omega) (by omega) _ (wk.hA hw hA)) (va_cwS 2 hts (gB_S w_ml_L_18 w_st_L_below w_in_L w_co_L_below) rfl rfl rfl (by decide +kernel) ⟨Nat.le_trans (Nat.le_of_ble_eq_true rfl) hfr, Nat.le_trans (Nat.le_of_ble_eq_true rfl) hlo⟩) rfl hl.1 rfl (Nat.le_of_ble_eq_true rfl) dL_law_580 hc) (fun H locs hw => ?_)
    obtain ⟨p3, hp3, ep3⟩ : ∃ q : Nat, q < 3 ∧ q = bl (x >>> (3 &&& 31)) 3 := ⟨_, bl_lt (by omega), rfl⟩
    rw [← ep3]
    refine lv_iadd hx hb dL_law_583 ?_
    rw [show (1 + (nI p3) : Int32) = nI (1 + p3) from nI_add 1 p3]
    refine lv_iload hx hb dL_law_584 (lv_at hl 1 rfl) ?_
    refine lv_iconst (v := 1) hx hb dL_law_586 (by decide) ?_
    refine lv_iadd hx hb dL_law_587 ?_
    rw [show ((nI t) + 1 : Int32) = nI (t + 1) from nI_add t 1]
    refine lv_iload hx hb dL_law_588 (lv_at hl 2 rfl) ?_
    refine lv_iconst (v := 4) hx hb dL_law_590 (by decide) ?_
    refine lv_ishr hx hb dL_law_591 ?_
    refine lv_bipush (v := 6) hx hb dL_law_592 (by decide) ?_
    refine k_ci0 hw (k_rS (As := [.int (x >>> (4 &&& 31)), .int (nI 6)]) (rest := [.int (nI (t + 1)), .int (nI (1 + p3)), .int (nI q), .ref (ad 0 0)]) ⟨hx, hb, hml, hown, hts⟩ hK hO hw (ct_L_below (x >>> (4 &&& 31)) (n := 6) (by omega) (by omega) _ (wk.hA hw hA)) (va_cwS 2 hts (gB_S w_ml_L_18 w_st_L_below w_in_L w_co_L_below) rfl rfl rfl (by decide +kernel) ⟨Nat.le_trans (Nat.le_of_ble_eq_true rfl) hfr, Nat.le_trans (Nat.le_of_ble_eq_true rfl) hlo⟩) rfl hl.1 rfl (Nat.le_of_ble_eq_true rfl) dL_law_594 hc) (fun H locs hw => ?_)
    obtain ⟨p6, hp6, ep6⟩ : ∃ q : Nat, q < 6 ∧ q = bl (x >>> (4 &&& 31)) 6 := ⟨_, bl_lt (by omega), rfl⟩
    rw [← ep6]
    refine lv_iadd hx hb dL_law_597 ?_
    rw [show ((nI (t + 1)) + (nI p6) : Int32) = nI ((t + 1) + p6) from nI_add (t + 1) p6]
    have hE : (Z 2 0 0).toNatClampNeg < 20 := Nat.lt_of_not_le (fun z => c_1 (nI_le (a := 20) z (by have := v.o20; omega)))
    obtain ⟨e0, e1, ⟨M1, e2⟩, e3, e4, e5⟩ := n_order (r := r) (by omega) hZ hN (q := q) (by omega) (p2 := nI (1 + p3)) (p3 := nI ((t + 1) + p6)) (within_n (a := 1) (b := 20) (by omega) (by omega) (by decide)) (ahead_n (by rw [et]; omega) (by omega)) hE
    refine x_ci hw (x_rV (As := [.int (nI q), .int (nI (1 + p3)), .int (nI ((t + 1) + p6))]) (rest := []) ⟨hx, hb, hml, hown, hts⟩ hK hO hw (ct_X5_order hL Z (RLn.ci hS).1 (nI q) (nI (1 + p3)) (nI ((t + 1) + p6)) hst _ (wk.hA hw hA)) (cwV 3 hts (gB_V w_ml_L_49 w_im_X5_order w_se_X5_order w_in_X5 w_co_X5_order) rfl rfl rfl (by decide +kernel) ⟨Nat.le_trans (Nat.le_of_ble_eq_true rfl) hfr, Nat.le_trans (Nat.le_of_ble_eq_true rfl) hlo⟩) (hL 0 0 rfl) cke_0 rfl rfl hl.1 rfl (Nat.le_of_ble_eq_true rfl) dL_law_598 ⟨by omega, by omega⟩) (fun E cx q9 H locs hx9 hw hcx hvx hclx => absurd e0 hx9.ne) (fun H locs hc0 hw => ?_)
    rw [e1]
    generalize (sp_X5_order Z (nI q) (nI (1 + p3)) (nI ((t + 1) + p6))).2.2 = S1 at e2 e3 e4 e5 hw ⊢
    have hLS1 := hLS.next g1 e2 e3 e4 (by rw [e5]; omega)
    have hc : 200 + 6 * i + 2 ≤ R.cells ∧ 2000 + 40 * i + 12 ≤ R.slots := ⟨by omega, by omega⟩
    have hZ := e2
    have hS := e2
    refine lv_aload_n hx hb dL_law_601 rfl (lv_at hl 9 rfl) ?_
    refine lv_iconst (v := 2) hx hb dL_law_602 (by decide) ?_
    refine r_many ⟨hx, hb, hml, hown, hts⟩ hK hO hL hA hw hZ hS (w := 2) (by decide) (v := S1 2 0 0) w_m2 (cwV 1 hts (gB_V w_ml_L_33 w_im_X5_many w_se_X5_many w_in_X5 w_co_X5_many) rfl rfl rfl (by decide +kernel) ⟨Nat.le_trans (Nat.le_of_ble_eq_true rfl) hfr, Nat.le_trans (Nat.le_of_ble_eq_true rfl) hlo⟩) hl.1 (Nat.le_of_ble_eq_true rfl) hc dL_law_603 (fun H locs hw => ?_)
    refine lv_iconst (v := 1) hx hb dL_law_606 (by decide) ?_
    refine lv_isub hx hb dL_law_607 ?_
    refine lv_icmp_eq (tgt := 849) hx hb dL_law_608 (by decide) (fun _ => ?_) (fun h => absurd rfl h)
    refine W.widen (k := 206 + 6 * i) (n := 2040 + 40 * i) (by omega) (by omega) ?_
    exact k849 S1 H locs ls hLS1 hw (lv_sub hl [3, 4, 5, 6, 7, 8, 9, 10] rfl)

set_option maxHeartbeats 4000000 in
set_option maxRecDepth 100000 in
theorem law_c4 {p : Program} {l : Launch} {e : Env} {R : Room} {s : State} {m : MethodId} {args : Array Value} {below : List Frame} {meth : Method} {c : Code} {Q : State → Prop} {D : va_G} {cI cG cJ cO : ClassId} {K0 : Nat → Nat} {A : Nat → Prop} {L : List (Nat × Nat)} {ad : Nat → Nat → Nat} (F : CallFix p m c cL_law 17 s args BIG RL) (hK : va_K D vwCl (ktys cI cG cJ cO) s) (hO : OW A K0 s) (hL : ∀ f o, cid f o = true → (f, o) ∈ L) (hA : ∀ q, s.heap.size ≤ q → A q) (hst : l.stackTraces = false) (hfr : 8 ≤ R.frames) (hlo : 180 ≤ R.locals) (hRc : 2000 ≤ R.cells) (hRs : 20000 ≤ R.slots) (h1 : K0 1 < 2 ^ 31) (m90 : (90, 0) ∈ L) (m91 : (91, 0) ∈ L) (m92 : (92, 0) ∈ L) {ns nr : Nat} (hns4 : 4 ≤ ns) (hns : ns ≤ 10) (hnr : nr ≤ 6) {kd nd : Nat → Int32} {st : Nat → Int32} {ce : Nat → Nat → va_E} (h90 : ce 90 0 = .inl (cI, ns, .inl kd)) (h91 : ce 91 0 = .inl (cI, ns, .inl nd)) (h92 : ce 92 0 = .inl (cI, nr, .inl st)) {i t J : Nat} (hi : i < 50) {Z : STT} (hLS : LSt kd nd st ns nr i Z) (hJ : Z 0 0 0 = nI J) (ht : Z 0 0 1 = nI t) (hJ8 : J ≤ 8) (htI : t ≤ i) {x : Int32} (k849 : ∀ (S : STT) (H : Heap) (locs : List Loc) (ls : Array Slot), LSt kd nd st ns nr (i + 1) S → wk D A L ad (cK cI cJ ad ce S) s.heap H locs → lv_has ls 17 [(7, .int (nI i)), (6, .ref (ad 92 0)), (5, .int (nI nr)), (4, .ref (ad 91 0)), (3, .ref (ad 90 0)), (2, .int (nI ns)), (1, .ref (ad 0 0)), (0, .ref (K0 0))] → W p l e R s m args below meth c H locs (206 + 6 * i) (2040 + 40 * i) Q (F0 m 849 ls [])) {H : Heap} {locs : List Loc} {ls : Array Slot} (hw : wk D A L ad (cK cI cJ ad ce Z) s.heap H locs) (hl : lv_has ls 17 [(10, .int (nI J)), (9, .int (nI t)), (8, .int x), (7, .int (nI i)), (6, .ref (ad 92 0)), (5, .int (nI nr)), (4, .ref (ad 91 0)), (3, .ref (ad 90 0)), (2, .int (nI ns)), (1, .ref (ad 0 0)), (0, .ref (K0 0))]) : W p l e R s m args below meth c H locs (200 + 6 * i) (2000 + 40 * i) Q (F0 m 613 ls []) := by
  obtain ⟨hx, hb, hml, hown, hts⟩ := F
  obtain ⟨r, M, g1, hZ, hN, g4, g5, g6, g7, g8, g9⟩ := id hLS
  have hS := hZ
  have v := hZ.c.self.iv
  have hc : 200 + 6 * i ≤ R.cells ∧ 2000 + 40 * i ≤ R.slots := ⟨by omega, by omega⟩
  have eJ : (Z 0 0 0).toNatClampNeg = J := by rw [hJ, q_cl (by omega)]
  have et : (Z 0 0 1).toInt = t := by rw [ht, nI_toInt (by omega)]
  refine lv_iload hx hb dL_law_613 (lv_at hl 0 rfl) ?_
  refine lv_if_ne (tgt := 622) hx hb dL_law_615 (by decide) (fun c_1 => ?_) (fun c_1 => ?_)
  · refine lv_iload hx hb dL_law_622 (lv_at hl 2 rfl) ?_
    refine lv_iconst (v := 2) hx hb dL_law_624 (by decide) ?_
    refine lv_ishr hx hb dL_law_625 ?_
    refine lv_iload hx hb dL_law_626 (lv_at hl 0 rfl) ?_
    refine k_ci0 hw (k_rS (As := [.int (x >>> (2 &&& 31)), .int (nI J)]) (rest := []) ⟨hx, hb, hml, hown, hts⟩ hK hO hw (ct_L_below (x >>> (2 &&& 31)) (n := J) (Nat.pos_of_ne_zero (fun z => c_1 (by rw [z]; rfl))) (by omega) _ (wk.hA hw hA)) (va_cwS 2 hts (gB_S w_ml_L_18 w_st_L_below w_in_L w_co_L_below) rfl rfl rfl (by decide +kernel) ⟨Nat.le_trans (Nat.le_of_ble_eq_true rfl) hfr, Nat.le_trans (Nat.le_of_ble_eq_true rfl) hlo⟩) rfl hl.1 rfl (Nat.le_of_ble_eq_true rfl) dL_law_628 hc) (fun H locs hw => ?_)
    obtain ⟨j, hj, ej⟩ : ∃ q : Nat, q < J ∧ q = bl (x >>> (2 &&& 31)) J := ⟨_, bl_lt (Nat.pos_of_ne_zero (fun z => c_1 (by rw [z]; rfl))), rfl⟩
    rw [← ej]
    refine lv_istore (lv' := [(13, .int (nI j)), (10, .int (nI J)), (9, .int (nI t)), (8, .int x), (7, .int (nI i)), (6, .ref (ad 92 0)), (5, .int (nI nr)), (4, .ref (ad 91 0)), (3, .ref (ad 90 0)), (2, .int (nI ns)), (1, .ref (ad 0 0)), (0, .ref (K0 0))]) hx hb dL_law_631 hl (by decide) rfl (fun ls hl => ?_)
    refine lv_iload hx hb dL_law_633 (lv_at hl 0 rfl) ?_
    refine lv_if_lt (tgt := 849) hx hb dL_law_635 (by decide) (fun h => absurd h (q_ge (by omega))) (fun _ => ?_)
    refine lv_iload hx hb dL_law_638 (lv_at hl 3 rfl) ?_
    refine lv_iconst (v := 5) hx hb dL_law_640 (by decide) ?_
    refine lv_ishr hx hb dL_law_641 ?_
    refine lv_iconst (v := 3) hx hb dL_law_642 (by decide) ?_
    refine k_ci0 hw (k_rS (As := [.int (x >>> (5 &&& 31)), .int (nI 3)]) (rest := []) ⟨hx, hb, hml, hown, hts⟩ hK hO hw (ct_L_below (x >>> (5 &&& 31)) (n := 3) (by omega) (by omega) _ (wk.hA hw hA)) (va_cwS 2 hts (gB_S w_ml_L_18 w_st_L_below w_in_L w_co_L_below) rfl rfl rfl (by decide +kernel) ⟨Nat.le_trans (Nat.le_of_ble_eq_true rfl) hfr, Nat.le_trans (Nat.le_of_ble_eq_true rfl) hlo⟩) rfl hl.1 rfl (Nat.le_of_ble_eq_true rfl) dL_law_643 hc) (fun H locs hw => ?_)
    obtain ⟨b3, hb3, eb3⟩ : ∃ q : Nat, q < 3 ∧ q = bl (x >>> (5 &&& 31)) 3 := ⟨_, bl_lt (by omega), rfl⟩
    rw [← eb3]
    refine lv_if_gt (tgt := 849) hx hb dL_law_646 (by decide) (fun c_2 => ?_) (fun c_2 => ?_)
    · refine W.widen (k := 206 + 6 * i) (n := 2040 + 40 * i) (by omega) (by omega) ?_
      exact k849 Z H locs ls (hLS.stay (Nat.le_succ i) hZ (by omega) hZ hN) hw (lv_sub hl [4, 5, 6, 7, 8, 9, 10, 11] rfl)
    · refine lv_aload_n hx hb dL_law_649 rfl (lv_at hl 10 rfl) ?_
      refine lv_iload hx hb dL_law_650 (lv_at hl 0 rfl) ?_
      refine lv_iconst (v := 5) hx hb dL_law_652 (by decide) ?_
      by_cases hl6 : Z 6 j 2 = 0
      · refine r_joiner ⟨hx, hb, hml, hown, hts⟩ hK hO hL hA hw hZ hS (j := j) (w := 5) (by rw [eJ]; exact hj) (by decide) (v := 0) (w_j5.trans (if_pos hl6)) (cwV 2 hts (gB_V w_ml_L_52 w_im_X5_ofJoiner w_se_X5_ofJoiner w_in_X5 w_co_X5_ofJoiner) rfl rfl rfl (by decide +kernel) ⟨Nat.le_trans (Nat.le_of_ble_eq_true rfl) hfr, Nat.le_trans (Nat.le_of_ble_eq_true rfl) hlo⟩) hl.1 (Nat.le_of_ble_eq_true rfl) hc dL_law_653 (fun S H locs hS hw => ?_)
        refine lv_iconst (v := 1) hx hb dL_law_656 (by decide) ?_
        refine lv_icmp_ne (tgt := 663) hx hb dL_law_657 (by decide) (fun _ => ?_) (fun h => absurd h (by decide))
        refine lv_aload_n hx hb dL_law_663 rfl (lv_at hl 10 rfl) ?_
        refine lv_iload hx hb dL_law_664 (lv_at hl 0 rfl) ?_
        refine lv_iconst (v := 2) hx hb dL_law_666 (by decide) ?_
        refine r_joiner ⟨hx, hb, hml, hown, hts⟩ hK hO hL hA hw hZ hS (j := j) (w := 2) (by rw [eJ]; exact hj) (by decide) (v := sp_X1_countIn Z j 2) w_j2 (cwV 2 hts (gB_V w_ml_L_52 w_im_X5_ofJoiner w_se_X5_ofJoiner w_in_X5 w_co_X5_ofJoiner) rfl rfl rfl (by decide +kernel) ⟨Nat.le_trans (Nat.le_of_ble_eq_true rfl) hfr, Nat.le_trans (Nat.le_of_ble_eq_true rfl) hlo⟩) hl.1 (Nat.le_of_ble_eq_true rfl) hc dL_law_667 (fun S H locs hS hw => ?_)
        refine lv_aload_n hx hb dL_law_670 rfl (lv_at hl 10 rfl) ?_
        refine lv_iload hx hb dL_law_671 (lv_at hl 0 rfl) ?_
        refine lv_iconst (v := 3) hx hb dL_law_673 (by decide) ?_
        refine r_joiner ⟨hx, hb, hml, hown, hts⟩ hK hO hL hA hw hZ hS (j := j) (w := 3) (by rw [eJ]; exact hj) (by decide) (v := sp_X1_countIn Z j 1) w_j3 (cwV 2 hts (gB_V w_ml_L_52 w_im_X5_ofJoiner w_se_X5_ofJoiner w_in_X5 w_co_X5_ofJoiner) rfl rfl rfl (by decide +kernel) ⟨Nat.le_trans (Nat.le_of_ble_eq_true rfl) hfr, Nat.le_trans (Nat.le_of_ble_eq_true rfl) hlo⟩) hl.1 (Nat.le_of_ble_eq_true rfl) hc dL_law_674 (fun S H locs hS hw => ?_)
        refine lv_iadd hx hb dL_law_677 ?_
        refine lv_istore (lv' := [(14, .int ((sp_X1_countIn Z j 2) + (sp_X1_countIn Z j 1))), (13, .int (nI j)), (10, .int (nI J)), (9, .int (nI t)), (8, .int x), (7, .int (nI i)), (6, .ref (ad 92 0)), (5, .int (nI nr)), (4, .ref (ad 91 0)), (3, .ref (ad 90 0)), (2, .int (nI ns)), (1, .ref (ad 0 0)), (0, .ref (K0 0))]) hx hb dL_law_678 hl (by decide) rfl (fun ls hl => ?_)
        refine lv_aload_n hx hb dL_law_680 rfl (lv_at hl 11 rfl) ?_
        refine lv_iload hx hb dL_law_681 (lv_at hl 1 rfl) ?_
        have es0 : S 0 = Z 0 := by rw [hS.c.rw.r0, hZ.c.rw.r0]
        have es6 : S 6 = Z 6 := by rw [hS.c.rw.r6, hZ.c.rw.r6]
        have es24 : S 24 = Z 24 := by rw [hS.c.rw.r24, hZ.c.rw.r24]
        have hLSs := hLS.stay (Nat.le_refl i) hZ g1 hS hN
        obtain ⟨e0, e1, ⟨M1, e2⟩, e3, e4, e5, e6⟩ := n_leave (r := r) (by omega) hS (NI.ask hZ hS hN) (q := j) (by rw [es0, eJ]; exact hj) (by rw [es6]; exact hl6)
        have e1 := e1.trans (show _ = sp_X1_countIn Z j 2 + sp_X1_countIn Z j 1 by rw [countIn_cong (S := S) (T := Z) (by rw [es6]) (by rw [es24]), countIn_cong (S := S) (T := Z) (by rw [es6]) (by rw [es24]), add_swap])
        refine x_ci hw (x_rV (As := [.int (nI j)]) (rest := []) ⟨hx, hb, hml, hown, hts⟩ hK hO hw (ct_X5_leave hL S (RLn.ci hS).1 (nI j) hst _ (wk.hA hw hA)) (cwV 1 hts (gB_V w_ml_L_55 w_im_X5_leave w_se_X5_leave w_in_X5 w_co_X5_leave) rfl rfl rfl (by decide +kernel) ⟨Nat.le_trans (Nat.le_of_ble_eq_true rfl) hfr, Nat.le_trans (Nat.le_of_ble_eq_true rfl) hlo⟩) (hL 0 0 rfl) cke_0 rfl rfl hl.1 rfl (Nat.le_of_ble_eq_true rfl) dL_law_683 ⟨by omega, by omega⟩) (fun E cx q9 H locs hx9 hw hcx hvx hclx => absurd e0 hx9.ne) (fun H locs hc0 hw => ?_)
        rw [e1]
        generalize (sp_X5_leave S (nI j)).2.2 = S1 at e2 e3 e4 e5 e6 hw
        have hLS1 := hLSs.next g1 e2 e3 e4 (by rw [e5]; omega)
        have hc : 200 + 6 * i + 2 ≤ R.cells ∧ 2000 + 40 * i + 12 ≤ R.slots := ⟨by omega, by omega⟩
        have hj1 : j < (S1 0 0 0).toNatClampNeg := by rw [e5, es0, eJ]; exact hj
        have hZ := e2
        have hS := e2
        refine lv_iload hx hb dL_law_686 (lv_at hl 0 rfl) ?_
        refine lv_icmp_ne (tgt := 713) hx hb dL_law_688 (by decide) (fun h => absurd rfl h) (fun _ => ?_)
        refine lv_aload_n hx hb dL_law_691 rfl (lv_at hl 11 rfl) ?_
        refine lv_iload hx hb dL_law_692 (lv_at hl 1 rfl) ?_
        refine lv_bipush (v := 6) hx hb dL_law_694 (by decide) ?_
        refine r_joiner ⟨hx, hb, hml, hown, hts⟩ hK hO hL hA hw hZ hS (j := j) (w := 6) hj1 (by decide) (v := (-1)) (w_j6.trans (left_end e2 hj1 (by rw [e6]; decide))) (cwV 2 hts (gB_V w_ml_L_52 w_im_X5_ofJoiner w_se_X5_ofJoiner w_in_X5 w_co_X5_ofJoiner) rfl rfl rfl (by decide +kernel) ⟨Nat.le_trans (Nat.le_of_ble_eq_true rfl) hfr, Nat.le_trans (Nat.le_of_ble_eq_true rfl) hlo⟩) hl.1 (Nat.le_of_ble_eq_true rfl) hc dL_law_696 (fun S H locs hS hw => ?_)
        refine lv_iconst (v := (-1)) hx hb dL_law_699 (by decide) ?_
        refine lv_icmp_ne (tgt := 713) hx hb dL_law_700 (by decide) (fun h => absurd (by decide) h) (fun _ => ?_)
        refine lv_aload_n hx hb dL_law_703 rfl (lv_at hl 11 rfl) ?_
        refine lv_iload hx hb dL_law_704 (lv_at hl 1 rfl) ?_
        have et0 : S 0 = S1 0 := by rw [hS.c.rw.r0, hZ.c.rw.r0]
        have et6 : S 6 = S1 6 := by rw [hS.c.rw.r6, hZ.c.rw.r6]
        obtain ⟨e0, e1⟩ := n_next hS.c.self.iv (q := j) (by rw [et0]; exact hj1) (by rw [et6, e6]; decide)
        refine x_ci hw (x_rV (As := [.int (nI j)]) (rest := []) ⟨hx, hb, hml, hown, hts⟩ hK hO hw (ct_X5_next hL S (RLn.ci hS).1 (nI j) hst _ (wk.hA hw hA)) (cwV 1 hts (gB_V w_ml_L_58 w_im_X5_next w_se_X5_next w_in_X5 w_co_X5_next) rfl rfl rfl (by decide +kernel) ⟨Nat.le_trans (Nat.le_of_ble_eq_true rfl) hfr, Nat.le_trans (Nat.le_of_ble_eq_true rfl) hlo⟩) (hL 0 0 rfl) cke_0 rfl rfl hl.1 rfl (Nat.le_of_ble_eq_true rfl) dL_law_706 ⟨by omega, by omega⟩) (fun E cx q9 H locs hx9 hw hcx hvx hclx => absurd e0 hx9.ne) (fun H locs hc0 hw => ?_)
        rw [e1]
        have hc : 200 + 6 * i + 4 ≤ R.cells ∧ 2000 + 40 * i + 24 ≤ R.slots := ⟨by omega, by omega⟩
        refine lv_iconst (v := (-1)) hx hb dL_law_709 (by decide) ?_
        refine lv_icmp_eq (tgt := 849) hx hb dL_law_710 (by decide) (fun _ => ?_) (fun h => absurd (by decide) h)
        refine W.widen (k := 206 + 6 * i) (n := 2040 + 40 * i) (by omega) (by omega) ?_
        exact k849 S H locs ls (hLS1.stay (Nat.le_refl _) e2 (by omega) hS e3) hw (lv_sub hl [5, 6, 7, 8, 9, 10, 11, 12] rfl)
      · refine r_joiner ⟨hx, hb, hml, hown, hts⟩ hK hO hL hA hw hZ hS (j := j) (w := 5) (by rw [eJ]; exact hj) (by decide) (v := 1) (w_j5.trans (if_neg hl6)) (cwV 2 hts (gB_V w_ml_L_52 w_im_X5_ofJoiner w_se_X5_ofJoiner w_in_X5 w_co_X5_ofJoiner) rfl rfl rfl (by decide +kernel) ⟨Nat.le_trans (Nat.le_of_ble_eq_true rfl) hfr, Nat.le_trans (Nat.le_of_ble_eq_true rfl) hlo⟩) hl.1 (Nat.le_of_ble_eq_true rfl) hc dL_law_653 (fun S H locs hS hw => ?_)
        refine lv_iconst (v := 1) hx hb dL_law_656 (by decide) ?_
        refine lv_icmp_ne (tgt := 663) hx hb dL_law_657 (by decide) (fun h => absurd (by decide) h) (fun _ => ?_)
        refine lv_goto (tgt := 849) hx hb dL_law_660 (by decide) ?_
        refine W.widen (k := 206 + 6 * i) (n := 2040 + 40 * i) (by omega) (by omega) ?_
        exact k849 S H locs ls (hLS.stay (Nat.le_succ i) hZ (by omega) hS hN) hw (lv_sub hl [4, 5, 6, 7, 8, 9, 10, 11] rfl)
  · refine lv_iconst (v := (-1)) hx hb dL_law_618 (by decide) ?_
    refine lv_goto (tgt := 631) hx hb dL_law_619 (by decide) ?_
    refine lv_istore (lv' := [(13, .int (-1)), (10, .int (nI J)), (9, .int (nI t)), (8, .int x), (7, .int (nI i)), (6, .ref (ad 92 0)), (5, .int (nI nr)), (4, .ref (ad 91 0)), (3, .ref (ad 90 0)), (2, .int (nI ns)), (1, .ref (ad 0 0)), (0, .ref (K0 0))]) hx hb dL_law_631 hl (by decide) rfl (fun ls hl => ?_)
    refine lv_iload hx hb dL_law_633 (lv_at hl 0 rfl) ?_
    refine lv_if_lt (tgt := 849) hx hb dL_law_635 (by decide) (fun _ => ?_) (fun h => absurd (by decide) h)
    refine W.widen (k := 206 + 6 * i) (n := 2040 + 40 * i) (by omega) (by omega) ?_
    exact k849 Z H locs ls (hLS.stay (Nat.le_succ i) hZ (by omega) hZ hN) hw (lv_sub hl [4, 5, 6, 7, 8, 9, 10, 11] rfl)

end P24O
