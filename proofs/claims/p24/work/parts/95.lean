section PLAINQ
theorem s_none : st_none RLn := fun _ _ _ _ h => h.next
theorem IV.r16 {M : STT} {q : Nat} {x : Int32} (h : IV M) : IV (up3 M 16 0 q x) :=
  ⟨h.ci, h.t0, h.t1, h.ln, h.nd, h.fm, h.kt, h.rl, h.rt, h.sk, h.oi, h.om, h.js, h.bk, h.ss, h.bg⟩
theorem within_out {p b : Int32} {n : Nat} (o : p.toInt < 0 ∨ (n : Int) ≤ p.toInt) (hb : b.toInt = (n : Int) - 1) : sp_X5_isWithin p 0 b = 0 := by
  rw [← isFrom_within]; exact from_out o hb
theorem within_q {q n : Nat} {b : Int32} (hn : n < 2 ^ 20) (h : q < n) (hb : b.toInt = (n : Int) - 1) : ¬ sp_X5_isWithin (nI q) 0 b = 0 := by
  rw [← isFrom_within, from_q hn h hb]; decide
theorem fore {r : Nat} {S M : STT} (h : RLn r S M) {q : Nat} (hq : q < (M 0 0 0).toNatClampNeg) : FF (sp_X0_foresee S q (M 0 0 1) (-1) 0) M q ∧ RLn r (sp_X0_foresee S q (M 0 0 1) (-1) 0) M := by
  obtain ⟨a, b⟩ := foresee_eq h.1.iv hq h.1.rw.x (h.1.bq q hq) (OD.of h.1.rw h.2.1)
  exact ⟨b, h.left (fun f hf => a f (rr_ne hf).1 (rr_ne hf).2.2.1 (rr_ne hf).2.2.2.1 (rr_ne hf).2.2.2.2.1) (a 27 (by decide) (by decide) (by decide) (by decide)) (a 20 (by decide) (by decide) (by decide) (by decide))⟩
theorem s_ofSession : st_ofSession RLn := by
  intro r S M hr h p1 p2
  have hN := h.th (v := 0)
  have R := h.1.rw
  have hv := h.1.iv
  have he := hv.e20
  have hc := cnt_i hv.ci.2.2.2.1.1
  rcases in_or p1 (M 3 0 0).toNatClampNeg with o | ⟨q, hq, rfl⟩
  · refine out_bad2 h 1 1 ?_ ?_ rfl (by decide)
    · unfold sp_X5_ofSession; exact ite_out o (by rw [R.r3]; exact hc) _ _
    · unfold sp_X10_ofSession; rw [from_out o (by rw [dec_i hv.ci.2.2.2.1.1, hc]), if_pos rfl]; exact bind_no (start_no M) rfl
  have s : sp_X10_start M (if sp_X10_isFrom (nI q) 0 (M 3 0 0 - 1) = 0 then 1 else 0) 1 = some (0, up3 M 40 0 0 0) := by
    rw [from_q (by omega) hq (by rw [dec_i hv.ci.2.2.2.1.1, hc]), if_neg (by decide)]; exact start_ok M
  have x : ∀ {A B : Nat × Int32}, (if nI q < 0 then A else (if nI q < S 3 0 0 then B else A)) = B := fun {A B} => ite_in hq (by omega) (by rw [R.r3]; exact hc) A B
  rcases in_or p2 4 with o | ⟨w, hw, rfl⟩
  · have wo := within_out (n := 4) o (b := 3) rfl
    refine out_bad2 h 2 2 ?_ ?_ rfl (by decide)
    · unfold sp_X5_ofSession; rw [x, if_pos wo]
    · unfold sp_X10_ofSession
      refine bind_ok s ?_
      rw [isFrom_within, if_pos wo]; exact bind_no (ref_no M (by decide)) rfl
  · have wq := within_q (n := 4) (by decide) hw (b := 3) rfl
    refine out_ok2 h (a := sp_X5_ofSession_n S (nI q) (nI w)) ?_ ?_ rfl
    · unfold sp_X5_ofSession sp_X5_ofSession_n
      rw [x, if_neg wq]
      by_cases a0 : nI w = 0
      · rw [if_pos a0, if_pos a0]
      · rw [if_neg a0, if_neg a0]
        by_cases a1 : nI w = 1
        · rw [if_pos a1, if_pos a1]
        · rw [if_neg a1, if_neg a1]
          by_cases a2 : nI w = 2
          · rw [if_pos a2, if_pos a2]
          · rw [if_neg a2, if_neg a2]
    · unfold sp_X10_ofSession
      refine bind_ok s ?_
      rw [isFrom_within, if_neg wq]
      refine bind_ok (ref_ok M (by decide)) ?_
      exact is_none (ofSessionNow_eq hN.1.iv hN.1.rw hN.1.t hq hw) rfl
theorem s_ofItem : st_ofItem RLn := by
  intro r S M hr h p1 p2
  have hN := h.th (v := 0)
  have R := h.1.rw
  rcases in_or p1 4 with o | ⟨q, hq, rfl⟩
  · refine out_bad2 h 1 1 ?_ ?_ rfl (by decide)
    · unfold sp_X5_ofItem; exact ite_out (n := 4) o rfl _ _
    · unfold sp_X10_ofItem; rw [noItem_out o]; exact bind_no (start_no M) rfl
  have s : sp_X10_start M (sp_X10_isNoItem (nI q)) 1 = some (0, up3 M 40 0 0 0) := by rw [noItem_q hq]; exact start_ok M
  have x : ∀ {A B : Nat × Int32}, (if nI q < 0 then A else (if nI q < 4 then B else A)) = B := fun {A B} => ite_in (n := 4) hq (by decide) rfl A B
  rcases in_or p2 4 with o | ⟨w, hw, rfl⟩
  · have wo := within_out (n := 4) o (b := 3) rfl
    refine out_bad2 h 2 2 ?_ ?_ rfl (by decide)
    · unfold sp_X5_ofItem; rw [x, if_pos wo]
    · unfold sp_X10_ofItem
      refine bind_ok s ?_
      rw [isFrom_within, if_pos wo]; exact bind_no (ref_no M (by decide)) rfl
  · have wq := within_q (n := 4) (by decide) hw (b := 3) rfl
    refine out_ok2 h (a := sp_X5_ofItem_n S (nI q) (nI w)) ?_ ?_ rfl
    · unfold sp_X5_ofItem sp_X5_ofItem_n
      rw [x, if_neg wq]
      by_cases a0 : nI w = 0
      · rw [if_pos a0, if_pos a0]
      · rw [if_neg a0, if_neg a0]
        by_cases a1 : nI w = 1
        · rw [if_pos a1, if_pos a1]
        · rw [if_neg a1, if_neg a1]
          by_cases a2 : nI w = 2
          · rw [if_pos a2, if_pos a2]
          · rw [if_neg a2, if_neg a2]
    · unfold sp_X10_ofItem
      refine bind_ok s ?_
      rw [isFrom_within, if_neg wq]
      refine bind_ok (ref_ok M (by decide)) ?_
      exact is_none (ofItemNow_eq hN.1.iv hN.1.rw hN.2.1 hq hw) rfl
theorem s_many : st_many RLn := by
  intro r S M hr h p1
  have hN := h.th (v := 0)
  rcases in_or p1 11 with o | ⟨w, hw, rfl⟩
  · have wo := within_out (n := 11) o (b := 10) rfl
    refine out_bad2 h 2 1 ?_ ?_ rfl (by decide)
    · unfold sp_X5_many; rw [if_pos wo]
    · unfold sp_X10_many; rw [isFrom_within, if_pos wo]; exact bind_no (start_no M) rfl
  · have wq := within_q (n := 11) (by decide) hw (b := 10) rfl
    refine out_ok2 h (a := sp_X5_many_n S (nI w)) ?_ ?_ rfl
    · unfold sp_X5_many sp_X5_many_n
      rw [if_neg wq]
      by_cases a0 : nI w = 0
      · rw [if_pos a0, if_pos a0]
      rw [if_neg a0, if_neg a0]
      by_cases a1 : nI w = 1
      · rw [if_pos a1, if_pos a1]
      rw [if_neg a1, if_neg a1]
      by_cases a2 : nI w = 2
      · rw [if_pos a2, if_pos a2]
      rw [if_neg a2, if_neg a2]
      by_cases a3 : nI w = 3
      · rw [if_pos a3, if_pos a3]
      rw [if_neg a3, if_neg a3]
      by_cases a4 : nI w = 4
      · rw [if_pos a4, if_pos a4]
      rw [if_neg a4, if_neg a4]
      by_cases a5 : nI w = 5
      · rw [if_pos a5, if_pos a5]
      rw [if_neg a5, if_neg a5]
      by_cases a6 : nI w = 6
      · rw [if_pos a6, if_pos a6]
      rw [if_neg a6, if_neg a6]
      by_cases a7 : nI w = 7
      · rw [if_pos a7, if_pos a7]
      rw [if_neg a7, if_neg a7]
      by_cases a8 : nI w = 8
      · rw [if_pos a8, if_pos a8]
      rw [if_neg a8, if_neg a8]
      by_cases a9 : nI w = 9
      · rw [if_pos a9, if_pos a9]
      rw [if_neg a9, if_neg a9]
    · unfold sp_X10_many
      rw [isFrom_within, if_neg wq]
      refine bind_ok (start_ok M) ?_
      exact is_none (many_eq hN.1.iv hN.1.rw hN.1.t hw) rfl
theorem noS_out {M : STT} (hv : IV M) {p p2 : Int32} (o : p.toInt < 0 ∨ ((M 0 0 0).toNatClampNeg : Int) ≤ p.toInt) : sp_X10_isNoStep M p p2 = some (1, up3 M 40 0 0 1) := by
  have hc := cnt_i hv.ci.2.2.2.2.1
  unfold sp_X10_isNoStep sp_X10_isNo
  rw [from_out o (by rw [dec_i hv.ci.2.2.2.2.1, hc]), if_pos rfl]
  refine is_none rfl ?_
  rw [if_neg (by decide)]
  exact is_none (start_no M) rfl
theorem noS_q {M : STT} (hv : IV M) {q : Nat} (hq : q < (M 0 0 0).toNatClampNeg) (p2 : Int32) : sp_X10_isNoStep M (nI q) p2 = if sp_X10_isFrom p2 0 11 = 0 then some (1, up3 M 40 0 0 1) else (if sp_X5_has (M 6 q 0) p2 = 0 then some (1, up3 M 40 0 0 1) else some (0, up3 M 40 0 0 0)) := by
  have hc := cnt_i hv.ci.2.2.2.2.1
  have h8 := hv.j8
  unfold sp_X10_isNoStep sp_X10_isNo
  rw [from_q (by omega) hq (by rw [dec_i hv.ci.2.2.2.2.1, hc]), if_neg (by decide)]
  refine is_none rfl ?_
  rw [if_pos rfl]
  by_cases a : sp_X10_isFrom p2 0 11 = 0
  · rw [if_pos a, if_pos a]; exact is_none (start_no M) rfl
  · rw [if_neg a, if_neg a, if_neg (q_ix hq (by omega)), q_cl (by omega)]
    refine is_none (show sp_X6_has M q p2 = some (sp_X5_has (M 6 q 0) p2) from rfl) ?_
    by_cases b : sp_X5_has (M 6 q 0) p2 = 0
    · rw [if_pos b, if_pos b]; exact is_none (start_no M) rfl
    · rw [if_neg b, if_neg b]; exact is_none (start_ok M) rfl
theorem ge12 {k : Nat} (hk : k < 12) : ¬ (12 : Int32) ≤ nI k := is12 hk
theorem s_ofStep : st_ofStep RLn := by
  intro r S M hr h p1 p2 p3
  have hN := h.th (v := 0)
  have R := h.1.rw
  have hv := h.1.iv
  have hj8 := hv.j8
  rcases in_or p1 (M 0 0 0).toNatClampNeg with o | ⟨q, hq, rfl⟩
  · refine out_bad h 1 1 ?_ ?_ rfl (by decide)
    · rw [un_X5_ofStep]; unfold rw_X5_ofStep; rw [jat_out hv R o]; rfl
    · unfold sp_X10_ofStep; exact bind_no (noS_out hv o) rfl
  have hja := jat_in hv R hq
  rcases in_or p2 12 with o | ⟨k, hk, rfl⟩
  · refine out_bad h 1 1 ?_ ?_ rfl (by decide)
    · rw [un_X5_ofStep]; unfold rw_X5_ofStep; rw [hja, if_pos rfl]
      by_cases a : p2 < 0
      · rw [if_pos a]
      · rw [if_neg a, if_pos]
        rw [Int32.lt_iff_toInt_lt] at a
        rw [Int32.le_iff_toInt_le]
        have z0 : (0 : Int32).toInt = 0 := rfl
        have z1 : (12 : Int32).toInt = 12 := rfl
        omega
    · unfold sp_X10_ofStep
      refine bind_no (N := up3 M 40 0 0 1) ?_ rfl
      rw [noS_q hv hq, if_pos (from_out (n := 12) o rfl)]
  have fk : ¬ sp_X10_isFrom (nI k) 0 11 = 0 := by rw [from_q (n := 12) (by decide) hk rfl]; decide
  by_cases hqb : qb (M 6 q 0) k = true
  case neg =>
    have hz : sp_X5_has (M 6 q 0) (nI k) = 0 := (has_zero (by omega)).mpr hqb
    refine out_bad h 1 1 ?_ ?_ rfl (by decide)
    · rw [un_X5_ofStep]; unfold rw_X5_ofStep; rw [hja, if_pos rfl, if_neg (q_ge (by omega)), if_neg (is12 hk), R.r6, if_pos hz]
    · unfold sp_X10_ofStep
      refine bind_no (N := up3 M 40 0 0 1) ?_ rfl
      rw [noS_q hv hq, if_neg fk, if_pos hz]
  have hz : ¬ sp_X5_has (M 6 q 0) (nI k) = 0 := fun z => (has_zero (by omega)).mp z hqb
  have hs : sp_X10_isNoStep M (nI q) (nI k) = some (0, up3 M 40 0 0 0) := by rw [noS_q hv hq, if_neg fk, if_neg hz]
  rcases in_or p3 6 with o | ⟨w, hw, rfl⟩
  · have wo := within_out (n := 6) o (b := 5) rfl
    refine out_bad h 2 2 ?_ ?_ rfl (by decide)
    · rw [un_X5_ofStep]; unfold rw_X5_ofStep; rw [hja, if_pos rfl, if_neg (q_ge (by omega)), if_neg (is12 hk), R.r6, if_neg hz, if_pos wo]
    · unfold sp_X10_ofStep
      refine bind_ok hs ?_
      rw [isFrom_within, if_pos wo]; exact bind_no (ref_no M (by decide)) rfl
  · have wq := within_q (n := 6) (by decide) hw (b := 5) rfl
    obtain ⟨hF, hL⟩ := fore hN.next hq
    refine out_ok (a := sp_X5_foreseenOfStep (sp_X0_foresee S q (M 0 0 1) (-1) 0) q (nI k) (nI w)) (S' := sp_X0_foresee S q (M 0 0 1) (-1) 0) (M' := up3 M 40 0 0 0) ?_ ?_ rfl rfl hL
    · rw [un_X5_ofStep]; unfold rw_X5_ofStep; rw [hja, if_pos rfl, if_neg (q_ge (by omega)), if_neg (is12 hk), R.r6, if_neg hz, if_neg wq, R.r0]
    · unfold sp_X10_ofStep
      refine bind_ok hs ?_
      rw [isFrom_within, if_neg wq]
      refine bind_ok (ref_ok M (by decide)) ?_
      rw [if_neg (q_ix hq (by omega)), q_cl (by omega)]
      exact is_none (ofStepNow_eq hN.1.iv hq hF hqb hw) rfl
theorem s_ofJoiner : st_ofJoiner RLn := by
  intro r S M hr h p1 p2
  have hN := h.th (v := 0)
  have R := h.1.rw
  have hv := h.1.iv
  have hj8 := hv.j8
  rcases in_or p1 (M 0 0 0).toNatClampNeg with o | ⟨q, hq, rfl⟩
  · refine out_bad h 1 1 ?_ ?_ rfl (by decide)
    · rw [un_X5_ofJoiner]; unfold rw_X5_ofJoiner; rw [jat_out hv R o]; rfl
    · unfold sp_X10_ofJoiner; exact bind_no (noJ_out hv o) rfl
  have hja := jat_in hv R hq
  rcases in_or p2 7 with o | ⟨w, hw, rfl⟩
  · have wo := within_out (n := 7) o (b := 6) rfl
    refine out_bad h 2 2 ?_ ?_ rfl (by decide)
    · rw [un_X5_ofJoiner]; unfold rw_X5_ofJoiner; rw [hja, if_pos rfl, if_pos wo]
    · unfold sp_X10_ofJoiner
      refine bind_ok (noJ_in hv hq) ?_
      rw [isFrom_within, if_pos wo]; exact bind_no (ref_no M (by decide)) rfl
  · have wq := within_q (n := 7) (by decide) hw (b := 6) rfl
    obtain ⟨hF, hL⟩ := fore hN.next hq
    refine out_ok (a := sp_X5_foreseenOfJoiner (sp_X0_foresee S q (M 0 0 1) (-1) 0) q (nI w)) (S' := sp_X0_foresee S q (M 0 0 1) (-1) 0) (M' := up3 M 40 0 0 0) ?_ ?_ rfl rfl hL
    · rw [un_X5_ofJoiner]; unfold rw_X5_ofJoiner; rw [hja, if_pos rfl, if_neg wq, R.r0]
    · unfold sp_X10_ofJoiner
      refine bind_ok (noJ_in hv hq) ?_
      rw [isFrom_within, if_neg wq]
      refine bind_ok (ref_ok M (by decide)) ?_
      rw [if_neg (q_ix hq (by omega)), q_cl (by omega)]
      exact is_none (ofJoinerNow_eq hN.1.iv hq hF hw) rfl
theorem s_rightOn : st_rightOn RLn := by
  intro r S M hr h p1 p2
  have hN := h.th (v := 0)
  have R := h.1.rw
  have hv := h.1.iv
  have hj8 := hv.j8
  have hr6 := hv.r6
  have hc := cnt_i hv.ci.2.1.1
  rcases in_or p1 (M 0 0 0).toNatClampNeg with o | ⟨q, hq, rfl⟩
  · refine out_bad h 1 1 ?_ ?_ rfl (by decide)
    · rw [un_X5_rightOn]; unfold rw_X5_rightOn; rw [jat_out hv R o]; rfl
    · unfold sp_X10_rightOn; exact bind_no (noJ_out hv o) rfl
  have hja := jat_in hv R hq
  rcases in_or p2 (M 1 0 1).toNatClampNeg with o | ⟨k, hk, rfl⟩
  · refine out_bad h 1 1 ?_ ?_ rfl (by decide)
    · rw [un_X5_rightOn]; unfold rw_X5_rightOn; rw [hja, if_pos rfl]
      exact ite_out o (by rw [R.r1]; exact hc) _ _
    · unfold sp_X10_rightOn
      refine bind_ok (noJ_in hv hq) ?_
      rw [from_out o (by rw [dec_i hv.ci.2.1.1, hc]), if_pos rfl]
      exact bind_no (ref_no M (by decide)) rfl
  obtain ⟨hF, hL⟩ := fore hN.next hq
  have e12 : sp_X0_foresee S q (M 0 0 1) (-1) 0 12 = M 12 := hF.1.1 12 rfl
  refine out_ok (a := sp_X0_dayBehind (sp_X0_foresee S q (M 0 0 1) (-1) 0) (M 12 0 k)) (S' := sp_X0_foresee S q (M 0 0 1) (-1) 0) (M' := up3 M 40 0 0 0) ?_ ?_ rfl rfl hL
  · rw [un_X5_rightOn]; unfold rw_X5_rightOn; rw [hja, if_pos rfl, ite_in hk (by omega) (by rw [R.r1]; exact hc), R.r0, q_cl (by omega)]
    show (0, sp_X0_dayBehind (sp_X0_foresee S q (M 0 0 1) (-1) 0) (sp_X0_foresee S q (M 0 0 1) (-1) 0 12 0 k), _) = _
    rw [e12]
  · unfold sp_X10_rightOn
    refine bind_ok (noJ_in hv hq) ?_
    rw [from_q (by omega) hk (by rw [dec_i hv.ci.2.1.1, hc]), if_neg (by decide)]
    refine bind_ok (ref_ok M (by decide)) ?_
    rw [if_neg (q_ix hq (by omega)), q_cl (by omega)]
    exact is_none (rightOnNow_eq hN.1.iv hq hF hk) rfl
theorem s_next : st_next RLn := by
  intro r S M hr h p1
  have hN := h.th (v := 0)
  have R := h.1.rw
  have hv := h.1.iv
  have hj8 := hv.j8
  rcases in_or p1 (M 0 0 0).toNatClampNeg with o | ⟨q, hq, rfl⟩
  · refine out_bad2 h 1 1 ?_ ?_ rfl (by decide)
    · unfold sp_X5_next; rw [jat_out hv R o]; rfl
    · unfold sp_X10_next; exact bind_no (noJ_out hv o) rfl
  refine out_ok2 h (a := sp_X5_nextStep M q) ?_ ?_ rfl
  · unfold sp_X5_next; rw [jat_in hv R hq, if_pos rfl, nextStep_cong (S := S) (T := M) (by rw [R.r6]) R.r9 (by rw [R.r24])]
  · unfold sp_X10_next
    refine bind_ok (noJ_in hv hq) ?_
    rw [if_neg (q_ix hq (by omega)), q_cl (by omega)]
    refine is_none (next_eq hN.1.iv hq) ?_
    rw [nextStep_cong (S := up3 M 40 0 0 0) (T := M) rfl rfl rfl]
end PLAINQ
