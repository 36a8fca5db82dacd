section PLAINO
noncomputable def stT (M : STT) (p p1 p2 p3 p4 : Int32) : Option (Int32 × STT) := (sp_X10_start M p 1).bind fun x => (if x.1 = 0 then ((sp_X10_refuse x.2 (if M 1 0 0 = 12 then 1 else 0) 2).bind fun y => (if y.1 = 0 then (if 12 ≤ (M 1 0 0).toNatClampNeg then none else (some ((((addS (elS y.2 ((M 1 0 0).toNatClampNeg) p1 p2 p3 p4) 0 (nI ((M 1 0 0).toNatClampNeg + 1))) 1 0 0) - 1, (addS (elS y.2 ((M 1 0 0).toNatClampNeg) p1 p2 p3 p4) 0 (nI ((M 1 0 0).toNatClampNeg + 1))))))) else (some ((0, y.2))))) else (some ((0, x.2))))
theorem step_shape (M : STT) (p1 p2 p3 p4 : Int32) : sp_X10_step M p1 p2 p3 p4 = if (sp_X10_isFrom p1 0 3) = 0 then stT M 1 p1 p2 p3 p4 else (if (sp_X10_isFrom p2 1 9) = 0 then stT M 1 p1 p2 p3 p4 else ((sp_X10_isNoSet M p3).bind fun x => (if x = 0 then (if p1 = 0 then (if (sp_X10_isFrom p4 0 255) = 0 then stT M 1 p1 p2 p3 p4 else (if p1 = 1 then stT M (if (sp_X10_isFrom p4 0 3) = 0 then 1 else 0) p1 p2 p3 p4 else stT M 0 p1 p2 p3 p4)) else (if p1 = 1 then stT M (if (sp_X10_isFrom p4 0 3) = 0 then 1 else 0) p1 p2 p3 p4 else stT M 0 p1 p2 p3 p4)) else stT M 1 p1 p2 p3 p4))) := rfl
theorem stT_no (M : STT) (p1 p2 p3 p4 : Int32) : stT M 1 p1 p2 p3 p4 = some (0, up3 M 40 0 0 1) := by
  unfold stT; exact bind_no (start_no M) rfl
theorem step_in {M : STT} {p1 p2 p3 p4 : Int32} (c1 : ¬ sp_X5_isWithin p1 0 3 = 0) (c2 : ¬ sp_X5_isWithin p2 1 9 = 0) (c3 : sp_X10_isNoSet M p3 = some 0) : sp_X10_step M p1 p2 p3 p4 = if sp_X5_isOfKind p1 p4 = 0 then stT M 1 p1 p2 p3 p4 else stT M 0 p1 p2 p3 p4 := by
  rw [step_shape, isFrom_within, if_neg c1, if_neg c2]
  refine is_none c3 ?_
  rw [if_pos rfl]
  unfold sp_X5_isOfKind
  by_cases k0 : p1 = 0
  · rw [if_pos k0, if_pos k0, if_neg (c := p1 = 1) (by rw [k0]; decide)]
  · rw [if_neg k0, if_neg k0]
    by_cases k1 : p1 = 1
    · rw [if_pos k1, if_pos k1]
      by_cases k2 : sp_X5_isWithin p4 0 3 = 0
      · rw [if_pos k2, if_pos k2, if_pos rfl]
      · rw [if_neg k2, if_neg k2, if_neg (by decide)]
    · rw [if_neg k1, if_neg k1, if_neg (by decide)]
theorem s_step : st_step RLn := by
  intro r S M hr h p1 p2 p3 p4
  have hN := h.th (v := 0)
  have R := h.1.rw
  have hv := h.1.iv
  have hm := hv.m12
  have hc := cn_eq hv.ci.1.1
  have hfull := n_full (n := 12) hv.ci.1.1 (by decide)
  by_cases c1 : sp_X5_isWithin p1 0 3 = 0
  · refine out_bad h 2 1 ?_ ?_ rfl (by decide)
    · rw [un_X5_step]; unfold rw_X5_step; rw [if_pos c1]
    · rw [step_shape, isFrom_within, if_pos c1, stT_no]
  by_cases c2 : sp_X5_isWithin p2 1 9 = 0
  · refine out_bad h 2 1 ?_ ?_ rfl (by decide)
    · rw [un_X5_step]; unfold rw_X5_step; rw [if_neg c1, if_pos c2]
    · rw [step_shape, isFrom_within, if_neg c1, if_pos c2, stT_no]
  by_cases c3 : sp_X2_knows S p3 = 0
  · refine out_bad h 2 1 ?_ ?_ rfl (by decide)
    · rw [un_X5_step]; unfold rw_X5_step; rw [if_neg c1, if_neg c2, if_pos c3]
    · rw [step_shape, isFrom_within, if_neg c1, if_neg c2]
      refine is_none (noSet_eq hv R p3) ?_
      rw [if_pos c3, if_neg (by decide), stT_no]
  have e3 : sp_X10_isNoSet M p3 = some 0 := by rw [noSet_eq hv R, if_neg c3]
  by_cases c4 : sp_X5_isOfKind p1 p4 = 0
  · refine out_bad h 2 1 ?_ ?_ rfl (by decide)
    · rw [un_X5_step]; unfold rw_X5_step; rw [if_neg c1, if_neg c2, if_neg c3, if_pos c4]
    · rw [step_in c1 c2 e3, if_pos c4, stT_no]
  by_cases e : (M 1 0 0).toNatClampNeg = 12
  · refine out_bad h 3 2 ?_ ?_ rfl (by decide)
    · have ea : (sp_X2_addStep S p1 p2 p3 p4).1 = -1 := by
        rw [un_X2_addStep]; unfold rw_X2_addStep
        rw [R.r1, hc, e, if_neg (by decide)]
      rw [un_X5_step]; unfold rw_X5_step; rw [if_neg c1, if_neg c2, if_neg c3, if_neg c4, if_pos ea]
    · rw [step_in c1 c2 e3, if_neg c4]
      unfold stT
      refine bind_ok (start_ok M) ?_
      rw [if_pos (show M 1 0 0 = 12 from hfull.mpr e)]
      exact bind_no (ref_no M (by decide)) rfl
  obtain ⟨w0, w1⟩ := within_i c2
  have e1 : (1 : Int32).toInt = 1 := rfl
  have e9 : (9 : Int32).toInt = 9 := rfl
  have hlb := knows_lb hv R c3
  obtain ⟨n, hn⟩ : ∃ n, n = (M 1 0 0).toNatClampNeg := ⟨_, rfl⟩
  rw [← hn] at hc e hm hlb
  have hadd : sp_X2_addStep S p1 p2 p3 p4 = (nI n, up3 (up3 (up3 (up3 (up3 S 7 0 n p1) 8 0 n p2) 9 0 n p3) 10 0 n p4) 1 0 0 (nI (n + 1))) := by
    rw [un_X2_addStep]; unfold rw_X2_addStep
    rw [R.r1, hc, if_pos (show nI n < (12 : Int32) from q_lt (n := 12) (by omega) (by decide)), q_cl (by omega), up3_e, q_succ, nI_pr]
  refine out_ok (a := nI n) (S' := up3 (up3 (up3 (up3 (up3 S 7 0 n p1) 8 0 n p2) 9 0 n p3) 10 0 n p4) 1 0 0 (nI (n + 1))) (M' := addS (elS (up3 M 40 0 0 0) n p1 p2 p3 p4) 0 (nI (n + 1))) ?_ ?_ rfl rfl ?_
  · rw [un_X5_step]; unfold rw_X5_step; rw [if_neg c1, if_neg c2, if_neg c3, if_neg c4, hadd, if_neg (q_m1 (by omega))]
  · rw [step_in c1 c2 e3, if_neg c4]
    unfold stT
    refine bind_ok (start_ok M) ?_
    rw [if_neg (show ¬ M 1 0 0 = 12 from fun z => e (hn.trans (hfull.mp z)))]
    refine bind_ok (ref_ok M (by decide)) ?_
    rw [if_neg (show ¬ 12 ≤ (M 1 0 0).toNatClampNeg by omega), ← hn]
    show some (nI (n + 1) - 1, _) = _
    rw [nI_pr]
  · have hn' := hN.next
    refine ⟨hn'.1.addStep (n := n) hn (by omega) ⟨by omega, by omega⟩ hlb (fun k0 => ?_) (fun k1 => ?_), hn'.2.1, hn'.2.2⟩
    · unfold sp_X5_isOfKind at c4
      rw [if_pos k0] at c4
      obtain ⟨y0, y1⟩ := within_i c4
      have z0 : (0 : Int32).toInt = 0 := rfl
      have z1 : (255 : Int32).toInt = 255 := rfl
      exact lb_of (by omega) (by omega)
    · unfold sp_X5_isOfKind at c4
      rw [if_neg (by rw [k1]; decide), if_pos k1] at c4
      by_cases k2 : sp_X5_isWithin p4 0 3 = 0
      · rw [if_pos k2] at c4; exact absurd rfl c4
      · obtain ⟨y0, y1⟩ := within_i k2
        exact ⟨y0, y1⟩
theorem s_right : st_right RLn := by
  intro r S M hr h p1
  have hN := h.th (v := 0)
  have R := h.1.rw
  have hv := h.1.iv
  have hm := hv.r6
  have hc := cn_eq hv.ci.2.1.1
  have hfull := n_full (n := 6) hv.ci.2.1.1 (by decide)
  by_cases c1 : p1 < 1
  · refine out_bad h 2 1 ?_ ?_ rfl (by decide)
    · rw [un_X5_right]; unfold rw_X5_right; rw [if_pos c1]
    · unfold sp_X10_right; rw [if_pos c1]; exact bind_no (start_no M) rfl
  by_cases c3 : sp_X2_knows S p1 = 0
  · refine out_bad h 2 1 ?_ ?_ rfl (by decide)
    · rw [un_X5_right]; unfold rw_X5_right; rw [if_neg c1, if_pos c3]
    · unfold sp_X10_right; rw [if_neg c1]
      refine is_none (noSet_eq hv R p1) ?_
      rw [if_pos c3, if_neg (by decide)]
      exact bind_no (start_no M) rfl
  have c0 : ¬ p1 < -128 := by
    rw [Int32.lt_iff_toInt_lt] at c1 ⊢
    have e1 : (1 : Int32).toInt = 1 := rfl
    have e2 : (-128 : Int32).toInt = -128 := rfl
    omega
  by_cases e : (M 1 0 1).toNatClampNeg = 6
  · refine out_bad h 3 2 ?_ ?_ rfl (by decide)
    · have ea : (sp_X2_addRight S p1).1 = -1 := by
        rw [un_X2_addRight]; unfold rw_X2_addRight
        rw [R.r1, hc, e, if_neg (by decide)]
      rw [un_X5_right]; unfold rw_X5_right; rw [if_neg c1, if_neg c3, if_pos ea]
    · unfold sp_X10_right; rw [if_neg c1]
      refine is_none (noSet_eq hv R p1) ?_
      rw [if_neg c3, if_pos rfl]
      refine bind_ok (start_ok M) ?_
      rw [if_pos (show M 1 0 1 = 6 from hfull.mpr e)]
      exact bind_no (ref_no M (by decide)) rfl
  have hlb := knows_lb hv R c3
  obtain ⟨n, hn⟩ : ∃ n, n = (M 1 0 1).toNatClampNeg := ⟨_, rfl⟩
  rw [← hn] at hc e hm
  have hadd : sp_X2_addRight S p1 = (nI n, up3 (up3 S 12 0 n p1) 1 0 1 (nI (n + 1))) := by
    rw [un_X2_addRight]; unfold rw_X2_addRight
    rw [R.r1, hc, if_pos (show nI n < (6 : Int32) from q_lt (n := 6) (by omega) (by decide)), q_cl (by omega), up3_e, q_succ, nI_pr]
  refine out_ok (a := nI n) (S' := up3 (up3 S 12 0 n p1) 1 0 1 (nI (n + 1))) (M' := addS (up3 (up3 M 40 0 0 0) 12 0 n p1) 1 (nI (n + 1))) ?_ ?_ rfl rfl ?_
  · rw [un_X5_right]; unfold rw_X5_right; rw [if_neg c1, if_neg c3, hadd, if_neg (q_m1 (by omega))]
  · unfold sp_X10_right; rw [if_neg c1]
    refine is_none (noSet_eq hv R p1) ?_
    rw [if_neg c3, if_pos rfl]
    refine bind_ok (start_ok M) ?_
    rw [if_neg (show ¬ M 1 0 1 = 6 from fun z => e (hn.trans (hfull.mp z)))]
    refine bind_ok (ref_ok M (by decide)) ?_
    rw [if_neg c0, if_neg (show ¬ 6 ≤ (M 1 0 1).toNatClampNeg by omega), ← hn]
    show some (nI (n + 1) - 1, _) = _
    rw [nI_pr]
  · have hn' := hN.next
    exact ⟨hn'.1.addRight (n := n) hn (by omega) hlb, hn'.2.1, hn'.2.2⟩
theorem s_session : st_session RLn := by
  intro r S M hr h p1 p2 p3
  have hN := h.th (v := 0)
  have R := h.1.rw
  have hv := h.1.iv
  have hm := hv.m12
  have he := hv.e20
  have hcs := cnt_i hv.ci.1.1
  have hc := cn_eq hv.ci.2.2.2.1.1
  have hfull := n_full (n := 20) hv.ci.2.2.2.1.1 (by decide)
  rcases in_or p1 (M 1 0 0).toNatClampNeg with o | ⟨q, hq, rfl⟩
  · refine out_bad h 1 1 ?_ ?_ rfl (by decide)
    · rw [un_X5_session]; unfold rw_X5_session; exact ite_out o (by rw [R.r1]; exact hcs) _ _
    · unfold sp_X10_session; rw [from_out o (by rw [dec_i hv.ci.1.1, hcs]), if_pos rfl]; exact bind_no (start_no M) rfl
  have s : sp_X10_start M (if sp_X10_isFrom (nI q) 0 (M 1 0 0 - 1) = 0 then 1 else 0) 1 = some (0, up3 M 40 0 0 0) := by
    rw [from_q (by omega) hq (by rw [dec_i hv.ci.1.1, hcs]), if_neg (by decide)]; exact start_ok M
  have x : ∀ {A B : Nat × Int32 × STT}, (if nI q < 0 then A else (if nI q < S 1 0 0 then B else A)) = B := fun {A B} => ite_in hq (by omega) (by rw [R.r1]; exact hcs) A B
  by_cases c7 : M 7 0 q = 2
  case neg =>
    refine out_bad h 2 2 ?_ ?_ rfl (by decide)
    · rw [un_X5_session]; unfold rw_X5_session; rw [x, q_cl (by omega), R.r7, if_neg c7]
    · unfold sp_X10_session
      refine bind_ok s ?_
      rw [if_neg (q_ix hq (by omega)), q_cl (by omega), if_neg (show ¬ (up3 M 40 0 0 0) 7 0 q = 2 from c7)]
      exact bind_no (ref_no M (by decide)) rfl
  by_cases d : sp_X5_isAhead S p2 = 0
  · refine out_bad h 2 2 ?_ ?_ rfl (by decide)
    · rw [un_X5_session]; unfold rw_X5_session; rw [x, q_cl (by omega), R.r7, if_pos c7, if_pos d]
    · unfold sp_X10_session
      refine bind_ok s ?_
      rw [if_neg (q_ix hq (by omega)), q_cl (by omega), if_pos (show (up3 M 40 0 0 0) 7 0 q = 2 from c7)]
      refine is_none (noDay_eq hN.1.iv hN.1.rw p2) ?_
      rw [if_pos d, if_neg (by decide)]
      exact bind_no (ref_no M (by decide)) rfl
  by_cases w : sp_X5_isWithin p3 1 9 = 0
  · refine out_bad h 2 2 ?_ ?_ rfl (by decide)
    · rw [un_X5_session]; unfold rw_X5_session; rw [x, q_cl (by omega), R.r7, if_pos c7, if_neg d, if_pos w]
    · unfold sp_X10_session
      refine bind_ok s ?_
      rw [if_neg (q_ix hq (by omega)), q_cl (by omega), if_pos (show (up3 M 40 0 0 0) 7 0 q = 2 from c7)]
      refine is_none (noDay_eq hN.1.iv hN.1.rw p2) ?_
      rw [if_neg d, if_pos rfl, isFrom_within, if_pos w]
      exact bind_no (ref_no M (by decide)) rfl
  by_cases e : (M 3 0 0).toNatClampNeg = 20
  · refine out_bad h 3 3 ?_ ?_ rfl (by decide)
    · have ea : (sp_X4_addSession S (nI q) p2 p3).1 = -1 := by
        rw [un_X4_addSession]; unfold rw_X4_addSession
        rw [R.r3, hc, e, if_neg (by decide)]
      rw [un_X5_session]; unfold rw_X5_session; rw [x, q_cl (by omega), R.r7, if_pos c7, if_neg d, if_neg w, if_pos ea]
    · unfold sp_X10_session
      refine bind_ok s ?_
      rw [if_neg (q_ix hq (by omega)), q_cl (by omega), if_pos (show (up3 M 40 0 0 0) 7 0 q = 2 from c7)]
      refine is_none (noDay_eq hN.1.iv hN.1.rw p2) ?_
      rw [if_neg d, if_pos rfl, isFrom_within, if_neg w]
      refine bind_ok (ref_ok M (by decide)) ?_
      rw [if_pos (show M 3 0 0 = 20 from hfull.mpr e)]
      exact bind_no (ref_no M (by decide)) rfl
  obtain ⟨n, hn⟩ : ∃ n, n = (M 3 0 0).toNatClampNeg := ⟨_, rfl⟩
  rw [← hn] at hc e he
  have hadd : sp_X4_addSession S (nI q) p2 p3 = (nI n, up3 (up3 (up3 (up3 S 17 0 n (nI q)) 18 0 n p2) 19 0 n p3) 3 0 0 (nI (n + 1))) := by
    rw [un_X4_addSession]; unfold rw_X4_addSession
    rw [R.r3, hc, if_pos (show nI n < (20 : Int32) from q_lt (n := 20) (by omega) (by decide)), q_cl (i := n) (by omega), up3_e, q_succ, nI_pr]
  have hn' := hN.next
  have hC : RC (500 * (r + 1)) (199 + 30 * (r + 1)) (up3 (up3 (up3 (up3 S 17 0 n (nI q)) 18 0 n p2) 19 0 n p3) 3 0 0 (nI (n + 1))) (addS (elE (up3 M 40 0 0 0) n (nI q) p2 p3) 3 (nI (n + 1))) := hn'.1.addSession (n := n) hn (by omega)
  obtain ⟨M', b1, b2, b3⟩ := bookAll_eq hC (show TH (addS (elE (up3 M 40 0 0 0) n (nI q) p2 p3) 3 (nI (n + 1))) from h.2.1)
  refine out_ok (a := nI n) (S' := sp_X5_bookAll (up3 (up3 (up3 (up3 S 17 0 n (nI q)) 18 0 n p2) 19 0 n p3) 3 0 0 (nI (n + 1)))) (M' := M') ?_ ?_ ?_ rfl ?_
  · rw [un_X5_session]; unfold rw_X5_session; rw [x, q_cl (by omega), R.r7, if_pos c7, if_neg d, if_neg w, hadd, if_neg (q_m1 (by omega))]
  · unfold sp_X10_session
    refine bind_ok s ?_
    rw [if_neg (q_ix hq (by omega)), q_cl (by omega), if_pos (show (up3 M 40 0 0 0) 7 0 q = 2 from c7)]
    refine is_none (noDay_eq hN.1.iv hN.1.rw p2) ?_
    rw [if_neg d, if_pos rfl, isFrom_within, if_neg w]
    refine bind_ok (ref_ok M (by decide)) ?_
    rw [if_neg (show ¬ M 3 0 0 = 20 from fun z => e (hn.trans (hfull.mp z)))]
    refine bind_ok (ref_ok M (by decide)) ?_
    rw [if_neg (show ¬ 20 ≤ (M 3 0 0).toNatClampNeg by omega), ← hn]
    refine is_none b1 ?_
    show some (nI (n + 1) - 1, _) = _
    rw [nI_pr]
  · rw [b3 40 (by decide)]; rfl
  · refine ⟨b2, ?_, ?_⟩
    · exact TH.same (show TH (addS (elE (up3 M 40 0 0 0) n (nI q) p2 p3) 3 (nI (n + 1))) from h.2.1) (b3 0 (by decide)) (b3 2 (by decide)) (b3 16 (by decide)) (b3 41 (by decide))
    · exact RN.same (show RN (addS (elE (up3 M 40 0 0 0) n (nI q) p2 p3) 3 (nI (n + 1))) from h.2.2) (b3 0 (by decide)) (b3 6 (by decide)) (b3 24 (by decide)) (b3 25 (by decide)) (b3 26 (by decide))
end PLAINO
