section P24D
variable {B D r : Nat} {S T M : STT}
/-- the rows that stay while joiners come and go -/
def FR5 (S T : STT) : Prop := T 1 = S 1 ∧ T 7 = S 7 ∧ T 9 = S 9 ∧ T 11 = S 11 ∧ T 12 = S 12
theorem NI.ask {r' : Nat} {S' : STT} (h : RLn r S M) (h' : RLn r' S' M) (n : NI S) : NI S' := by
  have e : ∀ f, rr f = true → S' f = S f := fun f hf => (h'.c.rw f hf).trans (h.c.rw f hf).symm
  have e0 : S' 0 = S 0 := e 0 rfl
  obtain ⟨n1, n2, n3, n4⟩ := n
  refine ⟨?_, ?_, ?_, ?_⟩
  · rw [e0]; exact n1.same (by rw [e0]) (e 6 rfl) (e 9 rfl) (e 24 rfl) (e 25 rfl) (e 26 rfl)
  · intro j hj k hk
    rw [e0] at hj
    have hm : j < (M 0 0 0).toNatClampNeg := by rw [← h.c.rw.r0]; exact hj
    rw [e 7 rfl, e 17 rfl, e 6 rfl, e 24 rfl, h'.c.bq j hm, ← h.c.bq j hm]
    exact n2 j hj k hk
  · intro s hs
    rw [e 19 rfl, h'.c.tk s hs, ← h.c.tk s hs]
    exact n3 s hs
  · exact n4.same (by rw [e0]) (e 6 rfl) (e 18 rfl)
theorem NI.zero (h0 : (S 0 0 0).toNatClampNeg = 0) (h1 : ST S) (h2 : ∀ s, s < 20 → (S 18 0 s).toInt ≤ 199) : NI S :=
  ⟨fun j hj => by omega, fun j hj => by omega, h1, fun j hj => by omega, h2⟩
theorem ahead_s {p : Int32} (h : ¬ sp_X5_isAhead S p = 0) : (S 0 0 1).toInt < p.toInt ∧ p.toInt ≤ 199 := ahead_i (M := S) (fun _ _ => rfl) h
-- one joins
theorem n_join (hr : r < 512) (h : RLn r S M) (n : NI S) {q : Nat} (hq : q < 4) {p2 : Int32} (ha : ¬ sp_X5_isAhead S p2 = 0) (hJ : (S 0 0 0).toNatClampNeg < 8) (h11 : ¬ S 11 0 q = 0) : (sp_X5_join S (nI q) p2).1 = 0 ∧ (sp_X5_join S (nI q) p2).2.1 = S 0 0 0 ∧ (∃ M', RLn (r + 1) (sp_X5_join S (nI q) p2).2.2 M') ∧ NI (sp_X5_join S (nI q) p2).2.2 ∧ FR5 S (sp_X5_join S (nI q) p2).2.2 ∧ (sp_X5_join S (nI q) p2).2.2 0 0 1 = S 0 0 1 := by
  have hC := h.c.self
  have v := hC.iv
  have e8 : ¬ 8 ≤ S 0 0 0 := by
    rw [Int32.le_iff_toInt_le, cnt_i v.ci.2.2.2.2.1]
    have z : (8 : Int32).toInt = 8 := rfl
    omega
  have hE : sp_X5_join S (nI q) p2 = (0, S 0 0 0, sp_X5_bookAll (up3 (up3 (up3 S 0 0 0 (S 0 0 0 + 1)) 6 (S 0 0 0).toNatClampNeg 0 (S 11 0 q)) 6 (S 0 0 0).toNatClampNeg 1 p2)) := by
    rw [un_X5_join]; unfold rw_X5_join
    rw [ite_in (n := 4) hq (by decide) rfl, if_neg ha, if_neg e8, q_cl (by omega), if_neg h11]
  obtain ⟨w, -, w2, w3, w4⟩ := s_join r S M hr h (nI q) p2
  rw [hE] at w4
  rw [hE]
  refine ⟨rfl, rfl, ⟨_, w4⟩, ?_⟩
  clear w4 w2 w3
  show NI (sp_X5_bookAll (up3 (up3 (up3 S 0 0 0 (S 0 0 0 + 1)) 6 (S 0 0 0).toNatClampNeg 0 (S 11 0 q)) 6 (S 0 0 0).toNatClampNeg 1 p2)) ∧ FR5 S (sp_X5_bookAll (up3 (up3 (up3 S 0 0 0 (S 0 0 0 + 1)) 6 (S 0 0 0).toNatClampNeg 0 (S 11 0 q)) 6 (S 0 0 0).toNatClampNeg 1 p2)) ∧ (sp_X5_bookAll (up3 (up3 (up3 S 0 0 0 (S 0 0 0 + 1)) 6 (S 0 0 0).toNatClampNeg 0 (S 11 0 q)) 6 (S 0 0 0).toNatClampNeg 1 p2)) 0 0 1 = S 0 0 1
  have hc := cn_eq v.ci.2.2.2.2.1
  obtain ⟨J, hJe⟩ : ∃ J, J = (S 0 0 0).toNatClampNeg := ⟨_, rfl⟩
  have hci : CI (up3 (up3 (up3 S 0 0 0 (S 0 0 0 + 1)) 6 (S 0 0 0).toNatClampNeg 0 (S 11 0 q)) 6 (S 0 0 0).toNatClampNeg 1 p2) := CI.up5 v.ci e8
  rw [← hJe] at hc hJ hci ⊢
  have hfr := hC.fr J (by omega)
  obtain ⟨g1, g2, g3, g4, g5, g6⟩ := hfr
  have V0 : (up3 (up3 (up3 S 0 0 0 (S 0 0 0 + 1)) 6 J 0 (S 11 0 q)) 6 J 1 p2) 0 0 0 = nI (J + 1) := by
    rw [up3_f (by decide), up3_f (by decide), up3_e, hc, q_succ]
  have V01 : (up3 (up3 (up3 S 0 0 0 (S 0 0 0 + 1)) 6 J 0 (S 11 0 q)) 6 J 1 p2) 0 0 1 = S 0 0 1 := by
    rw [up3_f (by decide), up3_f (by decide), up3_i (by decide)]
  have Vf : ∀ f, f ≠ 0 → f ≠ 6 → (up3 (up3 (up3 S 0 0 0 (S 0 0 0 + 1)) 6 J 0 (S 11 0 q)) 6 J 1 p2) f = S f := fun f f1 f2 => by rw [up3_f f2, up3_f f2, up3_f f1]
  have V6 : ∀ j, j ≠ J → (up3 (up3 (up3 S 0 0 0 (S 0 0 0 + 1)) 6 J 0 (S 11 0 q)) 6 J 1 p2) 6 j = S 6 j := fun j hj => by rw [up3_o hj, up3_o hj, up3_f (by decide)]
  have V61 : (up3 (up3 (up3 S 0 0 0 (S 0 0 0 + 1)) 6 J 0 (S 11 0 q)) 6 J 1 p2) 6 J 1 = p2 := up3_e
  generalize (up3 (up3 (up3 S 0 0 0 (S 0 0 0 + 1)) 6 J 0 (S 11 0 q)) 6 J 1 p2) = V at hci V0 V01 Vf V6 V61 ⊢
  obtain ⟨n1, n2, n3, n4, n5⟩ := n
  have VJ : (V 0 0 0).toNatClampNeg = J + 1 := by rw [V0, q_cl (by omega)]
  have a1 : JA (S 0 0 1).toInt V := by
    intro j hj hl
    rw [VJ] at hj
    by_cases z : j = J
    · subst z
      intro k hk
      rw [Vf 24 (by decide) (by decide), g2]
      exact ⟨Or.inl rfl, fun y => absurd rfl y, fun y => absurd (show (0 : Int32) = 2 from y) (by decide)⟩
    · rw [V6 j z] at hl
      exact (n1 j (by omega) hl).same (V6 j z) (Vf 9 (by decide) (by decide)) (by rw [Vf 24 (by decide) (by decide)]) (by rw [Vf 25 (by decide) (by decide)]) (by rw [Vf 26 (by decide) (by decide)])
  have a2 : BK V := by
    intro j hj k hk hb
    rw [VJ] at hj
    rw [Vf 27 (by decide) (by decide)] at hb
    by_cases z : j = J
    · subst z
      rw [g6] at hb
      exact absurd (show S0 27 j k = -1 from if_pos hk) hb
    · rw [Vf 7 (by decide) (by decide), Vf 17 (by decide) (by decide), V6 j z, Vf 24 (by decide) (by decide), Vf 27 (by decide) (by decide)]
      exact n2 j (by omega) k hk hb
  have a3 : ST V := n3.same (Vf 19 (by decide) (by decide)) (Vf 20 (by decide) (by decide))
  have hp := ahead_s ha
  have t0 := v.t0
  have a4 : SB V := by
    refine ⟨fun j hj => ?_, by rw [Vf 18 (by decide) (by decide)]; exact n5⟩
    rw [VJ] at hj
    by_cases z : j = J
    · subst z; rw [V61]; omega
    · rw [V6 j z]; exact n4 j (by omega)
  obtain ⟨x1, x2, x3⟩ := bookAll_ni hci a2 a3
  have y : ∀ f, f ≠ 4 → f ≠ 20 → f ≠ 21 → f ≠ 22 → f ≠ 23 → f ≠ 27 → sp_X5_bookAll V f = V f := x1
  have y0 : sp_X5_bookAll V 0 = V 0 := y 0 (by decide) (by decide) (by decide) (by decide) (by decide) (by decide)
  refine ⟨⟨?_, x2, x3, ?_⟩, ⟨?_, ?_, ?_, ?_, ?_⟩, by rw [y0, V01]⟩
  · rw [y0, V01]
    exact a1.same (by rw [y0]) (y 6 (by decide) (by decide) (by decide) (by decide) (by decide) (by decide)) (y 9 (by decide) (by decide) (by decide) (by decide) (by decide) (by decide)) (y 24 (by decide) (by decide) (by decide) (by decide) (by decide) (by decide)) (y 25 (by decide) (by decide) (by decide) (by decide) (by decide) (by decide)) (y 26 (by decide) (by decide) (by decide) (by decide) (by decide) (by decide))
  · exact a4.same (by rw [y0]) (y 6 (by decide) (by decide) (by decide) (by decide) (by decide) (by decide)) (y 18 (by decide) (by decide) (by decide) (by decide) (by decide) (by decide))
  · exact (y 1 (by decide) (by decide) (by decide) (by decide) (by decide) (by decide)).trans (Vf 1 (by decide) (by decide))
  · exact (y 7 (by decide) (by decide) (by decide) (by decide) (by decide) (by decide)).trans (Vf 7 (by decide) (by decide))
  · exact (y 9 (by decide) (by decide) (by decide) (by decide) (by decide) (by decide)).trans (Vf 9 (by decide) (by decide))
  · exact (y 11 (by decide) (by decide) (by decide) (by decide) (by decide) (by decide)).trans (Vf 11 (by decide) (by decide))
  · exact (y 12 (by decide) (by decide) (by decide) (by decide) (by decide) (by decide)).trans (Vf 12 (by decide) (by decide))
-- a session
theorem tk_zero (hC : RC B D S S) {s : Nat} (hs : s < 20) (h : (S 3 0 0).toNatClampNeg ≤ s) : S 20 0 s = 0 := by
  rw [hC.tk s hs]
  have e : cJ (S 27) (nI s) (S 0 0 0).toNatClampNeg = 0 := by
    have a : ∀ J, J ≤ (S 0 0 0).toNatClampNeg → cJ (S 27) (nI s) J = 0 := by
      intro J
      induction J with
      | zero => intro _; rfl
      | succ J ih =>
        intro hJ
        show cJ (S 27) (nI s) J + c12 (S 27 J) (nI s) 12 = 0
        rw [ih (by omega), c12_none 12 (fun k hk z => by
          rcases hC.iv.bk J (by omega) k hk with y | ⟨y1, y2, -⟩
          · rw [y] at z; exact nI_ne1 (by omega) z
          · rw [z, nI_toInt (by omega)] at y2
            have := cnt_i hC.iv.ci.2.2.2.1.1
            omega)]
    exact a _ (Nat.le_refl _)
  rw [e]; rfl
theorem n_session (hr : r < 512) (h : RLn r S M) (n : NI S) {q : Nat} (hq : q < (S 1 0 0).toNatClampNeg) {p2 p3 : Int32} (h7 : S 7 0 q = 2) (ha : ¬ sp_X5_isAhead S p2 = 0) (hw : ¬ sp_X5_isWithin p3 1 9 = 0) (hN : (S 3 0 0).toNatClampNeg < 20) : (sp_X5_session S (nI q) p2 p3).1 = 0 ∧ (sp_X5_session S (nI q) p2 p3).2.1 = (sp_X5_session S (nI q) p2 p3).2.2 3 0 0 - 1 ∧ (∃ M', RLn (r + 1) (sp_X5_session S (nI q) p2 p3).2.2 M') ∧ NI (sp_X5_session S (nI q) p2 p3).2.2 ∧ FR5 S (sp_X5_session S (nI q) p2 p3).2.2 ∧ (sp_X5_session S (nI q) p2 p3).2.2 0 = S 0 := by
  have hC := h.c.self
  have v := hC.iv
  have hc := cn_eq v.ci.2.2.2.1.1
  have hcs := cnt_i v.ci.1.1
  have hm := v.m12
  obtain ⟨m, hme⟩ : ∃ m, m = (S 3 0 0).toNatClampNeg := ⟨_, rfl⟩
  rw [← hme] at hc hN
  have hadd : sp_X4_addSession S (nI q) p2 p3 = (nI m, up3 (up3 (up3 (up3 S 17 0 m (nI q)) 18 0 m p2) 19 0 m p3) 3 0 0 (nI (m + 1))) := by
    rw [un_X4_addSession]; unfold rw_X4_addSession
    rw [hc, if_pos (show nI m < (20 : Int32) from q_lt (n := 20) (by omega) (by decide)), q_cl (i := m) (by omega), up3_e, q_succ, nI_pr]
  have hE : sp_X5_session S (nI q) p2 p3 = (0, nI m, sp_X5_bookAll (up3 (up3 (up3 (up3 S 17 0 m (nI q)) 18 0 m p2) 19 0 m p3) 3 0 0 (nI (m + 1)))) := by
    rw [un_X5_session]; unfold rw_X5_session
    rw [ite_in hq (by omega) hcs, q_cl (by omega), if_pos h7, if_neg ha, if_neg hw, hadd, if_neg (q_m1 (by omega))]
  obtain ⟨w, -, -, -, w4⟩ := s_session r S M hr h (nI q) p2 p3
  rw [hE] at w4
  rw [hE]
  have hp := ahead_s ha
  have w9 := within_i hw
  have h20 : S 20 0 m = 0 := tk_zero hC hN (by omega)
  have Vf : ∀ f, f ≠ 17 → f ≠ 18 → f ≠ 19 → f ≠ 3 → (up3 (up3 (up3 (up3 S 17 0 m (nI q)) 18 0 m p2) 19 0 m p3) 3 0 0 (nI (m + 1))) f = S f := fun f f1 f2 f3 f4 => by rw [up3_f f4, up3_f f3, up3_f f2, up3_f f1]
  have V17 : ∀ s, s ≠ m → (up3 (up3 (up3 (up3 S 17 0 m (nI q)) 18 0 m p2) 19 0 m p3) 3 0 0 (nI (m + 1))) 17 0 s = S 17 0 s := fun s hs => by rw [up3_f (by decide), up3_f (by decide), up3_f (by decide), up3_i hs]
  have V18 : ∀ s, s ≠ m → (up3 (up3 (up3 (up3 S 17 0 m (nI q)) 18 0 m p2) 19 0 m p3) 3 0 0 (nI (m + 1))) 18 0 s = S 18 0 s := fun s hs => by rw [up3_f (by decide), up3_f (by decide), up3_i hs, up3_f (by decide)]
  have V19 : ∀ s, s ≠ m → (up3 (up3 (up3 (up3 S 17 0 m (nI q)) 18 0 m p2) 19 0 m p3) 3 0 0 (nI (m + 1))) 19 0 s = S 19 0 s := fun s hs => by rw [up3_f (by decide), up3_i hs, up3_f (by decide), up3_f (by decide)]
  have V18m : (up3 (up3 (up3 (up3 S 17 0 m (nI q)) 18 0 m p2) 19 0 m p3) 3 0 0 (nI (m + 1))) 18 0 m = p2 := by rw [up3_f (by decide), up3_f (by decide), up3_e]
  have V19m : (up3 (up3 (up3 (up3 S 17 0 m (nI q)) 18 0 m p2) 19 0 m p3) 3 0 0 (nI (m + 1))) 19 0 m = p3 := by rw [up3_f (by decide), up3_e]
  have V3 : (up3 (up3 (up3 (up3 S 17 0 m (nI q)) 18 0 m p2) 19 0 m p3) 3 0 0 (nI (m + 1))) 3 0 0 = nI (m + 1) := up3_e
  have hci : CI (up3 (up3 (up3 (up3 S 17 0 m (nI q)) 18 0 m p2) 19 0 m p3) 3 0 0 (nI (m + 1))) := by
    have k := ci_X4_addSession S (nI q) p2 p3 v.ci
    rw [hadd] at k; exact k
  show 0 = 0 ∧ nI m = sp_X5_bookAll (up3 (up3 (up3 (up3 S 17 0 m (nI q)) 18 0 m p2) 19 0 m p3) 3 0 0 (nI (m + 1))) 3 0 0 - 1 ∧ (∃ M', RLn (r + 1) (sp_X5_bookAll (up3 (up3 (up3 (up3 S 17 0 m (nI q)) 18 0 m p2) 19 0 m p3) 3 0 0 (nI (m + 1)))) M') ∧ NI (sp_X5_bookAll (up3 (up3 (up3 (up3 S 17 0 m (nI q)) 18 0 m p2) 19 0 m p3) 3 0 0 (nI (m + 1)))) ∧ FR5 S (sp_X5_bookAll (up3 (up3 (up3 (up3 S 17 0 m (nI q)) 18 0 m p2) 19 0 m p3) 3 0 0 (nI (m + 1)))) ∧ sp_X5_bookAll (up3 (up3 (up3 (up3 S 17 0 m (nI q)) 18 0 m p2) 19 0 m p3) 3 0 0 (nI (m + 1))) 0 = S 0
  have w5 : ∃ M', RLn (r + 1) (sp_X5_bookAll (up3 (up3 (up3 (up3 S 17 0 m (nI q)) 18 0 m p2) 19 0 m p3) 3 0 0 (nI (m + 1)))) M' := ⟨_, w4⟩
  clear w4
  generalize (up3 (up3 (up3 (up3 S 17 0 m (nI q)) 18 0 m p2) 19 0 m p3) 3 0 0 (nI (m + 1))) = V at hci Vf V17 V18 V19 V18m V19m V3 w5 ⊢
  obtain ⟨n1, n2, n3, n4, n5⟩ := n
  have e0 : V 0 = S 0 := Vf 0 (by decide) (by decide) (by decide) (by decide)
  have a2 : BK V := by
    intro j hj k hk hb
    rw [e0] at hj
    rw [Vf 27 (by decide) (by decide) (by decide) (by decide)] at hb
    have hlt : (S 27 j k).toNatClampNeg ≠ m := by
      rcases v.bk j hj k hk with y | ⟨y1, y2, -⟩
      · exact absurd y hb
      · have z1 := cnt_i y1
        have z2 := cnt_i v.ci.2.2.2.1.1
        omega
    rw [Vf 7 (by decide) (by decide) (by decide) (by decide), Vf 27 (by decide) (by decide) (by decide) (by decide), V17 _ hlt, Vf 6 (by decide) (by decide) (by decide) (by decide), Vf 24 (by decide) (by decide) (by decide) (by decide)]
    exact n2 j hj k hk hb
  have a3 : ST V := by
    intro s hs
    rw [Vf 20 (by decide) (by decide) (by decide) (by decide)]
    by_cases z : s = m
    · subst z; rw [h20, V19m, z_i]; have : (1 : Int32).toInt = 1 := rfl; omega
    · rw [V19 s z]; exact n3 s hs
  obtain ⟨x1, x2, x3⟩ := bookAll_ni hci a2 a3
  have y : ∀ f, f ≠ 4 → f ≠ 20 → f ≠ 21 → f ≠ 22 → f ≠ 23 → f ≠ 27 → sp_X5_bookAll V f = V f := x1
  have z : ∀ f, f ≠ 4 → f ≠ 20 → f ≠ 21 → f ≠ 22 → f ≠ 23 → f ≠ 27 → f ≠ 17 → f ≠ 18 → f ≠ 19 → f ≠ 3 → sp_X5_bookAll V f = S f := fun f f1 f2 f3 f4 f5 f6 g1 g2 g3 g4 => (y f f1 f2 f3 f4 f5 f6).trans (Vf f g1 g2 g3 g4)
  have y0 : sp_X5_bookAll V 0 = S 0 := z 0 (by decide) (by decide) (by decide) (by decide) (by decide) (by decide) (by decide) (by decide) (by decide) (by decide)
  refine ⟨rfl, ?_, w5, ⟨?_, x2, x3, ?_, ?_⟩, ⟨?_, ?_, ?_, ?_, ?_⟩, y0⟩
  · rw [y 3 (by decide) (by decide) (by decide) (by decide) (by decide) (by decide), V3, nI_pr]
  · rw [y0]
    exact n1.same (by rw [y0]) (z 6 (by decide) (by decide) (by decide) (by decide) (by decide) (by decide) (by decide) (by decide) (by decide) (by decide)) (z 9 (by decide) (by decide) (by decide) (by decide) (by decide) (by decide) (by decide) (by decide) (by decide) (by decide)) (z 24 (by decide) (by decide) (by decide) (by decide) (by decide) (by decide) (by decide) (by decide) (by decide) (by decide)) (z 25 (by decide) (by decide) (by decide) (by decide) (by decide) (by decide) (by decide) (by decide) (by decide) (by decide)) (z 26 (by decide) (by decide) (by decide) (by decide) (by decide) (by decide) (by decide) (by decide) (by decide) (by decide))
  · rw [y0, z 6 (by decide) (by decide) (by decide) (by decide) (by decide) (by decide) (by decide) (by decide) (by decide) (by decide)]; exact n4
  · intro s hs
    rw [y 18 (by decide) (by decide) (by decide) (by decide) (by decide) (by decide)]
    by_cases q : s = m
    · subst q; rw [V18m]; omega
    · rw [V18 s q]; exact n5 s hs
  all_goals exact z _ (by decide) (by decide) (by decide) (by decide) (by decide) (by decide) (by decide) (by decide) (by decide) (by decide)
-- stock and orders
theorem n_stock (hr : r < 512) (h : RLn r S M) (n : NI S) {q : Nat} (hq : q < 4) {p2 : Int32} (hw : ¬ sp_X5_isWithin p2 1 20 = 0) : (sp_X5_stock S (nI q) p2).1 = 0 ∧ (sp_X5_stock S (nI q) p2).2.1 = S 13 0 q + p2 ∧ (∃ M', RLn (r + 1) (sp_X5_stock S (nI q) p2).2.2 M') ∧ NI (sp_X5_stock S (nI q) p2).2.2 ∧ FR5 S (sp_X5_stock S (nI q) p2).2.2 ∧ (sp_X5_stock S (nI q) p2).2.2 0 = S 0 := by
  have hE : sp_X5_stock S (nI q) p2 = (0, S 13 0 q + p2, up3 S 13 0 q (S 13 0 q + p2)) := by
    rw [un_X5_stock]; unfold rw_X5_stock
    rw [ite_in (n := 4) hq (by decide) rfl, if_neg hw, putIn_eq hq, q_cl (by omega), up3_e]
  obtain ⟨w, -, -, -, w4⟩ := s_stock r S M hr h (nI q) p2
  rw [hE] at w4
  rw [hE]
  obtain ⟨n1, n2, n3, n4⟩ := n
  refine ⟨rfl, rfl, ⟨_, w4⟩, ?_⟩
  clear w4
  show NI (up3 S 13 0 q (S 13 0 q + p2)) ∧ FR5 S (up3 S 13 0 q (S 13 0 q + p2)) ∧ (up3 S 13 0 q (S 13 0 q + p2)) 0 = S 0
  have z : ∀ f, f ≠ 13 → (up3 S 13 0 q (S 13 0 q + p2)) f = S f := fun f hf => up3_f hf
  generalize (up3 S 13 0 q (S 13 0 q + p2)) = V at z ⊢
  have e0 := z 0 (by decide)
  exact ⟨⟨by rw [e0]; exact n1.same (by rw [e0]) (z 6 (by decide)) (z 9 (by decide)) (z 24 (by decide)) (z 25 (by decide)) (z 26 (by decide)), n2.same (by rw [e0]) (z 6 (by decide)) (z 7 (by decide)) (z 17 (by decide)) (z 24 (by decide)) (z 27 (by decide)), n3.same (z 19 (by decide)) (z 20 (by decide)), n4.same (by rw [e0]) (z 6 (by decide)) (z 18 (by decide))⟩, ⟨z 1 (by decide), z 7 (by decide), z 9 (by decide), z 11 (by decide), z 12 (by decide)⟩, e0⟩
theorem n_order (hr : r < 512) (h : RLn r S M) (n : NI S) {q : Nat} (hq : q < 4) {p2 p3 : Int32} (hw : ¬ sp_X5_isWithin p2 1 20 = 0) (ha : ¬ sp_X5_isAhead S p3 = 0) (hN : (S 2 0 0).toNatClampNeg < 20) : (sp_X5_order S (nI q) p2 p3).1 = 0 ∧ (sp_X5_order S (nI q) p2 p3).2.1 = (sp_X5_order S (nI q) p2 p3).2.2 2 0 0 - 1 ∧ (∃ M', RLn (r + 1) (sp_X5_order S (nI q) p2 p3).2.2 M') ∧ NI (sp_X5_order S (nI q) p2 p3).2.2 ∧ FR5 S (sp_X5_order S (nI q) p2 p3).2.2 ∧ (sp_X5_order S (nI q) p2 p3).2.2 0 = S 0 := by
  have v := h.c.self.iv
  have hc := cn_eq v.ci.2.2.1.1
  obtain ⟨m, hme⟩ : ∃ m, m = (S 2 0 0).toNatClampNeg := ⟨_, rfl⟩
  rw [← hme] at hc hN
  have hadd : sp_X3_addOrder S (nI q) p2 p3 = (nI m, up3 (up3 (up3 (up3 S 14 0 m (nI q)) 15 0 m p2) 16 0 m p3) 2 0 0 (nI (m + 1))) := by
    rw [un_X3_addOrder]; unfold rw_X3_addOrder
    rw [hc, if_pos (show nI m < (20 : Int32) from q_lt (n := 20) (by omega) (by decide)), q_cl (i := m) (by omega), up3_e, q_succ, nI_pr]
  have hE : sp_X5_order S (nI q) p2 p3 = (0, nI m, up3 (up3 (up3 (up3 S 14 0 m (nI q)) 15 0 m p2) 16 0 m p3) 2 0 0 (nI (m + 1))) := by
    rw [un_X5_order]; unfold rw_X5_order
    rw [ite_in (n := 4) hq (by decide) rfl, if_neg hw, if_neg ha, hadd, if_neg (q_m1 (by omega))]
  obtain ⟨w, -, -, -, w4⟩ := s_order r S M hr h (nI q) p2 p3
  rw [hE] at w4
  rw [hE]
  obtain ⟨n1, n2, n3, n4⟩ := n
  have Vf : ∀ f, f ≠ 14 → f ≠ 15 → f ≠ 16 → f ≠ 2 → (up3 (up3 (up3 (up3 S 14 0 m (nI q)) 15 0 m p2) 16 0 m p3) 2 0 0 (nI (m + 1))) f = S f := fun f f1 f2 f3 f4 => by rw [up3_f f4, up3_f f3, up3_f f2, up3_f f1]
  refine ⟨rfl, ?_, ⟨_, w4⟩, ?_⟩
  · show nI m = (up3 (up3 (up3 (up3 S 14 0 m (nI q)) 15 0 m p2) 16 0 m p3) 2 0 0 (nI (m + 1))) 2 0 0 - 1
    rw [up3_e, nI_pr]
  clear w4
  show NI (up3 (up3 (up3 (up3 S 14 0 m (nI q)) 15 0 m p2) 16 0 m p3) 2 0 0 (nI (m + 1))) ∧ FR5 S (up3 (up3 (up3 (up3 S 14 0 m (nI q)) 15 0 m p2) 16 0 m p3) 2 0 0 (nI (m + 1))) ∧ (up3 (up3 (up3 (up3 S 14 0 m (nI q)) 15 0 m p2) 16 0 m p3) 2 0 0 (nI (m + 1))) 0 = S 0
  generalize (up3 (up3 (up3 (up3 S 14 0 m (nI q)) 15 0 m p2) 16 0 m p3) 2 0 0 (nI (m + 1))) = V at Vf ⊢
  have z : ∀ f, (f ≠ 14 ∧ f ≠ 15 ∧ f ≠ 16 ∧ f ≠ 2) → V f = S f := fun f hf => Vf f hf.1 hf.2.1 hf.2.2.1 hf.2.2.2
  have e0 := z 0 (by decide)
  exact ⟨⟨by rw [e0]; exact n1.same (by rw [e0]) (z 6 (by decide)) (z 9 (by decide)) (z 24 (by decide)) (z 25 (by decide)) (z 26 (by decide)), n2.same (by rw [e0]) (z 6 (by decide)) (z 7 (by decide)) (z 17 (by decide)) (z 24 (by decide)) (z 27 (by decide)), n3.same (z 19 (by decide)) (z 20 (by decide)), n4.same (by rw [e0]) (z 6 (by decide)) (z 18 (by decide))⟩, ⟨z 1 (by decide), z 7 (by decide), z 9 (by decide), z 11 (by decide), z 12 (by decide)⟩, e0⟩
end P24D
