section PLAINP
theorem cJ_cong {g g' : Nat → Nat → Int32} {s : Int32} : ∀ J, (∀ j, j < J → g' j = g j) → cJ g' s J = cJ g s J := by
  intro J
  induction J with
  | zero => intro _; rfl
  | succ J ih => intro h; unfold cJ; rw [ih (fun j hj => h j (by omega)), h J (by omega)]
theorem c12_none {g : Nat → Int32} {s : Int32} : ∀ n, (∀ k, k < n → g k ≠ s) → c12 g s n = 0 := by
  intro n
  induction n with
  | zero => intro _; rfl
  | succ n ih => intro h; unfold c12; rw [ih (fun k hk => h k (by omega)), if_neg (h n (by omega))]
section
variable {B D : Nat} {S M : STT}
theorem nj_same {M : STT} {J : Nat} {v0 v1 : Int32} {f : Nat} (h : ¬ (f = 6 ∨ (23 < f ∧ f < 29))) : newJ M J v0 v1 f = M f := by
  funext o; exact nj_o (fun z => h z.2)
theorem RC.addJoin {J : Nat} {p1 p2 x : Int32} (h : RC B D S M) (hJ : J = (M 0 0 0).toNatClampNeg) (hlt : J < 8) (hp : lb p1 (M 1 0 0).toNatClampNeg) : RC B D (up3 (up3 (up3 S 0 0 0 (nI (J + 1))) 6 J 0 p1) 6 J 1 p2) (up3 (up3 (newJ M J p1 p2) 42 4 0 x) 0 0 0 (nI (J + 1))) := by
  have v := h.iv
  have e1 : (nI (J + 1)).toInt = ((J + 1 : Nat) : Int) := nI_toInt (by omega)
  have e2 : (nI (J + 1)).toNatClampNeg = J + 1 := q_cl (by omega)
  obtain ⟨f6, f24, f25, f26, f28, f27⟩ := h.fr J (by omega)
  -- rows of the new state
  obtain ⟨N, hN⟩ : ∃ N, N = up3 (up3 (newJ M J p1 p2) 42 4 0 x) 0 0 0 (nI (J + 1)) := ⟨_, rfl⟩
  have n0 : ∀ k, N 0 0 k = if k = 0 then nI (J + 1) else M 0 0 k := by
    intro k
    rw [hN, up3_24, up3_f (by decide), nj_same (by decide)]
    by_cases c : k = 0
    · rw [if_pos ⟨rfl, c⟩, if_pos c]
    · rw [if_neg (fun z => c z.2), if_neg c]
  have n00 : N 0 0 0 = nI (J + 1) := n0 0
  have n01 : N 0 0 1 = M 0 0 1 := n0 1
  have nf : ∀ f, f ≠ 0 → f ≠ 42 → ¬ (f = 6 ∨ (23 < f ∧ f < 29)) → N f = M f := by
    intro f a b c
    rw [hN, up3_f a, up3_f b, nj_same c]
  have no : ∀ f a, f ≠ 0 → f ≠ 42 → a ≠ J → N f a = M f a := by
    intro f a b c d
    rw [hN, up3_f b, up3_f c, nj_o (fun z => d z.1)]
  have nJ6 : N 6 J = fun k => if k = 0 then p1 else if k = 1 then p2 else 0 := by rw [hN, up3_f (by decide), up3_f (by decide), nj_6]
  have nJ27 : N 27 J = fun q => if q < 12 then (-1 : Int32) else 0 := by rw [hN, up3_f (by decide), up3_f (by decide), nj_27]
  have nJz : ∀ f, 23 < f → f < 29 → f ≠ 27 → N f J = fun _ => 0 := by
    intro f a b c
    rw [hN, up3_f (by omega), up3_f (by omega), nj_z a b c]
  have m1 : N 1 = M 1 := nf 1 (by decide) (by decide) (by decide)
  have m2 : N 2 = M 2 := nf 2 (by decide) (by decide) (by decide)
  have m3 : N 3 = M 3 := nf 3 (by decide) (by decide) (by decide)
  have r : RW (up3 (up3 (up3 S 0 0 0 (nI (J + 1))) 6 J 0 p1) 6 J 1 p2) N := by
    intro f hf
    by_cases c0 : f = 0
    · subst c0
      rw [up3_f (by decide), up3_f (by decide), hN]
      have hr : RW S (up3 (newJ M J p1 p2) 42 4 0 x) → (up3 S 0 0 0 (nI (J + 1))) 0 = (up3 (up3 (newJ M J p1 p2) 42 4 0 x) 0 0 0 (nI (J + 1))) 0 := fun z => z.up 0 rfl
      unfold up3
      rw [if_pos rfl, if_pos rfl, if_neg (by decide), nj_same (by decide), h.rw.r0]
    · by_cases c6 : f = 6
      · subst c6
        funext a
        by_cases d : a = J
        · subst d
          rw [nJ6, up3_s, up3_s, up3_f (by decide), h.rw.r6, f6]
          funext k
          unfold upd
          by_cases k1 : k = 1
          · rw [if_pos k1, k1, if_neg (by decide), if_pos rfl]
          · rw [if_neg k1, if_neg k1]
        · rw [up3_o d, up3_o d, up3_f (by decide), no 6 a (by decide) (by decide) d, h.rw.r6]
      · rw [up3_f c6, up3_f c6, up3_f c0]
        by_cases cj : 23 < f ∧ f < 29
        · funext a
          by_cases d : a = J
          · subst d
            rw [nJz f cj.1 cj.2 (rr_ne hf).2.2.2.2.2.1]
            have k := congrFun (h.rw f hf) a
            have hz : f = 24 ∨ f = 25 ∨ f = 26 ∨ f = 28 := by have := (rr_ne hf).2.2.2.2.2.1; omega
            rcases hz with rfl | rfl | rfl | rfl
            · exact k.trans f24
            · exact k.trans f25
            · exact k.trans f26
            · exact k.trans f28
          · rw [no f a c0 (rr_ne hf).2.2.2.2.2.2.2.2 d]; exact congrFun (h.rw f hf) a
        · rw [nf f c0 (rr_ne hf).2.2.2.2.2.2.2.2 (fun z => z.elim c6 cj)]; exact h.rw f hf
  have s27 : (up3 (up3 (up3 S 0 0 0 (nI (J + 1))) 6 J 0 p1) 6 J 1 p2) 27 = S 27 := by rw [up3_f (by decide), up3_f (by decide), up3_f (by decide)]
  have s20 : (up3 (up3 (up3 S 0 0 0 (nI (J + 1))) 6 J 0 p1) 6 J 1 p2) 20 = S 20 := by rw [up3_f (by decide), up3_f (by decide), up3_f (by decide)]
  rw [← hN]
  have split : ∀ {j}, j < (N 0 0 0).toNatClampNeg → j = J ∨ (j ≠ J ∧ j < (M 0 0 0).toNatClampNeg) := by
    intro j hj
    rw [n00, e2] at hj
    omega
  refine ⟨⟨?_, by rw [n01]; exact v.t0, by rw [n01]; exact v.t1, ?_, ?_, ?_, ?_, ?_, ?_, ?_, ?_, ?_, fun j hj => ?_, fun j hj k hk => ?_, fun j hj k hk hne => ?_, fun j hj k hk => ?_⟩, r, fun j hj => ?_, fun j hj => ?_, fun k hk => ?_, ?_, ?_, fun j hj k hk => ?_, fun j hj k hk => ?_⟩
  · have c := v.ci
    unfold CI at c ⊢
    rw [m1, m2, m3, n00]
    exact ⟨c.1, c.2.1, c.2.2.1, c.2.2.2.1, by omega, by omega⟩
  · rw [m1, nf 8 (by decide) (by decide) (by decide)]; exact v.ln
  · rw [m1, nf 9 (by decide) (by decide) (by decide)]; exact v.nd
  · rw [m1, nf 7 (by decide) (by decide) (by decide), nf 10 (by decide) (by decide) (by decide)]; exact v.fm
  · rw [m1, nf 7 (by decide) (by decide) (by decide), nf 10 (by decide) (by decide) (by decide)]; exact v.kt
  · rw [m1, nf 11 (by decide) (by decide) (by decide)]; exact v.rl
  · rw [m1, nf 12 (by decide) (by decide) (by decide)]; exact v.rt
  · rw [nf 13 (by decide) (by decide) (by decide)]; exact v.sk
  · rw [m2, nf 14 (by decide) (by decide) (by decide)]; exact v.oi
  · rw [m2, nf 15 (by decide) (by decide) (by decide)]; exact v.om
  · rw [m1]
    rcases split hj with z | ⟨z, y⟩
    · rw [z, nJ6]; exact hp
    · rw [no 6 j (by decide) (by decide) z]; exact v.js j y
  · rcases split hj with z | ⟨z, y⟩
    · rw [z, nJ27]; exact .inl (if_pos hk)
    · rw [no 27 j (by decide) (by decide) z, no 6 j (by decide) (by decide) z, m3]; exact v.bk j y k hk
  · rcases split hj with z | ⟨z, y⟩
    · rw [z, nJz 24 (by decide) (by decide) (by decide)] at hne; exact absurd rfl hne
    · rw [no 24 j (by decide) (by decide) z] at hne
      rw [no 6 j (by decide) (by decide) z]; exact v.ss j y k hk hne
  · rcases split hj with z | ⟨z, y⟩
    · rw [z, nJz 25 (by decide) (by decide) (by decide)]; exact Int.le_refl _
    · rw [no 25 j (by decide) (by decide) z]; exact v.bg j y k hk
  · rw [s27]
    rcases split hj with z | ⟨z, y⟩
    · rw [z, nJ27, f27]; rfl
    · rw [no 27 j (by decide) (by decide) z]; exact h.bq j y
  · rw [n00, e2] at hj
    have z : j ≠ J := by omega
    rw [no 6 j (by decide) (by decide) z, no 24 j (by decide) (by decide) z, no 25 j (by decide) (by decide) z, no 26 j (by decide) (by decide) z, no 28 j (by decide) (by decide) z, s27]
    exact h.fr j (by omega)
  · rw [s20, n00, e2]
    have c1 : cJ (N 27) (nI k) J = cJ (M 27) (nI k) J := cJ_cong J (fun j hj => no 27 j (by decide) (by decide) (by omega))
    have c2 : c12 (N 27 J) (nI k) 12 = 0 := c12_none 12 (fun a ha => by
      rw [nJ27]
      show ¬ (if a < 12 then (-1 : Int32) else 0) = nI k
      rw [if_pos ha]; exact nI_ne1 (by omega))
    show S 20 0 k = nI (cJ (N 27) (nI k) J + c12 (N 27 J) (nI k) 12)
    rw [c1, c2, Nat.add_zero, hJ]; exact h.tk k hk
  · rw [nf 13 (by decide) (by decide) (by decide)]; exact h.sb
  · rw [m2, nf 16 (by decide) (by decide) (by decide)]; exact h.db
  · rcases split hj with z | ⟨z, y⟩
    · rw [z, nJz 25 (by decide) (by decide) (by decide)]; exact (by decide : (0 : Int32).toInt ≤ 199)
    · rw [no 25 j (by decide) (by decide) z]; exact h.bh j y k hk
  · rcases split hj with z | ⟨z, y⟩
    · rw [z, nJz 26 (by decide) (by decide) (by decide)]; exact (by decide : 0 ≤ (0 : Int32).toInt ∧ (0 : Int32).toInt ≤ 13)
    · rw [no 26 j (by decide) (by decide) z]; exact h.lh j y k hk
theorem RC.left6 {j : Nat} {x : Int32} (h : RC B D S M) (hj : j < (M 0 0 0).toNatClampNeg) : RC B D (up3 S 6 j 2 x) (up3 M 6 j 2 x) := by
  have v := h.iv
  have e : ∀ a, (up3 M 6 j 2 x) 6 a 0 = M 6 a 0 := fun a => by
    rw [up3_24, if_neg (fun z => absurd z.2 (by decide))]
  refine ⟨⟨v.ci, v.t0, v.t1, v.ln, v.nd, v.fm, v.kt, v.rl, v.rt, v.sk, v.oi, v.om, fun a ha => ?_, fun a ha k hk => ?_, fun a ha k hk hne => ?_, v.bg⟩, h.rw.up, h.bq, fun a ha => ?_, h.tk, h.sb, h.db, h.bh, h.lh⟩
  · rw [e]; exact v.js a ha
  · rw [e]; exact v.bk a ha k hk
  · rw [e]; exact v.ss a ha k hk hne
  · have ha : (M 0 0 0).toNatClampNeg ≤ a := ha
    obtain ⟨a1, a2, a3, a4, a5, a6⟩ := h.fr a ha
    exact ⟨by rw [up3_o (by omega)]; exact a1, a2, a3, a4, a5, a6⟩
end
theorem s_join : st_join RLn := by
  intro r S M hr h p1 p2
  have hN := h.th (v := 0)
  have R := h.1.rw
  have hv := h.1.iv
  have hj8 := hv.j8
  have hc := cn_eq hv.ci.2.2.2.2.1
  have hfull := n_full (n := 8) hv.ci.2.2.2.2.1 (by decide)
  rcases in_or p1 4 with o | ⟨q, hq, rfl⟩
  · refine out_bad h 1 1 ?_ ?_ rfl (by decide)
    · rw [un_X5_join]; unfold rw_X5_join; exact ite_out (n := 4) o rfl _ _
    · unfold sp_X10_join; rw [noRole_out o]; exact bind_no (start_no M) rfl
  have s : sp_X10_start M (sp_X10_isNoRole (nI q)) 1 = some (0, up3 M 40 0 0 0) := by rw [noRole_q hq]; exact start_ok M
  have x : ∀ {A B : Nat × Int32 × STT}, (if nI q < 0 then A else (if nI q < 4 then B else A)) = B := fun {A B} => ite_in (n := 4) hq (by decide) rfl A B
  by_cases d : sp_X5_isAhead S p2 = 0
  · refine out_bad h 2 2 ?_ ?_ rfl (by decide)
    · rw [un_X5_join]; unfold rw_X5_join; rw [x, if_pos d]
    · unfold sp_X10_join
      refine bind_ok s (is_none (noDay_eq hN.1.iv hN.1.rw p2) ?_)
      rw [if_pos d]
      exact bind_no (ref_no M (by decide)) rfl
  by_cases e : (M 0 0 0).toNatClampNeg = 8
  · refine out_bad h 3 3 ?_ ?_ rfl (by decide)
    · rw [un_X5_join]; unfold rw_X5_join; rw [x, if_neg d, R.r0, hfull.mpr e, if_pos (by decide)]
    · unfold sp_X10_join
      refine bind_ok s (is_none (noDay_eq hN.1.iv hN.1.rw p2) ?_)
      rw [if_neg d]
      refine bind_ok (ref_ok M (by decide)) ?_
      rw [if_pos (show M 0 0 0 = 8 from hfull.mpr e)]
      exact bind_no (ref_no M (by decide)) rfl
  have e8 : ¬ M 0 0 0 = 8 := fun z => e (hfull.mp z)
  have e8' : ¬ 8 ≤ M 0 0 0 := by
    rw [Int32.le_iff_toInt_le, cnt_i hv.ci.2.2.2.2.1]
    have z : (8 : Int32).toInt = 8 := rfl
    omega
  by_cases c11 : M 11 0 q = 0
  · refine out_bad h 3 3 ?_ ?_ rfl (by decide)
    · rw [un_X5_join]; unfold rw_X5_join; rw [x, if_neg d, R.r0, if_neg e8', q_cl (by omega), R.r11, if_pos c11]
    · unfold sp_X10_join
      refine bind_ok s (is_none (noDay_eq hN.1.iv hN.1.rw p2) ?_)
      rw [if_neg d]
      refine bind_ok (ref_ok M (by decide)) ?_
      rw [if_neg e8, if_neg (q_ix hq (by decide)), q_cl (by omega), if_pos (show (up3 M 40 0 0 0) 11 0 q = 0 from c11)]
      exact bind_no (ref_no M (by decide)) rfl
  obtain ⟨J, hJ⟩ : ∃ J, J = (M 0 0 0).toNatClampNeg := ⟨_, rfl⟩
  rw [← hJ] at hc e hj8
  have hn' := hN.next
  have hC : RC (500 * (r + 1)) (199 + 30 * (r + 1)) (up3 (up3 (up3 S 0 0 0 (nI (J + 1))) 6 J 0 (M 11 0 q)) 6 J 1 p2) (addS (newJ (up3 M 40 0 0 0) J (M 11 0 q) p2) 4 (nI (J + 1))) := hn'.1.addJoin (J := J) hJ (by omega) (hv.rl q hq)
  have rows : ∀ f, f ≠ 0 → f ≠ 42 → ¬ (f = 6 ∨ (23 < f ∧ f < 29)) → (addS (newJ (up3 M 40 0 0 0) J (M 11 0 q) p2) 4 (nI (J + 1))) f = (up3 M 40 0 0 0) f := by
    intro f a b c
    show (up3 (up3 (newJ (up3 M 40 0 0 0) J (M 11 0 q) p2) 42 4 0 _) 0 0 0 (nI (J + 1))) f = _
    rw [up3_f a, up3_f b, nj_same c]
  have r01 : (addS (newJ (up3 M 40 0 0 0) J (M 11 0 q) p2) 4 (nI (J + 1))) 0 0 1 = M 0 0 1 := by
    show (up3 (up3 (newJ (up3 M 40 0 0 0) J (M 11 0 q) p2) 42 4 0 _) 0 0 0 (nI (J + 1))) 0 0 1 = _
    rw [up3_i (by decide), up3_f (by decide), nj_same (by decide)]; rfl
  have hT : TH (addS (newJ (up3 M 40 0 0 0) J (M 11 0 q) p2) 4 (nI (J + 1))) := by
    unfold TH
    rw [rows 2 (by decide) (by decide) (by decide), rows 41 (by decide) (by decide) (by decide), rows 16 (by decide) (by decide) (by decide), r01]
    exact h.2.1
  have hR : RN (addS (newJ (up3 M 40 0 0 0) J (M 11 0 q) p2) 4 (nI (J + 1))) := by
    intro j hj hl k hk hs
    have hj : j < (nI (J + 1)).toNatClampNeg := hj
    rw [q_cl (by omega)] at hj
    rw [r01]
    have go : ∀ f, f ≠ 0 → f ≠ 42 → (addS (newJ (up3 M 40 0 0 0) J (M 11 0 q) p2) 4 (nI (J + 1))) f = newJ (up3 M 40 0 0 0) J (M 11 0 q) p2 f := by
      intro f a b
      show (up3 (up3 (newJ (up3 M 40 0 0 0) J (M 11 0 q) p2) 42 4 0 _) 0 0 0 (nI (J + 1))) f = _
      rw [up3_f a, up3_f b]
    rw [go 24 (by decide) (by decide)] at hs
    rw [go 6 (by decide) (by decide)] at hl
    rw [go 25 (by decide) (by decide), go 26 (by decide) (by decide)]
    by_cases z : j = J
    · rw [z, nj_z (by decide) (by decide) (by decide)] at hs
      exact absurd (show (0 : Int32) = 1 from hs) (by decide)
    · rw [nj_o (fun y => z y.1)] at hs hl
      rw [nj_o (fun y => z y.1), nj_o (fun y => z y.1)]
      exact h.2.2 j (by omega) hl k hk hs
  obtain ⟨M', b1, b2, b3⟩ := bookAll_eq hC hT
  refine out_ok (a := nI J) (S' := sp_X5_bookAll (up3 (up3 (up3 S 0 0 0 (nI (J + 1))) 6 J 0 (M 11 0 q)) 6 J 1 p2)) (M' := M') ?_ ?_ ?_ rfl ?_
  · rw [un_X5_join]; unfold rw_X5_join
    rw [x, if_neg d, R.r0, if_neg e8', q_cl (by omega), R.r11, if_neg c11, ← hJ, hc, q_succ]
  · unfold sp_X10_join
    refine bind_ok s (is_none (noDay_eq hN.1.iv hN.1.rw p2) ?_)
    rw [if_neg d]
    refine bind_ok (ref_ok M (by decide)) ?_
    rw [if_neg e8, if_neg (q_ix hq (by decide)), q_cl (by omega), if_neg (show ¬ (up3 M 40 0 0 0) 11 0 q = 0 from c11)]
    refine bind_ok (ref_ok M (by decide)) ?_
    rw [if_neg (show ¬ 8 ≤ (M 0 0 0).toNatClampNeg by omega), ← hJ]
    refine is_none b1 ?_
    show some (nI (J + 1) - 1, _) = _
    rw [nI_pr]
  · rw [b3 40 (by decide), rows 40 (by decide) (by decide) (by decide)]; rfl
  · exact ⟨b2, TH.same hT (b3 0 (by decide)) (b3 2 (by decide)) (b3 16 (by decide)) (b3 41 (by decide)), RN.same hR (b3 0 (by decide)) (b3 6 (by decide)) (b3 24 (by decide)) (b3 25 (by decide)) (b3 26 (by decide))⟩
theorem jat_out {S M : STT} (hv : IV M) (R : RW S M) {p : Int32} (o : p.toInt < 0 ∨ ((M 0 0 0).toNatClampNeg : Int) ≤ p.toInt) : sp_X5_joinerAt S p = (1, 0) := by
  unfold sp_X5_joinerAt
  rw [R.r0]
  by_cases c : p < 0
  · rw [if_pos c]
  · rw [if_neg c, if_pos]
    rw [Int32.le_iff_toInt_le, cnt_i hv.ci.2.2.2.2.1]
    rw [Int32.lt_iff_toInt_lt] at c
    have h0 : (0 : Int32).toInt = 0 := rfl
    omega
theorem jat_in {S M : STT} (hv : IV M) (R : RW S M) {q : Nat} (hq : q < (M 0 0 0).toNatClampNeg) : sp_X5_joinerAt S (nI q) = (0, q) := by
  have h8 := hv.j8
  unfold sp_X5_joinerAt
  rw [R.r0, if_neg (q_ge (by omega)), if_neg, if_pos (show nI q < (8 : Int32) from q_lt (n := 8) (by omega) (by decide)), q_cl (by omega)]
  rw [Int32.le_iff_toInt_le, cnt_i hv.ci.2.2.2.2.1, nI_toInt (by omega)]
  omega
theorem noJ_out {M : STT} (hv : IV M) {p : Int32} (o : p.toInt < 0 ∨ ((M 0 0 0).toNatClampNeg : Int) ≤ p.toInt) : sp_X10_isNoJoiner M p = some (1, up3 M 40 0 0 1) := by
  have hc := cnt_i hv.ci.2.2.2.2.1
  unfold sp_X10_isNoJoiner sp_X10_isNo
  rw [from_out o (by rw [dec_i hv.ci.2.2.2.2.1, hc]), if_pos rfl]
  exact is_none rfl (is_none (start_no M) rfl)
theorem noJ_in {M : STT} (hv : IV M) {q : Nat} (hq : q < (M 0 0 0).toNatClampNeg) : sp_X10_isNoJoiner M (nI q) = some (0, up3 M 40 0 0 0) := by
  have hc := cnt_i hv.ci.2.2.2.2.1
  have h8 := hv.j8
  unfold sp_X10_isNoJoiner sp_X10_isNo
  rw [from_q (by omega) hq (by rw [dec_i hv.ci.2.2.2.2.1, hc]), if_neg (by decide)]
  exact is_none rfl (is_none (start_ok M) rfl)
theorem leave_lp {B D : Nat} {q : Nat} (QS QM : STT) (p1 : Int32) (x1 x4 : Int32 × STT) (hjat : (sp_X5_joinerAt QS p1).2 = q) (hp : p1.toNatClampNeg = q) : ∀ (k i : Nat) (S M : STT), i + k = 12 → RC B D S M → q < (M 0 0 0).toNatClampNeg → ∃ M', lp_X10_leave_51 QM p1 x1 x4 k i M = some M' ∧ RC B D (lp_X5_leave_30 QS p1 k i S) M' ∧ (∀ f, f ≠ 27 → M' f = M f) := by
  intro k
  induction k with
  | zero => intro i S M h hC hj; exact ⟨M, rfl, hC, fun f _ => rfl⟩
  | succ k ih =>
    intro i S M h hC hj
    have hv := hC.iv
    have hi : i < 12 := by omega
    rw [lp_X10_leave_51, lp_X5_leave_30, hjat, hp, is_fun M q 0 hi, hC.rw.r24, hC.bq q hj]
    by_cases hq : qb (M 6 q 0) i = true
    · have e0 : sp_X1_isIn M q (nI i) 0 = if M 24 q i = 0 then 1 else 0 := by
        rw [isIn_eq M q 0 hi]
        by_cases c : M 24 q i = 0
        · rw [if_pos c, if_pos ((stepsIn_iff M q 0 hi).mpr ⟨c, hq⟩)]
        · rw [if_neg c, if_neg (fun z => c ((stepsIn_iff M q 0 hi).mp z).1)]
      rw [e0]
      by_cases c : M 24 q i = 0
      · rw [if_pos c, if_neg (by decide), if_pos c]
        obtain ⟨M', x1, x2, x3⟩ := ih (i + 1) _ (up3 M 27 q i (-1)) (by omega) (hC.free hj hi) hj
        exact ⟨M', x1, x2, fun f hf => (x3 f hf).trans (up3_f hf)⟩
      · rw [if_neg c, if_pos rfl, if_neg c]
        exact ih (i + 1) S M (by omega) hC hj
    · have b : M 27 q i = -1 := by
        rcases hv.bk q hj i hi with b | ⟨-, -, b⟩
        · exact b
        · exact absurd b hq
      have c0 : sp_X1_isIn M q (nI i) 0 = 0 := (isIn_zero hi).mpr fun z => hq ((stepsIn_iff M q 0 hi).mp z).2
      have es : up3 (sp_X4_release S (M 27 q i)) 27 q i (-1) = S := by
        rw [b, release_none]
        have k := congrFun (hC.bq q hj) i
        rw [← b, ← k]; exact set_id
      rw [if_pos c0, es, ite_self]
      exact ih (i + 1) S M (by omega) hC hj
theorem s_leave : st_leave RLn := by
  intro r S M hr h p1
  have hN := h.th (v := 0)
  have R := h.1.rw
  have hv := h.1.iv
  have hj8 := hv.j8
  rcases in_or p1 (M 0 0 0).toNatClampNeg with o | ⟨q, hq, rfl⟩
  · refine out_bad h 1 1 ?_ ?_ rfl (by decide)
    · rw [un_X5_leave]; unfold rw_X5_leave; rw [jat_out hv R o]; rfl
    · unfold sp_X10_leave; exact bind_no (noJ_out hv o) rfl
  have hja := jat_in hv R hq
  by_cases c : M 6 q 2 = 0
  case neg =>
    refine out_bad h 3 2 ?_ ?_ rfl (by decide)
    · rw [un_X5_leave]; unfold rw_X5_leave; rw [hja, R.r6, if_pos rfl, if_neg c]
    · unfold sp_X10_leave
      refine bind_ok (noJ_in hv hq) ?_
      rw [if_neg (q_ix hq (by omega)), q_cl (by omega)]
      refine bind_no (N := up3 M 40 0 0 2) ?_ rfl
      show sp_X10_refuse (up3 M 40 0 0 0) (M 6 q 2) 2 = _
      rw [refuse_eq M _ (by decide), if_neg c]
  have hn' := hN.next
  have hC : RC (500 * (r + 1)) (199 + 30 * (r + 1)) (up3 S 6 q 2 1) (up3 (up3 M 40 0 0 0) 6 q 2 1) := hn'.1.left6 hq
  obtain ⟨M1, a1, a2, a3⟩ := leave_lp S M (nI q) (0, up3 M 40 0 0 0) (0, up3 M 40 0 0 0) (by rw [hja]) (q_cl (by omega)) 12 0 (up3 S 6 q 2 1) (up3 (up3 M 40 0 0 0) 6 q 2 1) (by omega) hC hq
  have hR : RN (up3 (up3 M 40 0 0 0) 6 q 2 1) := by
    intro j hj hl k hk hs
    have hl : (up3 (up3 M 40 0 0 0) 6 q 2 1) 6 j 2 = 0 := hl
    rw [up3_24] at hl
    by_cases z : j = q ∧ 2 = 2
    · rw [if_pos z] at hl; exact absurd hl (by decide)
    · rw [if_neg z] at hl; exact h.2.2 j hj hl k hk hs
  have hT1 : TH M1 := TH.same (show TH (up3 (up3 M 40 0 0 0) 6 q 2 1) from h.2.1) (a3 0 (by decide)) (a3 2 (by decide)) (a3 16 (by decide)) (a3 41 (by decide))
  have hR1 : RN M1 := RN.same hR (a3 0 (by decide)) (a3 6 (by decide)) (a3 24 (by decide)) (a3 25 (by decide)) (a3 26 (by decide))
  obtain ⟨M', b1, b2, b3⟩ := bookAll_eq a2 hT1
  refine out_ok (a := sp_X1_countIn (sp_X5_bookAll (lp_X5_leave_30 S (nI q) 12 0 (up3 S 6 q 2 1))) q 1 + sp_X1_countIn (sp_X5_bookAll (lp_X5_leave_30 S (nI q) 12 0 (up3 S 6 q 2 1))) q 2) (S' := sp_X5_bookAll (lp_X5_leave_30 S (nI q) 12 0 (up3 S 6 q 2 1))) (M' := M') ?_ ?_ ?_ rfl ?_
  · rw [un_X5_leave]; unfold rw_X5_leave; rw [hja, R.r6, if_pos rfl, if_pos c]
  · unfold sp_X10_leave
    refine bind_ok (noJ_in hv hq) ?_
    rw [if_neg (q_ix hq (by omega))]
    refine bind_ok (N := up3 M 40 0 0 0) ?_ ?_
    · rw [q_cl (by omega)]
      show sp_X10_refuse (up3 M 40 0 0 0) (M 6 q 2) 2 = _
      rw [refuse_eq M _ (by decide), if_pos c]
    · rw [q_cl (i := q) (by omega)]
      refine is_none a1 (is_none b1 (is_none (in_eq M' q 1) (is_none (in_eq M' q 2) ?_)))
      rw [countIn_cong (S := sp_X5_bookAll (lp_X5_leave_30 S (nI q) 12 0 (up3 S 6 q 2 1))) (T := M') (by rw [b2.rw.r6]) (by rw [b2.rw.r24]), countIn_cong (S := sp_X5_bookAll (lp_X5_leave_30 S (nI q) 12 0 (up3 S 6 q 2 1))) (T := M') (by rw [b2.rw.r6]) (by rw [b2.rw.r24])]
  · rw [b3 40 (by decide), a3 40 (by decide)]; rfl
  · exact ⟨b2, TH.same hT1 (b3 0 (by decide)) (b3 2 (by decide)) (b3 16 (by decide)) (b3 41 (by decide)), RN.same hR1 (b3 0 (by decide)) (b3 6 (by decide)) (b3 24 (by decide)) (b3 25 (by decide)) (b3 26 (by decide))⟩
theorem s_day : st_day RLn := by
  intro r S M hr h
  have hN := h.th (v := 0)
  have R := h.1.rw
  have hv := h.1.iv
  have hj8 := hv.j8
  have ho := hv.o20
  by_cases c : M 0 0 1 = 199
  · refine out_bad h 3 1 ?_ ?_ rfl (by decide)
    · rw [un_X5_day]; unfold rw_X5_day; rw [R.r0, c, if_neg (by decide)]
    · unfold sp_X10_day; rw [if_pos c]; exact bind_no (start_no M) rfl
  have t1 := hv.t1
  have ht : (M 0 0 1).toInt < 199 := by
    have : ¬ (M 0 0 1).toInt = 199 := fun z => c (Int32.toInt_inj.mp z)
    omega
  have et := tom hv
  have hC0 : RC (500 * r) (199 + 30 * r) (up3 S 0 0 1 (M 0 0 1 + 1)) (up3 (up3 M 40 0 0 0) 0 0 1 (M 0 0 1 + 1)) := hN.1.tick ht
  obtain ⟨M1, a1, a2, a3, a4⟩ := receive_lp (B := 500 * r) (by omega) M (0, up3 M 40 0 0 0) (M 0 0 1 + 1) (M 2 0 0).toNatClampNeg 0 (up3 S 0 0 1 (M 0 0 1 + 1)) (up3 (up3 M 40 0 0 0) 0 0 1 (M 0 0 1 + 1)) (Nat.zero_add _) rfl hC0 (fun a ha => ⟨fun z => by omega, fun _ => by
    show M 41 0 a = 0 ↔ M 0 0 1 + 1 ≤ M 16 0 a
    rw [h.2.1 a ha, Int32.le_iff_toInt_le, Int32.le_iff_toInt_le, et]; omega⟩)
  have q0 : M1 0 = (up3 M 0 0 1 (M 0 0 1 + 1)) 0 := a4 0 (by decide) (by decide)
  have q01 : M1 0 0 1 = M 0 0 1 + 1 := by rw [q0, up3_e]
  have q00 : M1 0 0 0 = M 0 0 0 := by rw [q0]; rfl
  have q1 : M1 1 = M 1 := a4 1 (by decide) (by decide)
  obtain ⟨M2, b1, b2, b3, b4⟩ := finishAll_lp (B := 500 * r + 20 * (0 + (M 2 0 0).toNatClampNeg)) (D := 199 + 30 * r) M M1 (0, up3 M 40 0 0 0) (M 0 0 0).toNatClampNeg 0 0 (lp_X3_receive_2 (M 0 0 1 + 1) (M 2 0 0).toNatClampNeg 0 (up3 S 0 0 1 (M 0 0 1 + 1))) M1 (by rw [q00, Nat.zero_add]) (by rw [q1]) a2 (fun a ha hla b hb hs => ⟨by
    rw [q00] at ha
    rw [a4 6 (by decide) (by decide)] at hla
    rw [a4 24 (by decide) (by decide)] at hs
    rw [q01, et, a4 25 (by decide) (by decide), a4 26 (by decide) (by decide)]
    have := h.2.2 a ha hla b hb hs
    exact Int.add_one_le_of_lt this, fun z => by omega⟩)
  obtain ⟨M3, c1, c2, c3, c4⟩ := beginAll_lp (B := 500 * r + 20 * (0 + (M 2 0 0).toNatClampNeg)) (D := 199 + 30 * r) M M1 M2 (lp_X5_day_45 (M 0 0 0).toNatClampNeg 0 0 (lp_X3_receive_2 (M 0 0 1 + 1) (M 2 0 0).toNatClampNeg 0 (up3 S 0 0 1 (M 0 0 1 + 1)))).1 (0, up3 M 40 0 0 0) (M 0 0 0).toNatClampNeg 0 _ M2 (by rw [b4 0 (by decide), q00, Nat.zero_add]) (by rw [b4 1 (by decide), q1]) b2 b3
  have w0 : M3 0 = M1 0 := (c4 0 (by decide) (by decide) (by decide) (by decide)).trans (b4 0 (by decide))
  have w1 : M3 1 = M1 1 := (c4 1 (by decide) (by decide) (by decide) (by decide)).trans (b4 1 (by decide))
  obtain ⟨M4, d1, d2, d3⟩ := loseAll_lp (B := 500 * r + 20 * (0 + (M 2 0 0).toNatClampNeg)) (D := 199 + 30 * r) M M1 M2 M3 (lp_X5_day_45 (M 0 0 0).toNatClampNeg 0 0 (lp_X3_receive_2 (M 0 0 1 + 1) (M 2 0 0).toNatClampNeg 0 (up3 S 0 0 1 (M 0 0 1 + 1)))).1 (0, up3 M 40 0 0 0) (M 0 0 0).toNatClampNeg 0 _ M3 (by rw [w0, q00, Nat.zero_add]) (by rw [w1, q1]) c2
  have rows : ∀ f, f ≠ 13 → f ≠ 24 → f ≠ 25 → f ≠ 26 → f ≠ 27 → f ≠ 28 → M4 f = M1 f := fun f y1 y2 y3 y4 y5 y6 => (d3 f y5 y6).trans ((c4 f y1 y2 y3 y4).trans (b4 f y2))
  have hT4 : TH M4 := a3.same (rows 0 (by decide) (by decide) (by decide) (by decide) (by decide) (by decide)) (rows 2 (by decide) (by decide) (by decide) (by decide) (by decide) (by decide)) (rows 16 (by decide) (by decide) (by decide) (by decide) (by decide) (by decide)) (rows 41 (by decide) (by decide) (by decide) (by decide) (by decide) (by decide))
  have hR4 : RN M4 := c3.same (d3 0 (by decide) (by decide)) (d3 6 (by decide) (by decide)) (d3 24 (by decide) (by decide)) (d3 25 (by decide) (by decide)) (d3 26 (by decide) (by decide))
  obtain ⟨M5, e1, e2, e3⟩ := bookAll_eq d2 hT4
  have hR5 : RN M5 := hR4.same (e3 0 (by decide)) (e3 6 (by decide)) (e3 24 (by decide)) (e3 25 (by decide)) (e3 26 (by decide))
  have hT5 : TH M5 := hT4.same (e3 0 (by decide)) (e3 2 (by decide)) (e3 16 (by decide)) (e3 41 (by decide))
  have z0 : M5 0 = M1 0 := (e3 0 (by decide)).trans (rows 0 (by decide) (by decide) (by decide) (by decide) (by decide) (by decide))
  obtain ⟨M6, g1, g2, g3, g4⟩ := takeAll_lp (D := 199 + 30 * r) M M1 M2 M3 M4 M5 (lp_X5_day_45 (M 0 0 0).toNatClampNeg 0 0 (lp_X3_receive_2 (M 0 0 1 + 1) (M 2 0 0).toNatClampNeg 0 (up3 S 0 0 1 (M 0 0 1 + 1)))).1 (0, up3 M 40 0 0 0) (M 0 0 0).toNatClampNeg 0 (500 * r + 20 * (0 + (M 2 0 0).toNatClampNeg)) _ M5 (by omega) (by rw [z0, q00, Nat.zero_add]) e2 hR5
  refine out_ok (a := (lp_X5_day_45 (M 0 0 0).toNatClampNeg 0 0 (lp_X3_receive_2 (M 0 0 1 + 1) (M 2 0 0).toNatClampNeg 0 (up3 S 0 0 1 (M 0 0 1 + 1)))).1) (M' := M6) ?_ ?_ ?_ rfl ⟨g2.mono (by omega) (by omega), hT5.same (g4 0 (by decide) (by decide)) (g4 2 (by decide) (by decide)) (g4 16 (by decide) (by decide)) (g4 41 (by decide) (by decide)), g3⟩
  · rw [un_X5_day]; unfold rw_X5_day
    rw [R.r0, if_pos (by rw [Int32.lt_iff_toInt_lt]; exact ht), un_X3_receive]
    unfold rw_X3_receive
    rw [up3_e, up3_f (f := 0) (f' := 2) (by decide), R.r2]
  · unfold sp_X10_day
    rw [if_neg c]
    refine bind_ok (start_ok M) ?_
    refine is_none a1 ?_
    refine is_none (x := lp_X10_day_117 M (0, up3 M 40 0 0 0) M1 (M 0 0 0).toNatClampNeg 0 0 M1) b1 ?_
    refine is_none c1 (is_none d1 (is_none e1 (is_none g1 rfl)))
  · rw [g4 40 (by decide) (by decide), e3 40 (by decide), rows 40 (by decide) (by decide) (by decide) (by decide) (by decide) (by decide), a4 40 (by decide) (by decide)]; rfl
end PLAINP
