section PLAINN
theorem bind_ok {α β : Type} {x : Option (Int32 × α)} {N : α} {A C : Int32 × α → Option β} {w : Option β} (h : x = some (0, N)) (h2 : A (0, N) = w) : (x.bind fun y => if y.1 = 0 then A y else C y) = w := by
  rw [h]
  show (if (0 : Int32) = 0 then A (0, N) else C (0, N)) = w
  rw [if_pos rfl]; exact h2
theorem bind_no {α β : Type} {x : Option (Int32 × α)} {N : α} {A C : Int32 × α → Option β} {w : Option β} (h : x = some (1, N)) (h2 : C (1, N) = w) : (x.bind fun y => if y.1 = 0 then A y else C y) = w := by
  rw [h]
  show (if (1 : Int32) = 0 then A (1, N) else C (1, N)) = w
  rw [if_neg (by decide)]; exact h2
section
variable {B D : Nat} {S M : STT}
theorem RC.put11 {q : Nat} {p : Int32} (h : RC B D S M) (hp : lb p (M 1 0 0).toNatClampNeg) : RC B D (up3 S 11 0 q p) (up3 M 11 0 q p) := by
  have v := h.iv
  refine ⟨⟨v.ci, v.t0, v.t1, v.ln, v.nd, v.fm, v.kt, fun i hi => ?_, v.rt, v.sk, v.oi, v.om, v.js, v.bk, v.ss, v.bg⟩, h.rw.up, h.bq, h.fr, h.tk, h.sb, h.db, h.bh, h.lh⟩
  show lb ((up3 M 11 0 q p) 11 0 i) (M 1 0 0).toNatClampNeg
  rw [up3_24]; split
  · exact hp
  · exact v.rl i hi
theorem RC.m42 {o k : Nat} {x : Int32} (h : RC B D S M) : RC B D S (up3 M 42 o k x) :=
  ⟨h.iv, fun f hf => (h.rw f hf).trans (up3_f (rr_ne hf).2.2.2.2.2.2.2.2).symm, h.bq, h.fr, h.tk, h.sb, h.db, h.bh, h.lh⟩
theorem RC.put16 {D' q : Nat} {x : Int32} (h : RC B D S M) (h0 : 0 ≤ x.toInt) (h1 : x.toInt ≤ D') (hD : D ≤ D') : RC B D' (up3 S 16 0 q x) (up3 M 16 0 q x) := by
  have v := h.iv
  refine ⟨⟨v.ci, v.t0, v.t1, v.ln, v.nd, v.fm, v.kt, v.rl, v.rt, v.sk, v.oi, v.om, v.js, v.bk, v.ss, v.bg⟩, h.rw.up, h.bq, h.fr, h.tk, h.sb, fun i hi => ?_, h.bh, h.lh⟩
  rw [up3_24]; split
  · exact ⟨h0, h1⟩
  · have := h.db i hi; omega
theorem RC.addOrder {n q : Nat} {p2 p3 x : Int32} (h : RC B D S M) (hn : n = (M 2 0 0).toNatClampNeg) (hlt : n < 20) (hq : q < 4) (h2 : 1 ≤ p2.toInt ∧ p2.toInt ≤ 20) (h3 : 0 ≤ p3.toInt ∧ p3.toInt ≤ D) : RC B D (up3 (up3 (up3 (up3 S 14 0 n (nI q)) 15 0 n p2) 16 0 n p3) 2 0 0 (nI (n + 1))) (up3 (up3 (up3 (up3 (up3 (up3 M 14 0 n (nI q)) 15 0 n p2) 16 0 n p3) 41 0 n 0) 42 2 0 x) 2 0 0 (nI (n + 1))) := by
  have v := h.iv
  have r : RW (up3 (up3 (up3 (up3 S 14 0 n (nI q)) 15 0 n p2) 16 0 n p3) 2 0 0 (nI (n + 1))) (up3 (up3 (up3 (up3 (up3 (up3 M 14 0 n (nI q)) 15 0 n p2) 16 0 n p3) 41 0 n 0) 42 2 0 x) 2 0 0 (nI (n + 1))) := by
    refine RW.up fun f hf => ?_
    rw [up3_f (rr_ne hf).2.2.2.2.2.2.2.2, up3_f (rr_ne hf).2.2.2.2.2.2.2.1]
    exact h.rw.up.up.up f hf
  have e1 : (nI (n + 1)).toInt = ((n + 1 : Nat) : Int) := nI_toInt (by omega)
  have e2 : (nI (n + 1)).toNatClampNeg = n + 1 := q_cl (by omega)
  refine ⟨⟨⟨v.ci.1, v.ci.2.1, ⟨?_, ?_⟩, v.ci.2.2.2⟩, v.t0, v.t1, v.ln, v.nd, v.fm, v.kt, v.rl, v.rt, v.sk, fun i hi => ?_, fun i hi => ?_, v.js, v.bk, v.ss, v.bg⟩, r, h.bq, h.fr, h.tk, h.sb, fun i hi => ?_, h.bh, h.lh⟩
  · show 0 ≤ (nI (n + 1)).toInt; omega
  · show (nI (n + 1)).toInt ≤ 20; omega
  · have hi : i < (nI (n + 1)).toNatClampNeg := hi
    show 0 ≤ ((up3 M 14 0 n (nI q)) 14 0 i).toInt ∧ ((up3 M 14 0 n (nI q)) 14 0 i).toInt ≤ 3
    rw [up3_24]
    by_cases c : i = n
    · rw [if_pos ⟨rfl, c⟩, nI_toInt (by omega)]; omega
    · rw [if_neg (fun z => c z.2)]; exact v.oi i (by omega)
  · have hi : i < (nI (n + 1)).toNatClampNeg := hi
    show 1 ≤ ((up3 M 15 0 n p2) 15 0 i).toInt ∧ ((up3 M 15 0 n p2) 15 0 i).toInt ≤ 20
    rw [up3_24]
    by_cases c : i = n
    · rw [if_pos ⟨rfl, c⟩]; exact h2
    · rw [if_neg (fun z => c z.2)]; exact v.om i (by omega)
  · have hi : i < (nI (n + 1)).toNatClampNeg := hi
    show 0 ≤ ((up3 M 16 0 n p3) 16 0 i).toInt ∧ ((up3 M 16 0 n p3) 16 0 i).toInt ≤ D
    rw [up3_24]
    by_cases c : i = n
    · rw [if_pos ⟨rfl, c⟩]; exact h3
    · rw [if_neg (fun z => c z.2)]; exact h.db i (by omega)
theorem RC.addRight {n : Nat} {p x : Int32} (h : RC B D S M) (hn : n = (M 1 0 1).toNatClampNeg) (hlt : n < 6) (hp : lb p (M 1 0 0).toNatClampNeg) : RC B D (up3 (up3 S 12 0 n p) 1 0 1 (nI (n + 1))) (up3 (up3 (up3 M 12 0 n p) 42 1 0 x) 1 0 1 (nI (n + 1))) := by
  have v := h.iv
  have r : RW (up3 (up3 S 12 0 n p) 1 0 1 (nI (n + 1))) (up3 (up3 (up3 M 12 0 n p) 42 1 0 x) 1 0 1 (nI (n + 1))) := by
    refine RW.up fun f hf => ?_
    rw [up3_f (rr_ne hf).2.2.2.2.2.2.2.2]
    exact h.rw.up f hf
  have e1 : (nI (n + 1)).toInt = ((n + 1 : Nat) : Int) := nI_toInt (by omega)
  have e2 : (nI (n + 1)).toNatClampNeg = n + 1 := q_cl (by omega)
  refine ⟨⟨⟨v.ci.1, ⟨?_, ?_⟩, v.ci.2.2⟩, v.t0, v.t1, v.ln, v.nd, v.fm, v.kt, v.rl, fun i hi => ?_, v.sk, v.oi, v.om, v.js, v.bk, v.ss, v.bg⟩, r, h.bq, h.fr, h.tk, h.sb, h.db, h.bh, h.lh⟩
  · show 0 ≤ (nI (n + 1)).toInt; omega
  · show (nI (n + 1)).toInt ≤ 6; omega
  · have hi : i < (nI (n + 1)).toNatClampNeg := hi
    show lb ((up3 M 12 0 n p) 12 0 i) (M 1 0 0).toNatClampNeg
    rw [up3_24]
    by_cases c : i = n
    · rw [if_pos ⟨rfl, c⟩]; exact hp
    · rw [if_neg (fun z => c z.2)]; exact v.rt i (by omega)
theorem RC.addSession {n : Nat} {p1 p2 p3 x : Int32} (h : RC B D S M) (hn : n = (M 3 0 0).toNatClampNeg) (hlt : n < 20) : RC B D (up3 (up3 (up3 (up3 S 17 0 n p1) 18 0 n p2) 19 0 n p3) 3 0 0 (nI (n + 1))) (up3 (up3 (up3 (up3 (up3 M 17 0 n p1) 18 0 n p2) 19 0 n p3) 42 3 0 x) 3 0 0 (nI (n + 1))) := by
  have v := h.iv
  have r : RW (up3 (up3 (up3 (up3 S 17 0 n p1) 18 0 n p2) 19 0 n p3) 3 0 0 (nI (n + 1))) (up3 (up3 (up3 (up3 (up3 M 17 0 n p1) 18 0 n p2) 19 0 n p3) 42 3 0 x) 3 0 0 (nI (n + 1))) := by
    refine RW.up fun f hf => ?_
    rw [up3_f (rr_ne hf).2.2.2.2.2.2.2.2]
    exact h.rw.up.up.up f hf
  have e1 : (nI (n + 1)).toInt = ((n + 1 : Nat) : Int) := nI_toInt (by omega)
  have e3 := cnt_i v.ci.2.2.2.1.1
  refine ⟨⟨⟨v.ci.1, v.ci.2.1, v.ci.2.2.1, ⟨?_, ?_⟩, v.ci.2.2.2.2⟩, v.t0, v.t1, v.ln, v.nd, v.fm, v.kt, v.rl, v.rt, v.sk, v.oi, v.om, v.js, fun j hj k hk => ?_, v.ss, v.bg⟩, r, h.bq, h.fr, h.tk, h.sb, h.db, h.bh, h.lh⟩
  · show 0 ≤ (nI (n + 1)).toInt; omega
  · show (nI (n + 1)).toInt ≤ 20; omega
  · show M 27 j k = -1 ∨ (0 ≤ (M 27 j k).toInt ∧ (M 27 j k).toInt < (nI (n + 1)).toInt ∧ qb (M 6 j 0) k = true)
    rcases v.bk j hj k hk with b | ⟨b0, b1, b2⟩
    · exact .inl b
    · exact .inr ⟨b0, by omega, b2⟩
theorem RC.addStep {n : Nat} {p1 p2 p3 p4 x : Int32} (h : RC B D S M) (hn : n = (M 1 0 0).toNatClampNeg) (hlt : n < 12) (h2 : 1 ≤ p2.toInt ∧ p2.toInt ≤ 9) (h3 : lb p3 n) (h4 : p1 = 0 → lb p4 8) (h5 : p1 = 1 → 0 ≤ p4.toInt ∧ p4.toInt ≤ 3) : RC B D (up3 (up3 (up3 (up3 (up3 S 7 0 n p1) 8 0 n p2) 9 0 n p3) 10 0 n p4) 1 0 0 (nI (n + 1))) (up3 (up3 (up3 (up3 (up3 (up3 M 7 0 n p1) 8 0 n p2) 9 0 n p3) 10 0 n p4) 42 0 0 x) 1 0 0 (nI (n + 1))) := by
  have v := h.iv
  have r : RW (up3 (up3 (up3 (up3 (up3 S 7 0 n p1) 8 0 n p2) 9 0 n p3) 10 0 n p4) 1 0 0 (nI (n + 1))) (up3 (up3 (up3 (up3 (up3 (up3 M 7 0 n p1) 8 0 n p2) 9 0 n p3) 10 0 n p4) 42 0 0 x) 1 0 0 (nI (n + 1))) := by
    refine RW.up fun f hf => ?_
    rw [up3_f (rr_ne hf).2.2.2.2.2.2.2.2]
    exact h.rw.up.up.up.up f hf
  have e1 : (nI (n + 1)).toInt = ((n + 1 : Nat) : Int) := nI_toInt (by omega)
  have e2 : (nI (n + 1)).toNatClampNeg = n + 1 := q_cl (by omega)
  have mono : ∀ {p : Int32}, lb p (M 1 0 0).toNatClampNeg → lb p (nI (n + 1)).toNatClampNeg := fun hp => lb_mono hp (by omega)
  refine ⟨⟨⟨⟨?_, ?_⟩, v.ci.2⟩, v.t0, v.t1, fun i hi => ?_, fun i hi => ?_, fun i hi => ?_, fun i hi => ?_, fun i hi => mono (v.rl i hi), fun i hi => mono (v.rt i hi), v.sk, v.oi, v.om, fun j hj => mono (v.js j hj), v.bk, v.ss, v.bg⟩, r, h.bq, h.fr, h.tk, h.sb, h.db, h.bh, h.lh⟩
  · show 0 ≤ (nI (n + 1)).toInt; omega
  · show (nI (n + 1)).toInt ≤ 12; omega
  · have hi : i < (nI (n + 1)).toNatClampNeg := hi
    show 1 ≤ ((up3 M 8 0 n p2) 8 0 i).toInt ∧ ((up3 M 8 0 n p2) 8 0 i).toInt ≤ 9
    rw [up3_24]
    by_cases c : i = n
    · rw [if_pos ⟨rfl, c⟩]; exact h2
    · rw [if_neg (fun z => c z.2)]; exact v.ln i (by omega)
  · have hi : i < (nI (n + 1)).toNatClampNeg := hi
    show lb ((up3 M 9 0 n p3) 9 0 i) i
    rw [up3_24]
    by_cases c : i = n
    · rw [if_pos ⟨rfl, c⟩, c]; exact h3
    · rw [if_neg (fun z => c z.2)]; exact v.nd i (by omega)
  · have hi : i < (nI (n + 1)).toNatClampNeg := hi
    show (up3 M 7 0 n p1) 7 0 i = 0 → lb ((up3 M 10 0 n p4) 10 0 i) 8
    rw [up3_24, up3_24]
    by_cases c : i = n
    · rw [if_pos ⟨rfl, c⟩, if_pos ⟨rfl, c⟩]; exact h4
    · rw [if_neg (fun z => c z.2), if_neg (fun z => c z.2)]; exact v.fm i (by omega)
  · have hi : i < (nI (n + 1)).toNatClampNeg := hi
    show (up3 M 7 0 n p1) 7 0 i = 1 → 0 ≤ ((up3 M 10 0 n p4) 10 0 i).toInt ∧ ((up3 M 10 0 n p4) 10 0 i).toInt ≤ 3
    rw [up3_24, up3_24]
    by_cases c : i = n
    · rw [if_pos ⟨rfl, c⟩, if_pos ⟨rfl, c⟩]; exact h5
    · rw [if_neg (fun z => c z.2), if_neg (fun z => c z.2)]; exact v.kt i (by omega)
end
theorem s_role : st_role RLn := by
  intro r S M _ h p1 p2
  have hN := h.th (v := 0)
  have R := h.1.rw
  rcases in_or p1 4 with o | ⟨q, hq, rfl⟩
  · refine out_bad h 1 1 ?_ ?_ rfl (by decide)
    · rw [un_X5_role]; unfold rw_X5_role; exact ite_out (n := 4) o rfl _ _
    · unfold sp_X10_role; rw [noRole_out o]; exact bind_no (start_no M) rfl
  · have s : sp_X10_start M (sp_X10_isNoRole (nI q)) 1 = some (0, up3 M 40 0 0 0) := by rw [noRole_q hq]; exact start_ok M
    by_cases c : sp_X2_knows S p2 = 0
    · refine out_bad h 2 2 ?_ ?_ rfl (by decide)
      · rw [un_X5_role]; unfold rw_X5_role; rw [ite_in (n := 4) hq (by decide) rfl, if_pos c]
      · unfold sp_X10_role
        refine bind_ok s (is_none (noSet_eq hN.1.iv hN.1.rw p2) ?_)
        rw [if_pos c]; exact bind_no (ref_no M (by decide)) rfl
    · refine out_ok (a := M 11 0 q) (S' := up3 S 11 0 q p2) (M' := up3 (up3 M 40 0 0 0) 11 0 q p2) ?_ ?_ rfl rfl ?_
      · rw [un_X5_role]; unfold rw_X5_role; rw [ite_in (n := 4) hq (by decide) rfl, if_neg c, q_cl (by omega), R.r11]
      · unfold sp_X10_role
        refine bind_ok s (is_none (noSet_eq hN.1.iv hN.1.rw p2) ?_)
        rw [if_neg c]
        refine bind_ok (ref_ok M (by decide)) ?_
        rw [if_neg (q_ix hq (by decide)), q_cl (by omega)]; rfl
      · have hn := hN.next
        exact ⟨hn.1.put11 (knows_lb hN.1.iv hN.1.rw c), hn.2.1, hn.2.2⟩
theorem s_stock : st_stock RLn := by
  intro r S M hr h p1 p2
  have hN := h.th (v := 0)
  have R := h.1.rw
  rcases in_or p1 4 with o | ⟨q, hq, rfl⟩
  · refine out_bad h 1 1 ?_ ?_ rfl (by decide)
    · rw [un_X5_stock]; unfold rw_X5_stock; exact ite_out (n := 4) o rfl _ _
    · unfold sp_X10_stock; rw [noItem_out o]; exact bind_no (start_no M) rfl
  · have s : sp_X10_start M (sp_X10_isNoItem (nI q)) 1 = some (0, up3 M 40 0 0 0) := by rw [noItem_q hq]; exact start_ok M
    by_cases c : sp_X5_isWithin p2 1 20 = 0
    · refine out_bad h 2 2 ?_ ?_ rfl (by decide)
      · rw [un_X5_stock]; unfold rw_X5_stock; rw [ite_in (n := 4) hq (by decide) rfl, if_pos c]
      · unfold sp_X10_stock
        refine bind_ok s ?_
        rw [isFrom_within, if_pos c]; exact bind_no (ref_no M (by decide)) rfl
    · obtain ⟨w0, w1⟩ := within_i c
      have e1 : (1 : Int32).toInt = 1 := rfl
      have e20 : (20 : Int32).toInt = 20 := rfl
      have s0 := h.1.iv.sk q hq
      have s1 := h.1.sb q hq
      have es : (M 13 0 q + p2).toInt = (M 13 0 q).toInt + p2.toInt := add_i (by omega) (by omega)
      refine out_ok (a := M 13 0 q + p2) (S' := up3 S 13 0 q (M 13 0 q + p2)) (M' := up3 (up3 M 40 0 0 0) 13 0 q (M 13 0 q + p2)) ?_ ?_ rfl rfl ?_
      · rw [un_X5_stock]; unfold rw_X5_stock; rw [ite_in (n := 4) hq (by decide) rfl, if_neg c, q_cl (by omega), putIn_eq hq, R.r13, up3_e]
      · unfold sp_X10_stock
        refine bind_ok s ?_
        rw [isFrom_within, if_neg c]
        refine bind_ok (ref_ok M (by decide)) ?_
        rw [if_neg (q_ix hq (by decide)), q_cl (by omega), up3_e]; rfl
      · have hn := hN.next
        exact ⟨hN.1.stock (by omega) (by omega) (by omega) |>.mono (Nat.le_refl _) (by omega), hn.2.1, hn.2.2⟩
theorem add_set (T : STT) (n : Nat) (f k : Nat) (x : Int32) : up3 T f 0 k x f 0 k = x := up3_e
theorem n_full {x : Int32} {n : Nat} (h0 : 0 ≤ x.toInt) (hn : n < 2 ^ 20) : (x = nI n) ↔ x.toNatClampNeg = n := by
  constructor
  · rintro rfl; exact q_cl hn
  · intro z; rw [cn_eq h0, z]
theorem s_order : st_order RLn := by
  intro r S M hr h p1 p2 p3
  have hN := h.th (v := 0)
  have R := h.1.rw
  have hv := h.1.iv
  have ho := hv.o20
  have hc := cn_eq hv.ci.2.2.1.1
  have hfull := n_full (n := 20) hv.ci.2.2.1.1 (by decide)
  rcases in_or p1 4 with o | ⟨q, hq, rfl⟩
  · refine out_bad h 1 1 ?_ ?_ rfl (by decide)
    · rw [un_X5_order]; unfold rw_X5_order; exact ite_out (n := 4) o rfl _ _
    · unfold sp_X10_order; rw [noItem_out o]; exact bind_no (start_no M) rfl
  · have s : sp_X10_start M (sp_X10_isNoItem (nI q)) 1 = some (0, up3 M 40 0 0 0) := by rw [noItem_q hq]; exact start_ok M
    by_cases c : sp_X5_isWithin p2 1 20 = 0
    · refine out_bad h 2 2 ?_ ?_ rfl (by decide)
      · rw [un_X5_order]; unfold rw_X5_order; rw [ite_in (n := 4) hq (by decide) rfl, if_pos c]
      · unfold sp_X10_order
        refine bind_ok s ?_
        rw [isFrom_within, if_pos c]; exact bind_no (ref_no M (by decide)) rfl
    · by_cases d : sp_X5_isAhead S p3 = 0
      · refine out_bad h 2 2 ?_ ?_ rfl (by decide)
        · rw [un_X5_order]; unfold rw_X5_order; rw [ite_in (n := 4) hq (by decide) rfl, if_neg c, if_pos d]
        · unfold sp_X10_order
          refine bind_ok s ?_
          rw [isFrom_within, if_neg c]
          refine is_none (noDay_eq hN.1.iv hN.1.rw p3) ?_
          rw [if_pos d, if_neg (by decide)]; exact bind_no (ref_no M (by decide)) rfl
      · by_cases e : (M 2 0 0).toNatClampNeg = 20
        · refine out_bad h 3 3 ?_ ?_ rfl (by decide)
          · have ea : (sp_X3_addOrder S (nI q) p2 p3).1 = -1 := by
              rw [un_X3_addOrder]; unfold rw_X3_addOrder
              rw [R.r2, hc, e, if_neg (by decide)]
            rw [un_X5_order]; unfold rw_X5_order; rw [ite_in (n := 4) hq (by decide) rfl, if_neg c, if_neg d, if_pos ea]
          · unfold sp_X10_order
            refine bind_ok s ?_
            rw [isFrom_within, if_neg c]
            refine is_none (noDay_eq hN.1.iv hN.1.rw p3) ?_
            rw [if_neg d, if_pos rfl]
            refine bind_ok (ref_ok M (by decide)) ?_
            rw [if_pos (show M 2 0 0 = 20 from hfull.mpr e)]
            exact bind_no (ref_no M (by decide)) rfl
        · obtain ⟨w0, w1⟩ := within_i c
          have e1 : (1 : Int32).toInt = 1 := rfl
          have e20 : (20 : Int32).toInt = 20 := rfl
          obtain ⟨a0, a1⟩ := ahead_i R d
          have t0 := hv.t0
          obtain ⟨n, hn⟩ : ∃ n, n = (M 2 0 0).toNatClampNeg := ⟨_, rfl⟩
          rw [← hn] at hc e ho
          have hadd : sp_X3_addOrder S (nI q) p2 p3 = (nI n, up3 (up3 (up3 (up3 S 14 0 n (nI q)) 15 0 n p2) 16 0 n p3) 2 0 0 (nI (n + 1))) := by
            rw [un_X3_addOrder]; unfold rw_X3_addOrder
            rw [R.r2, hc, if_pos (show nI n < (20 : Int32) from q_lt (n := 20) (by omega) (by decide)), q_cl (i := n) (by omega), up3_e, q_succ, nI_pr]
          refine out_ok (a := nI n) (S' := up3 (up3 (up3 (up3 S 14 0 n (nI q)) 15 0 n p2) 16 0 n p3) 2 0 0 (nI (n + 1))) (M' := addS (elO (up3 M 40 0 0 0) n (nI q) p2 p3) 2 (nI (n + 1))) ?_ ?_ rfl rfl ?_
          · rw [un_X5_order]; unfold rw_X5_order; rw [ite_in (n := 4) hq (by decide) rfl, if_neg c, if_neg d, hadd, if_neg (q_m1 (by omega))]
          · unfold sp_X10_order
            refine bind_ok s ?_
            rw [isFrom_within, if_neg c]
            refine is_none (noDay_eq hN.1.iv hN.1.rw p3) ?_
            rw [if_neg d, if_pos rfl]
            refine bind_ok (ref_ok M (by decide)) ?_
            rw [if_neg (show ¬ M 2 0 0 = 20 from fun z => e (hn.trans (hfull.mp z)))]
            refine bind_ok (ref_ok M (by decide)) ?_
            rw [if_neg (show ¬ 20 ≤ (M 2 0 0).toNatClampNeg by omega), ← hn]
            show some (nI (n + 1) - 1, _) = _
            rw [nI_pr]
          · have hn' := hN.next
            refine ⟨hn'.1.addOrder (n := n) hn (by omega) hq ⟨by omega, by omega⟩ ⟨by omega, by omega⟩, fun i hi => ?_, hn'.2.2⟩
            have hi : i < (nI (n + 1)).toNatClampNeg := hi
            rw [q_cl (by omega)] at hi
            show (up3 M 41 0 n 0) 41 0 i = 0 ↔ ¬ (up3 M 16 0 n p3) 16 0 i ≤ M 0 0 1
            rw [up3_24, up3_24]
            by_cases f : i = n
            · rw [if_pos ⟨rfl, f⟩, if_pos ⟨rfl, f⟩]
              exact ⟨fun _ z => by rw [Int32.le_iff_toInt_le] at z; omega, fun _ => rfl⟩
            · rw [if_neg (fun z => f z.2), if_neg (fun z => f z.2)]
              exact h.2.1 i (by omega)
end PLAINN
