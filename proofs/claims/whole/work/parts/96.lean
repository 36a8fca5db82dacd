section PLAINR
-- the mean
theorem fore_end {r : Nat} {S N : STT} (h : RLn r S N) {q : Nat} (hq : q < (N 0 0 0).toNatClampNeg) : sp_X10_endOf N q = some (sp_X0_greatestEnd (sp_X0_foresee S q (S 0 0 1) (-1) 0) ((sp_X0_foresee S q (S 0 0 1) (-1) 0) 6 q 0)) ∧ RLn r (sp_X0_foresee S q (S 0 0 1) (-1) 0) N := by
  have et : S 0 0 1 = N 0 0 1 := by rw [h.1.rw.r0]
  rw [et]
  obtain ⟨hF, hL⟩ := fore h hq
  have e6 : sp_X0_foresee S q (N 0 0 1) (-1) 0 6 = N 6 := hF.1.1 6 rfl
  refine ⟨?_, hL⟩
  rw [e6]; exact endOf_eq h.1.iv hq hF
theorem mean_lp {r : Nat} (M : STT) : ∀ (k i : Nat) (v1 v2 : Int32) (S : STT), i + k = (M 0 0 0).toNatClampNeg → RLn r S (up3 M 40 0 0 0) → lp_X10_meanDays_17 M k i v2 v1 = some ((lp_X5_meanDays_6 k i v1 v2 S).2.1, (lp_X5_meanDays_6 k i v1 v2 S).1) ∧ RLn r (lp_X5_meanDays_6 k i v1 v2 S).2.2 (up3 M 40 0 0 0) := by
  intro k
  induction k with
  | zero => intro i v1 v2 S _ h; exact ⟨rfl, h⟩
  | succ k ih =>
    intro i v1 v2 S hk h
    obtain ⟨a, b⟩ := fore_end h (q := i) (by show i < (M 0 0 0).toNatClampNeg; omega)
    have e6 : (sp_X0_foresee S i (S 0 0 1) (-1) 0) 6 i 1 = M 6 i 1 := congrFun (congrFun (b.1.rw.r6) i) 1
    rw [lp_X10_meanDays_17, lp_X5_meanDays_6, a, e6]
    show (if _ = -1 then _ else _) = _ ∧ _
    by_cases c : sp_X0_greatestEnd (sp_X0_foresee S i (S 0 0 1) (-1) 0) ((sp_X0_foresee S i (S 0 0 1) (-1) 0) 6 i 0) = -1
    · rw [if_pos c, if_pos c]; exact ih _ _ _ _ (by omega) b
    · rw [if_neg c, if_neg c]; exact ih _ _ _ _ (by omega) b
theorem s_meanDays : st_meanDays RLn := by
  intro r S M hr h
  have hN := h.th (v := 0)
  obtain ⟨a, b⟩ := mean_lp M (M 0 0 0).toNatClampNeg 0 0 0 S (by omega) hN.next
  rw [un_X5_meanDays]
  unfold rw_X5_meanDays sp_X10_meanDays
  rw [h.1.rw.r0, a]
  show ∃ v, (if (lp_X5_meanDays_6 (M 0 0 0).toNatClampNeg 0 0 0 S).2.1 = 0 then _ else _) = some v ∧ _
  by_cases c : (lp_X5_meanDays_6 (M 0 0 0).toNatClampNeg 0 0 0 S).2.1 = 0
  · rw [if_pos c, if_pos c]; exact ⟨_, rfl, rfl, b⟩
  · rw [if_neg c, if_neg c]; exact ⟨_, rfl, rfl, b⟩
-- what would be later
theorem shift24 {r : Nat} {S N M : STT} (p1 p2 : Int32) (xx : Int32 × STT) (hx : xx.2 = N) (h : RLn r S N) (eN : Nat → Int32) (he : ∀ i, i < (N 0 0 0).toNatClampNeg → sp_X10_endOf N i = some (eN i)) : ∀ (k i : Nat) (g : Nat → Int32), i + k = (N 0 0 0).toNatClampNeg → (∀ a, a < i → g a = eN a) → ∃ g', lp_X10_shiftBy_24 M p1 p2 xx k i g = some g' ∧ ∀ a, a < (N 0 0 0).toNatClampNeg → g' a = eN a := by
  intro k
  induction k with
  | zero => intro i g hk hg; exact ⟨g, rfl, fun a ha => hg a (by omega)⟩
  | succ k ih =>
    intro i g hk hg
    rw [lp_X10_shiftBy_24, hx, he i (by omega)]
    exact ih (i + 1) (upd g i (eN i)) (by omega) (fun a ha => by
      by_cases c : a = i
      · rw [c, upd_e]
      · rw [upd_n c]; exact hg a (by omega))
theorem late_end {r : Nat} {S N : STT} (h : RLn r S N) {q : Nat} (hq : q < (N 2 0 0).toNatClampNeg) {p2 : Int32} {j : Nat} (hj : j < (N 0 0 0).toNatClampNeg) : sp_X10_endOf (up3 N 16 0 q (N 16 0 q + p2)) j = some (sp_X0_greatestEnd (sp_X0_foresee S j (S 0 0 1) (nI q) p2) ((sp_X0_foresee S j (S 0 0 1) (nI q) p2) 6 j 0)) ∧ RLn r (sp_X0_foresee S j (S 0 0 1) (nI q) p2) N := by
  have R := h.1.rw
  have hv := h.1.iv
  have ho := hv.o20
  have et : S 0 0 1 = N 0 0 1 := by rw [R.r0]
  have hO : OD S (up3 N 16 0 q (N 16 0 q + p2)) (N 0 0 1) (nI q) p2 := by
    refine ⟨R.r2.symm, R.r14.symm, fun i hi => ?_, fun i hi => ?_⟩
    · rw [R.r2] at hi
      rw [up3_24, R.r16]
      by_cases c : i = q
      · rw [if_pos ⟨rfl, c⟩, if_pos (by rw [c]), c]
      · rw [if_neg (fun z => c z.2), if_neg (fun z => c (q_inj (by omega) (by omega) z))]
    · rw [R.r2] at hi
      rw [R.r16]; exact h.2.1 i hi
  have hx : RWx S (up3 N 16 0 q (N 16 0 q + p2)) := by
    intro f hf
    have e : f ≠ 16 := fun z => by subst z; exact absurd hf (by decide)
    rw [up3_f e]; exact R.x f hf
  obtain ⟨a, b⟩ := foresee_eq (N := up3 N 16 0 q (N 16 0 q + p2)) hv.r16 hj hx (h.1.bq j hj) hO
  rw [et]
  have e6 : sp_X0_foresee S j (N 0 0 1) (nI q) p2 6 = N 6 := b.1.1 6 rfl
  refine ⟨?_, h.left (fun f hf => a f (rr_ne hf).1 (rr_ne hf).2.2.1 (rr_ne hf).2.2.2.1 (rr_ne hf).2.2.2.2.1) (a 27 (by decide) (by decide) (by decide) (by decide)) (a 20 (by decide) (by decide) (by decide) (by decide))⟩
  rw [e6]; exact endOf_eq (N := up3 N 16 0 q (N 16 0 q + p2)) hv.r16 hj b
theorem shift_lp {r : Nat} {N M : STT} {q : Nat} (hq : q < (N 2 0 0).toNatClampNeg) (hq2 : q < 2 ^ 20) (p2 : Int32) (xx : Int32 × STT) (hx : xx.2 = N) (w eN : Nat → Int32) (he : ∀ i, i < (N 0 0 0).toNatClampNeg → sp_X10_endOf N i = some (eN i)) (hw : ∀ i, i < (N 0 0 0).toNatClampNeg → w i = eN i) : ∀ (k i : Nat) (v : Int32) (S : STT), i + k = (N 0 0 0).toNatClampNeg → RLn r S N → lp_X10_shiftBy_83 M (nI q) p2 xx w k i v = some (lp_X5_shiftBy_11 (nI q) p2 k i v S).1 ∧ RLn r (lp_X5_shiftBy_11 (nI q) p2 k i v S).2 N := by
  intro k
  induction k with
  | zero => intro i v S _ h; exact ⟨rfl, h⟩
  | succ k ih =>
    intro i v S hk h
    have hi : i < (N 0 0 0).toNatClampNeg := by omega
    obtain ⟨a, b⟩ := fore_end h hi
    obtain ⟨c, d⟩ := late_end b hq (p2 := p2) hi
    have e : w i = sp_X0_greatestEnd (sp_X0_foresee S i (S 0 0 1) (-1) 0) ((sp_X0_foresee S i (S 0 0 1) (-1) 0) 6 i 0) := by
      rw [hw i hi]; exact Option.some.inj ((he i hi).symm.trans a)
    rw [lp_X10_shiftBy_83, lp_X5_shiftBy_11, hx, q_cl hq2, c, e]
    generalize sp_X0_greatestEnd (sp_X0_foresee S i (S 0 0 1) (-1) 0) ((sp_X0_foresee S i (S 0 0 1) (-1) 0) 6 i 0) = x1
    generalize sp_X0_foresee (sp_X0_foresee S i (S 0 0 1) (-1) 0) i ((sp_X0_foresee S i (S 0 0 1) (-1) 0) 0 0 1) (nI q) p2 = F2 at d ⊢
    generalize sp_X0_greatestEnd F2 (F2 6 i 0) = x2
    by_cases f : x1 = -1
    · rw [if_pos f, if_pos f]; exact ih _ _ _ (by omega) d
    · rw [if_neg f, if_neg f]
      show (if x2 = -1 then _ else _) = _ ∧ _
      by_cases g : x2 = -1
      · rw [if_pos g, if_pos g]; exact ih _ _ _ (by omega) d
      · rw [if_neg g, if_neg g]; exact ih _ _ _ (by omega) d
theorem s_shiftBy : st_shiftBy RLn := by
  intro r S M hr h p1 p2
  have hN := h.th (v := 0)
  have R := h.1.rw
  have hv := h.1.iv
  have ho := hv.o20
  have hj8 := hv.j8
  rcases in_or p1 (M 2 0 0).toNatClampNeg with o | ⟨q, hq, rfl⟩
  · obtain ⟨a, b⟩ := delay_out h (p2 := p2) o
    refine out_bad h 1 1 ?_ ?_ rfl (by decide)
    · rw [un_X5_shiftBy]; unfold rw_X5_shiftBy; rw [a]; rfl
    · unfold sp_X10_shiftBy; exact bind_no b rfl
  by_cases c : sp_X5_isWithin p2 1 30 = 0
  · obtain ⟨a, b⟩ := delay_bad2 h hq c
    refine out_bad h 2 2 ?_ ?_ rfl (by decide)
    · rw [un_X5_shiftBy]; unfold rw_X5_shiftBy; rw [a]; rfl
    · unfold sp_X10_shiftBy; exact bind_no b rfl
  by_cases d : M 0 0 1 < M 16 0 q
  case neg =>
    obtain ⟨a, b⟩ := delay_bad3 h hq c d
    refine out_bad h 3 3 ?_ ?_ rfl (by decide)
    · rw [un_X5_shiftBy]; unfold rw_X5_shiftBy; rw [a]; rfl
    · unfold sp_X10_shiftBy; exact bind_no b rfl
  obtain ⟨a, b⟩ := delay_ok h hq c d
  have he : ∃ eN : Nat → Int32, ∀ i, i < ((up3 M 40 0 0 0) 0 0 0).toNatClampNeg → sp_X10_endOf (up3 M 40 0 0 0) i = some (eN i) :=
    ⟨fun i => sp_X0_greatestEnd (sp_X0_foresee S i (S 0 0 1) (-1) 0) ((sp_X0_foresee S i (S 0 0 1) (-1) 0) 6 i 0), fun i hi => (fore_end hN hi).1⟩
  obtain ⟨eN, he⟩ := he
  obtain ⟨g, g1, g2⟩ := shift24 (M := M) (nI q) p2 (0, up3 M 40 0 0 0) rfl hN eN he (M 0 0 0).toNatClampNeg 0 (fun _ => 0) (Nat.zero_add _) (fun a ha => by omega)
  obtain ⟨l1, l2⟩ := shift_lp (M := M) (q := q) (N := up3 M 40 0 0 0) hq (by omega) p2 (0, up3 M 40 0 0 0) rfl g eN he g2 (M 0 0 0).toNatClampNeg 0 0 S (Nat.zero_add _) hN.next
  refine out_ok (a := (lp_X5_shiftBy_11 (nI q) p2 (M 0 0 0).toNatClampNeg 0 0 S).1) (S' := (lp_X5_shiftBy_11 (nI q) p2 (M 0 0 0).toNatClampNeg 0 0 S).2) (M' := up3 M 40 0 0 0) ?_ ?_ rfl rfl l2
  · rw [un_X5_shiftBy]; unfold rw_X5_shiftBy; rw [a, if_pos rfl, R.r0]
  · unfold sp_X10_shiftBy
    refine bind_ok b (is_none g1 ?_)
    rw [if_neg (q_ix hq (by omega))]
    refine is_none l1 ?_
    rw [q_cl (by omega), set_set, up3_e]
    show some (_, up3 (up3 M 40 0 0 0) 16 0 q ((up3 M 40 0 0 0) 16 0 q + p2 - p2)) = _
    rw [Int32.add_sub_cancel, set_id]
end PLAINR
