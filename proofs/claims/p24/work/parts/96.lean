section PLAINR
theorem fore_end {r : Nat} {S N : STT} (h : RLn r S N) {q : Nat} (hq : q < (N 0 0 0).toNatClampNeg) : sp_X10_endOf N q = some (sp_X0_greatestEnd (sp_X0_foresee S q (S 0 0 1) (-1) 0) ((sp_X0_foresee S q (S 0 0 1) (-1) 0) 6 q 0)) ∧ RLn r (sp_X0_foresee S q (S 0 0 1) (-1) 0) N := by
  have et : S 0 0 1 = N 0 0 1 := by rw [h.1.rw.r0]
  rw [et]
  obtain ⟨hF, hL⟩ := fore h hq
  have e6 : sp_X0_foresee S q (N 0 0 1) (-1) 0 6 = N 6 := hF.1.1 6 rfl
  refine ⟨?_, hL⟩
  rw [e6]; exact endOf_eq h.1.iv hq hF
theorem shift24 {r : Nat} {S N M : STT} (p1 p2 : Int32) (xx : Int32 × STT) (hx : xx.2 = N) (h : RLn r S N) (eN : Nat → Int32) (he : ∀ i, i < (N 0 0 0).toNatClampNeg → sp_X10_endOf N i = some (eN i)) : ∀ (k i : Nat) (g : Nat → Int32), i + k = (N 0 0 0).toNatClampNeg → (∀ a, a < i → g a = eN a) → ∃ g', lp_X10_shiftBy_24 M p1 p2 xx k i g = some g' ∧ ∀ a, a < (N 0 0 0).toNatClampNeg → g' a = eN a := by
  intro k
  induction k with
  | zero => intro i g hk hg; exact ⟨g, rfl, fun a ha => hg a (by omega)⟩
  | succ k ih =>
    intro i g hk hg
    rw [lp_X10_shiftBy_24, hx, he i (by omega)]
    exact ih (i + 1) (upd g i (eN i)) (by omega) (fun a ha => by
      by_cases c : a = i
      · rw [c, upd_e]
      · rw [upd_n c]; exact hg a (by omega))
theorem late_end {r : Nat} {S N : STT} (h : RLn r S N) {q : Nat} (hq : q < (N 2 0 0).toNatClampNeg) {p2 : Int32} {j : Nat} (hj : j < (N 0 0 0).toNatClampNeg) : sp_X10_endOf (up3 N 16 0 q (N 16 0 q + p2)) j = some (sp_X0_greatestEnd (sp_X0_foresee S j (S 0 0 1) (nI q) p2) ((sp_X0_foresee S j (S 0 0 1) (nI q) p2) 6 j 0)) ∧ RLn r (sp_X0_foresee S j (S 0 0 1) (nI q) p2) N := by
  have R := h.1.rw
  have hv := h.1.iv
  have ho := hv.o20
  have et : S 0 0 1 = N 0 0 1 := by rw [R.r0]
  have hO : OD S (up3 N 16 0 q (N 16 0 q + p2)) (N 0 0 1) (nI q) p2 := by
    refine ⟨R.r2.symm, R.r14.symm, fun i hi => ?_, fun i hi => ?_⟩
    · rw [R.r2] at hi
      rw [up3_24, R.r16]
      by_cases c : i = q
      · rw [if_pos ⟨rfl, c⟩, if_pos (by rw [c]), c]
      · rw [if_neg (fun z => c z.2), if_neg (fun z => c (q_inj (by omega) (by omega) z))]
    · rw [R.r2] at hi
      rw [R.r16]; exact h.2.1 i hi
  have hx : RWx S (up3 N 16 0 q (N 16 0 q + p2)) := by
    intro f hf
    have e : f ≠ 16 := fun z => by subst z; exact absurd hf (by decide)
    rw [up3_f e]; exact R.x f hf
  obtain ⟨a, b⟩ := foresee_eq (N := up3 N 16 0 q (N 16 0 q + p2)) hv.r16 hj hx (h.1.bq j hj) hO
  rw [et]
  have e6 : sp_X0_foresee S j (N 0 0 1) (nI q) p2 6 = N 6 := b.1.1 6 rfl
  refine ⟨?_, h.left (fun f hf => a f (rr_ne hf).1 (rr_ne hf).2.2.1 (rr_ne hf).2.2.2.1 (rr_ne hf).2.2.2.2.1) (a 27 (by decide) (by decide) (by decide) (by decide)) (a 20 (by decide) (by decide) (by decide) (by decide))⟩
  rw [e6]; exact endOf_eq (N := up3 N 16 0 q (N 16 0 q + p2)) hv.r16 hj b
end PLAINR
