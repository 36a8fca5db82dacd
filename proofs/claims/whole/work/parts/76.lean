theorem K_arr {args : Array Value} {s : State} {ty : FieldType} (hp : ∀ C, ty ≠ .object C) (h : (Cond.arrayClass ty).before args s = true) : ∃ cA, ArrOfT s cA ty ∧ va_RA s cA ty := by
  obtain ⟨cA, kA, comp, h1, h2, h3⟩ := Cond.arrayClass_spec h
  exact ⟨cA, fun n z => ⟨fun k h => (by cases h), kA, h2, comp, h3⟩, by
    cases ty <;> first | exact absurd rfl (hp _) | exact h1⟩
theorem K_obj {args : Array Value} {s : State} {C : String} (h : (Cond.arrayOver (.object C)).before args s = true) : ∃ cA, ArrOfT s cA (.object C) ∧ va_RA s cA (.object C) := by
  obtain ⟨comp, cA, kA, h1, h2, h3, h4, h5⟩ := Cond.arrayOver_spec h
  exact ⟨cA, fun n z => ⟨fun k h => (by cases h), kA, h3, comp, h4⟩, kA, comp, h3, h4, h1, h5⟩
theorem tb {i : Nat} {w : Cond} (h : tables_1[i]? = some w) : w ∈ lw_tbl := List.mem_append_right _ (List.mem_of_getElem? h)
theorem K_cls {args : Array Value} {s : State} (hts : ∀ w ∈ BIG, w.before args s = true) : ∀ q ∈ vwCl, ∃ (cC : ClassId) (iS : Nat → Nat), u_Kn s q.1 q.2.1 q.2.2 cC iS := by
  intro q hq
  simp only [List.mem_cons, List.not_mem_nil, or_false] at hq
  rcases hq with rfl | rfl | rfl | rfl | rfl | rfl | rfl | rfl | rfl | rfl | rfl | rfl | rfl | rfl
  · exact u_known hts inB_J6 (hts _ w_is_J6)
  · exact u_known hts inB_Jx35411 (hts _ w_is_Jx35411)
  · exact u_known hts inB_Jx4a65c (hts _ w_is_Jx4a65c)
  · exact u_known hts inB_X0 (hts _ w_is_X0)
  · exact u_known hts inB_X1 (hts _ w_is_X1)
  · exact u_known hts inB_X2 (hts _ w_is_X2)
  · exact u_known hts inB_X3 (hts _ w_is_X3)
  · exact u_known hts inB_X4 (hts _ w_is_X4)
  · exact u_known hts inB_X5 (hts _ w_is_X5)
  · exact u_known hts inB_X6 (hts _ w_is_X6)
  · exact u_known hts inB_X7 (hts _ w_is_X7)
  · exact u_known hts inB_X8 (hts _ w_is_X8)
  · exact u_known hts inB_X9 (hts _ w_is_X9)
  · exact u_known hts inB_X10 (hts _ w_is_X10)
theorem K_all {args : Array Value} {s : State} (hts0 : ∀ w ∈ lw_tbl, w.before args s = true) : ∃ (D : va_G) (cI cG cJ cO : ClassId), va_K D vwCl (ktys cI cG cJ cO) s := by
  have hts : ∀ w ∈ BIG, w.before args s = true := fun w h => hts0 w (List.mem_filter.mp h).1
  have h1 : ∀ c : Nat, ∃ (cC : ClassId) (iS : Nat → Nat), ∀ q : vw_C, vwCl[c]? = some q → u_Kn s q.1 q.2.1 q.2.2 cC iS := fun c => by
    cases hq : vwCl[c]? with
    | none => exact ⟨0, fun _ => 0, fun q h => nomatch h⟩
    | some q =>
      obtain ⟨cC, iS, h⟩ := K_cls hts q (List.mem_of_getElem? hq)
      exact ⟨cC, iS, fun q' e => by cases e; exact h⟩
  obtain ⟨cI, i1, i2⟩ := K_arr (ty := .int) (fun C h => nomatch h) (hts _ w_ac_int)
  obtain ⟨cG, g1, g2⟩ := K_arr (ty := .long) (fun C h => nomatch h) (hts _ w_ac_long)
  obtain ⟨cJ, j1, j2⟩ := K_obj (C := "OnboardingWorks$Joiner") (hts0 _ (tb (i := 164) (by decide +kernel)))
  obtain ⟨cO, o1, o2⟩ := K_obj (C := "java/lang/Object") (hts0 _ (tb (i := 1056) (by decide +kernel)))
  refine ⟨(fun c => Classical.choose (h1 c), fun c => Classical.choose (Classical.choose_spec (h1 c))), cI, cG, cJ, cO, fun c q hq => Classical.choose_spec (Classical.choose_spec (h1 c)) q hq, fun k q hk => ?_⟩
  match k, hk with
  | 0, hk => cases hk; exact ⟨i1, i2⟩
  | 1, hk => cases hk; exact ⟨g1, g2⟩
  | 2, hk => cases hk; exact ⟨j1, j2⟩
  | 3, hk => cases hk; exact ⟨o1, o2⟩
  | n + 4, hk => exact nomatch hk
