section MROWS
variable {K0 : Nat → Nat} {ad : Nat → Nat → Nat} {ce : Nat → Nat → va_E} {cI cO : ClassId} {cp : Nat → Nat} {M : Nat → Nat → Nat → Int32} {o i : Nat} {v : Int32}
theorem up3_f {f f' : Nat} (h : f' ≠ f) : up3 M f o i v f' = M f' := by unfold up3; rw [if_neg h]
theorem up3_o {f o' : Nat} (h : o' ≠ o) : up3 M f o i v f o' = M f o' := by unfold up3; rw [if_pos rfl, if_neg h]
theorem up3_s {f : Nat} : up3 M f o i v f o = upd (M f o) i v := by unfold up3; rw [if_pos rfl, if_pos rfl]
theorem up3_i {f i' : Nat} (h : i' ≠ i) : up3 M f o i v f o i' = M f o i' := by rw [up3_s]; unfold upd; rw [if_neg h]
theorem up3_e {f : Nat} : up3 M f o i v f o i = v := by rw [up3_s]; unfold upd; rw [if_pos rfl]
theorem mK_thrown {x : va_E} (hx : x = mcell cI cO K0 ad cp (up3 M 40 0 0 v) 30 0) : up2 (mK cI cO K0 ad cp ce M) 30 0 x = mK cI cO K0 ad cp ce (up3 M 40 0 0 v) := by
  refine mK_up (by decide) (by decide) hx (fun f o' hne => ?_)
  unfold mcell
  by_cases q0 : f < 43 ∧ ¬ o' = 0
  · rw [if_pos q0, if_pos q0]
  rw [if_neg q0, if_neg q0]
  by_cases c0 : f = 30
  · exact absurd ⟨c0, by rcases Nat.eq_zero_or_pos o' with z | z; exact z; exact absurd ⟨by omega, by omega⟩ q0⟩ hne
  rw [if_neg c0, if_neg c0]
  by_cases c1 : f < 36
  · rw [if_pos c1, if_pos c1]; rfl
  rw [if_neg c1, if_neg c1]
  by_cases c2 : f = 36
  · rw [if_pos c2, if_pos c2]; rfl
  rw [if_neg c2, if_neg c2]
  by_cases c3 : f = 37
  · rw [if_pos c3, if_pos c3]; rfl
  rw [if_neg c3, if_neg c3]
  by_cases c4 : f < 43
  · rw [if_pos c4, if_pos c4]; rfl
  rw [if_neg c4, if_neg c4]
  by_cases c5 : f = 43
  · rw [if_pos c5, if_pos c5]; rfl
  rw [if_neg c5, if_neg c5]
  by_cases c6 : f = 44
  · rw [if_pos c6, if_pos c6]; rfl
  rw [if_neg c6, if_neg c6]
  by_cases c7 : f = 45
  · rw [if_pos c7, if_pos c7]; rfl
  rw [if_neg c7, if_neg c7]
  by_cases c8 : f = 46
  · rw [if_pos c8, if_pos c8]; rfl
  rw [if_neg c8, if_neg c8]
  by_cases c9 : f = 47
  · rw [if_pos c9, if_pos c9]; rfl
  rw [if_neg c9, if_neg c9]
  by_cases c10 : f = 48
  · rw [if_pos c10, if_pos c10]; rfl
  rw [if_neg c10, if_neg c10]
  by_cases c11 : f = 49
  · rw [if_pos c11, if_pos c11]; rfl
  rw [if_neg c11, if_neg c11]
  by_cases c12 : f = 50
  · rw [if_pos c12, if_pos c12]; rfl
  rw [if_neg c12, if_neg c12]
  by_cases c13 : f = 51
  · rw [if_pos c13, if_pos c13]; rfl
  rw [if_neg c13, if_neg c13]
  rfl
theorem mK_today {x : va_E} (hx : x = mcell cI cO K0 ad cp (up3 M 0 0 1 v) 30 0) : up2 (mK cI cO K0 ad cp ce M) 30 0 x = mK cI cO K0 ad cp ce (up3 M 0 0 1 v) := by
  refine mK_up (by decide) (by decide) hx (fun f o' hne => ?_)
  unfold mcell
  by_cases q0 : f < 43 ∧ ¬ o' = 0
  · rw [if_pos q0, if_pos q0]
  rw [if_neg q0, if_neg q0]
  by_cases c0 : f = 30
  · exact absurd ⟨c0, by rcases Nat.eq_zero_or_pos o' with z | z; exact z; exact absurd ⟨by omega, by omega⟩ q0⟩ hne
  rw [if_neg c0, if_neg c0]
  by_cases c1 : f < 36
  · rw [if_pos c1, if_pos c1]; rfl
  rw [if_neg c1, if_neg c1]
  by_cases c2 : f = 36
  · rw [if_pos c2, if_pos c2]; rfl
  rw [if_neg c2, if_neg c2]
  by_cases c3 : f = 37
  · rw [if_pos c3, if_pos c3]; rfl
  rw [if_neg c3, if_neg c3]
  by_cases c4 : f < 43
  · rw [if_pos c4, if_pos c4]; rfl
  rw [if_neg c4, if_neg c4]
  by_cases c5 : f = 43
  · rw [if_pos c5, if_pos c5]; rfl
  rw [if_neg c5, if_neg c5]
  by_cases c6 : f = 44
  · rw [if_pos c6, if_pos c6]; rfl
  rw [if_neg c6, if_neg c6]
  by_cases c7 : f = 45
  · rw [if_pos c7, if_pos c7]; rfl
  rw [if_neg c7, if_neg c7]
  by_cases c8 : f = 46
  · rw [if_pos c8, if_pos c8]; rfl
  rw [if_neg c8, if_neg c8]
  by_cases c9 : f = 47
  · rw [if_pos c9, if_pos c9]; rfl
  rw [if_neg c9, if_neg c9]
  by_cases c10 : f = 48
  · rw [if_pos c10, if_pos c10]; rfl
  rw [if_neg c10, if_neg c10]
  by_cases c11 : f = 49
  · rw [if_pos c11, if_pos c11]; rfl
  rw [if_neg c11, if_neg c11]
  by_cases c12 : f = 50
  · rw [if_pos c12, if_pos c12]; rfl
  rw [if_neg c12, if_neg c12]
  by_cases c13 : f = 51
  · rw [if_pos c13, if_pos c13]; rfl
  rw [if_neg c13, if_neg c13]
  rfl
theorem mK_roles {x : va_E} (hx : x = mcell cI cO K0 ad cp (up3 M 11 0 i v) 36 0) : up2 (mK cI cO K0 ad cp ce M) 36 0 x = mK cI cO K0 ad cp ce (up3 M 11 0 i v) := by
  refine mK_up (by decide) (by decide) hx (fun f o' hne => ?_)
  unfold mcell
  by_cases q0 : f < 43 ∧ ¬ o' = 0
  · rw [if_pos q0, if_pos q0]
  rw [if_neg q0, if_neg q0]
  by_cases c0 : f = 30
  · rw [if_pos c0, if_pos c0]; rfl
  rw [if_neg c0, if_neg c0]
  by_cases c1 : f < 36
  · rw [if_pos c1, if_pos c1]; rfl
  rw [if_neg c1, if_neg c1]
  by_cases c2 : f = 36
  · exact absurd ⟨c2, by rcases Nat.eq_zero_or_pos o' with z | z; exact z; exact absurd ⟨by omega, by omega⟩ q0⟩ hne
  rw [if_neg c2, if_neg c2]
  by_cases c3 : f = 37
  · rw [if_pos c3, if_pos c3]; rfl
  rw [if_neg c3, if_neg c3]
  by_cases c4 : f < 43
  · rw [if_pos c4, if_pos c4]; rfl
  rw [if_neg c4, if_neg c4]
  by_cases c5 : f = 43
  · rw [if_pos c5, if_pos c5]; rfl
  rw [if_neg c5, if_neg c5]
  by_cases c6 : f = 44
  · rw [if_pos c6, if_pos c6]; rfl
  rw [if_neg c6, if_neg c6]
  by_cases c7 : f = 45
  · rw [if_pos c7, if_pos c7]; rfl
  rw [if_neg c7, if_neg c7]
  by_cases c8 : f = 46
  · rw [if_pos c8, if_pos c8]; rfl
  rw [if_neg c8, if_neg c8]
  by_cases c9 : f = 47
  · rw [if_pos c9, if_pos c9]; rfl
  rw [if_neg c9, if_neg c9]
  by_cases c10 : f = 48
  · rw [if_pos c10, if_pos c10]; rfl
  rw [if_neg c10, if_neg c10]
  by_cases c11 : f = 49
  · rw [if_pos c11, if_pos c11]; rfl
  rw [if_neg c11, if_neg c11]
  by_cases c12 : f = 50
  · rw [if_pos c12, if_pos c12]; rfl
  rw [if_neg c12, if_neg c12]
  by_cases c13 : f = 51
  · rw [if_pos c13, if_pos c13]; rfl
  rw [if_neg c13, if_neg c13]
  rfl
theorem mK_stock {x : va_E} (hx : x = mcell cI cO K0 ad cp (up3 M 13 0 i v) 37 0) : up2 (mK cI cO K0 ad cp ce M) 37 0 x = mK cI cO K0 ad cp ce (up3 M 13 0 i v) := by
  refine mK_up (by decide) (by decide) hx (fun f o' hne => ?_)
  unfold mcell
  by_cases q0 : f < 43 ∧ ¬ o' = 0
  · rw [if_pos q0, if_pos q0]
  rw [if_neg q0, if_neg q0]
  by_cases c0 : f = 30
  · rw [if_pos c0, if_pos c0]; rfl
  rw [if_neg c0, if_neg c0]
  by_cases c1 : f < 36
  · rw [if_pos c1, if_pos c1]; rfl
  rw [if_neg c1, if_neg c1]
  by_cases c2 : f = 36
  · rw [if_pos c2, if_pos c2]; rfl
  rw [if_neg c2, if_neg c2]
  by_cases c3 : f = 37
  · exact absurd ⟨c3, by rcases Nat.eq_zero_or_pos o' with z | z; exact z; exact absurd ⟨by omega, by omega⟩ q0⟩ hne
  rw [if_neg c3, if_neg c3]
  by_cases c4 : f < 43
  · rw [if_pos c4, if_pos c4]; rfl
  rw [if_neg c4, if_neg c4]
  by_cases c5 : f = 43
  · rw [if_pos c5, if_pos c5]; rfl
  rw [if_neg c5, if_neg c5]
  by_cases c6 : f = 44
  · rw [if_pos c6, if_pos c6]; rfl
  rw [if_neg c6, if_neg c6]
  by_cases c7 : f = 45
  · rw [if_pos c7, if_pos c7]; rfl
  rw [if_neg c7, if_neg c7]
  by_cases c8 : f = 46
  · rw [if_pos c8, if_pos c8]; rfl
  rw [if_neg c8, if_neg c8]
  by_cases c9 : f = 47
  · rw [if_pos c9, if_pos c9]; rfl
  rw [if_neg c9, if_neg c9]
  by_cases c10 : f = 48
  · rw [if_pos c10, if_pos c10]; rfl
  rw [if_neg c10, if_neg c10]
  by_cases c11 : f = 49
  · rw [if_pos c11, if_pos c11]; rfl
  rw [if_neg c11, if_neg c11]
  by_cases c12 : f = 50
  · rw [if_pos c12, if_pos c12]; rfl
  rw [if_neg c12, if_neg c12]
  by_cases c13 : f = 51
  · rw [if_pos c13, if_pos c13]; rfl
  rw [if_neg c13, if_neg c13]
  rfl
theorem mK_day {x : va_E} (hx : x = mcell cI cO K0 ad cp (up3 M 16 0 o v) 44 o) : up2 (mK cI cO K0 ad cp ce M) 44 o x = mK cI cO K0 ad cp ce (up3 M 16 0 o v) := by
  refine mK_up (by decide) (by decide) hx (fun f o' hne => ?_)
  unfold mcell
  by_cases q0 : f < 43 ∧ ¬ o' = 0
  · rw [if_pos q0, if_pos q0]
  rw [if_neg q0, if_neg q0]
  by_cases c0 : f = 30
  · rw [if_pos c0, if_pos c0]; rfl
  rw [if_neg c0, if_neg c0]
  by_cases c1 : f < 36
  · rw [if_pos c1, if_pos c1]; rfl
  rw [if_neg c1, if_neg c1]
  by_cases c2 : f = 36
  · rw [if_pos c2, if_pos c2]; rfl
  rw [if_neg c2, if_neg c2]
  by_cases c3 : f = 37
  · rw [if_pos c3, if_pos c3]; rfl
  rw [if_neg c3, if_neg c3]
  by_cases c4 : f < 43
  · rw [if_pos c4, if_pos c4]; rfl
  rw [if_neg c4, if_neg c4]
  by_cases c5 : f = 43
  · rw [if_pos c5, if_pos c5]; rfl
  rw [if_neg c5, if_neg c5]
  by_cases c6 : f = 44
  · have ho : o' ≠ o := fun z => hne ⟨c6, z⟩
    rw [if_pos c6, if_pos c6, up3_i ho]; rfl
  rw [if_neg c6, if_neg c6]
  by_cases c7 : f = 45
  · rw [if_pos c7, if_pos c7]; rfl
  rw [if_neg c7, if_neg c7]
  by_cases c8 : f = 46
  · rw [if_pos c8, if_pos c8]; rfl
  rw [if_neg c8, if_neg c8]
  by_cases c9 : f = 47
  · rw [if_pos c9, if_pos c9]; rfl
  rw [if_neg c9, if_neg c9]
  by_cases c10 : f = 48
  · rw [if_pos c10, if_pos c10]; rfl
  rw [if_neg c10, if_neg c10]
  by_cases c11 : f = 49
  · rw [if_pos c11, if_pos c11]; rfl
  rw [if_neg c11, if_neg c11]
  by_cases c12 : f = 50
  · rw [if_pos c12, if_pos c12]; rfl
  rw [if_neg c12, if_neg c12]
  by_cases c13 : f = 51
  · rw [if_pos c13, if_pos c13]; rfl
  rw [if_neg c13, if_neg c13]
  rfl
theorem mK_there {x : va_E} (hx : x = mcell cI cO K0 ad cp (up3 M 41 0 o v) 44 o) : up2 (mK cI cO K0 ad cp ce M) 44 o x = mK cI cO K0 ad cp ce (up3 M 41 0 o v) := by
  refine mK_up (by decide) (by decide) hx (fun f o' hne => ?_)
  unfold mcell
  by_cases q0 : f < 43 ∧ ¬ o' = 0
  · rw [if_pos q0, if_pos q0]
  rw [if_neg q0, if_neg q0]
  by_cases c0 : f = 30
  · rw [if_pos c0, if_pos c0]; rfl
  rw [if_neg c0, if_neg c0]
  by_cases c1 : f < 36
  · rw [if_pos c1, if_pos c1]; rfl
  rw [if_neg c1, if_neg c1]
  by_cases c2 : f = 36
  · rw [if_pos c2, if_pos c2]; rfl
  rw [if_neg c2, if_neg c2]
  by_cases c3 : f = 37
  · rw [if_pos c3, if_pos c3]; rfl
  rw [if_neg c3, if_neg c3]
  by_cases c4 : f < 43
  · rw [if_pos c4, if_pos c4]; rfl
  rw [if_neg c4, if_neg c4]
  by_cases c5 : f = 43
  · rw [if_pos c5, if_pos c5]; rfl
  rw [if_neg c5, if_neg c5]
  by_cases c6 : f = 44
  · have ho : o' ≠ o := fun z => hne ⟨c6, z⟩
    rw [if_pos c6, if_pos c6, up3_i ho]; rfl
  rw [if_neg c6, if_neg c6]
  by_cases c7 : f = 45
  · rw [if_pos c7, if_pos c7]; rfl
  rw [if_neg c7, if_neg c7]
  by_cases c8 : f = 46
  · rw [if_pos c8, if_pos c8]; rfl
  rw [if_neg c8, if_neg c8]
  by_cases c9 : f = 47
  · rw [if_pos c9, if_pos c9]; rfl
  rw [if_neg c9, if_neg c9]
  by_cases c10 : f = 48
  · rw [if_pos c10, if_pos c10]; rfl
  rw [if_neg c10, if_neg c10]
  by_cases c11 : f = 49
  · rw [if_pos c11, if_pos c11]; rfl
  rw [if_neg c11, if_neg c11]
  by_cases c12 : f = 50
  · rw [if_pos c12, if_pos c12]; rfl
  rw [if_neg c12, if_neg c12]
  by_cases c13 : f = 51
  · rw [if_pos c13, if_pos c13]; rfl
  rw [if_neg c13, if_neg c13]
  rfl
theorem mK_left {x : va_E} (hx : x = mcell cI cO K0 ad cp (up3 M 6 o 2 v) 46 o) : up2 (mK cI cO K0 ad cp ce M) 46 o x = mK cI cO K0 ad cp ce (up3 M 6 o 2 v) := by
  refine mK_up (by decide) (by decide) hx (fun f o' hne => ?_)
  unfold mcell
  by_cases q0 : f < 43 ∧ ¬ o' = 0
  · rw [if_pos q0, if_pos q0]
  rw [if_neg q0, if_neg q0]
  by_cases c0 : f = 30
  · rw [if_pos c0, if_pos c0]; rfl
  rw [if_neg c0, if_neg c0]
  by_cases c1 : f < 36
  · rw [if_pos c1, if_pos c1]; rfl
  rw [if_neg c1, if_neg c1]
  by_cases c2 : f = 36
  · rw [if_pos c2, if_pos c2]; rfl
  rw [if_neg c2, if_neg c2]
  by_cases c3 : f = 37
  · rw [if_pos c3, if_pos c3]; rfl
  rw [if_neg c3, if_neg c3]
  by_cases c4 : f < 43
  · rw [if_pos c4, if_pos c4]; rfl
  rw [if_neg c4, if_neg c4]
  by_cases c5 : f = 43
  · rw [if_pos c5, if_pos c5]; rfl
  rw [if_neg c5, if_neg c5]
  by_cases c6 : f = 44
  · rw [if_pos c6, if_pos c6]; rfl
  rw [if_neg c6, if_neg c6]
  by_cases c7 : f = 45
  · rw [if_pos c7, if_pos c7]; rfl
  rw [if_neg c7, if_neg c7]
  by_cases c8 : f = 46
  · have ho : o' ≠ o := fun z => hne ⟨c8, z⟩
    rw [if_pos c8, if_pos c8, up3_o ho]
  rw [if_neg c8, if_neg c8]
  by_cases c9 : f = 47
  · rw [if_pos c9, if_pos c9]; rfl
  rw [if_neg c9, if_neg c9]
  by_cases c10 : f = 48
  · rw [if_pos c10, if_pos c10]; rfl
  rw [if_neg c10, if_neg c10]
  by_cases c11 : f = 49
  · rw [if_pos c11, if_pos c11]; rfl
  rw [if_neg c11, if_neg c11]
  by_cases c12 : f = 50
  · rw [if_pos c12, if_pos c12]; rfl
  rw [if_neg c12, if_neg c12]
  by_cases c13 : f = 51
  · rw [if_pos c13, if_pos c13]; rfl
  rw [if_neg c13, if_neg c13]
  rfl
theorem mK_a47 {x : va_E} (hx : x = mcell cI cO K0 ad cp (up3 M 24 o i v) 47 o) : up2 (mK cI cO K0 ad cp ce M) 47 o x = mK cI cO K0 ad cp ce (up3 M 24 o i v) := by
  refine mK_up (by decide) (by decide) hx (fun f o' hne => ?_)
  unfold mcell
  by_cases q0 : f < 43 ∧ ¬ o' = 0
  · rw [if_pos q0, if_pos q0]
  rw [if_neg q0, if_neg q0]
  by_cases c0 : f = 30
  · rw [if_pos c0, if_pos c0]; rfl
  rw [if_neg c0, if_neg c0]
  by_cases c1 : f < 36
  · rw [if_pos c1, if_pos c1]; rfl
  rw [if_neg c1, if_neg c1]
  by_cases c2 : f = 36
  · rw [if_pos c2, if_pos c2]; rfl
  rw [if_neg c2, if_neg c2]
  by_cases c3 : f = 37
  · rw [if_pos c3, if_pos c3]; rfl
  rw [if_neg c3, if_neg c3]
  by_cases c4 : f < 43
  · rw [if_pos c4, if_pos c4]; rfl
  rw [if_neg c4, if_neg c4]
  by_cases c5 : f = 43
  · rw [if_pos c5, if_pos c5]; rfl
  rw [if_neg c5, if_neg c5]
  by_cases c6 : f = 44
  · rw [if_pos c6, if_pos c6]; rfl
  rw [if_neg c6, if_neg c6]
  by_cases c7 : f = 45
  · rw [if_pos c7, if_pos c7]; rfl
  rw [if_neg c7, if_neg c7]
  by_cases c8 : f = 46
  · rw [if_pos c8, if_pos c8]; rfl
  rw [if_neg c8, if_neg c8]
  by_cases c9 : f = 47
  · have ho : o' ≠ o := fun z => hne ⟨c9, z⟩
    rw [if_pos c9, if_pos c9, up3_o ho]
  rw [if_neg c9, if_neg c9]
  by_cases c10 : f = 48
  · rw [if_pos c10, if_pos c10]; rfl
  rw [if_neg c10, if_neg c10]
  by_cases c11 : f = 49
  · rw [if_pos c11, if_pos c11]; rfl
  rw [if_neg c11, if_neg c11]
  by_cases c12 : f = 50
  · rw [if_pos c12, if_pos c12]; rfl
  rw [if_neg c12, if_neg c12]
  by_cases c13 : f = 51
  · rw [if_pos c13, if_pos c13]; rfl
  rw [if_neg c13, if_neg c13]
  rfl
theorem mK_a48 {x : va_E} (hx : x = mcell cI cO K0 ad cp (up3 M 25 o i v) 48 o) : up2 (mK cI cO K0 ad cp ce M) 48 o x = mK cI cO K0 ad cp ce (up3 M 25 o i v) := by
  refine mK_up (by decide) (by decide) hx (fun f o' hne => ?_)
  unfold mcell
  by_cases q0 : f < 43 ∧ ¬ o' = 0
  · rw [if_pos q0, if_pos q0]
  rw [if_neg q0, if_neg q0]
  by_cases c0 : f = 30
  · rw [if_pos c0, if_pos c0]; rfl
  rw [if_neg c0, if_neg c0]
  by_cases c1 : f < 36
  · rw [if_pos c1, if_pos c1]; rfl
  rw [if_neg c1, if_neg c1]
  by_cases c2 : f = 36
  · rw [if_pos c2, if_pos c2]; rfl
  rw [if_neg c2, if_neg c2]
  by_cases c3 : f = 37
  · rw [if_pos c3, if_pos c3]; rfl
  rw [if_neg c3, if_neg c3]
  by_cases c4 : f < 43
  · rw [if_pos c4, if_pos c4]; rfl
  rw [if_neg c4, if_neg c4]
  by_cases c5 : f = 43
  · rw [if_pos c5, if_pos c5]; rfl
  rw [if_neg c5, if_neg c5]
  by_cases c6 : f = 44
  · rw [if_pos c6, if_pos c6]; rfl
  rw [if_neg c6, if_neg c6]
  by_cases c7 : f = 45
  · rw [if_pos c7, if_pos c7]; rfl
  rw [if_neg c7, if_neg c7]
  by_cases c8 : f = 46
  · rw [if_pos c8, if_pos c8]; rfl
  rw [if_neg c8, if_neg c8]
  by_cases c9 : f = 47
  · rw [if_pos c9, if_pos c9]; rfl
  rw [if_neg c9, if_neg c9]
  by_cases c10 : f = 48
  · have ho : o' ≠ o := fun z => hne ⟨c10, z⟩
    rw [if_pos c10, if_pos c10, up3_o ho]
  rw [if_neg c10, if_neg c10]
  by_cases c11 : f = 49
  · rw [if_pos c11, if_pos c11]; rfl
  rw [if_neg c11, if_neg c11]
  by_cases c12 : f = 50
  · rw [if_pos c12, if_pos c12]; rfl
  rw [if_neg c12, if_neg c12]
  by_cases c13 : f = 51
  · rw [if_pos c13, if_pos c13]; rfl
  rw [if_neg c13, if_neg c13]
  rfl
theorem mK_a49 {x : va_E} (hx : x = mcell cI cO K0 ad cp (up3 M 26 o i v) 49 o) : up2 (mK cI cO K0 ad cp ce M) 49 o x = mK cI cO K0 ad cp ce (up3 M 26 o i v) := by
  refine mK_up (by decide) (by decide) hx (fun f o' hne => ?_)
  unfold mcell
  by_cases q0 : f < 43 ∧ ¬ o' = 0
  · rw [if_pos q0, if_pos q0]
  rw [if_neg q0, if_neg q0]
  by_cases c0 : f = 30
  · rw [if_pos c0, if_pos c0]; rfl
  rw [if_neg c0, if_neg c0]
  by_cases c1 : f < 36
  · rw [if_pos c1, if_pos c1]; rfl
  rw [if_neg c1, if_neg c1]
  by_cases c2 : f = 36
  · rw [if_pos c2, if_pos c2]; rfl
  rw [if_neg c2, if_neg c2]
  by_cases c3 : f = 37
  · rw [if_pos c3, if_pos c3]; rfl
  rw [if_neg c3, if_neg c3]
  by_cases c4 : f < 43
  · rw [if_pos c4, if_pos c4]; rfl
  rw [if_neg c4, if_neg c4]
  by_cases c5 : f = 43
  · rw [if_pos c5, if_pos c5]; rfl
  rw [if_neg c5, if_neg c5]
  by_cases c6 : f = 44
  · rw [if_pos c6, if_pos c6]; rfl
  rw [if_neg c6, if_neg c6]
  by_cases c7 : f = 45
  · rw [if_pos c7, if_pos c7]; rfl
  rw [if_neg c7, if_neg c7]
  by_cases c8 : f = 46
  · rw [if_pos c8, if_pos c8]; rfl
  rw [if_neg c8, if_neg c8]
  by_cases c9 : f = 47
  · rw [if_pos c9, if_pos c9]; rfl
  rw [if_neg c9, if_neg c9]
  by_cases c10 : f = 48
  · rw [if_pos c10, if_pos c10]; rfl
  rw [if_neg c10, if_neg c10]
  by_cases c11 : f = 49
  · have ho : o' ≠ o := fun z => hne ⟨c11, z⟩
    rw [if_pos c11, if_pos c11, up3_o ho]
  rw [if_neg c11, if_neg c11]
  by_cases c12 : f = 50
  · rw [if_pos c12, if_pos c12]; rfl
  rw [if_neg c12, if_neg c12]
  by_cases c13 : f = 51
  · rw [if_pos c13, if_pos c13]; rfl
  rw [if_neg c13, if_neg c13]
  rfl
theorem mK_a50 {x : va_E} (hx : x = mcell cI cO K0 ad cp (up3 M 27 o i v) 50 o) : up2 (mK cI cO K0 ad cp ce M) 50 o x = mK cI cO K0 ad cp ce (up3 M 27 o i v) := by
  refine mK_up (by decide) (by decide) hx (fun f o' hne => ?_)
  unfold mcell
  by_cases q0 : f < 43 ∧ ¬ o' = 0
  · rw [if_pos q0, if_pos q0]
  rw [if_neg q0, if_neg q0]
  by_cases c0 : f = 30
  · rw [if_pos c0, if_pos c0]; rfl
  rw [if_neg c0, if_neg c0]
  by_cases c1 : f < 36
  · rw [if_pos c1, if_pos c1]; rfl
  rw [if_neg c1, if_neg c1]
  by_cases c2 : f = 36
  · rw [if_pos c2, if_pos c2]; rfl
  rw [if_neg c2, if_neg c2]
  by_cases c3 : f = 37
  · rw [if_pos c3, if_pos c3]; rfl
  rw [if_neg c3, if_neg c3]
  by_cases c4 : f < 43
  · rw [if_pos c4, if_pos c4]; rfl
  rw [if_neg c4, if_neg c4]
  by_cases c5 : f = 43
  · rw [if_pos c5, if_pos c5]; rfl
  rw [if_neg c5, if_neg c5]
  by_cases c6 : f = 44
  · rw [if_pos c6, if_pos c6]; rfl
  rw [if_neg c6, if_neg c6]
  by_cases c7 : f = 45
  · rw [if_pos c7, if_pos c7]; rfl
  rw [if_neg c7, if_neg c7]
  by_cases c8 : f = 46
  · rw [if_pos c8, if_pos c8]; rfl
  rw [if_neg c8, if_neg c8]
  by_cases c9 : f = 47
  · rw [if_pos c9, if_pos c9]; rfl
  rw [if_neg c9, if_neg c9]
  by_cases c10 : f = 48
  · rw [if_pos c10, if_pos c10]; rfl
  rw [if_neg c10, if_neg c10]
  by_cases c11 : f = 49
  · rw [if_pos c11, if_pos c11]; rfl
  rw [if_neg c11, if_neg c11]
  by_cases c12 : f = 50
  · have ho : o' ≠ o := fun z => hne ⟨c12, z⟩
    rw [if_pos c12, if_pos c12, up3_o ho]
  rw [if_neg c12, if_neg c12]
  by_cases c13 : f = 51
  · rw [if_pos c13, if_pos c13]; rfl
  rw [if_neg c13, if_neg c13]
  rfl
theorem mK_a51 {x : va_E} (hx : x = mcell cI cO K0 ad cp (up3 M 28 o i v) 51 o) : up2 (mK cI cO K0 ad cp ce M) 51 o x = mK cI cO K0 ad cp ce (up3 M 28 o i v) := by
  refine mK_up (by decide) (by decide) hx (fun f o' hne => ?_)
  unfold mcell
  by_cases q0 : f < 43 ∧ ¬ o' = 0
  · rw [if_pos q0, if_pos q0]
  rw [if_neg q0, if_neg q0]
  by_cases c0 : f = 30
  · rw [if_pos c0, if_pos c0]; rfl
  rw [if_neg c0, if_neg c0]
  by_cases c1 : f < 36
  · rw [if_pos c1, if_pos c1]; rfl
  rw [if_neg c1, if_neg c1]
  by_cases c2 : f = 36
  · rw [if_pos c2, if_pos c2]; rfl
  rw [if_neg c2, if_neg c2]
  by_cases c3 : f = 37
  · rw [if_pos c3, if_pos c3]; rfl
  rw [if_neg c3, if_neg c3]
  by_cases c4 : f < 43
  · rw [if_pos c4, if_pos c4]; rfl
  rw [if_neg c4, if_neg c4]
  by_cases c5 : f = 43
  · rw [if_pos c5, if_pos c5]; rfl
  rw [if_neg c5, if_neg c5]
  by_cases c6 : f = 44
  · rw [if_pos c6, if_pos c6]; rfl
  rw [if_neg c6, if_neg c6]
  by_cases c7 : f = 45
  · rw [if_pos c7, if_pos c7]; rfl
  rw [if_neg c7, if_neg c7]
  by_cases c8 : f = 46
  · rw [if_pos c8, if_pos c8]; rfl
  rw [if_neg c8, if_neg c8]
  by_cases c9 : f = 47
  · rw [if_pos c9, if_pos c9]; rfl
  rw [if_neg c9, if_neg c9]
  by_cases c10 : f = 48
  · rw [if_pos c10, if_pos c10]; rfl
  rw [if_neg c10, if_neg c10]
  by_cases c11 : f = 49
  · rw [if_pos c11, if_pos c11]; rfl
  rw [if_neg c11, if_neg c11]
  by_cases c12 : f = 50
  · rw [if_pos c12, if_pos c12]; rfl
  rw [if_neg c12, if_neg c12]
  by_cases c13 : f = 51
  · have ho : o' ≠ o := fun z => hne ⟨c13, z⟩
    rw [if_pos c13, if_pos c13, up3_o ho]
  rw [if_neg c13, if_neg c13]
  rfl
end MROWS
section ITR
variable {ce : Nat → Nat → va_E} {f o : Nat} {e e' : va_E}
/-- what an iterator gave last -/
def itl : Nat → Int32
  | 0 => -1
  | n + 1 => nI n
theorem up2_up2 : up2 (up2 ce f o e) f o e' = up2 ce f o e' := by
  funext f' o'
  by_cases q : f' = f ∧ o' = o
  · obtain ⟨rfl, rfl⟩ := q
    rw [up2_eq, up2_eq]
  · have hne : (f', o') ≠ (f, o) := fun z => q ⟨congrArg Prod.fst z, congrArg Prod.snd z⟩
    exact ((up2_ne (ce := up2 ce f o e) (e := e') (i := (f', o')) hne).trans (up2_ne (ce := ce) (e := e) (i := (f', o')) hne)).trans (up2_ne (ce := ce) (e := e') (i := (f', o')) hne).symm
theorem up2_n {f' o' : Nat} (h : f' ≠ f) : up2 ce f o e f' o' = ce f' o' := by
  unfold up2; rw [if_neg h]
end ITR
