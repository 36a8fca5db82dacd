abbrev bw_X10_day : List Cond := .code yX10_day cX10_day 5 (some .int) :: BIG
abbrev rm_X10_day : Room := { frames := 42, cells := 166, slots := 664, locals := 2249 }
noncomputable def lp_X10_day_386 (S : (Nat → Nat → Nat → Int32)) (x_2 : Int32 × (Nat → Nat → Nat → Int32)) (Z_4 : (Nat → Nat → Nat → Int32)) (w_5 : Int32) (Z_6 : (Nat → Nat → Nat → Int32)) (Z_7 : (Nat → Nat → Nat → Int32)) (Z_8 : (Nat → Nat → Nat → Int32)) (x_9 : (Nat → Nat → Nat → Int32)) : Nat → Nat → (Nat → Nat → Nat → Int32) → Option ((Nat → Nat → Nat → Int32))
  | 0, i, Sx => some (Sx)
  | k + 1, i, Sx => if Sx 6 i 2 = 0 then (lp_X10_day_386 S x_2 Z_4 w_5 Z_6 Z_7 Z_8 x_9 k (i + 1) Sx) else ((sp_X10_takeBack Sx i).bind fun x_12 => (lp_X10_day_386 S x_2 Z_4 w_5 Z_6 Z_7 Z_8 x_9 k (i + 1) x_12))
theorem lz_lp_X10_day_386 (S : (Nat → Nat → Nat → Int32)) (x_2 : Int32 × (Nat → Nat → Nat → Int32)) (Z_4 : (Nat → Nat → Nat → Int32)) (w_5 : Int32) (Z_6 : (Nat → Nat → Nat → Int32)) (Z_7 : (Nat → Nat → Nat → Int32)) (Z_8 : (Nat → Nat → Nat → Int32)) (x_9 : (Nat → Nat → Nat → Int32)) (i : Nat) (Sx : (Nat → Nat → Nat → Int32)) : lp_X10_day_386 S x_2 Z_4 w_5 Z_6 Z_7 Z_8 x_9 0 i Sx = some (Sx) := rfl
theorem ls_lp_X10_day_386 (S : (Nat → Nat → Nat → Int32)) (x_2 : Int32 × (Nat → Nat → Nat → Int32)) (Z_4 : (Nat → Nat → Nat → Int32)) (w_5 : Int32) (Z_6 : (Nat → Nat → Nat → Int32)) (Z_7 : (Nat → Nat → Nat → Int32)) (Z_8 : (Nat → Nat → Nat → Int32)) (x_9 : (Nat → Nat → Nat → Int32)) (k i : Nat) (Sx : (Nat → Nat → Nat → Int32)) : lp_X10_day_386 S x_2 Z_4 w_5 Z_6 Z_7 Z_8 x_9 (k + 1) i Sx = if Sx 6 i 2 = 0 then (lp_X10_day_386 S x_2 Z_4 w_5 Z_6 Z_7 Z_8 x_9 k (i + 1) Sx) else ((sp_X10_takeBack Sx i).bind fun x_12 => (lp_X10_day_386 S x_2 Z_4 w_5 Z_6 Z_7 Z_8 x_9 k (i + 1) x_12)) := rfl
theorem sfl_lp_X10_day_386 {S : (Nat → Nat → Nat → Int32)} {x_2 : Int32 × (Nat → Nat → Nat → Int32)} {Z_4 : (Nat → Nat → Nat → Int32)} {w_5 : Int32} {Z_6 : (Nat → Nat → Nat → Int32)} {Z_7 : (Nat → Nat → Nat → Int32)} {Z_8 : (Nat → Nat → Nat → Int32)} {x_9 : (Nat → Nat → Nat → Int32)} {T0 : (Nat → Nat → Nat → Int32)} : ∀ (k i : Nat) (Sx : (Nat → Nat → Nat → Int32)) (r : (Nat → Nat → Nat → Int32)), lp_X10_day_386 S x_2 Z_4 w_5 Z_6 Z_7 Z_8 x_9 k i Sx = some r → SM T0 Sx → SM T0 r := by
  intro k
  induction k with
  | zero => 
    intro i Sx r h hsm
    have h := (lz_lp_X10_day_386 S x_2 Z_4 w_5 Z_6 Z_7 Z_8 x_9 i Sx).symm.trans h
    cases h
    exact hsm
  | succ k ih => 
    intro i Sx r h hsm
    have h := (ls_lp_X10_day_386 S x_2 Z_4 w_5 Z_6 Z_7 Z_8 x_9 k i Sx).symm.trans h
    by_cases q_13 : Sx 6 i 2 = 0
    · have h := (if_pos q_13).symm.trans h
      exact ih _ _ _ h hsm
    · have h := (if_neg q_13).symm.trans h
      obtain ⟨x_12, hx_12, h⟩ := ob1 h
      exact ih _ _ _ h (SM.tr hsm (sf_X10_takeBack hx_12))

noncomputable def lp_X10_day_311 (S : (Nat → Nat → Nat → Int32)) (x_2 : Int32 × (Nat → Nat → Nat → Int32)) (Z_4 : (Nat → Nat → Nat → Int32)) (w_5 : Int32) (Z_6 : (Nat → Nat → Nat → Int32)) (Z_7 : (Nat → Nat → Nat → Int32)) (k : Nat) (i : Nat) (Sx : (Nat → Nat → Nat → Int32)) : Nat → Nat → (Nat → Nat → Nat → Int32) → Option ((Nat → Nat → Nat → Int32))
  | 0, ib, Sxb => some (Sxb)
  | kb + 1, ib, Sxb => (sp_X6_is Sxb i (nI ib) 0).bind fun x_15 => (if x_15 = 0 then (lp_X10_day_311 S x_2 Z_4 w_5 Z_6 Z_7 k i Sx kb (ib + 1) Sxb) else ((sp_X10_isToday Sxb i (nI ib)).bind fun x_17 => (if x_17 = 0 then (lp_X10_day_311 S x_2 Z_4 w_5 Z_6 Z_7 k i Sx kb (ib + 1) Sxb) else (lp_X10_day_311 S x_2 Z_4 w_5 Z_6 Z_7 k i Sx kb (ib + 1) (up3 (up3 Sxb 27 i ib (-1)) 28 i ib ((Sxb 28 i ib) + 1))))))
theorem lz_lp_X10_day_311 (S : (Nat → Nat → Nat → Int32)) (x_2 : Int32 × (Nat → Nat → Nat → Int32)) (Z_4 : (Nat → Nat → Nat → Int32)) (w_5 : Int32) (Z_6 : (Nat → Nat → Nat → Int32)) (Z_7 : (Nat → Nat → Nat → Int32)) (k : Nat) (i : Nat) (Sx : (Nat → Nat → Nat → Int32)) (ib : Nat) (Sxb : (Nat → Nat → Nat → Int32)) : lp_X10_day_311 S x_2 Z_4 w_5 Z_6 Z_7 k i Sx 0 ib Sxb = some (Sxb) := rfl
theorem ls_lp_X10_day_311 (S : (Nat → Nat → Nat → Int32)) (x_2 : Int32 × (Nat → Nat → Nat → Int32)) (Z_4 : (Nat → Nat → Nat → Int32)) (w_5 : Int32) (Z_6 : (Nat → Nat → Nat → Int32)) (Z_7 : (Nat → Nat → Nat → Int32)) (k : Nat) (i : Nat) (Sx : (Nat → Nat → Nat → Int32)) (kb ib : Nat) (Sxb : (Nat → Nat → Nat → Int32)) : lp_X10_day_311 S x_2 Z_4 w_5 Z_6 Z_7 k i Sx (kb + 1) ib Sxb = (sp_X6_is Sxb i (nI ib) 0).bind fun x_15 => (if x_15 = 0 then (lp_X10_day_311 S x_2 Z_4 w_5 Z_6 Z_7 k i Sx kb (ib + 1) Sxb) else ((sp_X10_isToday Sxb i (nI ib)).bind fun x_17 => (if x_17 = 0 then (lp_X10_day_311 S x_2 Z_4 w_5 Z_6 Z_7 k i Sx kb (ib + 1) Sxb) else (lp_X10_day_311 S x_2 Z_4 w_5 Z_6 Z_7 k i Sx kb (ib + 1) (up3 (up3 Sxb 27 i ib (-1)) 28 i ib ((Sxb 28 i ib) + 1)))))) := rfl
theorem sfl_lp_X10_day_311 {S : (Nat → Nat → Nat → Int32)} {x_2 : Int32 × (Nat → Nat → Nat → Int32)} {Z_4 : (Nat → Nat → Nat → Int32)} {w_5 : Int32} {Z_6 : (Nat → Nat → Nat → Int32)} {Z_7 : (Nat → Nat → Nat → Int32)} {k : Nat} {i : Nat} {Sx : (Nat → Nat → Nat → Int32)} {T0 : (Nat → Nat → Nat → Int32)} : ∀ (kb ib : Nat) (Sxb : (Nat → Nat → Nat → Int32)) (r : (Nat → Nat → Nat → Int32)), lp_X10_day_311 S x_2 Z_4 w_5 Z_6 Z_7 k i Sx kb ib Sxb = some r → SM T0 Sxb → SM T0 r := by
  intro kb
  induction kb with
  | zero => 
    intro ib Sxb r h hsmb
    have h := (lz_lp_X10_day_311 S x_2 Z_4 w_5 Z_6 Z_7 k i Sx ib Sxb).symm.trans h
    cases h
    exact hsmb
  | succ kb ih => 
    intro ib Sxb r h hsmb
    have h := (ls_lp_X10_day_311 S x_2 Z_4 w_5 Z_6 Z_7 k i Sx kb ib Sxb).symm.trans h
    obtain ⟨x_15, hx_15, h⟩ := ob1 h
    by_cases q_19 : x_15 = 0
    · have h := (if_pos q_19).symm.trans h
      exact ih _ _ _ h hsmb
    · have h := (if_neg q_19).symm.trans h
      obtain ⟨x_17, hx_17, h⟩ := ob1 h
      by_cases q_20 : x_17 = 0
      · have h := (if_pos q_20).symm.trans h
        exact ih _ _ _ h hsmb
      · have h := (if_neg q_20).symm.trans h
        exact ih _ _ _ h (SM.up rfl (by decide) (SM.up rfl (by decide) hsmb))

noncomputable def lp_X10_day_289 (S : (Nat → Nat → Nat → Int32)) (x_2 : Int32 × (Nat → Nat → Nat → Int32)) (Z_4 : (Nat → Nat → Nat → Int32)) (w_5 : Int32) (Z_6 : (Nat → Nat → Nat → Int32)) (Z_7 : (Nat → Nat → Nat → Int32)) : Nat → Nat → (Nat → Nat → Nat → Int32) → Option ((Nat → Nat → Nat → Int32))
  | 0, i, Sx => some (Sx)
  | k + 1, i, Sx => (lp_X10_day_311 S x_2 Z_4 w_5 Z_6 Z_7 k i Sx ((S 1 0 0).toNatClampNeg) 0 Sx).bind (fun Z_14 => (lp_X10_day_289 S x_2 Z_4 w_5 Z_6 Z_7 k (i + 1) Z_14))
theorem lz_lp_X10_day_289 (S : (Nat → Nat → Nat → Int32)) (x_2 : Int32 × (Nat → Nat → Nat → Int32)) (Z_4 : (Nat → Nat → Nat → Int32)) (w_5 : Int32) (Z_6 : (Nat → Nat → Nat → Int32)) (Z_7 : (Nat → Nat → Nat → Int32)) (i : Nat) (Sx : (Nat → Nat → Nat → Int32)) : lp_X10_day_289 S x_2 Z_4 w_5 Z_6 Z_7 0 i Sx = some (Sx) := rfl
theorem ls_lp_X10_day_289 (S : (Nat → Nat → Nat → Int32)) (x_2 : Int32 × (Nat → Nat → Nat → Int32)) (Z_4 : (Nat → Nat → Nat → Int32)) (w_5 : Int32) (Z_6 : (Nat → Nat → Nat → Int32)) (Z_7 : (Nat → Nat → Nat → Int32)) (k i : Nat) (Sx : (Nat → Nat → Nat → Int32)) : lp_X10_day_289 S x_2 Z_4 w_5 Z_6 Z_7 (k + 1) i Sx = (lp_X10_day_311 S x_2 Z_4 w_5 Z_6 Z_7 k i Sx ((S 1 0 0).toNatClampNeg) 0 Sx).bind (fun Z_14 => (lp_X10_day_289 S x_2 Z_4 w_5 Z_6 Z_7 k (i + 1) Z_14)) := rfl
theorem sfl_lp_X10_day_289 {S : (Nat → Nat → Nat → Int32)} {x_2 : Int32 × (Nat → Nat → Nat → Int32)} {Z_4 : (Nat → Nat → Nat → Int32)} {w_5 : Int32} {Z_6 : (Nat → Nat → Nat → Int32)} {Z_7 : (Nat → Nat → Nat → Int32)} {T0 : (Nat → Nat → Nat → Int32)} : ∀ (k i : Nat) (Sx : (Nat → Nat → Nat → Int32)) (r : (Nat → Nat → Nat → Int32)), lp_X10_day_289 S x_2 Z_4 w_5 Z_6 Z_7 k i Sx = some r → SM T0 Sx → SM T0 r := by
  intro k
  induction k with
  | zero => 
    intro i Sx r h hsm
    have h := (lz_lp_X10_day_289 S x_2 Z_4 w_5 Z_6 Z_7 i Sx).symm.trans h
    cases h
    exact hsm
  | succ k ih => 
    intro i Sx r h hsm
    have h := (ls_lp_X10_day_289 S x_2 Z_4 w_5 Z_6 Z_7 k i Sx).symm.trans h
    obtain ⟨Z_14, hL_311, h⟩ := ob1 h
    exact ih _ _ _ h (sfl_lp_X10_day_311 _ _ _ _ hL_311 hsm)

noncomputable def lp_X10_day_243 (S : (Nat → Nat → Nat → Int32)) (x_2 : Int32 × (Nat → Nat → Nat → Int32)) (Z_4 : (Nat → Nat → Nat → Int32)) (w_5 : Int32) (Z_6 : (Nat → Nat → Nat → Int32)) (k : Nat) (i : Nat) (Sx : (Nat → Nat → Nat → Int32)) : Nat → Nat → (Nat → Nat → Nat → Int32) → Option ((Nat → Nat → Nat → Int32))
  | 0, ib, Sxb => some (Sxb)
  | kb + 1, ib, Sxb => (sp_X10_canBegin Sxb i (nI ib)).bind fun x_22 => (if x_22 = 0 then (lp_X10_day_243 S x_2 Z_4 w_5 Z_6 k i Sx kb (ib + 1) Sxb) else ((sp_X10_begin Sxb i (nI ib)).bind fun x_24 => (lp_X10_day_243 S x_2 Z_4 w_5 Z_6 k i Sx kb (ib + 1) x_24)))
theorem lz_lp_X10_day_243 (S : (Nat → Nat → Nat → Int32)) (x_2 : Int32 × (Nat → Nat → Nat → Int32)) (Z_4 : (Nat → Nat → Nat → Int32)) (w_5 : Int32) (Z_6 : (Nat → Nat → Nat → Int32)) (k : Nat) (i : Nat) (Sx : (Nat → Nat → Nat → Int32)) (ib : Nat) (Sxb : (Nat → Nat → Nat → Int32)) : lp_X10_day_243 S x_2 Z_4 w_5 Z_6 k i Sx 0 ib Sxb = some (Sxb) := rfl
theorem ls_lp_X10_day_243 (S : (Nat → Nat → Nat → Int32)) (x_2 : Int32 × (Nat → Nat → Nat → Int32)) (Z_4 : (Nat → Nat → Nat → Int32)) (w_5 : Int32) (Z_6 : (Nat → Nat → Nat → Int32)) (k : Nat) (i : Nat) (Sx : (Nat → Nat → Nat → Int32)) (kb ib : Nat) (Sxb : (Nat → Nat → Nat → Int32)) : lp_X10_day_243 S x_2 Z_4 w_5 Z_6 k i Sx (kb + 1) ib Sxb = (sp_X10_canBegin Sxb i (nI ib)).bind fun x_22 => (if x_22 = 0 then (lp_X10_day_243 S x_2 Z_4 w_5 Z_6 k i Sx kb (ib + 1) Sxb) else ((sp_X10_begin Sxb i (nI ib)).bind fun x_24 => (lp_X10_day_243 S x_2 Z_4 w_5 Z_6 k i Sx kb (ib + 1) x_24))) := rfl
theorem sfl_lp_X10_day_243 {S : (Nat → Nat → Nat → Int32)} {x_2 : Int32 × (Nat → Nat → Nat → Int32)} {Z_4 : (Nat → Nat → Nat → Int32)} {w_5 : Int32} {Z_6 : (Nat → Nat → Nat → Int32)} {k : Nat} {i : Nat} {Sx : (Nat → Nat → Nat → Int32)} {T0 : (Nat → Nat → Nat → Int32)} : ∀ (kb ib : Nat) (Sxb : (Nat → Nat → Nat → Int32)) (r : (Nat → Nat → Nat → Int32)), lp_X10_day_243 S x_2 Z_4 w_5 Z_6 k i Sx kb ib Sxb = some r → SM T0 Sxb → SM T0 r := by
  intro kb
  induction kb with
  | zero => 
    intro ib Sxb r h hsmb
    have h := (lz_lp_X10_day_243 S x_2 Z_4 w_5 Z_6 k i Sx ib Sxb).symm.trans h
    cases h
    exact hsmb
  | succ kb ih => 
    intro ib Sxb r h hsmb
    have h := (ls_lp_X10_day_243 S x_2 Z_4 w_5 Z_6 k i Sx kb ib Sxb).symm.trans h
    obtain ⟨x_22, hx_22, h⟩ := ob1 h
    by_cases q_25 : x_22 = 0
    · have h := (if_pos q_25).symm.trans h
      exact ih _ _ _ h hsmb
    · have h := (if_neg q_25).symm.trans h
      obtain ⟨x_24, hx_24, h⟩ := ob1 h
      exact ih _ _ _ h (SM.tr hsmb (sf_X10_begin hx_24))

noncomputable def lp_X10_day_221 (S : (Nat → Nat → Nat → Int32)) (x_2 : Int32 × (Nat → Nat → Nat → Int32)) (Z_4 : (Nat → Nat → Nat → Int32)) (w_5 : Int32) (Z_6 : (Nat → Nat → Nat → Int32)) : Nat → Nat → (Nat → Nat → Nat → Int32) → Option ((Nat → Nat → Nat → Int32))
  | 0, i, Sx => some (Sx)
  | k + 1, i, Sx => (lp_X10_day_243 S x_2 Z_4 w_5 Z_6 k i Sx ((S 1 0 0).toNatClampNeg) 0 Sx).bind (fun Z_21 => (lp_X10_day_221 S x_2 Z_4 w_5 Z_6 k (i + 1) Z_21))
theorem lz_lp_X10_day_221 (S : (Nat → Nat → Nat → Int32)) (x_2 : Int32 × (Nat → Nat → Nat → Int32)) (Z_4 : (Nat → Nat → Nat → Int32)) (w_5 : Int32) (Z_6 : (Nat → Nat → Nat → Int32)) (i : Nat) (Sx : (Nat → Nat → Nat → Int32)) : lp_X10_day_221 S x_2 Z_4 w_5 Z_6 0 i Sx = some (Sx) := rfl
theorem ls_lp_X10_day_221 (S : (Nat → Nat → Nat → Int32)) (x_2 : Int32 × (Nat → Nat → Nat → Int32)) (Z_4 : (Nat → Nat → Nat → Int32)) (w_5 : Int32) (Z_6 : (Nat → Nat → Nat → Int32)) (k i : Nat) (Sx : (Nat → Nat → Nat → Int32)) : lp_X10_day_221 S x_2 Z_4 w_5 Z_6 (k + 1) i Sx = (lp_X10_day_243 S x_2 Z_4 w_5 Z_6 k i Sx ((S 1 0 0).toNatClampNeg) 0 Sx).bind (fun Z_21 => (lp_X10_day_221 S x_2 Z_4 w_5 Z_6 k (i + 1) Z_21)) := rfl
theorem sfl_lp_X10_day_221 {S : (Nat → Nat → Nat → Int32)} {x_2 : Int32 × (Nat → Nat → Nat → Int32)} {Z_4 : (Nat → Nat → Nat → Int32)} {w_5 : Int32} {Z_6 : (Nat → Nat → Nat → Int32)} {T0 : (Nat → Nat → Nat → Int32)} : ∀ (k i : Nat) (Sx : (Nat → Nat → Nat → Int32)) (r : (Nat → Nat → Nat → Int32)), lp_X10_day_221 S x_2 Z_4 w_5 Z_6 k i Sx = some r → SM T0 Sx → SM T0 r := by
  intro k
  induction k with
  | zero => 
    intro i Sx r h hsm
    have h := (lz_lp_X10_day_221 S x_2 Z_4 w_5 Z_6 i Sx).symm.trans h
    cases h
    exact hsm
  | succ k ih => 
    intro i Sx r h hsm
    have h := (ls_lp_X10_day_221 S x_2 Z_4 w_5 Z_6 k i Sx).symm.trans h
    obtain ⟨Z_21, hL_243, h⟩ := ob1 h
    exact ih _ _ _ h (sfl_lp_X10_day_243 _ _ _ _ hL_243 hsm)

noncomputable def lp_X10_day_139 (S : (Nat → Nat → Nat → Int32)) (x_2 : Int32 × (Nat → Nat → Nat → Int32)) (Z_4 : (Nat → Nat → Nat → Int32)) (k : Nat) (i : Nat) (v1 : Int32) (Sx : (Nat → Nat → Nat → Int32)) : Nat → Nat → Int32 → (Nat → Nat → Nat → Int32) → Option (Int32 × (Nat → Nat → Nat → Int32))
  | 0, ib, v1b, Sxb => some (v1b, Sxb)
  | kb + 1, ib, v1b, Sxb => if Sxb 6 i 2 = 0 then ((sp_X6_is Sxb i (nI ib) 1).bind fun x_29 => (if x_29 = 0 then (lp_X10_day_139 S x_2 Z_4 k i v1 Sx kb (ib + 1) v1b Sxb) else (if (Sxb 25 i ib) + (Sxb 26 i ib) = Sxb 0 0 1 then (lp_X10_day_139 S x_2 Z_4 k i v1 Sx kb (ib + 1) (v1b + 1) (up3 Sxb 24 i ib 2)) else (lp_X10_day_139 S x_2 Z_4 k i v1 Sx kb (ib + 1) v1b Sxb)))) else (lp_X10_day_139 S x_2 Z_4 k i v1 Sx kb (ib + 1) v1b Sxb)
theorem lz_lp_X10_day_139 (S : (Nat → Nat → Nat → Int32)) (x_2 : Int32 × (Nat → Nat → Nat → Int32)) (Z_4 : (Nat → Nat → Nat → Int32)) (k : Nat) (i : Nat) (v1 : Int32) (Sx : (Nat → Nat → Nat → Int32)) (ib : Nat) (v1b : Int32) (Sxb : (Nat → Nat → Nat → Int32)) : lp_X10_day_139 S x_2 Z_4 k i v1 Sx 0 ib v1b Sxb = some (v1b, Sxb) := rfl
theorem ls_lp_X10_day_139 (S : (Nat → Nat → Nat → Int32)) (x_2 : Int32 × (Nat → Nat → Nat → Int32)) (Z_4 : (Nat → Nat → Nat → Int32)) (k : Nat) (i : Nat) (v1 : Int32) (Sx : (Nat → Nat → Nat → Int32)) (kb ib : Nat) (v1b : Int32) (Sxb : (Nat → Nat → Nat → Int32)) : lp_X10_day_139 S x_2 Z_4 k i v1 Sx (kb + 1) ib v1b Sxb = if Sxb 6 i 2 = 0 then ((sp_X6_is Sxb i (nI ib) 1).bind fun x_29 => (if x_29 = 0 then (lp_X10_day_139 S x_2 Z_4 k i v1 Sx kb (ib + 1) v1b Sxb) else (if (Sxb 25 i ib) + (Sxb 26 i ib) = Sxb 0 0 1 then (lp_X10_day_139 S x_2 Z_4 k i v1 Sx kb (ib + 1) (v1b + 1) (up3 Sxb 24 i ib 2)) else (lp_X10_day_139 S x_2 Z_4 k i v1 Sx kb (ib + 1) v1b Sxb)))) else (lp_X10_day_139 S x_2 Z_4 k i v1 Sx kb (ib + 1) v1b Sxb) := rfl
theorem sfl_lp_X10_day_139 {S : (Nat → Nat → Nat → Int32)} {x_2 : Int32 × (Nat → Nat → Nat → Int32)} {Z_4 : (Nat → Nat → Nat → Int32)} {k : Nat} {i : Nat} {v1 : Int32} {Sx : (Nat → Nat → Nat → Int32)} {T0 : (Nat → Nat → Nat → Int32)} : ∀ (kb ib : Nat) (v1b : Int32) (Sxb : (Nat → Nat → Nat → Int32)) (r : Int32 × (Nat → Nat → Nat → Int32)), lp_X10_day_139 S x_2 Z_4 k i v1 Sx kb ib v1b Sxb = some r → SM T0 Sxb → SM T0 r.2 := by
  intro kb
  induction kb with
  | zero => 
    intro ib v1b Sxb r h hsmb
    have h := (lz_lp_X10_day_139 S x_2 Z_4 k i v1 Sx ib v1b Sxb).symm.trans h
    cases h
    exact hsmb
  | succ kb ih => 
    intro ib v1b Sxb r h hsmb
    have h := (ls_lp_X10_day_139 S x_2 Z_4 k i v1 Sx kb ib v1b Sxb).symm.trans h
    by_cases q_32 : Sxb 6 i 2 = 0
    · have h := (if_pos q_32).symm.trans h
      obtain ⟨x_29, hx_29, h⟩ := ob1 h
      by_cases q_33 : x_29 = 0
      · have h := (if_pos q_33).symm.trans h
        exact ih _ _ _ _ h hsmb
      · have h := (if_neg q_33).symm.trans h
        by_cases q_34 : (Sxb 25 i ib) + (Sxb 26 i ib) = Sxb 0 0 1
        · have h := (if_pos q_34).symm.trans h
          exact ih _ _ _ _ h (SM.up rfl (by decide) hsmb)
        · have h := (if_neg q_34).symm.trans h
          exact ih _ _ _ _ h hsmb
    · have h := (if_neg q_32).symm.trans h
      exact ih _ _ _ _ h hsmb

noncomputable def lp_X10_day_117 (S : (Nat → Nat → Nat → Int32)) (x_2 : Int32 × (Nat → Nat → Nat → Int32)) (Z_4 : (Nat → Nat → Nat → Int32)) : Nat → Nat → Int32 → (Nat → Nat → Nat → Int32) → Option (Int32 × (Nat → Nat → Nat → Int32))
  | 0, i, v1, Sx => some (v1, Sx)
  | k + 1, i, v1, Sx => obi2 (lp_X10_day_139 S x_2 Z_4 k i v1 Sx ((S 1 0 0).toNatClampNeg) 0 v1 Sx) (fun w_26 Z_27 => (lp_X10_day_117 S x_2 Z_4 k (i + 1) w_26 Z_27))
theorem lz_lp_X10_day_117 (S : (Nat → Nat → Nat → Int32)) (x_2 : Int32 × (Nat → Nat → Nat → Int32)) (Z_4 : (Nat → Nat → Nat → Int32)) (i : Nat) (v1 : Int32) (Sx : (Nat → Nat → Nat → Int32)) : lp_X10_day_117 S x_2 Z_4 0 i v1 Sx = some (v1, Sx) := rfl
theorem ls_lp_X10_day_117 (S : (Nat → Nat → Nat → Int32)) (x_2 : Int32 × (Nat → Nat → Nat → Int32)) (Z_4 : (Nat → Nat → Nat → Int32)) (k i : Nat) (v1 : Int32) (Sx : (Nat → Nat → Nat → Int32)) : lp_X10_day_117 S x_2 Z_4 (k + 1) i v1 Sx = obi2 (lp_X10_day_139 S x_2 Z_4 k i v1 Sx ((S 1 0 0).toNatClampNeg) 0 v1 Sx) (fun w_26 Z_27 => (lp_X10_day_117 S x_2 Z_4 k (i + 1) w_26 Z_27)) := rfl
theorem sfl_lp_X10_day_117 {S : (Nat → Nat → Nat → Int32)} {x_2 : Int32 × (Nat → Nat → Nat → Int32)} {Z_4 : (Nat → Nat → Nat → Int32)} {T0 : (Nat → Nat → Nat → Int32)} : ∀ (k i : Nat) (v1 : Int32) (Sx : (Nat → Nat → Nat → Int32)) (r : Int32 × (Nat → Nat → Nat → Int32)), lp_X10_day_117 S x_2 Z_4 k i v1 Sx = some r → SM T0 Sx → SM T0 r.2 := by
  intro k
  induction k with
  | zero => 
    intro i v1 Sx r h hsm
    have h := (lz_lp_X10_day_117 S x_2 Z_4 i v1 Sx).symm.trans h
    cases h
    exact hsm
  | succ k ih => 
    intro i v1 Sx r h hsm
    have h := (ls_lp_X10_day_117 S x_2 Z_4 k i v1 Sx).symm.trans h
    obtain ⟨w_26, Z_27, hL_139, h⟩ := ob2 h
    exact ih _ _ _ _ h (sfl_lp_X10_day_139 _ _ _ _ _ hL_139 hsm)

noncomputable def lp_X10_day_43 (S : (Nat → Nat → Nat → Int32)) (x_2 : Int32 × (Nat → Nat → Nat → Int32)) : Nat → Nat → (Nat → Nat → Nat → Int32) → Option ((Nat → Nat → Nat → Int32))
  | 0, i, Sx => some (Sx)
  | k + 1, i, Sx => if Sx 41 0 i = 0 then (if Sx 16 0 i = Sx 0 0 1 then (if Sx 14 0 i < 0 ∨ 4 ≤ (Sx 14 0 i).toNatClampNeg then none else (lp_X10_day_43 S x_2 k (i + 1) (up3 (up3 Sx 41 0 i 1) 13 0 ((Sx 14 0 i).toNatClampNeg) ((Sx 13 0 ((Sx 14 0 i).toNatClampNeg)) + (Sx 15 0 i))))) else (lp_X10_day_43 S x_2 k (i + 1) Sx)) else (lp_X10_day_43 S x_2 k (i + 1) Sx)
theorem lz_lp_X10_day_43 (S : (Nat → Nat → Nat → Int32)) (x_2 : Int32 × (Nat → Nat → Nat → Int32)) (i : Nat) (Sx : (Nat → Nat → Nat → Int32)) : lp_X10_day_43 S x_2 0 i Sx = some (Sx) := rfl
theorem ls_lp_X10_day_43 (S : (Nat → Nat → Nat → Int32)) (x_2 : Int32 × (Nat → Nat → Nat → Int32)) (k i : Nat) (Sx : (Nat → Nat → Nat → Int32)) : lp_X10_day_43 S x_2 (k + 1) i Sx = if Sx 41 0 i = 0 then (if Sx 16 0 i = Sx 0 0 1 then (if Sx 14 0 i < 0 ∨ 4 ≤ (Sx 14 0 i).toNatClampNeg then none else (lp_X10_day_43 S x_2 k (i + 1) (up3 (up3 Sx 41 0 i 1) 13 0 ((Sx 14 0 i).toNatClampNeg) ((Sx 13 0 ((Sx 14 0 i).toNatClampNeg)) + (Sx 15 0 i))))) else (lp_X10_day_43 S x_2 k (i + 1) Sx)) else (lp_X10_day_43 S x_2 k (i + 1) Sx) := rfl
theorem sfl_lp_X10_day_43 {S : (Nat → Nat → Nat → Int32)} {x_2 : Int32 × (Nat → Nat → Nat → Int32)} {T0 : (Nat → Nat → Nat → Int32)} : ∀ (k i : Nat) (Sx : (Nat → Nat → Nat → Int32)) (r : (Nat → Nat → Nat → Int32)), lp_X10_day_43 S x_2 k i Sx = some r → SM T0 Sx → SM T0 r := by
  intro k
  induction k with
  | zero => 
    intro i Sx r h hsm
    have h := (lz_lp_X10_day_43 S x_2 i Sx).symm.trans h
    cases h
    exact hsm
  | succ k ih => 
    intro i Sx r h hsm
    have h := (ls_lp_X10_day_43 S x_2 k i Sx).symm.trans h
    by_cases q_38 : Sx 41 0 i = 0
    · have h := (if_pos q_38).symm.trans h
      by_cases q_39 : Sx 16 0 i = Sx 0 0 1
      · have h := (if_pos q_39).symm.trans h
        by_cases q_40 : Sx 14 0 i < 0 ∨ 4 ≤ (Sx 14 0 i).toNatClampNeg
        · exact nomatch (if_pos q_40).symm.trans h
        have h := (if_neg q_40).symm.trans h
        exact ih _ _ _ h (SM.up rfl (by decide) (SM.up rfl (by decide) hsm))
      · have h := (if_neg q_39).symm.trans h
        exact ih _ _ _ h hsm
    · have h := (if_neg q_38).symm.trans h
      exact ih _ _ _ h hsm

noncomputable def sp_X10_day (S : (Nat → Nat → Nat → Int32)) : Option (Int32 × (Nat → Nat → Nat → Int32)) := (sp_X10_start S (if S 0 0 1 = 199 then 1 else 0) 1).bind fun x_2 => (if x_2.1 = 0 then ((lp_X10_day_43 S x_2 ((S 2 0 0).toNatClampNeg) 0 (up3 x_2.2 0 0 1 ((x_2.2 0 0 1) + 1))).bind (fun Z_4 => (obi2 (lp_X10_day_117 S x_2 Z_4 ((S 0 0 0).toNatClampNeg) 0 0 Z_4) (fun w_5 Z_6 => ((lp_X10_day_221 S x_2 Z_4 w_5 Z_6 ((S 0 0 0).toNatClampNeg) 0 Z_6).bind (fun Z_7 => ((lp_X10_day_289 S x_2 Z_4 w_5 Z_6 Z_7 ((S 0 0 0).toNatClampNeg) 0 Z_7).bind (fun Z_8 => ((sp_X10_bookAll Z_8 ).bind fun x_9 => ((lp_X10_day_386 S x_2 Z_4 w_5 Z_6 Z_7 Z_8 x_9 ((S 0 0 0).toNatClampNeg) 0 x_9).bind (fun Z_10 => (some ((w_5, Z_10)))))))))))))) else (some ((0, x_2.2))))
theorem sf_X10_day {S : (Nat → Nat → Nat → Int32)} {v : Int32 × (Nat → Nat → Nat → Int32)} (h : sp_X10_day S = some v) : SM S v.2 := by
  unfold sp_X10_day at h
  obtain ⟨x_2, hx_2, h⟩ := ob1 h
  by_cases q_41 : x_2.1 = 0
  · have h := (if_pos q_41).symm.trans h
    obtain ⟨Z_4, hL_43, h⟩ := ob1 h
    obtain ⟨w_5, Z_6, hL_117, h⟩ := ob2 h
    obtain ⟨Z_7, hL_221, h⟩ := ob1 h
    obtain ⟨Z_8, hL_289, h⟩ := ob1 h
    obtain ⟨x_9, hx_9, h⟩ := ob1 h
    obtain ⟨Z_10, hL_386, h⟩ := ob1 h
    have hz : SM S Z_10 := (sfl_lp_X10_day_386 _ _ _ _ hL_386 (SM.tr (sfl_lp_X10_day_289 _ _ _ _ hL_289 (sfl_lp_X10_day_221 _ _ _ _ hL_221 (sfl_lp_X10_day_117 _ _ _ _ _ hL_117 (sfl_lp_X10_day_43 _ _ _ _ hL_43 (SM.td (SM.tr (SM.rf S) (sf_X10_start hx_2))))))) (sf_X10_bookAll hx_9))); cases h; exact hz
  · have h := (if_neg q_41).symm.trans h
    have hz : SM S x_2.2 := (SM.tr (SM.rf S) (sf_X10_start hx_2)); cases h; exact hz

set_option maxHeartbeats 1000000 in
set_option maxRecDepth 100000 in
theorem ct_X10_day {l : Launch} {D : va_G} {cI cG cJ cO : ClassId} {K0 : Nat → Nat} {A : Nat → Prop} {L : List (Nat × Nat)} {ad : Nat → Nat → Nat} {ce : Nat → Nat → va_E} {cp : Nat → Nat} {S : (Nat → Nat → Nat → Int32)} (hR : MR S L cp) (hI : CI S) (hT : TL 62 L) {v : Int32 × (Nat → Nat → Nat → Int32)} (hE : sp_X10_day S = some v) (sz : Nat) (hA : ∀ q, sz ≤ q → A q) : Met l yX10_day bw_X10_day (rm_X10_day) (kP D (ktys cI cG cJ cO) K0 A L ad (mK cI cO K0 ad cp ce S) sz [.ref (ad 30 0)]) (kQi D A v.1 L ad (mK cI cO K0 ad cp ce v.2)) 166 664 A := by
  refine Met.ofW (cc := cX10_day) (maxL := 5) (ret := (some .int)) (by decide) rfl ?_
  intro p e s m args below meth c s₁ B hml hv_
  obtain ⟨hav, hsz, hP, hD, hK, hO⟩ := hv_
  have hx := B.exec
  have hb := B.bytes
  have hr := B.returns
  have hts : ∀ w ∈ BIG, w.before args s = true := fun w h => atoms_spec (ws := bw_X10_day) B.pre w (List.mem_cons_of_mem _ h)
  have hown : s.vm.findClass RX10 = some m.cls := findClass_of_methodNamed B.named
  have hlocks := B.notSynchronized
  subst hsz
  have hw := wk.start hP hD
  refine k_start (by rfl) hav (Nat.le_of_ble_eq_true rfl) (fun ls hl => ?_)
  have hl : lv_has ls 5 [(0, .ref (ad 30 0))] := hl
  unfold sp_X10_day at hE
  refine lv_aload_n hx hb dX10_day_0 rfl (lv_at hl 0 rfl) ?_
  refine lv_aload_n hx hb dX10_day_1 rfl (lv_at hl 0 rfl) ?_
  refine k_get (C := RX10) (T := TX10) (N := 9) (v := .int (S 0 0 1)) hx hb hts inB_X10 hown hK hw (hR.1 30 (by decide) (by decide)) mke_30 rfl 8 (by decide) (hts _ w_f_X10_103) (fun _ h9 => h9) rfl dX10_day_2 ?_
  refine lv_sipush (v := 199) hx hb dX10_day_5 (by decide) ?_
  have hjc_1 : ∀ bc_1 : Int32, bc_1 = (if S 0 0 1 = 199 then 1 else 0) → W p l e (headSpec bw_X10_day (rm_X10_day)).room s m args below meth c s.heap [] 0 0 (MQ below (kQi D A v.1 L ad (mK cI cO K0 ad cp ce v.2)) args s 166 664 A) (F0 m 16 ls [.int bc_1, .ref (ad 30 0)]) := by
    intro bc_1 hbc_1
    subst hbc_1
    refine lv_iconst (v := 1) hx hb dX10_day_16 (by decide) ?_
    obtain ⟨x_2, hx_2, hE⟩ := ob1 hE
    refine k_ci0 hw (k_rV (f := 30) (o := 0) (As := [.int (if S 0 0 1 = 199 then 1 else 0), .int 1]) (rest := []) ⟨hx, hb, hml, hown, hts⟩ hK hO hw (ct_X10_start (MR.sm (SM.rf S) hR) (SM.ci (SM.rf S) hI) hx_2 _ (wk.hA hw hA)) (cwV 2 hts (gB_V w_ml_X10_186 w_im_X10_start w_se_X10_start w_in_X10 w_co_X10_start) rfl rfl rfl (by decide +kernel) ⟨Nat.le_of_ble_eq_true rfl, Nat.le_of_ble_eq_true rfl⟩) (hR.1 30 (by decide) (by decide)) mke_30 rfl rfl hl.1 rfl (Nat.le_of_ble_eq_true rfl) dX10_day_17 ⟨(Nat.le_of_ble_eq_true rfl), (Nat.le_of_ble_eq_true rfl)⟩) (fun H locs hw => ?_)
    refine lv_if_eq (tgt := 25) hx hb dX10_day_20 (by decide) (fun c_3 => ?_) (fun c_3 => ?_)
    · have hE := (if_pos c_3).symm.trans hE
      refine lv_aload_n hx hb dX10_day_25 rfl (lv_at hl 0 rfl) ?_
      refine lv_dup hx hb dX10_day_26 rfl ?_
      refine k_get (C := RX10) (T := TX10) (N := 9) (v := .int (x_2.2 0 0 1)) hx hb hts inB_X10 hown hK hw (hR.1 30 (by decide) (by decide)) mke_30 rfl 8 (by decide) (hts _ w_f_X10_103) (fun _ h9 => h9) rfl dX10_day_27 ?_
      refine lv_iconst (v := 1) hx hb dX10_day_30 (by decide) ?_
      refine lv_iadd hx hb dX10_day_31 ?_
      refine k_put (C := RX10) (T := TX10) (N := 9) (v := .int ((x_2.2 0 0 1) + 1)) (ty := .int) hx hb hts inB_X10 tyX10 tyX10_ok nmX10 hown hK hw (hR.1 30 (by decide) (by decide)) mke_30 rfl 8 (by decide) (hts _ w_f_X10_103) (fun _ h9 => h9) rfl (by decide +kernel) rfl rfl (Nat.le_of_ble_eq_true rfl) (mK_today (v := ((x_2.2 0 0 1) + 1)) rfl) dX10_day_32 (fun H locs hw => ?_)
      refine lv_aload_n hx hb dX10_day_35 rfl (lv_at hl 0 rfl) ?_
      refine k_get (C := RX10) (T := TX10) (N := 9) (v := .ref (ad 33 0)) hx hb hts inB_X10 hown hK hw (hR.1 30 (by decide) (by decide)) mke_30 rfl 5 (by decide) (hts _ w_f_X10_26) (fun _ h9 => h9) rfl dX10_day_36 ?_
      refine k_crn hw (k_rV (f := 33) (o := 0) (As := []) (rest := []) ⟨hx, hb, hml, hown, hts⟩ hK hO hw (ct_iter_2 (SM.td (SM.tr (SM.rf S) (sf_X10_start hx_2))) hR (it := 62) (Or.inr (by decide)) (TL.new hT (by decide) (by decide)) _ (wk.hA hw hA)) (cwV 0 hts (gB_V w_ml_X10_146 w_im_Jx4a65c_iterator_32c93 w_se_Jx4a65c_iterator_32c93 w_in_Jx4a65c w_co_Jx4a65c_iterator_32c93) rfl rfl rfl (by decide +kernel) ⟨Nat.le_of_ble_eq_true rfl, Nat.le_of_ble_eq_true rfl⟩) (hR.1 33 (by decide) (by decide)) (ce_l2 (SM.td (SM.tr (SM.rf S) (sf_X10_start hx_2)))) rfl rfl hl.1 rfl (Nat.le_of_ble_eq_true rfl) dX10_day_39 ⟨(Nat.le_of_ble_eq_true rfl), (Nat.le_of_ble_eq_true rfl)⟩) (fun q H locs hw => ?_)
      have hw := hw.tmp (Or.inr (by decide))
      have hRp := hR.push (i := (62, 0))
      refine lv_astore_n (lv' := [(1, .ref q), (0, .ref (ad 30 0))]) hx hb dX10_day_42 rfl hl (by decide) rfl (fun ls hl => ?_)
      obtain ⟨Z_4, hL_43, hE⟩ := ob1 hE
      have key_43 : ∀ (k i : Nat) (Sx : (Nat → Nat → Nat → Int32)) (H : Heap) (locs : List Loc) (ls : Array Slot), i + k = (S 2 0 0).toNatClampNeg → SM S Sx → lp_X10_day_43 S x_2 k i Sx = some (Z_4) → wk D A (L ++ [(62, 0)]) (upa ad 62 0 q) (mK cI cO K0 (upa ad 62 0 q) cp (up2 ce 62 0 (itc i (S 42 2 0) (ad 33 0))) Sx) s.heap H locs → lv_has ls 5 [(0, .ref (ad 30 0)), (1, .ref q)] → W p l e (headSpec bw_X10_day (rm_X10_day)).room s m args below meth c H locs (0 + 1) (0 + 4) (MQ below (kQi D A v.1 L ad (mK cI cO K0 ad cp ce v.2)) args s 166 664 A) (F0 m 43 ls []) := by
        intro k
        induction k with
        | zero =>
          intro i Sx H locs ls hk hsm hV hw hl
          have hV := (lz_lp_X10_day_43 S x_2 i Sx).symm.trans hV
          obtain rfl := (Option.some.inj hV).symm
          refine lv_aload_n hx hb dX10_day_43 rfl (lv_at hl 1 rfl) ?_
          refine k_cFi hw (k_rF (f := 62) (o := 0) (As := []) (rest := []) ⟨hx, hb, hml, hown, hts⟩ hK hO hw (ct_hn_2 hsm hRp (it := 62) (i := i) (Or.inr (by decide)) (List.mem_append_right _ (List.mem_singleton_self _)) _ (wk.hA hw hA)) (va_cwF 0 hts (gB_F w_ml_X10_150 w_se_it_hasNext w_im_Jx35411_hasNext_aae02 w_in_Jx35411 w_co_Jx35411_hasNext_aae02) rfl rfl rfl hO.2.2.2.1.1 (by decide +kernel) ⟨by decide, by decide⟩) (List.mem_append_right _ (List.mem_singleton_self _)) ((mK_ou (Or.inr (by decide))).trans up2_eq) rfl rfl hl.1 rfl (Nat.le_of_ble_eq_true rfl) dX10_day_44 ⟨(Nat.le_of_ble_eq_true rfl), (Nat.le_of_ble_eq_true rfl)⟩) (fun H locs hw => ?_)
          rw [if_pos (it_z (cn_eq hI.2.2.1.1) hk)]
          refine lv_if_eq (tgt := 107) hx hb dX10_day_49 (by decide) (fun _ => ?_) (fun h => absurd (by decide) h)
          have hw := hw.untmp (Or.inr (by decide)) (TL.new hT (by decide) (by decide))
          refine lv_iconst (v := 0) hx hb dX10_day_107 (by decide) ?_
          refine lv_istore_n (lv' := [(1, .int 0), (0, .ref (ad 30 0))]) hx hb dX10_day_108 rfl hl (by decide) rfl (fun ls hl => ?_)
          refine lv_aload_n hx hb dX10_day_109 rfl (lv_at hl 1 rfl) ?_
          refine k_get (C := RX10) (T := TX10) (N := 9) (v := .ref (ad 35 0)) hx hb hts inB_X10 hown hK hw (hR.1 30 (by decide) (by decide)) mke_30 rfl 7 (by decide) (hts _ w_f_X10_32) (fun _ h9 => h9) rfl dX10_day_110 ?_
          refine k_crn hw (k_rV (f := 35) (o := 0) (As := []) (rest := []) ⟨hx, hb, hml, hown, hts⟩ hK hO hw (ct_iter_4 hsm hR (it := 62) (Or.inr (by decide)) (TL.new hT (by decide) (by decide)) _ (wk.hA hw hA)) (cwV 0 hts (gB_V w_ml_X10_146 w_im_Jx4a65c_iterator_32c93 w_se_Jx4a65c_iterator_32c93 w_in_Jx4a65c w_co_Jx4a65c_iterator_32c93) rfl rfl rfl (by decide +kernel) ⟨Nat.le_of_ble_eq_true rfl, Nat.le_of_ble_eq_true rfl⟩) (hR.1 35 (by decide) (by decide)) (ce_l4 hsm) rfl rfl hl.1 rfl (Nat.le_of_ble_eq_true rfl) dX10_day_113 ⟨(Nat.le_of_ble_eq_true rfl), (Nat.le_of_ble_eq_true rfl)⟩) (fun q H locs hw => ?_)
          have hw := hw.tmp (Or.inr (by decide))
          have hRp := hR.push (i := (62, 0))
          refine lv_astore_n (lv' := [(2, .ref q), (1, .int 0), (0, .ref (ad 30 0))]) hx hb dX10_day_116 rfl hl (by decide) rfl (fun ls hl => ?_)
          obtain ⟨w_5, Z_6, hL_117, hE⟩ := ob2 hE
          have key_117 : ∀ (k i : Nat) (v1 : Int32) (Sx : (Nat → Nat → Nat → Int32)) (H : Heap) (locs : List Loc) (ls : Array Slot), i + k = (S 0 0 0).toNatClampNeg → SM S Sx → lp_X10_day_117 S x_2 Z_4 k i v1 Sx = some (w_5, Z_6) → wk D A (L ++ [(62, 0)]) (upa ad 62 0 q) (mK cI cO K0 (upa ad 62 0 q) cp (up2 ce 62 0 (itc i (S 42 4 0) (ad 35 0))) Sx) s.heap H locs → lv_has ls 5 [(0, .ref (ad 30 0)), (1, .int v1), (2, .ref q)] → W p l e (headSpec bw_X10_day (rm_X10_day)).room s m args below meth c H locs (0 + 1 + 1) (0 + 4 + 4) (MQ below (kQi D A v.1 L ad (mK cI cO K0 ad cp ce v.2)) args s 166 664 A) (F0 m 117 ls []) := by
            intro k
            induction k with
            | zero =>
              intro i v1 Sx H locs ls hk hsm hV hw hl
              have hV := (lz_lp_X10_day_117 S x_2 Z_4 i v1 Sx).symm.trans hV
              obtain ⟨rfl, rfl⟩ := sj2 hV
              refine lv_aload_n hx hb dX10_day_117 rfl (lv_at hl 2 rfl) ?_
              refine k_cFi hw (k_rF (f := 62) (o := 0) (As := []) (rest := []) ⟨hx, hb, hml, hown, hts⟩ hK hO hw (ct_hn_4 hsm hRp (it := 62) (i := i) (Or.inr (by decide)) (List.mem_append_right _ (List.mem_singleton_self _)) _ (wk.hA hw hA)) (va_cwF 0 hts (gB_F w_ml_X10_150 w_se_it_hasNext w_im_Jx35411_hasNext_aae02 w_in_Jx35411 w_co_Jx35411_hasNext_aae02) rfl rfl rfl hO.2.2.2.1.1 (by decide +kernel) ⟨by decide, by decide⟩) (List.mem_append_right _ (List.mem_singleton_self _)) ((mK_ou (Or.inr (by decide))).trans up2_eq) rfl rfl hl.1 rfl (Nat.le_of_ble_eq_true rfl) dX10_day_118 ⟨(Nat.le_of_ble_eq_true rfl), (Nat.le_of_ble_eq_true rfl)⟩) (fun H locs hw => ?_)
              rw [if_pos (it_z (cn_eq hI.2.2.2.2.1) hk)]
              refine lv_if_eq (tgt := 213) hx hb dX10_day_123 (by decide) (fun _ => ?_) (fun h => absurd (by decide) h)
              have hw := hw.untmp (Or.inr (by decide)) (TL.new hT (by decide) (by decide))
              refine lv_aload_n hx hb dX10_day_213 rfl (lv_at hl 0 rfl) ?_
              refine k_get (C := RX10) (T := TX10) (N := 9) (v := .ref (ad 35 0)) hx hb hts inB_X10 hown hK hw (hR.1 30 (by decide) (by decide)) mke_30 rfl 7 (by decide) (hts _ w_f_X10_32) (fun _ h9 => h9) rfl dX10_day_214 ?_
              refine k_crn hw (k_rV (f := 35) (o := 0) (As := []) (rest := []) ⟨hx, hb, hml, hown, hts⟩ hK hO hw (ct_iter_4 hsm hR (it := 62) (Or.inr (by decide)) (TL.new hT (by decide) (by decide)) _ (wk.hA hw hA)) (cwV 0 hts (gB_V w_ml_X10_146 w_im_Jx4a65c_iterator_32c93 w_se_Jx4a65c_iterator_32c93 w_in_Jx4a65c w_co_Jx4a65c_iterator_32c93) rfl rfl rfl (by decide +kernel) ⟨Nat.le_of_ble_eq_true rfl, Nat.le_of_ble_eq_true rfl⟩) (hR.1 35 (by decide) (by decide)) (ce_l4 hsm) rfl rfl hl.1 rfl (Nat.le_of_ble_eq_true rfl) dX10_day_217 ⟨(Nat.le_of_ble_eq_true rfl), (Nat.le_of_ble_eq_true rfl)⟩) (fun q H locs hw => ?_)
              have hw := hw.tmp (Or.inr (by decide))
              have hRp := hR.push (i := (62, 0))
              refine lv_astore_n (lv' := [(2, .ref q), (0, .ref (ad 30 0)), (1, .int w_5)]) hx hb dX10_day_220 rfl hl (by decide) rfl (fun ls hl => ?_)
              obtain ⟨Z_7, hL_221, hE⟩ := ob1 hE
              have key_221 : ∀ (k i : Nat) (Sx : (Nat → Nat → Nat → Int32)) (H : Heap) (locs : List Loc) (ls : Array Slot), i + k = (S 0 0 0).toNatClampNeg → SM S Sx → lp_X10_day_221 S x_2 Z_4 w_5 Z_6 k i Sx = some (Z_7) → wk D A (L ++ [(62, 0)]) (upa ad 62 0 q) (mK cI cO K0 (upa ad 62 0 q) cp (up2 ce 62 0 (itc i (S 42 4 0) (ad 35 0))) Sx) s.heap H locs → lv_has ls 5 [(0, .ref (ad 30 0)), (1, .int w_5), (2, .ref q)] → W p l e (headSpec bw_X10_day (rm_X10_day)).room s m args below meth c H locs (0 + 1 + 1 + 1) (0 + 4 + 4 + 4) (MQ below (kQi D A v.1 L ad (mK cI cO K0 ad cp ce v.2)) args s 166 664 A) (F0 m 221 ls []) := by
                intro k
                induction k with
                | zero =>
                  intro i Sx H locs ls hk hsm hV hw hl
                  have hV := (lz_lp_X10_day_221 S x_2 Z_4 w_5 Z_6 i Sx).symm.trans hV
                  obtain rfl := (Option.some.inj hV).symm
                  refine lv_aload_n hx hb dX10_day_221 rfl (lv_at hl 2 rfl) ?_
                  refine k_cFi hw (k_rF (f := 62) (o := 0) (As := []) (rest := []) ⟨hx, hb, hml, hown, hts⟩ hK hO hw (ct_hn_4 hsm hRp (it := 62) (i := i) (Or.inr (by decide)) (List.mem_append_right _ (List.mem_singleton_self _)) _ (wk.hA hw hA)) (va_cwF 0 hts (gB_F w_ml_X10_150 w_se_it_hasNext w_im_Jx35411_hasNext_aae02 w_in_Jx35411 w_co_Jx35411_hasNext_aae02) rfl rfl rfl hO.2.2.2.1.1 (by decide +kernel) ⟨by decide, by decide⟩) (List.mem_append_right _ (List.mem_singleton_self _)) ((mK_ou (Or.inr (by decide))).trans up2_eq) rfl rfl hl.1 rfl (Nat.le_of_ble_eq_true rfl) dX10_day_222 ⟨(Nat.le_of_ble_eq_true rfl), (Nat.le_of_ble_eq_true rfl)⟩) (fun H locs hw => ?_)
                  rw [if_pos (it_z (cn_eq hI.2.2.2.2.1) hk)]
                  refine lv_if_eq (tgt := 281) hx hb dX10_day_227 (by decide) (fun _ => ?_) (fun h => absurd (by decide) h)
                  have hw := hw.untmp (Or.inr (by decide)) (TL.new hT (by decide) (by decide))
                  refine lv_aload_n hx hb dX10_day_281 rfl (lv_at hl 0 rfl) ?_
                  refine k_get (C := RX10) (T := TX10) (N := 9) (v := .ref (ad 35 0)) hx hb hts inB_X10 hown hK hw (hR.1 30 (by decide) (by decide)) mke_30 rfl 7 (by decide) (hts _ w_f_X10_32) (fun _ h9 => h9) rfl dX10_day_282 ?_
                  refine k_crn hw (k_rV (f := 35) (o := 0) (As := []) (rest := []) ⟨hx, hb, hml, hown, hts⟩ hK hO hw (ct_iter_4 hsm hR (it := 62) (Or.inr (by decide)) (TL.new hT (by decide) (by decide)) _ (wk.hA hw hA)) (cwV 0 hts (gB_V w_ml_X10_146 w_im_Jx4a65c_iterator_32c93 w_se_Jx4a65c_iterator_32c93 w_in_Jx4a65c w_co_Jx4a65c_iterator_32c93) rfl rfl rfl (by decide +kernel) ⟨Nat.le_of_ble_eq_true rfl, Nat.le_of_ble_eq_true rfl⟩) (hR.1 35 (by decide) (by decide)) (ce_l4 hsm) rfl rfl hl.1 rfl (Nat.le_of_ble_eq_true rfl) dX10_day_285 ⟨(Nat.le_of_ble_eq_true rfl), (Nat.le_of_ble_eq_true rfl)⟩) (fun q H locs hw => ?_)
                  have hw := hw.tmp (Or.inr (by decide))
                  have hRp := hR.push (i := (62, 0))
                  refine lv_astore_n (lv' := [(2, .ref q), (0, .ref (ad 30 0)), (1, .int w_5)]) hx hb dX10_day_288 rfl hl (by decide) rfl (fun ls hl => ?_)
                  obtain ⟨Z_8, hL_289, hE⟩ := ob1 hE
                  have key_289 : ∀ (k i : Nat) (Sx : (Nat → Nat → Nat → Int32)) (H : Heap) (locs : List Loc) (ls : Array Slot), i + k = (S 0 0 0).toNatClampNeg → SM S Sx → lp_X10_day_289 S x_2 Z_4 w_5 Z_6 Z_7 k i Sx = some (Z_8) → wk D A (L ++ [(62, 0)]) (upa ad 62 0 q) (mK cI cO K0 (upa ad 62 0 q) cp (up2 ce 62 0 (itc i (S 42 4 0) (ad 35 0))) Sx) s.heap H locs → lv_has ls 5 [(0, .ref (ad 30 0)), (1, .int w_5), (2, .ref q)] → W p l e (headSpec bw_X10_day (rm_X10_day)).room s m args below meth c H locs (0 + 1 + 1 + 1 + 1) (0 + 4 + 4 + 4 + 4) (MQ below (kQi D A v.1 L ad (mK cI cO K0 ad cp ce v.2)) args s 166 664 A) (F0 m 289 ls []) := by
                    intro k
                    induction k with
                    | zero =>
                      intro i Sx H locs ls hk hsm hV hw hl
                      have hV := (lz_lp_X10_day_289 S x_2 Z_4 w_5 Z_6 Z_7 i Sx).symm.trans hV
                      obtain rfl := (Option.some.inj hV).symm
                      refine lv_aload_n hx hb dX10_day_289 rfl (lv_at hl 2 rfl) ?_
                      refine k_cFi hw (k_rF (f := 62) (o := 0) (As := []) (rest := []) ⟨hx, hb, hml, hown, hts⟩ hK hO hw (ct_hn_4 hsm hRp (it := 62) (i := i) (Or.inr (by decide)) (List.mem_append_right _ (List.mem_singleton_self _)) _ (wk.hA hw hA)) (va_cwF 0 hts (gB_F w_ml_X10_150 w_se_it_hasNext w_im_Jx35411_hasNext_aae02 w_in_Jx35411 w_co_Jx35411_hasNext_aae02) rfl rfl rfl hO.2.2.2.1.1 (by decide +kernel) ⟨by decide, by decide⟩) (List.mem_append_right _ (List.mem_singleton_self _)) ((mK_ou (Or.inr (by decide))).trans up2_eq) rfl rfl hl.1 rfl (Nat.le_of_ble_eq_true rfl) dX10_day_290 ⟨(Nat.le_of_ble_eq_true rfl), (Nat.le_of_ble_eq_true rfl)⟩) (fun H locs hw => ?_)
                      rw [if_pos (it_z (cn_eq hI.2.2.2.2.1) hk)]
                      refine lv_if_eq (tgt := 374) hx hb dX10_day_295 (by decide) (fun _ => ?_) (fun h => absurd (by decide) h)
                      have hw := hw.untmp (Or.inr (by decide)) (TL.new hT (by decide) (by decide))
                      refine lv_aload_n hx hb dX10_day_374 rfl (lv_at hl 0 rfl) ?_
                      obtain ⟨x_9, hx_9, hE⟩ := ob1 hE
                      refine k_cv hw (k_rV (f := 30) (o := 0) (As := []) (rest := []) ⟨hx, hb, hml, hown, hts⟩ hK hO hw (ct_X10_bookAll (MR.sm hsm hR) (SM.ci hsm hI) (TL.le hT (by decide)) hx_9 _ (wk.hA hw hA)) (cwV 0 hts (gB_V w_ml_X10_201 w_im_X10_bookAll w_se_X10_bookAll w_in_X10 w_co_X10_bookAll) rfl rfl rfl (by decide +kernel) ⟨Nat.le_of_ble_eq_true rfl, Nat.le_of_ble_eq_true rfl⟩) (hR.1 30 (by decide) (by decide)) mke_30 rfl rfl hl.1 rfl (Nat.le_of_ble_eq_true rfl) dX10_day_375 ⟨(Nat.le_of_ble_eq_true rfl), (Nat.le_of_ble_eq_true rfl)⟩) (fun H locs hw => ?_)
                      refine lv_aload_n hx hb dX10_day_378 rfl (lv_at hl 0 rfl) ?_
                      refine k_get (C := RX10) (T := TX10) (N := 9) (v := .ref (ad 35 0)) hx hb hts inB_X10 hown hK hw (hR.1 30 (by decide) (by decide)) mke_30 rfl 7 (by decide) (hts _ w_f_X10_32) (fun _ h9 => h9) rfl dX10_day_379 ?_
                      refine k_crn hw (k_rV (f := 35) (o := 0) (As := []) (rest := []) ⟨hx, hb, hml, hown, hts⟩ hK hO hw (ct_iter_4 (SM.tr hsm (sf_X10_bookAll hx_9)) hR (it := 62) (Or.inr (by decide)) (TL.new hT (by decide) (by decide)) _ (wk.hA hw hA)) (cwV 0 hts (gB_V w_ml_X10_146 w_im_Jx4a65c_iterator_32c93 w_se_Jx4a65c_iterator_32c93 w_in_Jx4a65c w_co_Jx4a65c_iterator_32c93) rfl rfl rfl (by decide +kernel) ⟨Nat.le_of_ble_eq_true rfl, Nat.le_of_ble_eq_true rfl⟩) (hR.1 35 (by decide) (by decide)) (ce_l4 (SM.tr hsm (sf_X10_bookAll hx_9))) rfl rfl hl.1 rfl (Nat.le_of_ble_eq_true rfl) dX10_day_382 ⟨(Nat.le_of_ble_eq_true rfl), (Nat.le_of_ble_eq_true rfl)⟩) (fun q H locs hw => ?_)
                      have hw := hw.tmp (Or.inr (by decide))
                      have hRp := hR.push (i := (62, 0))
                      refine lv_astore_n (lv' := [(2, .ref q), (0, .ref (ad 30 0)), (1, .int w_5)]) hx hb dX10_day_385 rfl hl (by decide) rfl (fun ls hl => ?_)
                      obtain ⟨Z_10, hL_386, hE⟩ := ob1 hE
                      have key_386 : ∀ (k i : Nat) (Sx : (Nat → Nat → Nat → Int32)) (H : Heap) (locs : List Loc) (ls : Array Slot), i + k = (S 0 0 0).toNatClampNeg → SM S Sx → lp_X10_day_386 S x_2 Z_4 w_5 Z_6 Z_7 Z_8 x_9 k i Sx = some (Z_10) → wk D A (L ++ [(62, 0)]) (upa ad 62 0 q) (mK cI cO K0 (upa ad 62 0 q) cp (up2 ce 62 0 (itc i (S 42 4 0) (ad 35 0))) Sx) s.heap H locs → lv_has ls 5 [(0, .ref (ad 30 0)), (1, .int w_5), (2, .ref q)] → W p l e (headSpec bw_X10_day (rm_X10_day)).room s m args below meth c H locs (0 + 1 + 1 + 1 + 1 + 161 + 1) (0 + 4 + 4 + 4 + 4 + 644 + 4) (MQ below (kQi D A v.1 L ad (mK cI cO K0 ad cp ce v.2)) args s 166 664 A) (F0 m 386 ls []) := by
                        intro k
                        induction k with
                        | zero =>
                          intro i Sx H locs ls hk hsm hV hw hl
                          have hV := (lz_lp_X10_day_386 S x_2 Z_4 w_5 Z_6 Z_7 Z_8 x_9 i Sx).symm.trans hV
                          obtain rfl := (Option.some.inj hV).symm
                          refine lv_aload_n hx hb dX10_day_386 rfl (lv_at hl 2 rfl) ?_
                          refine k_cFi hw (k_rF (f := 62) (o := 0) (As := []) (rest := []) ⟨hx, hb, hml, hown, hts⟩ hK hO hw (ct_hn_4 hsm hRp (it := 62) (i := i) (Or.inr (by decide)) (List.mem_append_right _ (List.mem_singleton_self _)) _ (wk.hA hw hA)) (va_cwF 0 hts (gB_F w_ml_X10_150 w_se_it_hasNext w_im_Jx35411_hasNext_aae02 w_in_Jx35411 w_co_Jx35411_hasNext_aae02) rfl rfl rfl hO.2.2.2.1.1 (by decide +kernel) ⟨by decide, by decide⟩) (List.mem_append_right _ (List.mem_singleton_self _)) ((mK_ou (Or.inr (by decide))).trans up2_eq) rfl rfl hl.1 rfl (Nat.le_of_ble_eq_true rfl) dX10_day_387 ⟨(Nat.le_of_ble_eq_true rfl), (Nat.le_of_ble_eq_true rfl)⟩) (fun H locs hw => ?_)
                          rw [if_pos (it_z (cn_eq hI.2.2.2.2.1) hk)]
                          refine lv_if_eq (tgt := 420) hx hb dX10_day_392 (by decide) (fun _ => ?_) (fun h => absurd (by decide) h)
                          have hw := hw.untmp (Or.inr (by decide)) (TL.new hT (by decide) (by decide))
                          refine lv_iload_n hx hb dX10_day_420 rfl (lv_at hl 1 rfl) ?_
                          exact m_iretE hx hb hr hlocks rfl hw hE (Nat.le_of_ble_eq_true rfl) (Nat.le_of_ble_eq_true rfl) dX10_day_421
                        | succ k ih =>
                          intro i Sx H locs ls hk hsm hV hw hl
                          have hV := (ls_lp_X10_day_386 S x_2 Z_4 w_5 Z_6 Z_7 Z_8 x_9 k i Sx).symm.trans hV
                          have hE := hV
                          refine lv_aload_n hx hb dX10_day_386 rfl (lv_at hl 2 rfl) ?_
                          refine k_cFi hw (k_rF (f := 62) (o := 0) (As := []) (rest := []) ⟨hx, hb, hml, hown, hts⟩ hK hO hw (ct_hn_4 hsm hRp (it := 62) (i := i) (Or.inr (by decide)) (List.mem_append_right _ (List.mem_singleton_self _)) _ (wk.hA hw hA)) (va_cwF 0 hts (gB_F w_ml_X10_150 w_se_it_hasNext w_im_Jx35411_hasNext_aae02 w_in_Jx35411 w_co_Jx35411_hasNext_aae02) rfl rfl rfl hO.2.2.2.1.1 (by decide +kernel) ⟨by decide, by decide⟩) (List.mem_append_right _ (List.mem_singleton_self _)) ((mK_ou (Or.inr (by decide))).trans up2_eq) rfl rfl hl.1 rfl (Nat.le_of_ble_eq_true rfl) dX10_day_387 ⟨(Nat.le_of_ble_eq_true rfl), (Nat.le_of_ble_eq_true rfl)⟩) (fun H locs hw => ?_)
                          rw [if_neg (it_s (cn_eq hI.2.2.2.2.1) hk (cn_lt _))]
                          refine lv_if_eq (tgt := 420) hx hb dX10_day_392 (by decide) (fun h => absurd h (by decide)) (fun _ => ?_)
                          refine lv_aload_n hx hb dX10_day_395 rfl (lv_at hl 2 rfl) ?_
                          refine k_cFr (v := (ad 46 i)) hw (k_rF (f := 62) (o := 0) (As := []) (rest := []) ⟨hx, hb, hml, hown, hts⟩ hK hO hw (ct_nx_4 hsm hRp hI (it := 62) (i := i) (Or.inr (by decide)) (List.mem_append_right _ (List.mem_singleton_self _)) (lp_l hk) _ (wk.hA hw hA)) (va_cwF 0 hts (gB_F w_ml_X10_156 w_se_it_next w_im_Jx35411_next_0502b w_in_Jx35411 w_co_Jx35411_next_0502b) rfl rfl rfl hO.2.2.2.1.2.1 (by decide +kernel) ⟨by decide, by decide⟩) (List.mem_append_right _ (List.mem_singleton_self _)) ((mK_ou (Or.inr (by decide))).trans up2_eq) rfl rfl hl.1 rfl (Nat.le_of_ble_eq_true rfl) dX10_day_396 ⟨(Nat.le_of_ble_eq_true rfl), (Nat.le_of_ble_eq_true rfl)⟩) (fun H locs hw => ?_)
                          refine k_cast (f := 46) (o := i) hx hb hown (hts _ w_cl_X10_64) hK hw (hRp.2.2.2.2.2.2.2 46 _ (by decide) (by decide) (lp_l hk)) mke_46 rfl dX10_day_401 ?_
                          refine lv_astore_n (lv' := [(3, .ref (ad 46 i)), (0, .ref (ad 30 0)), (1, .int w_5), (2, .ref q)]) hx hb dX10_day_404 rfl hl (by decide) rfl (fun ls hl => ?_)
                          refine lv_aload_n hx hb dX10_day_405 rfl (lv_at hl 0 rfl) ?_
                          refine k_get (C := RX6) (T := TX6) (N := 8) (v := .int (Sx 6 i 2)) hx hb hts inB_X6 hown hK hw (hRp.2.2.2.2.2.2.2 46 _ (by decide) (by decide) (lp_l hk)) mke_46 rfl 7 (by decide) (hts _ w_f_X10_140) (fun _ h9 => h9) rfl dX10_day_406 ?_
                          refine lv_if_eq (tgt := 417) hx hb dX10_day_409 (by decide) (fun c_11 => ?_) (fun c_11 => ?_)
                          · have hE := (if_pos c_11).symm.trans hE
                            refine lv_goto (tgt := 386) hx hb dX10_day_417 (by decide) ?_
                            exact ih (i + 1) Sx _ _ _ (lp_s hk) hsm hE hw (lv_sub hl [1, 2, 3] rfl)
                          · have hE := (if_neg c_11).symm.trans hE
                            refine lv_aload_n hx hb dX10_day_412 rfl (lv_at hl 1 rfl) ?_
                            refine lv_aload_n hx hb dX10_day_413 rfl (lv_at hl 0 rfl) ?_
                            obtain ⟨x_12, hx_12, hE⟩ := ob1 hE
                            refine k_cv0 hw (k_rV (f := 30) (o := 0) (As := [.ref (ad 46 i)]) (rest := []) ⟨hx, hb, hml, hown, hts⟩ hK hO hw (ct_X10_takeBack (MR.sm hsm hRp) (SM.ci hsm hI) (by rw [SM.c4 hsm]; exact (lp_l hk)) hx_12 _ (wk.hA hw hA)) (cwV 1 hts (gB_V w_ml_X10_204 w_im_X10_takeBack w_se_X10_takeBack w_in_X10 w_co_X10_takeBack) rfl rfl rfl (by decide +kernel) ⟨Nat.le_of_ble_eq_true rfl, Nat.le_of_ble_eq_true rfl⟩) (hRp.1 30 (by decide) (by decide)) mke_30 rfl rfl hl.1 rfl (Nat.le_of_ble_eq_true rfl) dX10_day_414 ⟨(Nat.le_of_ble_eq_true rfl), (Nat.le_of_ble_eq_true rfl)⟩) (fun H locs hw => ?_)
                            refine lv_goto (tgt := 386) hx hb dX10_day_417 (by decide) ?_
                            exact ih (i + 1) x_12 _ _ _ (lp_s hk) (SM.tr hsm (sf_X10_takeBack hx_12)) hE hw (lv_sub hl [1, 2, 3] rfl)
                      exact key_386 ((S 0 0 0).toNatClampNeg) 0 x_9 _ _ _ (Nat.zero_add _) (SM.tr hsm (sf_X10_bookAll hx_9)) hL_386 hw (lv_sub hl [1, 2, 0] rfl)
                    | succ k ih =>
                      intro i Sx H locs ls hk hsm hV hw hl
                      have hV := (ls_lp_X10_day_289 S x_2 Z_4 w_5 Z_6 Z_7 k i Sx).symm.trans hV
                      have hE := hV
                      refine lv_aload_n hx hb dX10_day_289 rfl (lv_at hl 2 rfl) ?_
                      refine k_cFi hw (k_rF (f := 62) (o := 0) (As := []) (rest := []) ⟨hx, hb, hml, hown, hts⟩ hK hO hw (ct_hn_4 hsm hRp (it := 62) (i := i) (Or.inr (by decide)) (List.mem_append_right _ (List.mem_singleton_self _)) _ (wk.hA hw hA)) (va_cwF 0 hts (gB_F w_ml_X10_150 w_se_it_hasNext w_im_Jx35411_hasNext_aae02 w_in_Jx35411 w_co_Jx35411_hasNext_aae02) rfl rfl rfl hO.2.2.2.1.1 (by decide +kernel) ⟨by decide, by decide⟩) (List.mem_append_right _ (List.mem_singleton_self _)) ((mK_ou (Or.inr (by decide))).trans up2_eq) rfl rfl hl.1 rfl (Nat.le_of_ble_eq_true rfl) dX10_day_290 ⟨(Nat.le_of_ble_eq_true rfl), (Nat.le_of_ble_eq_true rfl)⟩) (fun H locs hw => ?_)
                      rw [if_neg (it_s (cn_eq hI.2.2.2.2.1) hk (cn_lt _))]
                      refine lv_if_eq (tgt := 374) hx hb dX10_day_295 (by decide) (fun h => absurd h (by decide)) (fun _ => ?_)
                      refine lv_aload_n hx hb dX10_day_298 rfl (lv_at hl 2 rfl) ?_
                      refine k_cFr (v := (ad 46 i)) hw (k_rF (f := 62) (o := 0) (As := []) (rest := []) ⟨hx, hb, hml, hown, hts⟩ hK hO hw (ct_nx_4 hsm hRp hI (it := 62) (i := i) (Or.inr (by decide)) (List.mem_append_right _ (List.mem_singleton_self _)) (lp_l hk) _ (wk.hA hw hA)) (va_cwF 0 hts (gB_F w_ml_X10_156 w_se_it_next w_im_Jx35411_next_0502b w_in_Jx35411 w_co_Jx35411_next_0502b) rfl rfl rfl hO.2.2.2.1.2.1 (by decide +kernel) ⟨by decide, by decide⟩) (List.mem_append_right _ (List.mem_singleton_self _)) ((mK_ou (Or.inr (by decide))).trans up2_eq) rfl rfl hl.1 rfl (Nat.le_of_ble_eq_true rfl) dX10_day_299 ⟨(Nat.le_of_ble_eq_true rfl), (Nat.le_of_ble_eq_true rfl)⟩) (fun H locs hw => ?_)
                      refine k_cast (f := 46) (o := i) hx hb hown (hts _ w_cl_X10_64) hK hw (hRp.2.2.2.2.2.2.2 46 _ (by decide) (by decide) (lp_l hk)) mke_46 rfl dX10_day_304 ?_
                      refine lv_astore_n (lv' := [(3, .ref (ad 46 i)), (0, .ref (ad 30 0)), (1, .int w_5), (2, .ref q)]) hx hb dX10_day_307 rfl hl (by decide) rfl (fun ls hl => ?_)
                      refine lv_iconst (v := 0) hx hb dX10_day_308 (by decide) ?_
                      refine lv_istore (lv' := [(4, .int 0), (3, .ref (ad 46 i)), (0, .ref (ad 30 0)), (1, .int w_5), (2, .ref q)]) hx hb dX10_day_309 hl (by decide) rfl (fun ls hl => ?_)
                      obtain ⟨Z_14, hL_311, hE⟩ := ob1 hE
                      have key_311 : ∀ (kb ib : Nat) (Sxb : (Nat → Nat → Nat → Int32)) (H : Heap) (locs : List Loc) (ls : Array Slot), ib + kb = (S 1 0 0).toNatClampNeg → SM S Sxb → lp_X10_day_311 S x_2 Z_4 w_5 Z_6 Z_7 k i Sx kb ib Sxb = some (Z_14) → wk D A (L ++ [(62, 0)]) (upa ad 62 0 q) (mK cI cO K0 (upa ad 62 0 q) cp (up2 ce 62 0 (itc (i + 1) (S 42 4 0) (ad 35 0))) Sxb) s.heap H locs → lv_has ls 5 [(0, .ref (ad 30 0)), (1, .int w_5), (2, .ref q), (3, .ref (ad 46 i)), (4, .int (nI ib))] → W p l e (headSpec bw_X10_day (rm_X10_day)).room s m args below meth c H locs (0 + 1 + 1 + 1 + 1) (0 + 4 + 4 + 4 + 4) (MQ below (kQi D A v.1 L ad (mK cI cO K0 ad cp ce v.2)) args s 166 664 A) (F0 m 311 ls []) := by
                        intro kb
                        induction kb with
                        | zero =>
                          intro ib Sxb H locs ls hkb hsmb hVb hw hl
                          have hVb := (lz_lp_X10_day_311 S x_2 Z_4 w_5 Z_6 Z_7 k i Sx ib Sxb).symm.trans hVb
                          obtain rfl := (Option.some.inj hVb).symm
                          refine lv_iload hx hb dX10_day_311 (lv_at hl 4 rfl) ?_
                          refine lv_aload_n hx hb dX10_day_313 rfl (lv_at hl 0 rfl) ?_
                          refine k_get (C := RX10) (T := TX10) (N := 9) (v := .ref (ad 31 0)) hx hb hts inB_X10 hown hK hw (hRp.1 30 (by decide) (by decide)) mke_30 rfl 1 (by decide) (hts _ w_f_X10_10) (fun _ h9 => h9) rfl dX10_day_314 ?_
                          refine k_ci0 hw (k_rV (f := 31) (o := 0) (As := []) (rest := [.int (nI ib)]) ⟨hx, hb, hml, hown, hts⟩ hK hO hw (ct_size_0 hsmb hRp _ (wk.hA hw hA)) (cwV 0 hts (gB_V w_ml_X10_43 w_im_Jx4a65c_size_8abf5 w_se_Jx4a65c_size_8abf5 w_in_Jx4a65c w_co_Jx4a65c_size_8abf5) rfl rfl rfl (by decide +kernel) ⟨Nat.le_of_ble_eq_true rfl, Nat.le_of_ble_eq_true rfl⟩) (hRp.1 31 (by decide) (by decide)) (ce_l0 hsmb) rfl rfl hl.1 rfl (Nat.le_of_ble_eq_true rfl) dX10_day_317 ⟨(Nat.le_of_ble_eq_true rfl), (Nat.le_of_ble_eq_true rfl)⟩) (fun H locs hw => ?_)
                          refine lv_icmp_ge (tgt := 371) hx hb dX10_day_320 (by decide) (fun _ => ?_) (fun h => absurd (lp_o (cn_eq hI.1.1) hkb (cn_lt _)) h)
                          refine lv_goto (tgt := 289) hx hb dX10_day_371 (by decide) ?_
                          exact ih (i + 1) Z_14 _ _ _ (lp_s hk) hsmb hE hw (lv_sub hl [0, 1, 2] rfl)
                        | succ kb ihb =>
                          intro ib Sxb H locs ls hkb hsmb hVb hw hl
                          have hVb := (ls_lp_X10_day_311 S x_2 Z_4 w_5 Z_6 Z_7 k i Sx kb ib Sxb).symm.trans hVb
                          have hE := hVb
                          refine lv_iload hx hb dX10_day_311 (lv_at hl 4 rfl) ?_
                          refine lv_aload_n hx hb dX10_day_313 rfl (lv_at hl 0 rfl) ?_
                          refine k_get (C := RX10) (T := TX10) (N := 9) (v := .ref (ad 31 0)) hx hb hts inB_X10 hown hK hw (hRp.1 30 (by decide) (by decide)) mke_30 rfl 1 (by decide) (hts _ w_f_X10_10) (fun _ h9 => h9) rfl dX10_day_314 ?_
                          refine k_ci0 hw (k_rV (f := 31) (o := 0) (As := []) (rest := [.int (nI ib)]) ⟨hx, hb, hml, hown, hts⟩ hK hO hw (ct_size_0 hsmb hRp _ (wk.hA hw hA)) (cwV 0 hts (gB_V w_ml_X10_43 w_im_Jx4a65c_size_8abf5 w_se_Jx4a65c_size_8abf5 w_in_Jx4a65c w_co_Jx4a65c_size_8abf5) rfl rfl rfl (by decide +kernel) ⟨Nat.le_of_ble_eq_true rfl, Nat.le_of_ble_eq_true rfl⟩) (hRp.1 31 (by decide) (by decide)) (ce_l0 hsmb) rfl rfl hl.1 rfl (Nat.le_of_ble_eq_true rfl) dX10_day_317 ⟨(Nat.le_of_ble_eq_true rfl), (Nat.le_of_ble_eq_true rfl)⟩) (fun H locs hw => ?_)
                          refine lv_icmp_ge (tgt := 371) hx hb dX10_day_320 (by decide) (fun h => absurd h (lp_i (cn_eq hI.1.1) hkb (cn_lt _))) (fun _ => ?_)
                          refine lv_aload_n hx hb dX10_day_323 rfl (lv_at hl 3 rfl) ?_
                          refine lv_iload hx hb dX10_day_324 (lv_at hl 4 rfl) ?_
                          refine lv_iconst (v := 0) hx hb dX10_day_326 (by decide) ?_
                          obtain ⟨x_15, hx_15, hE⟩ := ob1 hE
                          refine k_ci0 hw (k_rV (f := 46) (o := i) (As := [.int (nI ib), .int 0]) (rest := []) ⟨hx, hb, hml, hown, hts⟩ hK hO hw (ct_X6_is (MR.sm hsmb hRp) (SM.ci hsmb hI) (by rw [SM.c4 hsmb]; exact (lp_l hk)) hx_15 _ (wk.hA hw hA)) (cwV 2 hts (gB_V w_ml_X10_63 w_im_X6_is w_se_X6_is w_in_X6 w_co_X6_is) rfl rfl rfl (by decide +kernel) ⟨Nat.le_of_ble_eq_true rfl, Nat.le_of_ble_eq_true rfl⟩) (hRp.2.2.2.2.2.2.2 46 _ (by decide) (by decide) (lp_l hk)) mke_46 rfl rfl hl.1 rfl (Nat.le_of_ble_eq_true rfl) dX10_day_327 ⟨(Nat.le_of_ble_eq_true rfl), (Nat.le_of_ble_eq_true rfl)⟩) (fun H locs hw => ?_)
                          refine lv_if_eq (tgt := 365) hx hb dX10_day_330 (by decide) (fun c_16 => ?_) (fun c_16 => ?_)
                          · have hE := (if_pos c_16).symm.trans hE
                            refine lv_iinc (v := (nI (ib + 1))) (lv' := [(4, .int (nI (ib + 1))), (0, .ref (ad 30 0)), (1, .int w_5), (2, .ref q), (3, .ref (ad 46 i))]) hx hb dX10_day_365 hl (k := 4) rfl (nI_1 _) (by decide) rfl (fun ls hl => ?_)
                            refine lv_goto (tgt := 311) hx hb dX10_day_368 (by decide) ?_
                            exact ihb (ib + 1) Sxb _ _ _ (lp_s hkb) hsmb hE hw (lv_sub hl [1, 2, 3, 4, 0] rfl)
                          · have hE := (if_neg c_16).symm.trans hE
                            refine lv_aload_n hx hb dX10_day_333 rfl (lv_at hl 0 rfl) ?_
                            refine lv_aload_n hx hb dX10_day_334 rfl (lv_at hl 3 rfl) ?_
                            refine lv_iload hx hb dX10_day_335 (lv_at hl 4 rfl) ?_
                            obtain ⟨x_17, hx_17, hE⟩ := ob1 hE
                            refine k_ci0 hw (k_rV (f := 30) (o := 0) (As := [.ref (ad 46 i), .int (nI ib)]) (rest := []) ⟨hx, hb, hml, hown, hts⟩ hK hO hw (ct_X10_isToday (MR.sm hsmb hRp) (SM.ci hsmb hI) (by rw [SM.c4 hsmb]; exact (lp_l hk)) hx_17 _ (wk.hA hw hA)) (cwV 2 hts (gB_V w_ml_X10_180 w_im_X10_isToday w_se_X10_isToday w_in_X10 w_co_X10_isToday) rfl rfl rfl (by decide +kernel) ⟨Nat.le_of_ble_eq_true rfl, Nat.le_of_ble_eq_true rfl⟩) (hRp.1 30 (by decide) (by decide)) mke_30 rfl rfl hl.1 rfl (Nat.le_of_ble_eq_true rfl) dX10_day_337 ⟨(Nat.le_of_ble_eq_true rfl), (Nat.le_of_ble_eq_true rfl)⟩) (fun H locs hw => ?_)
                            refine lv_if_ne (tgt := 346) hx hb dX10_day_340 (by decide) (fun c_18 => ?_) (fun c_18 => ?_)
                            · have hE := (if_neg c_18).symm.trans hE
                              refine lv_aload_n hx hb dX10_day_346 rfl (lv_at hl 3 rfl) ?_
                              refine k_get (C := RX6) (T := TX6) (N := 8) (v := .ref (ad 50 i)) hx hb hts inB_X6 hown hK hw (hRp.2.2.2.2.2.2.2 46 _ (by decide) (by decide) (lp_l hk)) mke_46 rfl 5 (by decide) (hts _ w_f_X10_126) (fun _ h9 => h9) rfl dX10_day_347 ?_
                              refine lv_iload hx hb dX10_day_350 (lv_at hl 4 rfl) ?_
                              refine lv_iconst (v := (-1)) hx hb dX10_day_352 (by decide) ?_
                              refine k_asti hx hb hK hw (hRp.2.2.2.2.2.2.2 50 _ (by decide) (by decide) (lp_l hk)) 0 mke_50 rfl (nI_nlt (a := ib) (b := 0) (Nat.zero_le _) (Nat.lt_trans (show ib < 12 from (Nat.lt_of_lt_of_le (lp_l hkb) (Nat.le_trans (CI.n1 hI) (by decide)))) (by decide))) (nI_clamp (Nat.lt_trans (show ib < 12 from (Nat.lt_of_lt_of_le (lp_l hkb) (Nat.le_trans (CI.n1 hI) (by decide)))) (by decide))) (show ib < 12 from (Nat.lt_of_lt_of_le (lp_l hkb) (Nat.le_trans (CI.n1 hI) (by decide)))) (mK_a50 (i := ib) (v := (-1)) mcx_a50) dX10_day_353 (fun H locs hw => ?_)
                              refine lv_aload_n hx hb dX10_day_354 rfl (lv_at hl 3 rfl) ?_
                              refine k_get (C := RX6) (T := TX6) (N := 8) (v := .ref (ad 51 i)) hx hb hts inB_X6 hown hK hw (hRp.2.2.2.2.2.2.2 46 _ (by decide) (by decide) (lp_l hk)) mke_46 rfl 6 (by decide) (hts _ w_f_X10_198) (fun _ h9 => h9) rfl dX10_day_355 ?_
                              refine lv_iload hx hb dX10_day_358 (lv_at hl 4 rfl) ?_
                              refine lv_dup2_11 hx hb dX10_day_360 rfl rfl ?_
                              refine k_aldi hx hb hK hw (hRp.2.2.2.2.2.2.2 51 _ (by decide) (by decide) (lp_l hk)) 0 mke_51 rfl (nI_nlt (a := ib) (b := 0) (Nat.zero_le _) (Nat.lt_trans (show ib < 12 from (Nat.lt_of_lt_of_le (lp_l hkb) (Nat.le_trans (CI.n1 hI) (by decide)))) (by decide))) (nI_clamp (Nat.lt_trans (show ib < 12 from (Nat.lt_of_lt_of_le (lp_l hkb) (Nat.le_trans (CI.n1 hI) (by decide)))) (by decide))) (show ib < 12 from (Nat.lt_of_lt_of_le (lp_l hkb) (Nat.le_trans (CI.n1 hI) (by decide)))) (v := Sxb 28 i ib) rfl dX10_day_361 ?_
                              refine lv_iconst (v := 1) hx hb dX10_day_362 (by decide) ?_
                              refine lv_iadd hx hb dX10_day_363 ?_
                              refine k_asti hx hb hK hw (hRp.2.2.2.2.2.2.2 51 _ (by decide) (by decide) (lp_l hk)) 0 mke_51 rfl (nI_nlt (a := ib) (b := 0) (Nat.zero_le _) (Nat.lt_trans (show ib < 12 from (Nat.lt_of_lt_of_le (lp_l hkb) (Nat.le_trans (CI.n1 hI) (by decide)))) (by decide))) (nI_clamp (Nat.lt_trans (show ib < 12 from (Nat.lt_of_lt_of_le (lp_l hkb) (Nat.le_trans (CI.n1 hI) (by decide)))) (by decide))) (show ib < 12 from (Nat.lt_of_lt_of_le (lp_l hkb) (Nat.le_trans (CI.n1 hI) (by decide)))) (mK_a51 (i := ib) (v := ((Sxb 28 i ib) + 1)) mcx_a51) dX10_day_364 (fun H locs hw => ?_)
                              refine lv_iinc (v := (nI (ib + 1))) (lv' := [(4, .int (nI (ib + 1))), (0, .ref (ad 30 0)), (1, .int w_5), (2, .ref q), (3, .ref (ad 46 i))]) hx hb dX10_day_365 hl (k := 4) rfl (nI_1 _) (by decide) rfl (fun ls hl => ?_)
                              refine lv_goto (tgt := 311) hx hb dX10_day_368 (by decide) ?_
                              exact ihb (ib + 1) (up3 (up3 Sxb 27 i ib (-1)) 28 i ib ((Sxb 28 i ib) + 1)) _ _ _ (lp_s hkb) (SM.up rfl (by decide) (SM.up rfl (by decide) hsmb)) hE hw (lv_sub hl [1, 2, 3, 4, 0] rfl)
                            · have hE := (if_pos c_18).symm.trans hE
                              refine lv_goto (tgt := 365) hx hb dX10_day_343 (by decide) ?_
                              refine lv_iinc (v := (nI (ib + 1))) (lv' := [(4, .int (nI (ib + 1))), (0, .ref (ad 30 0)), (1, .int w_5), (2, .ref q), (3, .ref (ad 46 i))]) hx hb dX10_day_365 hl (k := 4) rfl (nI_1 _) (by decide) rfl (fun ls hl => ?_)
                              refine lv_goto (tgt := 311) hx hb dX10_day_368 (by decide) ?_
                              exact ihb (ib + 1) Sxb _ _ _ (lp_s hkb) hsmb hE hw (lv_sub hl [1, 2, 3, 4, 0] rfl)
                      exact key_311 ((S 1 0 0).toNatClampNeg) 0 Sx _ _ _ (Nat.zero_add _) hsm hL_311 hw (lv_sub hl [2, 3, 4, 1, 0] rfl)
                  exact key_289 ((S 0 0 0).toNatClampNeg) 0 Z_7 _ _ _ (Nat.zero_add _) hsm hL_289 hw (lv_sub hl [1, 2, 0] rfl)
                | succ k ih =>
                  intro i Sx H locs ls hk hsm hV hw hl
                  have hV := (ls_lp_X10_day_221 S x_2 Z_4 w_5 Z_6 k i Sx).symm.trans hV
                  have hE := hV
                  refine lv_aload_n hx hb dX10_day_221 rfl (lv_at hl 2 rfl) ?_
                  refine k_cFi hw (k_rF (f := 62) (o := 0) (As := []) (rest := []) ⟨hx, hb, hml, hown, hts⟩ hK hO hw (ct_hn_4 hsm hRp (it := 62) (i := i) (Or.inr (by decide)) (List.mem_append_right _ (List.mem_singleton_self _)) _ (wk.hA hw hA)) (va_cwF 0 hts (gB_F w_ml_X10_150 w_se_it_hasNext w_im_Jx35411_hasNext_aae02 w_in_Jx35411 w_co_Jx35411_hasNext_aae02) rfl rfl rfl hO.2.2.2.1.1 (by decide +kernel) ⟨by decide, by decide⟩) (List.mem_append_right _ (List.mem_singleton_self _)) ((mK_ou (Or.inr (by decide))).trans up2_eq) rfl rfl hl.1 rfl (Nat.le_of_ble_eq_true rfl) dX10_day_222 ⟨(Nat.le_of_ble_eq_true rfl), (Nat.le_of_ble_eq_true rfl)⟩) (fun H locs hw => ?_)
                  rw [if_neg (it_s (cn_eq hI.2.2.2.2.1) hk (cn_lt _))]
                  refine lv_if_eq (tgt := 281) hx hb dX10_day_227 (by decide) (fun h => absurd h (by decide)) (fun _ => ?_)
                  refine lv_aload_n hx hb dX10_day_230 rfl (lv_at hl 2 rfl) ?_
                  refine k_cFr (v := (ad 46 i)) hw (k_rF (f := 62) (o := 0) (As := []) (rest := []) ⟨hx, hb, hml, hown, hts⟩ hK hO hw (ct_nx_4 hsm hRp hI (it := 62) (i := i) (Or.inr (by decide)) (List.mem_append_right _ (List.mem_singleton_self _)) (lp_l hk) _ (wk.hA hw hA)) (va_cwF 0 hts (gB_F w_ml_X10_156 w_se_it_next w_im_Jx35411_next_0502b w_in_Jx35411 w_co_Jx35411_next_0502b) rfl rfl rfl hO.2.2.2.1.2.1 (by decide +kernel) ⟨by decide, by decide⟩) (List.mem_append_right _ (List.mem_singleton_self _)) ((mK_ou (Or.inr (by decide))).trans up2_eq) rfl rfl hl.1 rfl (Nat.le_of_ble_eq_true rfl) dX10_day_231 ⟨(Nat.le_of_ble_eq_true rfl), (Nat.le_of_ble_eq_true rfl)⟩) (fun H locs hw => ?_)
                  refine k_cast (f := 46) (o := i) hx hb hown (hts _ w_cl_X10_64) hK hw (hRp.2.2.2.2.2.2.2 46 _ (by decide) (by decide) (lp_l hk)) mke_46 rfl dX10_day_236 ?_
                  refine lv_astore_n (lv' := [(3, .ref (ad 46 i)), (0, .ref (ad 30 0)), (1, .int w_5), (2, .ref q)]) hx hb dX10_day_239 rfl hl (by decide) rfl (fun ls hl => ?_)
                  refine lv_iconst (v := 0) hx hb dX10_day_240 (by decide) ?_
                  refine lv_istore (lv' := [(4, .int 0), (3, .ref (ad 46 i)), (0, .ref (ad 30 0)), (1, .int w_5), (2, .ref q)]) hx hb dX10_day_241 hl (by decide) rfl (fun ls hl => ?_)
                  obtain ⟨Z_21, hL_243, hE⟩ := ob1 hE
                  have key_243 : ∀ (kb ib : Nat) (Sxb : (Nat → Nat → Nat → Int32)) (H : Heap) (locs : List Loc) (ls : Array Slot), ib + kb = (S 1 0 0).toNatClampNeg → SM S Sxb → lp_X10_day_243 S x_2 Z_4 w_5 Z_6 k i Sx kb ib Sxb = some (Z_21) → wk D A (L ++ [(62, 0)]) (upa ad 62 0 q) (mK cI cO K0 (upa ad 62 0 q) cp (up2 ce 62 0 (itc (i + 1) (S 42 4 0) (ad 35 0))) Sxb) s.heap H locs → lv_has ls 5 [(0, .ref (ad 30 0)), (1, .int w_5), (2, .ref q), (3, .ref (ad 46 i)), (4, .int (nI ib))] → W p l e (headSpec bw_X10_day (rm_X10_day)).room s m args below meth c H locs (0 + 1 + 1 + 1) (0 + 4 + 4 + 4) (MQ below (kQi D A v.1 L ad (mK cI cO K0 ad cp ce v.2)) args s 166 664 A) (F0 m 243 ls []) := by
                    intro kb
                    induction kb with
                    | zero =>
                      intro ib Sxb H locs ls hkb hsmb hVb hw hl
                      have hVb := (lz_lp_X10_day_243 S x_2 Z_4 w_5 Z_6 k i Sx ib Sxb).symm.trans hVb
                      obtain rfl := (Option.some.inj hVb).symm
                      refine lv_iload hx hb dX10_day_243 (lv_at hl 4 rfl) ?_
                      refine lv_aload_n hx hb dX10_day_245 rfl (lv_at hl 0 rfl) ?_
                      refine k_get (C := RX10) (T := TX10) (N := 9) (v := .ref (ad 31 0)) hx hb hts inB_X10 hown hK hw (hRp.1 30 (by decide) (by decide)) mke_30 rfl 1 (by decide) (hts _ w_f_X10_10) (fun _ h9 => h9) rfl dX10_day_246 ?_
                      refine k_ci0 hw (k_rV (f := 31) (o := 0) (As := []) (rest := [.int (nI ib)]) ⟨hx, hb, hml, hown, hts⟩ hK hO hw (ct_size_0 hsmb hRp _ (wk.hA hw hA)) (cwV 0 hts (gB_V w_ml_X10_43 w_im_Jx4a65c_size_8abf5 w_se_Jx4a65c_size_8abf5 w_in_Jx4a65c w_co_Jx4a65c_size_8abf5) rfl rfl rfl (by decide +kernel) ⟨Nat.le_of_ble_eq_true rfl, Nat.le_of_ble_eq_true rfl⟩) (hRp.1 31 (by decide) (by decide)) (ce_l0 hsmb) rfl rfl hl.1 rfl (Nat.le_of_ble_eq_true rfl) dX10_day_249 ⟨(Nat.le_of_ble_eq_true rfl), (Nat.le_of_ble_eq_true rfl)⟩) (fun H locs hw => ?_)
                      refine lv_icmp_ge (tgt := 278) hx hb dX10_day_252 (by decide) (fun _ => ?_) (fun h => absurd (lp_o (cn_eq hI.1.1) hkb (cn_lt _)) h)
                      refine lv_goto (tgt := 221) hx hb dX10_day_278 (by decide) ?_
                      exact ih (i + 1) Z_21 _ _ _ (lp_s hk) hsmb hE hw (lv_sub hl [0, 1, 2] rfl)
                    | succ kb ihb =>
                      intro ib Sxb H locs ls hkb hsmb hVb hw hl
                      have hVb := (ls_lp_X10_day_243 S x_2 Z_4 w_5 Z_6 k i Sx kb ib Sxb).symm.trans hVb
                      have hE := hVb
                      refine lv_iload hx hb dX10_day_243 (lv_at hl 4 rfl) ?_
                      refine lv_aload_n hx hb dX10_day_245 rfl (lv_at hl 0 rfl) ?_
                      refine k_get (C := RX10) (T := TX10) (N := 9) (v := .ref (ad 31 0)) hx hb hts inB_X10 hown hK hw (hRp.1 30 (by decide) (by decide)) mke_30 rfl 1 (by decide) (hts _ w_f_X10_10) (fun _ h9 => h9) rfl dX10_day_246 ?_
                      refine k_ci0 hw (k_rV (f := 31) (o := 0) (As := []) (rest := [.int (nI ib)]) ⟨hx, hb, hml, hown, hts⟩ hK hO hw (ct_size_0 hsmb hRp _ (wk.hA hw hA)) (cwV 0 hts (gB_V w_ml_X10_43 w_im_Jx4a65c_size_8abf5 w_se_Jx4a65c_size_8abf5 w_in_Jx4a65c w_co_Jx4a65c_size_8abf5) rfl rfl rfl (by decide +kernel) ⟨Nat.le_of_ble_eq_true rfl, Nat.le_of_ble_eq_true rfl⟩) (hRp.1 31 (by decide) (by decide)) (ce_l0 hsmb) rfl rfl hl.1 rfl (Nat.le_of_ble_eq_true rfl) dX10_day_249 ⟨(Nat.le_of_ble_eq_true rfl), (Nat.le_of_ble_eq_true rfl)⟩) (fun H locs hw => ?_)
                      refine lv_icmp_ge (tgt := 278) hx hb dX10_day_252 (by decide) (fun h => absurd h (lp_i (cn_eq hI.1.1) hkb (cn_lt _))) (fun _ => ?_)
                      refine lv_aload_n hx hb dX10_day_255 rfl (lv_at hl 0 rfl) ?_
                      refine lv_aload_n hx hb dX10_day_256 rfl (lv_at hl 3 rfl) ?_
                      refine lv_iload hx hb dX10_day_257 (lv_at hl 4 rfl) ?_
                      obtain ⟨x_22, hx_22, hE⟩ := ob1 hE
                      refine k_ci0 hw (k_rV (f := 30) (o := 0) (As := [.ref (ad 46 i), .int (nI ib)]) (rest := []) ⟨hx, hb, hml, hown, hts⟩ hK hO hw (ct_X10_canBegin (MR.sm hsmb hRp) (SM.ci hsmb hI) (by rw [SM.c4 hsmb]; exact (lp_l hk)) hx_22 _ (wk.hA hw hA)) (cwV 2 hts (gB_V w_ml_X10_191 w_im_X10_canBegin w_se_X10_canBegin w_in_X10 w_co_X10_canBegin) rfl rfl rfl (by decide +kernel) ⟨Nat.le_of_ble_eq_true rfl, Nat.le_of_ble_eq_true rfl⟩) (hRp.1 30 (by decide) (by decide)) mke_30 rfl rfl hl.1 rfl (Nat.le_of_ble_eq_true rfl) dX10_day_259 ⟨(Nat.le_of_ble_eq_true rfl), (Nat.le_of_ble_eq_true rfl)⟩) (fun H locs hw => ?_)
                      refine lv_if_eq (tgt := 272) hx hb dX10_day_262 (by decide) (fun c_23 => ?_) (fun c_23 => ?_)
                      · have hE := (if_pos c_23).symm.trans hE
                        refine lv_iinc (v := (nI (ib + 1))) (lv' := [(4, .int (nI (ib + 1))), (0, .ref (ad 30 0)), (1, .int w_5), (2, .ref q), (3, .ref (ad 46 i))]) hx hb dX10_day_272 hl (k := 4) rfl (nI_1 _) (by decide) rfl (fun ls hl => ?_)
                        refine lv_goto (tgt := 243) hx hb dX10_day_275 (by decide) ?_
                        exact ihb (ib + 1) Sxb _ _ _ (lp_s hkb) hsmb hE hw (lv_sub hl [1, 2, 3, 4, 0] rfl)
                      · have hE := (if_neg c_23).symm.trans hE
                        refine lv_aload_n hx hb dX10_day_265 rfl (lv_at hl 0 rfl) ?_
                        refine lv_aload_n hx hb dX10_day_266 rfl (lv_at hl 3 rfl) ?_
                        refine lv_iload hx hb dX10_day_267 (lv_at hl 4 rfl) ?_
                        obtain ⟨x_24, hx_24, hE⟩ := ob1 hE
                        refine k_cv0 hw (k_rV (f := 30) (o := 0) (As := [.ref (ad 46 i), .int (nI ib)]) (rest := []) ⟨hx, hb, hml, hown, hts⟩ hK hO hw (ct_X10_begin (MR.sm hsmb hRp) (SM.ci hsmb hI) (by rw [SM.c4 hsmb]; exact (lp_l hk)) hx_24 _ (wk.hA hw hA)) (cwV 2 hts (gB_V w_ml_X10_194 w_im_X10_begin w_se_X10_begin w_in_X10 w_co_X10_begin) rfl rfl rfl (by decide +kernel) ⟨Nat.le_of_ble_eq_true rfl, Nat.le_of_ble_eq_true rfl⟩) (hRp.1 30 (by decide) (by decide)) mke_30 rfl rfl hl.1 rfl (Nat.le_of_ble_eq_true rfl) dX10_day_269 ⟨(Nat.le_of_ble_eq_true rfl), (Nat.le_of_ble_eq_true rfl)⟩) (fun H locs hw => ?_)
                        refine lv_iinc (v := (nI (ib + 1))) (lv' := [(4, .int (nI (ib + 1))), (0, .ref (ad 30 0)), (1, .int w_5), (2, .ref q), (3, .ref (ad 46 i))]) hx hb dX10_day_272 hl (k := 4) rfl (nI_1 _) (by decide) rfl (fun ls hl => ?_)
                        refine lv_goto (tgt := 243) hx hb dX10_day_275 (by decide) ?_
                        exact ihb (ib + 1) x_24 _ _ _ (lp_s hkb) (SM.tr hsmb (sf_X10_begin hx_24)) hE hw (lv_sub hl [1, 2, 3, 4, 0] rfl)
                  exact key_243 ((S 1 0 0).toNatClampNeg) 0 Sx _ _ _ (Nat.zero_add _) hsm hL_243 hw (lv_sub hl [2, 3, 4, 1, 0] rfl)
              exact key_221 ((S 0 0 0).toNatClampNeg) 0 Z_6 _ _ _ (Nat.zero_add _) hsm hL_221 hw (lv_sub hl [1, 2, 0] rfl)
            | succ k ih =>
              intro i v1 Sx H locs ls hk hsm hV hw hl
              have hV := (ls_lp_X10_day_117 S x_2 Z_4 k i v1 Sx).symm.trans hV
              have hE := hV
              refine lv_aload_n hx hb dX10_day_117 rfl (lv_at hl 2 rfl) ?_
              refine k_cFi hw (k_rF (f := 62) (o := 0) (As := []) (rest := []) ⟨hx, hb, hml, hown, hts⟩ hK hO hw (ct_hn_4 hsm hRp (it := 62) (i := i) (Or.inr (by decide)) (List.mem_append_right _ (List.mem_singleton_self _)) _ (wk.hA hw hA)) (va_cwF 0 hts (gB_F w_ml_X10_150 w_se_it_hasNext w_im_Jx35411_hasNext_aae02 w_in_Jx35411 w_co_Jx35411_hasNext_aae02) rfl rfl rfl hO.2.2.2.1.1 (by decide +kernel) ⟨by decide, by decide⟩) (List.mem_append_right _ (List.mem_singleton_self _)) ((mK_ou (Or.inr (by decide))).trans up2_eq) rfl rfl hl.1 rfl (Nat.le_of_ble_eq_true rfl) dX10_day_118 ⟨(Nat.le_of_ble_eq_true rfl), (Nat.le_of_ble_eq_true rfl)⟩) (fun H locs hw => ?_)
              rw [if_neg (it_s (cn_eq hI.2.2.2.2.1) hk (cn_lt _))]
              refine lv_if_eq (tgt := 213) hx hb dX10_day_123 (by decide) (fun h => absurd h (by decide)) (fun _ => ?_)
              refine lv_aload_n hx hb dX10_day_126 rfl (lv_at hl 2 rfl) ?_
              refine k_cFr (v := (ad 46 i)) hw (k_rF (f := 62) (o := 0) (As := []) (rest := []) ⟨hx, hb, hml, hown, hts⟩ hK hO hw (ct_nx_4 hsm hRp hI (it := 62) (i := i) (Or.inr (by decide)) (List.mem_append_right _ (List.mem_singleton_self _)) (lp_l hk) _ (wk.hA hw hA)) (va_cwF 0 hts (gB_F w_ml_X10_156 w_se_it_next w_im_Jx35411_next_0502b w_in_Jx35411 w_co_Jx35411_next_0502b) rfl rfl rfl hO.2.2.2.1.2.1 (by decide +kernel) ⟨by decide, by decide⟩) (List.mem_append_right _ (List.mem_singleton_self _)) ((mK_ou (Or.inr (by decide))).trans up2_eq) rfl rfl hl.1 rfl (Nat.le_of_ble_eq_true rfl) dX10_day_127 ⟨(Nat.le_of_ble_eq_true rfl), (Nat.le_of_ble_eq_true rfl)⟩) (fun H locs hw => ?_)
              refine k_cast (f := 46) (o := i) hx hb hown (hts _ w_cl_X10_64) hK hw (hRp.2.2.2.2.2.2.2 46 _ (by decide) (by decide) (lp_l hk)) mke_46 rfl dX10_day_132 ?_
              refine lv_astore_n (lv' := [(3, .ref (ad 46 i)), (0, .ref (ad 30 0)), (1, .int v1), (2, .ref q)]) hx hb dX10_day_135 rfl hl (by decide) rfl (fun ls hl => ?_)
              refine lv_iconst (v := 0) hx hb dX10_day_136 (by decide) ?_
              refine lv_istore (lv' := [(4, .int 0), (3, .ref (ad 46 i)), (0, .ref (ad 30 0)), (1, .int v1), (2, .ref q)]) hx hb dX10_day_137 hl (by decide) rfl (fun ls hl => ?_)
              obtain ⟨w_26, Z_27, hL_139, hE⟩ := ob2 hE
              have key_139 : ∀ (kb ib : Nat) (v1b : Int32) (Sxb : (Nat → Nat → Nat → Int32)) (H : Heap) (locs : List Loc) (ls : Array Slot), ib + kb = (S 1 0 0).toNatClampNeg → SM S Sxb → lp_X10_day_139 S x_2 Z_4 k i v1 Sx kb ib v1b Sxb = some (w_26, Z_27) → wk D A (L ++ [(62, 0)]) (upa ad 62 0 q) (mK cI cO K0 (upa ad 62 0 q) cp (up2 ce 62 0 (itc (i + 1) (S 42 4 0) (ad 35 0))) Sxb) s.heap H locs → lv_has ls 5 [(0, .ref (ad 30 0)), (1, .int v1b), (2, .ref q), (3, .ref (ad 46 i)), (4, .int (nI ib))] → W p l e (headSpec bw_X10_day (rm_X10_day)).room s m args below meth c H locs (0 + 1 + 1) (0 + 4 + 4) (MQ below (kQi D A v.1 L ad (mK cI cO K0 ad cp ce v.2)) args s 166 664 A) (F0 m 139 ls []) := by
                intro kb
                induction kb with
                | zero =>
                  intro ib v1b Sxb H locs ls hkb hsmb hVb hw hl
                  have hVb := (lz_lp_X10_day_139 S x_2 Z_4 k i v1 Sx ib v1b Sxb).symm.trans hVb
                  obtain ⟨rfl, rfl⟩ := sj2 hVb
                  refine lv_iload hx hb dX10_day_139 (lv_at hl 4 rfl) ?_
                  refine lv_aload_n hx hb dX10_day_141 rfl (lv_at hl 0 rfl) ?_
                  refine k_get (C := RX10) (T := TX10) (N := 9) (v := .ref (ad 31 0)) hx hb hts inB_X10 hown hK hw (hRp.1 30 (by decide) (by decide)) mke_30 rfl 1 (by decide) (hts _ w_f_X10_10) (fun _ h9 => h9) rfl dX10_day_142 ?_
                  refine k_ci0 hw (k_rV (f := 31) (o := 0) (As := []) (rest := [.int (nI ib)]) ⟨hx, hb, hml, hown, hts⟩ hK hO hw (ct_size_0 hsmb hRp _ (wk.hA hw hA)) (cwV 0 hts (gB_V w_ml_X10_43 w_im_Jx4a65c_size_8abf5 w_se_Jx4a65c_size_8abf5 w_in_Jx4a65c w_co_Jx4a65c_size_8abf5) rfl rfl rfl (by decide +kernel) ⟨Nat.le_of_ble_eq_true rfl, Nat.le_of_ble_eq_true rfl⟩) (hRp.1 31 (by decide) (by decide)) (ce_l0 hsmb) rfl rfl hl.1 rfl (Nat.le_of_ble_eq_true rfl) dX10_day_145 ⟨(Nat.le_of_ble_eq_true rfl), (Nat.le_of_ble_eq_true rfl)⟩) (fun H locs hw => ?_)
                  refine lv_icmp_ge (tgt := 210) hx hb dX10_day_148 (by decide) (fun _ => ?_) (fun h => absurd (lp_o (cn_eq hI.1.1) hkb (cn_lt _)) h)
                  refine lv_goto (tgt := 117) hx hb dX10_day_210 (by decide) ?_
                  exact ih (i + 1) w_26 Z_27 _ _ _ (lp_s hk) hsmb hE hw (lv_sub hl [0, 1, 2] rfl)
                | succ kb ihb =>
                  intro ib v1b Sxb H locs ls hkb hsmb hVb hw hl
                  have hVb := (ls_lp_X10_day_139 S x_2 Z_4 k i v1 Sx kb ib v1b Sxb).symm.trans hVb
                  have hE := hVb
                  refine lv_iload hx hb dX10_day_139 (lv_at hl 4 rfl) ?_
                  refine lv_aload_n hx hb dX10_day_141 rfl (lv_at hl 0 rfl) ?_
                  refine k_get (C := RX10) (T := TX10) (N := 9) (v := .ref (ad 31 0)) hx hb hts inB_X10 hown hK hw (hRp.1 30 (by decide) (by decide)) mke_30 rfl 1 (by decide) (hts _ w_f_X10_10) (fun _ h9 => h9) rfl dX10_day_142 ?_
                  refine k_ci0 hw (k_rV (f := 31) (o := 0) (As := []) (rest := [.int (nI ib)]) ⟨hx, hb, hml, hown, hts⟩ hK hO hw (ct_size_0 hsmb hRp _ (wk.hA hw hA)) (cwV 0 hts (gB_V w_ml_X10_43 w_im_Jx4a65c_size_8abf5 w_se_Jx4a65c_size_8abf5 w_in_Jx4a65c w_co_Jx4a65c_size_8abf5) rfl rfl rfl (by decide +kernel) ⟨Nat.le_of_ble_eq_true rfl, Nat.le_of_ble_eq_true rfl⟩) (hRp.1 31 (by decide) (by decide)) (ce_l0 hsmb) rfl rfl hl.1 rfl (Nat.le_of_ble_eq_true rfl) dX10_day_145 ⟨(Nat.le_of_ble_eq_true rfl), (Nat.le_of_ble_eq_true rfl)⟩) (fun H locs hw => ?_)
                  refine lv_icmp_ge (tgt := 210) hx hb dX10_day_148 (by decide) (fun h => absurd h (lp_i (cn_eq hI.1.1) hkb (cn_lt _))) (fun _ => ?_)
                  refine lv_aload_n hx hb dX10_day_151 rfl (lv_at hl 3 rfl) ?_
                  refine k_get (C := RX6) (T := TX6) (N := 8) (v := .int (Sxb 6 i 2)) hx hb hts inB_X6 hown hK hw (hRp.2.2.2.2.2.2.2 46 _ (by decide) (by decide) (lp_l hk)) mke_46 rfl 7 (by decide) (hts _ w_f_X10_140) (fun _ h9 => h9) rfl dX10_day_152 ?_
                  refine lv_if_ne (tgt := 204) hx hb dX10_day_155 (by decide) (fun c_28 => ?_) (fun c_28 => ?_)
                  · have hE := (if_neg c_28).symm.trans hE
                    refine lv_iinc (v := (nI (ib + 1))) (lv' := [(4, .int (nI (ib + 1))), (0, .ref (ad 30 0)), (1, .int v1b), (2, .ref q), (3, .ref (ad 46 i))]) hx hb dX10_day_204 hl (k := 4) rfl (nI_1 _) (by decide) rfl (fun ls hl => ?_)
                    refine lv_goto (tgt := 139) hx hb dX10_day_207 (by decide) ?_
                    exact ihb (ib + 1) v1b Sxb _ _ _ (lp_s hkb) hsmb hE hw (lv_sub hl [1, 2, 3, 4, 0] rfl)
                  · have hE := (if_pos c_28).symm.trans hE
                    refine lv_aload_n hx hb dX10_day_158 rfl (lv_at hl 3 rfl) ?_
                    refine lv_iload hx hb dX10_day_159 (lv_at hl 4 rfl) ?_
                    refine lv_iconst (v := 1) hx hb dX10_day_161 (by decide) ?_
                    obtain ⟨x_29, hx_29, hE⟩ := ob1 hE
                    refine k_ci0 hw (k_rV (f := 46) (o := i) (As := [.int (nI ib), .int 1]) (rest := []) ⟨hx, hb, hml, hown, hts⟩ hK hO hw (ct_X6_is (MR.sm hsmb hRp) (SM.ci hsmb hI) (by rw [SM.c4 hsmb]; exact (lp_l hk)) hx_29 _ (wk.hA hw hA)) (cwV 2 hts (gB_V w_ml_X10_63 w_im_X6_is w_se_X6_is w_in_X6 w_co_X6_is) rfl rfl rfl (by decide +kernel) ⟨Nat.le_of_ble_eq_true rfl, Nat.le_of_ble_eq_true rfl⟩) (hRp.2.2.2.2.2.2.2 46 _ (by decide) (by decide) (lp_l hk)) mke_46 rfl rfl hl.1 rfl (Nat.le_of_ble_eq_true rfl) dX10_day_162 ⟨(Nat.le_of_ble_eq_true rfl), (Nat.le_of_ble_eq_true rfl)⟩) (fun H locs hw => ?_)
                    refine lv_if_eq (tgt := 204) hx hb dX10_day_165 (by decide) (fun c_30 => ?_) (fun c_30 => ?_)
                    · have hE := (if_pos c_30).symm.trans hE
                      refine lv_iinc (v := (nI (ib + 1))) (lv' := [(4, .int (nI (ib + 1))), (0, .ref (ad 30 0)), (1, .int v1b), (2, .ref q), (3, .ref (ad 46 i))]) hx hb dX10_day_204 hl (k := 4) rfl (nI_1 _) (by decide) rfl (fun ls hl => ?_)
                      refine lv_goto (tgt := 139) hx hb dX10_day_207 (by decide) ?_
                      exact ihb (ib + 1) v1b Sxb _ _ _ (lp_s hkb) hsmb hE hw (lv_sub hl [1, 2, 3, 4, 0] rfl)
                    · have hE := (if_neg c_30).symm.trans hE
                      refine lv_aload_n hx hb dX10_day_168 rfl (lv_at hl 3 rfl) ?_
                      refine k_get (C := RX6) (T := TX6) (N := 8) (v := .ref (ad 48 i)) hx hb hts inB_X6 hown hK hw (hRp.2.2.2.2.2.2.2 46 _ (by decide) (by decide) (lp_l hk)) mke_46 rfl 3 (by decide) (hts _ w_f_X10_100) (fun _ h9 => h9) rfl dX10_day_169 ?_
                      refine lv_iload hx hb dX10_day_172 (lv_at hl 4 rfl) ?_
                      refine k_aldi hx hb hK hw (hRp.2.2.2.2.2.2.2 48 _ (by decide) (by decide) (lp_l hk)) 0 mke_48 rfl (nI_nlt (a := ib) (b := 0) (Nat.zero_le _) (Nat.lt_trans (show ib < 12 from (Nat.lt_of_lt_of_le (lp_l hkb) (Nat.le_trans (CI.n1 hI) (by decide)))) (by decide))) (nI_clamp (Nat.lt_trans (show ib < 12 from (Nat.lt_of_lt_of_le (lp_l hkb) (Nat.le_trans (CI.n1 hI) (by decide)))) (by decide))) (show ib < 12 from (Nat.lt_of_lt_of_le (lp_l hkb) (Nat.le_trans (CI.n1 hI) (by decide)))) (v := Sxb 25 i ib) rfl dX10_day_174 ?_
                      refine lv_aload_n hx hb dX10_day_175 rfl (lv_at hl 3 rfl) ?_
                      refine k_get (C := RX6) (T := TX6) (N := 8) (v := .ref (ad 49 i)) hx hb hts inB_X6 hown hK hw (hRp.2.2.2.2.2.2.2 46 _ (by decide) (by decide) (lp_l hk)) mke_46 rfl 4 (by decide) (hts _ w_f_X10_78) (fun _ h9 => h9) rfl dX10_day_176 ?_
                      refine lv_iload hx hb dX10_day_179 (lv_at hl 4 rfl) ?_
                      refine k_aldi hx hb hK hw (hRp.2.2.2.2.2.2.2 49 _ (by decide) (by decide) (lp_l hk)) 0 mke_49 rfl (nI_nlt (a := ib) (b := 0) (Nat.zero_le _) (Nat.lt_trans (show ib < 12 from (Nat.lt_of_lt_of_le (lp_l hkb) (Nat.le_trans (CI.n1 hI) (by decide)))) (by decide))) (nI_clamp (Nat.lt_trans (show ib < 12 from (Nat.lt_of_lt_of_le (lp_l hkb) (Nat.le_trans (CI.n1 hI) (by decide)))) (by decide))) (show ib < 12 from (Nat.lt_of_lt_of_le (lp_l hkb) (Nat.le_trans (CI.n1 hI) (by decide)))) (v := Sxb 26 i ib) rfl dX10_day_181 ?_
                      refine lv_iadd hx hb dX10_day_182 ?_
                      refine lv_aload_n hx hb dX10_day_183 rfl (lv_at hl 0 rfl) ?_
                      refine k_get (C := RX10) (T := TX10) (N := 9) (v := .int (Sxb 0 0 1)) hx hb hts inB_X10 hown hK hw (hRp.1 30 (by decide) (by decide)) mke_30 rfl 8 (by decide) (hts _ w_f_X10_103) (fun _ h9 => h9) rfl dX10_day_184 ?_
                      refine lv_icmp_eq (tgt := 193) hx hb dX10_day_187 (by decide) (fun c_31 => ?_) (fun c_31 => ?_)
                      · have hE := (if_pos c_31).symm.trans hE
                        refine lv_aload_n hx hb dX10_day_193 rfl (lv_at hl 3 rfl) ?_
                        refine k_get (C := RX6) (T := TX6) (N := 8) (v := .ref (ad 47 i)) hx hb hts inB_X6 hown hK hw (hRp.2.2.2.2.2.2.2 46 _ (by decide) (by decide) (lp_l hk)) mke_46 rfl 2 (by decide) (hts _ w_f_X10_75) (fun _ h9 => h9) rfl dX10_day_194 ?_
                        refine lv_iload hx hb dX10_day_197 (lv_at hl 4 rfl) ?_
                        refine lv_iconst (v := 2) hx hb dX10_day_199 (by decide) ?_
                        refine k_asti hx hb hK hw (hRp.2.2.2.2.2.2.2 47 _ (by decide) (by decide) (lp_l hk)) 0 mke_47 rfl (nI_nlt (a := ib) (b := 0) (Nat.zero_le _) (Nat.lt_trans (show ib < 12 from (Nat.lt_of_lt_of_le (lp_l hkb) (Nat.le_trans (CI.n1 hI) (by decide)))) (by decide))) (nI_clamp (Nat.lt_trans (show ib < 12 from (Nat.lt_of_lt_of_le (lp_l hkb) (Nat.le_trans (CI.n1 hI) (by decide)))) (by decide))) (show ib < 12 from (Nat.lt_of_lt_of_le (lp_l hkb) (Nat.le_trans (CI.n1 hI) (by decide)))) (mK_a47 (i := ib) (v := 2) mcx_a47) dX10_day_200 (fun H locs hw => ?_)
                        refine lv_iinc (v := (v1b + 1)) (lv' := [(1, .int (v1b + 1)), (0, .ref (ad 30 0)), (2, .ref q), (3, .ref (ad 46 i)), (4, .int (nI ib))]) hx hb dX10_day_201 hl (k := 1) rfl rfl (by decide) rfl (fun ls hl => ?_)
                        refine lv_iinc (v := (nI (ib + 1))) (lv' := [(4, .int (nI (ib + 1))), (1, .int (v1b + 1)), (0, .ref (ad 30 0)), (2, .ref q), (3, .ref (ad 46 i))]) hx hb dX10_day_204 hl (k := 4) rfl (nI_1 _) (by decide) rfl (fun ls hl => ?_)
                        refine lv_goto (tgt := 139) hx hb dX10_day_207 (by decide) ?_
                        exact ihb (ib + 1) (v1b + 1) (up3 Sxb 24 i ib 2) _ _ _ (lp_s hkb) (SM.up rfl (by decide) hsmb) hE hw (lv_sub hl [2, 1, 3, 4, 0] rfl)
                      · have hE := (if_neg c_31).symm.trans hE
                        refine lv_goto (tgt := 204) hx hb dX10_day_190 (by decide) ?_
                        refine lv_iinc (v := (nI (ib + 1))) (lv' := [(4, .int (nI (ib + 1))), (0, .ref (ad 30 0)), (1, .int v1b), (2, .ref q), (3, .ref (ad 46 i))]) hx hb dX10_day_204 hl (k := 4) rfl (nI_1 _) (by decide) rfl (fun ls hl => ?_)
                        refine lv_goto (tgt := 139) hx hb dX10_day_207 (by decide) ?_
                        exact ihb (ib + 1) v1b Sxb _ _ _ (lp_s hkb) hsmb hE hw (lv_sub hl [1, 2, 3, 4, 0] rfl)
              exact key_139 ((S 1 0 0).toNatClampNeg) 0 v1 Sx _ _ _ (Nat.zero_add _) hsm hL_139 hw (lv_sub hl [2, 3, 4, 1, 0] rfl)
          exact key_117 ((S 0 0 0).toNatClampNeg) 0 0 Z_4 _ _ _ (Nat.zero_add _) hsm hL_117 hw (lv_sub hl [2, 1, 0] rfl)
        | succ k ih =>
          intro i Sx H locs ls hk hsm hV hw hl
          have hV := (ls_lp_X10_day_43 S x_2 k i Sx).symm.trans hV
          have hE := hV
          refine lv_aload_n hx hb dX10_day_43 rfl (lv_at hl 1 rfl) ?_
          refine k_cFi hw (k_rF (f := 62) (o := 0) (As := []) (rest := []) ⟨hx, hb, hml, hown, hts⟩ hK hO hw (ct_hn_2 hsm hRp (it := 62) (i := i) (Or.inr (by decide)) (List.mem_append_right _ (List.mem_singleton_self _)) _ (wk.hA hw hA)) (va_cwF 0 hts (gB_F w_ml_X10_150 w_se_it_hasNext w_im_Jx35411_hasNext_aae02 w_in_Jx35411 w_co_Jx35411_hasNext_aae02) rfl rfl rfl hO.2.2.2.1.1 (by decide +kernel) ⟨by decide, by decide⟩) (List.mem_append_right _ (List.mem_singleton_self _)) ((mK_ou (Or.inr (by decide))).trans up2_eq) rfl rfl hl.1 rfl (Nat.le_of_ble_eq_true rfl) dX10_day_44 ⟨(Nat.le_of_ble_eq_true rfl), (Nat.le_of_ble_eq_true rfl)⟩) (fun H locs hw => ?_)
          rw [if_neg (it_s (cn_eq hI.2.2.1.1) hk (cn_lt _))]
          refine lv_if_eq (tgt := 107) hx hb dX10_day_49 (by decide) (fun h => absurd h (by decide)) (fun _ => ?_)
          refine lv_aload_n hx hb dX10_day_52 rfl (lv_at hl 1 rfl) ?_
          refine k_cFr (v := (ad 44 i)) hw (k_rF (f := 62) (o := 0) (As := []) (rest := []) ⟨hx, hb, hml, hown, hts⟩ hK hO hw (ct_nx_2 hsm hRp hI (it := 62) (i := i) (Or.inr (by decide)) (List.mem_append_right _ (List.mem_singleton_self _)) (lp_l hk) _ (wk.hA hw hA)) (va_cwF 0 hts (gB_F w_ml_X10_156 w_se_it_next w_im_Jx35411_next_0502b w_in_Jx35411 w_co_Jx35411_next_0502b) rfl rfl rfl hO.2.2.2.1.2.1 (by decide +kernel) ⟨by decide, by decide⟩) (List.mem_append_right _ (List.mem_singleton_self _)) ((mK_ou (Or.inr (by decide))).trans up2_eq) rfl rfl hl.1 rfl (Nat.le_of_ble_eq_true rfl) dX10_day_53 ⟨(Nat.le_of_ble_eq_true rfl), (Nat.le_of_ble_eq_true rfl)⟩) (fun H locs hw => ?_)
          refine k_cast (f := 44) (o := i) hx hb hown (hts _ w_cl_X10_88) hK hw (hRp.2.2.2.2.2.1 _ (lp_l hk)) mke_44 rfl dX10_day_58 ?_
          refine lv_astore_n (lv' := [(2, .ref (ad 44 i)), (0, .ref (ad 30 0)), (1, .ref q)]) hx hb dX10_day_61 rfl hl (by decide) rfl (fun ls hl => ?_)
          refine lv_aload_n hx hb dX10_day_62 rfl (lv_at hl 0 rfl) ?_
          refine k_get (C := RX7) (T := TX7) (N := 4) (v := .int (Sx 41 0 i)) hx hb hts inB_X7 hown hK hw (hRp.2.2.2.2.2.1 _ (lp_l hk)) mke_44 rfl 3 (by decide) (hts _ w_f_X10_93) (fun _ h9 => h9) rfl dX10_day_63 ?_
          refine lv_if_ne (tgt := 43) hx hb dX10_day_66 (by decide) (fun c_35 => ?_) (fun c_35 => ?_)
          · have hE := (if_neg c_35).symm.trans hE
            exact ih (i + 1) Sx _ _ _ (lp_s hk) hsm hE hw (lv_sub hl [1, 2] rfl)
          · have hE := (if_pos c_35).symm.trans hE
            refine lv_aload_n hx hb dX10_day_69 rfl (lv_at hl 0 rfl) ?_
            refine k_get (C := RX7) (T := TX7) (N := 4) (v := .int (Sx 16 0 i)) hx hb hts inB_X7 hown hK hw (hRp.2.2.2.2.2.1 _ (lp_l hk)) mke_44 rfl 2 (by decide) (hts _ w_f_X10_97) (fun _ h9 => h9) rfl dX10_day_70 ?_
            refine lv_aload_n hx hb dX10_day_73 rfl (lv_at hl 1 rfl) ?_
            refine k_get (C := RX10) (T := TX10) (N := 9) (v := .int (Sx 0 0 1)) hx hb hts inB_X10 hown hK hw (hRp.1 30 (by decide) (by decide)) mke_30 rfl 8 (by decide) (hts _ w_f_X10_103) (fun _ h9 => h9) rfl dX10_day_74 ?_
            refine lv_icmp_eq (tgt := 83) hx hb dX10_day_77 (by decide) (fun c_36 => ?_) (fun c_36 => ?_)
            · have hE := (if_pos c_36).symm.trans hE
              refine lv_aload_n hx hb dX10_day_83 rfl (lv_at hl 0 rfl) ?_
              refine lv_iconst (v := 1) hx hb dX10_day_84 (by decide) ?_
              refine k_put (C := RX7) (T := TX7) (N := 4) (v := .int 1) (ty := .boolean) hx hb hts inB_X7 tyX7 tyX7_ok nmX7 hown hK hw (hRp.2.2.2.2.2.1 _ (lp_l hk)) mke_44 rfl 3 (by decide) (hts _ w_f_X10_93) (fun _ h9 => h9) rfl (by decide +kernel) rfl rfl (Nat.le_of_ble_eq_true rfl) (mK_there (o := i) (v := 1) mcx_there) dX10_day_85 (fun H locs hw => ?_)
              refine lv_aload_n hx hb dX10_day_88 rfl (lv_at hl 1 rfl) ?_
              refine k_get (C := RX10) (T := TX10) (N := 9) (v := .ref (ad 37 0)) hx hb hts inB_X10 hown hK hw (hRp.1 30 (by decide) (by decide)) mke_30 rfl 4 (by decide) (hts _ w_f_X10_23) (fun _ h9 => h9) rfl dX10_day_89 ?_
              refine lv_aload_n hx hb dX10_day_92 rfl (lv_at hl 0 rfl) ?_
              refine k_get (C := RX7) (T := TX7) (N := 4) (v := .int (Sx 14 0 i)) hx hb hts inB_X7 hown hK hw (hRp.2.2.2.2.2.1 _ (lp_l hk)) mke_44 rfl 0 (by decide) (hts _ w_f_X10_90) (fun _ h9 => h9) rfl dX10_day_93 ?_
              refine lv_dup2_11 hx hb dX10_day_96 rfl rfl ?_
              by_cases c_37 : Sx 14 0 i < 0 ∨ 4 ≤ (Sx 14 0 i).toNatClampNeg
              · exact nomatch (if_pos c_37).symm.trans hE
              have hE := (if_neg c_37).symm.trans hE
              refine k_aldi hx hb hK hw (hRp.1 37 (by decide) (by decide)) 0 mke_37 rfl (fun z => c_37 (Or.inl z)) rfl (Nat.not_le.mp fun z => c_37 (Or.inr z)) (v := Sx 13 0 ((Sx 14 0 i).toNatClampNeg)) rfl dX10_day_97 ?_
              refine lv_aload_n hx hb dX10_day_98 rfl (lv_at hl 0 rfl) ?_
              refine k_get (C := RX7) (T := TX7) (N := 4) (v := .int (Sx 15 0 i)) hx hb hts inB_X7 hown hK hw (hRp.2.2.2.2.2.1 _ (lp_l hk)) mke_44 rfl 1 (by decide) (hts _ w_f_X10_188) (fun _ h9 => h9) rfl dX10_day_99 ?_
              refine lv_iadd hx hb dX10_day_102 ?_
              refine k_asti hx hb hK hw (hRp.1 37 (by decide) (by decide)) 0 mke_37 rfl (fun z => c_37 (Or.inl z)) rfl (Nat.not_le.mp fun z => c_37 (Or.inr z)) (mK_stock (i := ((Sx 14 0 i).toNatClampNeg)) (v := ((Sx 13 0 ((Sx 14 0 i).toNatClampNeg)) + (Sx 15 0 i))) rfl) dX10_day_103 (fun H locs hw => ?_)
              refine lv_goto (tgt := 43) hx hb dX10_day_104 (by decide) ?_
              exact ih (i + 1) (up3 (up3 Sx 41 0 i 1) 13 0 ((Sx 14 0 i).toNatClampNeg) ((Sx 13 0 ((Sx 14 0 i).toNatClampNeg)) + (Sx 15 0 i))) _ _ _ (lp_s hk) (SM.up rfl (by decide) (SM.up rfl (by decide) hsm)) hE hw (lv_sub hl [1, 2] rfl)
            · have hE := (if_neg c_36).symm.trans hE
              refine lv_goto (tgt := 43) hx hb dX10_day_80 (by decide) ?_
              exact ih (i + 1) Sx _ _ _ (lp_s hk) hsm hE hw (lv_sub hl [1, 2] rfl)
      exact key_43 ((S 2 0 0).toNatClampNeg) 0 (up3 x_2.2 0 0 1 ((x_2.2 0 0 1) + 1)) _ _ _ (Nat.zero_add _) (SM.td (SM.tr (SM.rf S) (sf_X10_start hx_2))) hL_43 hw (lv_sub hl [1, 0] rfl)
    · have hE := (if_neg c_3).symm.trans hE
      refine lv_iconst (v := 0) hx hb dX10_day_23 (by decide) ?_
      exact m_iretE hx hb hr hlocks rfl hw hE (Nat.le_of_ble_eq_true rfl) (Nat.le_of_ble_eq_true rfl) dX10_day_24
  refine lv_icmp_ne (tgt := 15) hx hb dX10_day_8 (by decide) (fun c_1 => ?_) (fun c_1 => ?_)
  · refine lv_iconst (v := 0) hx hb dX10_day_15 (by decide) ?_
    exact hjc_1 _ (if_neg c_1).symm
  · refine lv_iconst (v := 1) hx hb dX10_day_11 (by decide) ?_
    refine lv_goto (tgt := 16) hx hb dX10_day_12 (by decide) ?_
    exact hjc_1 _ (if_pos c_1).symm
