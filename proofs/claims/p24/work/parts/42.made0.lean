section MODEL
variable {p : Program} {l : Launch} {e : Env} {R : Room} {s : State} {m : MethodId} {args : Array Value} {below : List Frame} {meth : Method} {c : Code} {H : Heap} {locs : List Loc} {cells slots : Nat} {Q : State → Prop} {cc : ByteArray} {pc : Nat} {ls : Array Slot} {rest st0 : List Value} {D : va_G} {A : Nat → Prop} {tys : List (ClassId × FieldType)} {K0 : Nat → Nat} {H0 : Heap} {L L' : List (Nat × Nat)} {ad ad' : Nat → Nat → Nat} {ce ce' : Nat → Nat → va_E}
/-- a new address for one id -/
def upa (ad : Nat → Nat → Nat) (f o q : Nat) : Nat → Nat → Nat := fun f' => if f' = f then (fun o' => if o' = o then q else ad f o') else ad f'
theorem upa_eq {f o q : Nat} : upa ad f o q f o = q := by unfold upa; rw [if_pos rfl, if_pos rfl]
theorem upa_ne {f o q : Nat} {i : Nat × Nat} (h : i ≠ (f, o)) : upa ad f o q i.1 i.2 = ad i.1 i.2 := by
  unfold upa
  by_cases h1 : i.1 = f
  · rw [if_pos h1]
    by_cases h2 : i.2 = o
    · exact absurd (Prod.ext h1 h2) h
    · rw [if_neg h2, h1]
  · rw [if_neg h1]
theorem wl_push {f o q : Nat} {x : va_E} (h : (f, o) ∉ L) : wl (L ++ [(f, o)]) (upa ad f o q) (up2 ce f o x) = wl L ad ce ++ [(q, x)] := by
  unfold wl
  rw [List.map_append]
  congr 1
  · apply List.map_congr_left
    intro i hi
    have hn : i ≠ (f, o) := fun z => h (z ▸ hi)
    rw [upa_ne hn, up2_ne hn]
  · show [(upa ad f o q f o, up2 ce f o x f o)] = _
    rw [upa_eq, up2_eq]
/-- a new cell is an id -/
theorem wk.push {f o q : Nat} {x : va_E} (h : (f, o) ∉ L) (hP : va_P D vwCl (wl L ad ce ++ [(q, x)]) H) (hD : va_D A (wl L ad ce ++ [(q, x)])) (hS : va_S A H0 H locs) : wk D A (L ++ [(f, o)]) (upa ad f o q) (up2 ce f o x) H0 H locs := by
  unfold wk
  rw [wl_push h]
  exact ⟨hP, hD, hS⟩
variable {cI cO : ClassId} {cp : Nat → Nat} {M : Nat → Nat → Nat → Int32} {o : Nat}
end MODEL
section MROWS
variable {K0 : Nat → Nat} {ad : Nat → Nat → Nat} {ce : Nat → Nat → va_E} {cI cO : ClassId} {cp : Nat → Nat} {M : Nat → Nat → Nat → Int32} {o i : Nat} {v : Int32}
end MROWS
section ITR
variable {ce : Nat → Nat → va_E} {f o : Nat} {e e' : va_E}
theorem up2_up2 : up2 (up2 ce f o e) f o e' = up2 ce f o e' := by
  funext f' o'
  by_cases q : f' = f ∧ o' = o
  · obtain ⟨rfl, rfl⟩ := q
    rw [up2_eq, up2_eq]
  · have hne : (f', o') ≠ (f, o) := fun z => q ⟨congrArg Prod.fst z, congrArg Prod.snd z⟩
    exact ((up2_ne (ce := up2 ce f o e) (e := e') (i := (f', o')) hne).trans (up2_ne (ce := ce) (e := e) (i := (f', o')) hne)).trans (up2_ne (ce := ce) (e := e') (i := (f', o')) hne).symm
theorem up2_n {f' o' : Nat} (h : f' ≠ f) : up2 ce f o e f' o' = ce f' o' := by
  unfold up2; rw [if_neg h]
end ITR
