section MODEL
variable {p : Program} {l : Launch} {e : Env} {R : Room} {s : State} {m : MethodId} {args : Array Value} {below : List Frame} {meth : Method} {c : Code} {H : Heap} {locs : List Loc} {cells slots : Nat} {Q : State → Prop} {cc : ByteArray} {pc : Nat} {ls : Array Slot} {rest st0 : List Value} {D : va_G} {A : Nat → Prop} {tys : List (ClassId × FieldType)} {K0 : Nat → Nat} {H0 : Heap} {L L' : List (Nat × Nat)} {ad ad' : Nat → Nat → Nat} {ce ce' : Nat → Nat → va_E}
/-- a new address for one id -/
def upa (ad : Nat → Nat → Nat) (f o q : Nat) : Nat → Nat → Nat := fun f' => if f' = f then (fun o' => if o' = o then q else ad f o') else ad f'
theorem upa_eq {f o q : Nat} : upa ad f o q f o = q := by unfold upa; rw [if_pos rfl, if_pos rfl]
theorem upa_ne {f o q : Nat} {i : Nat × Nat} (h : i ≠ (f, o)) : upa ad f o q i.1 i.2 = ad i.1 i.2 := by
  unfold upa
  by_cases h1 : i.1 = f
  · rw [if_pos h1]
    by_cases h2 : i.2 = o
    · exact absurd (Prod.ext h1 h2) h
    · rw [if_neg h2, h1]
  · rw [if_neg h1]
theorem wl_push {f o q : Nat} {x : va_E} (h : (f, o) ∉ L) : wl (L ++ [(f, o)]) (upa ad f o q) (up2 ce f o x) = wl L ad ce ++ [(q, x)] := by
  unfold wl
  rw [List.map_append]
  congr 1
  · apply List.map_congr_left
    intro i hi
    have hn : i ≠ (f, o) := fun z => h (z ▸ hi)
    rw [upa_ne hn, up2_ne hn]
  · show [(upa ad f o q f o, up2 ce f o x f o)] = _
    rw [upa_eq, up2_eq]
/-- a new cell is an id -/
theorem wk.push {f o q : Nat} {x : va_E} (h : (f, o) ∉ L) (hP : va_P D vwCl (wl L ad ce ++ [(q, x)]) H) (hD : va_D A (wl L ad ce ++ [(q, x)])) (hS : va_S A H0 H locs) : wk D A (L ++ [(f, o)]) (upa ad f o q) (up2 ce f o x) H0 H locs := by
  unfold wk
  rw [wl_push h]
  exact ⟨hP, hD, hS⟩
/-- .. and is forgotten -/
theorem wk.drop {f o q : Nat} {x : va_E} (h : (f, o) ∉ L) (hw : wk D A (L ++ [(f, o)]) (upa ad f o q) (up2 ce f o x) H0 H locs) : wk D A L ad ce H0 H locs := by
  unfold wk at hw
  rw [wl_push h] at hw
  obtain ⟨hP, hD, hS⟩ := hw
  have hlt : ∀ (k : Nat) (z : Nat × va_E), (wl L ad ce)[k]? = some z → (wl L ad ce ++ [(q, x)])[k]? = some z := fun k z hz => by
    rw [List.getElem?_append_left (List.getElem?_eq_some_iff.mp hz).1]; exact hz
  exact ⟨fun k z hz => hP k z (hlt k z hz), ⟨fun i j p1 p2 h1 h2 => hD.1 i j p1 p2 (hlt i p1 h1) (hlt j p2 h2), fun k z hz => hD.2 k z (hlt k z hz)⟩, hS⟩
theorem k_getN (hx : p.tables.exec = Jvm.exec) (hb : c.code = cc) {own ref C host : String} {T : u_T} {N ci index : Nat} {Ts : List Cond} (hts : ∀ w ∈ Ts, w.before args s = true) (hin : ∀ w ∈ u_ws C T N, w ∈ Ts) (hown : s.vm.findClass own = some m.cls) (hK : va_K D vwCl tys s) (hw : wk D A L ad ce H0 H locs) {f o : Nat} (hi : (f, o) ∈ L) {fs : List Value} (he : ce f o = .inr (ci, fs)) (hc : vwCl[ci]? = some (C, T, N)) (k : Nat) (hk : k < N) (hlink : (Cond.fieldLinkNest own index ref (T k).2.1 (T k).2.2.1 host).before args s = true) (hsame : ∀ x, s.fieldFound? (T k).1 (T k).2.1 (T k).2.2.1 = some x → s.fieldFound? ref (T k).2.1 (T k).2.2.1 = some x) {v : Value} (hv : fs[k]? = some v) (hdg : decode cc pc = .ok (.getfield index, 3))
    (kk : W p l e R s m args below meth c H locs cells slots Q (F0 m (pc + 3) ls (v :: rest))) : W p l e R s m args below meth c H locs cells slots Q (F0 m pc ls (.ref (ad f o) :: rest)) := by
  obtain ⟨q, hq⟩ := wl_in hi
  exact va_getN hx hb hts hin hown hK hw.1 q ((wl_at hq).trans (by rw [he])) hc k hk hlink hsame hv hdg kk
theorem k_alen (hx : p.tables.exec = Jvm.exec) (hb : c.code = cc) (hK : va_K D vwCl tys s) (hw : wk D A L ad ce H0 H locs) {f o : Nat} (hi : (f, o) ∈ L) (t0 : Nat) {cA : ClassId} {n : Nat} {g : (Nat → Int32) ⊕ (Nat → Int64) ⊕ (Nat → UInt32) ⊕ (Nat → UInt64) ⊕ (Nat → Option Nat)} (he : ce f o = .inl (cA, n, g)) {ty : FieldType} (ht : tys[t0]? = some (cA, ty)) (hdg : decode cc pc = .ok (.arraylength, 1))
    (kk : W p l e R s m args below meth c H locs cells slots Q (F0 m (pc + 1) ls (.int (nI n) :: rest))) : W p l e R s m args below meth c H locs cells slots Q (F0 m pc ls (.ref (ad f o) :: rest)) := by
  obtain ⟨q, hq⟩ := wl_in hi
  exact va_alen (x := (n, g)) hx hb hK hw.1 q t0 ((wl_at hq).trans (by rw [he])) ht rfl hdg kk
/-! THE REFERENCE'S CELLS -/
/-- a list's size -/
def mszI (M : Nat → Nat → Nat → Int32) (t : Nat) : Int32 := if t = 0 then M 1 0 0 else if t = 1 then M 1 0 1 else if t = 2 then M 2 0 0 else if t = 3 then M 3 0 0 else M 0 0 0
def msz (M : Nat → Nat → Nat → Int32) (t : Nat) : Nat := (mszI M t).toNatClampNeg
/-- a list's element -/
def mel (K0 : Nat → Nat) (ad : Nat → Nat → Nat) (M : Nat → Nat → Nat → Int32) (t k : Nat) : Nat := if t = 0 then ad 43 k else if t = 1 then (if 127 < M 12 0 k then ad 52 k else K0 (2 + (M 12 0 k + 128).toNatClampNeg)) else if t = 2 then ad 44 k else if t = 3 then ad 45 k else ad 46 k
def mcell (cI cO : ClassId) (K0 : Nat → Nat) (ad : Nat → Nat → Nat) (cp : Nat → Nat) (M : Nat → Nat → Nat → Int32) (f o : Nat) : va_E :=
  if f < 43 ∧ ¬ o = 0 then .inr (0, []) else if f = 30 then .inr (13, [.int (M 40 0 0), .ref (ad 31 0), .ref (ad 36 0), .ref (ad 32 0), .ref (ad 37 0), .ref (ad 33 0), .ref (ad 34 0), .ref (ad 35 0), .int (M 0 0 1)])
  else if f < 36 then .inr (2, [.int (M 42 (f - 31) 0), .ref (if cp (f - 31) = 0 then K0 0 else ad (f + 7) 0), .int (mszI M (f - 31))])
  else if f = 36 then .inl (cI, 4, .inl (M 11 0))
  else if f = 37 then .inl (cI, 4, .inl (M 13 0))
  else if f < 43 then .inl (cO, cp (f - 38), .inr (.inr (.inr (.inr (fun k => if k < msz M (f - 38) then some (mel K0 ad M (f - 38) k) else none)))))
  else if f = 43 then .inr (12, [.int (M 7 0 o), .int (M 8 0 o), .int (M 9 0 o), .int (M 10 0 o)])
  else if f = 44 then .inr (10, [.int (M 14 0 o), .int (M 15 0 o), .int (M 16 0 o), .int (M 41 0 o)])
  else if f = 45 then .inr (11, [.int (M 17 0 o), .int (M 18 0 o), .int (M 19 0 o)])
  else if f = 46 then .inr (9, [.int (M 6 o 0), .int (M 6 o 1), .ref (ad 47 o), .ref (ad 48 o), .ref (ad 49 o), .ref (ad 50 o), .ref (ad 51 o), .int (M 6 o 2)])
  else if f = 47 then .inl (cI, 12, .inl (M 24 o))
  else if f = 48 then .inl (cI, 12, .inl (M 25 o))
  else if f = 49 then .inl (cI, 12, .inl (M 26 o))
  else if f = 50 then .inl (cI, 12, .inl (M 27 o))
  else if f = 51 then .inl (cI, 12, .inl (M 28 o))
  else .inr (0, [.int (M 12 0 o)])
def mK (cI cO : ClassId) (K0 : Nat → Nat) (ad : Nat → Nat → Nat) (cp : Nat → Nat) (ce : Nat → Nat → va_E) (M : Nat → Nat → Nat → Int32) : Nat → Nat → va_E := fun f o => if f < 30 then ce f o else if f < 53 then mcell cI cO K0 ad cp M f o else ce f o
variable {cI cO : ClassId} {cp : Nat → Nat} {M : Nat → Nat → Nat → Int32} {o : Nat}
theorem mke_30 : mK cI cO K0 ad cp ce M 30 0 = .inr (13, [.int (M 40 0 0), .ref (ad 31 0), .ref (ad 36 0), .ref (ad 32 0), .ref (ad 37 0), .ref (ad 33 0), .ref (ad 34 0), .ref (ad 35 0), .int (M 0 0 1)]) := rfl
theorem mke_31 : mK cI cO K0 ad cp ce M 31 0 = .inr (2, [.int (M 42 0 0), .ref (if cp 0 = 0 then K0 0 else ad 38 0), .int (M 1 0 0)]) := rfl
theorem mke_32 : mK cI cO K0 ad cp ce M 32 0 = .inr (2, [.int (M 42 1 0), .ref (if cp 1 = 0 then K0 0 else ad 39 0), .int (M 1 0 1)]) := rfl
theorem mke_33 : mK cI cO K0 ad cp ce M 33 0 = .inr (2, [.int (M 42 2 0), .ref (if cp 2 = 0 then K0 0 else ad 40 0), .int (M 2 0 0)]) := rfl
theorem mke_34 : mK cI cO K0 ad cp ce M 34 0 = .inr (2, [.int (M 42 3 0), .ref (if cp 3 = 0 then K0 0 else ad 41 0), .int (M 3 0 0)]) := rfl
theorem mke_35 : mK cI cO K0 ad cp ce M 35 0 = .inr (2, [.int (M 42 4 0), .ref (if cp 4 = 0 then K0 0 else ad 42 0), .int (M 0 0 0)]) := rfl
theorem mke_36 : mK cI cO K0 ad cp ce M 36 0 = .inl (cI, 4, .inl (M 11 0)) := rfl
theorem mke_37 : mK cI cO K0 ad cp ce M 37 0 = .inl (cI, 4, .inl (M 13 0)) := rfl
theorem mke_43 : mK cI cO K0 ad cp ce M 43 o = .inr (12, [.int (M 7 0 o), .int (M 8 0 o), .int (M 9 0 o), .int (M 10 0 o)]) := rfl
theorem mke_44 : mK cI cO K0 ad cp ce M 44 o = .inr (10, [.int (M 14 0 o), .int (M 15 0 o), .int (M 16 0 o), .int (M 41 0 o)]) := rfl
theorem mke_45 : mK cI cO K0 ad cp ce M 45 o = .inr (11, [.int (M 17 0 o), .int (M 18 0 o), .int (M 19 0 o)]) := rfl
theorem mke_46 : mK cI cO K0 ad cp ce M 46 o = .inr (9, [.int (M 6 o 0), .int (M 6 o 1), .ref (ad 47 o), .ref (ad 48 o), .ref (ad 49 o), .ref (ad 50 o), .ref (ad 51 o), .int (M 6 o 2)]) := rfl
theorem mke_47 : mK cI cO K0 ad cp ce M 47 o = .inl (cI, 12, .inl (M 24 o)) := rfl
theorem mke_48 : mK cI cO K0 ad cp ce M 48 o = .inl (cI, 12, .inl (M 25 o)) := rfl
theorem mke_49 : mK cI cO K0 ad cp ce M 49 o = .inl (cI, 12, .inl (M 26 o)) := rfl
theorem mke_50 : mK cI cO K0 ad cp ce M 50 o = .inl (cI, 12, .inl (M 27 o)) := rfl
theorem mke_51 : mK cI cO K0 ad cp ce M 51 o = .inl (cI, 12, .inl (M 28 o)) := rfl
theorem mke_52 : mK cI cO K0 ad cp ce M 52 o = .inr (0, [.int (M 12 0 o)]) := rfl
theorem mK_in {f : Nat} (h1 : 30 ≤ f) (h2 : f < 53) : mK cI cO K0 ad cp ce M f o = mcell cI cO K0 ad cp M f o := by
  unfold mK; rw [if_neg (Nat.not_lt.mpr h1), if_pos h2]
theorem mK_ou {f : Nat} (h : f < 30 ∨ 53 ≤ f) : mK cI cO K0 ad cp ce M f o = ce f o := by
  unfold mK
  by_cases q : f < 30
  · rw [if_pos q]
  · rw [if_neg q, if_neg (by omega)]
/-- one cell of the reference's changes -/
theorem mK_up {f : Nat} {x : va_E} {M' : Nat → Nat → Nat → Int32} (h1 : 30 ≤ f) (h2 : f < 53) (hx : x = mcell cI cO K0 ad cp M' f o) (hn : ∀ f' o', ¬ (f' = f ∧ o' = o) → mcell cI cO K0 ad cp M' f' o' = mcell cI cO K0 ad cp M f' o') : up2 (mK cI cO K0 ad cp ce M) f o x = mK cI cO K0 ad cp ce M' := by
  funext f' o'
  by_cases q : f' = f ∧ o' = o
  · obtain ⟨rfl, rfl⟩ := q
    rw [up2_eq, mK_in h1 h2, hx]
  · have e1 := up2_ne (ce := mK cI cO K0 ad cp ce M) (e := x) (f := f) (o := o) (i := (f', o')) (fun z => q ⟨congrArg Prod.fst z, congrArg Prod.snd z⟩)
    refine e1.trans ?_
    show mK cI cO K0 ad cp ce M f' o' = _
    by_cases q3 : f' < 30 ∨ 53 ≤ f'
    · rw [mK_ou q3, mK_ou q3]
    · rw [mK_in (by omega) (by omega), mK_in (by omega) (by omega), hn f' o' q]
/-- what lies outside the reference's ids goes through -/
theorem mK_out {f : Nat} {x : va_E} (h : f < 30 ∨ 53 ≤ f) : up2 (mK cI cO K0 ad cp ce M) f o x = mK cI cO K0 ad cp (up2 ce f o x) M := by
  funext f' o'
  by_cases q : f' = f ∧ o' = o
  · obtain ⟨rfl, rfl⟩ := q
    rw [up2_eq, mK_ou h, up2_eq]
  · have hne : (f', o') ≠ (f, o) := fun z => q ⟨congrArg Prod.fst z, congrArg Prod.snd z⟩
    refine (up2_ne (ce := mK cI cO K0 ad cp ce M) (e := x) (i := (f', o')) hne).trans ?_
    show mK cI cO K0 ad cp ce M f' o' = _
    by_cases q3 : f' < 30 ∨ 53 ≤ f'
    · rw [mK_ou q3, mK_ou q3]
      exact (up2_ne (ce := ce) (e := x) (i := (f', o')) hne).symm
    · rw [mK_in (by omega) (by omega), mK_in (by omega) (by omega)]
/-- the reference's cells name its own ids alone -/
theorem mK_ad {ad' : Nat → Nat → Nat} (h : ∀ f, 30 ≤ f → f < 53 → ad' f = ad f) : mK cI cO K0 ad' cp ce M = mK cI cO K0 ad cp ce M := by
  funext f o
  unfold mK
  by_cases q1 : f < 30
  · rw [if_pos q1, if_pos q1]
  · rw [if_neg q1, if_neg q1]
    by_cases q2 : f < 53
    · rw [if_pos q2, if_pos q2]
      unfold mcell mel
      rw [h 31 (by decide) (by decide), h 32 (by decide) (by decide), h 33 (by decide) (by decide), h 34 (by decide) (by decide), h 35 (by decide) (by decide), h 36 (by decide) (by decide), h 37 (by decide) (by decide), h 43 (by decide) (by decide), h 44 (by decide) (by decide), h 45 (by decide) (by decide), h 46 (by decide) (by decide), h 47 (by decide) (by decide), h 48 (by decide) (by decide), h 49 (by decide) (by decide), h 50 (by decide) (by decide), h 51 (by decide) (by decide), h 52 (by decide) (by decide)]
      by_cases q0 : f < 43 ∧ ¬ o = 0
      · rw [if_pos q0, if_pos q0]
      · rw [if_neg q0, if_neg q0]
        by_cases q3 : f = 30
        · rw [if_pos q3, if_pos q3]
        · rw [if_neg q3, if_neg q3]
          by_cases q4 : f < 36
          · rw [h (f + 7) (by omega) (by omega)]
          · rw [if_neg q4, if_neg q4]
    · rw [if_neg q2, if_neg q2]
theorem mK_upa {f q : Nat} {o' : Nat} (h : f < 30 ∨ 53 ≤ f) : mK cI cO K0 (upa ad f o' q) cp ce M = mK cI cO K0 ad cp ce M := mK_ad (fun g h1 h2 => by unfold upa; rw [if_neg (by omega)])
end MODEL
