section MADE
variable {p : Program} {l : Launch} {e : Env} {R : Room} {s : State} {m : MethodId} {args : Array Value} {below : List Frame} {meth : Method} {c : Code} {H : Heap} {locs : List Loc} {cells slots : Nat} {Q : State → Prop} {cc : ByteArray} {pc : Nat} {ls : Array Slot} {rest st0 : List Value} {D : va_G} {A : Nat → Prop} {tys : List (ClassId × FieldType)} {K0 : Nat → Nat} {H0 : Heap} {L L' : List (Nat × Nat)} {ad ad' : Nat → Nat → Nat} {ce ce' : Nat → Nat → va_E} {cI cG cJ cO : ClassId} {mc ms : Nat}
/-- the addresses of L stay -/
def Ex (L : List (Nat × Nat)) (ad ad' : Nat → Nat → Nat) : Prop := ∀ f o, (f, o) ∈ L → ad' f o = ad f o
theorem Ex.tr {a b c : Nat → Nat → Nat} (h : Ex L a b) (h2 : Ex L' b c) (hs : ∀ i, i ∈ L → i ∈ L') : Ex L a c := fun f o z => (h2 f o (hs _ z)).trans (h f o z)
theorem nmem {L : List (Nat × Nat)} {i j : Nat × Nat} (h : i ∉ L) (hne : i ≠ j) : i ∉ L ++ [j] := fun z => (List.mem_append.mp z).elim h (fun y => hne (List.mem_singleton.mp y))
theorem nmemf {L : List (Nat × Nat)} {f o g p : Nat} (h : (f, o) ∉ L) (hne : f ≠ g) : (f, o) ∉ L ++ [(g, p)] := nmem h (fun z => hne (congrArg Prod.fst z))
theorem Ex.upa {f o q : Nat} (hn : (f, o) ∉ L) : Ex L ad (upa ad f o q) := fun f' o' h => upa_ne (i := (f', o')) (fun z => hn (z ▸ h))
theorem up2_o {f o f' o' : Nat} {x : va_E} (h : ¬ (f' = f ∧ o' = o)) : up2 ce f o x f' o' = ce f' o' := up2_ne (i := (f', o')) (fun z => h ⟨congrArg Prod.fst z, congrArg Prod.snd z⟩)
theorem up2_same {f o : Nat} {x : va_E} (h : ce f o = x) : up2 ce f o x = ce := by
  funext f' o'
  by_cases q : f' = f ∧ o' = o
  · obtain ⟨rfl, rfl⟩ := q
    rw [up2_eq, h]
  · exact up2_o q
theorem wl_congr (h : ∀ f o, (f, o) ∈ L → ad' f o = ad f o ∧ ce' f o = ce f o) : wl L ad' ce' = wl L ad ce := by
  unfold wl
  apply List.map_congr_left
  intro i hi
  obtain ⟨h1, h2⟩ := h i.1 i.2 hi
  rw [h1, h2]
theorem wk.congr (h : ∀ f o, (f, o) ∈ L → ad' f o = ad f o ∧ ce' f o = ce f o) (hw : wk D A L ad ce H0 H locs) : wk D A L ad' ce' H0 H locs := by
  unfold wk at hw ⊢
  rw [wl_congr h]; exact hw
theorem k_newi2 (hx : p.tables.exec = Jvm.exec) (hb : c.code = cc) (harr : (Cond.arrayClass .int).before args s = true) (hK : va_K D vwCl (ktys cI cG cJ cO) s) (hw : wk D A L ad ce H0 H locs) (hA : ∀ q, H0.size ≤ q → A q) {n : Int32} {N' : Nat} (hn0 : ¬ n < 0) (hN : n.toNatClampNeg = N') (hbytes : N' * 4 ≤ 536870912) (hcells : cells + 1 ≤ R.cells) (hslots : slots + N' ≤ R.slots) (f o : Nat) (hn : (f, o) ∉ L) (hdg : decode cc pc = .ok (.newarray .int, 2))
    (kk : ∀ (u : Nat → Nat → Nat) (q : Nat) (H1 : Heap), Ex L ad u → u f o = q → wk D A (L ++ [(f, o)]) u (up2 ce f o (.inl (cI, N', .inl (fun _ => 0)))) H0 H1 locs → W p l e R s m args below meth c H1 locs (cells + 1) (slots + N') Q (F0 m (pc + 2) ls (.ref q :: rest))) : W p l e R s m args below meth c H locs cells slots Q (F0 m pc ls (.int n :: rest)) :=
  k_newi hx hb harr hK hw hA hn0 hN hbytes hcells hslots f o hn hdg (fun q H1 hw1 => kk _ _ H1 (Ex.upa hn) rfl hw1)
theorem k_newq2 (hx : p.tables.exec = Jvm.exec) (hb : c.code = cc) {own C : String} {index : Nat} (hown : s.vm.findClass own = some m.cls) (hclink : (Cond.classLink own index C).before args s = true) (hover : va_AO C s) (hK : va_K D vwCl (ktys cI cG cJ cO) s) (hw : wk D A L ad ce H0 H locs) (hA : ∀ q, H0.size ≤ q → A q) (t : Nat) {cT : ClassId} (ht : (ktys cI cG cJ cO)[t]? = some (cT, .object C)) {n : Int32} {N' : Nat} (hn0 : ¬ n < 0) (hN : n.toNatClampNeg = N') (hbytes : N' * 4 ≤ 536870912) (hcells : cells + 1 ≤ R.cells) (hslots : slots + N' ≤ R.slots) (f o : Nat) (hn : (f, o) ∉ L) (hdg : decode cc pc = .ok (.anewarray index, 3))
    (kk : ∀ (u : Nat → Nat → Nat) (q : Nat) (H1 : Heap), Ex L ad u → u f o = q → wk D A (L ++ [(f, o)]) u (up2 ce f o (.inl (cT, N', .inr (.inr (.inr (.inr (fun _ => none))))))) H0 H1 locs → W p l e R s m args below meth c H1 locs (cells + 1) (slots + N') Q (F0 m (pc + 3) ls (.ref q :: rest))) : W p l e R s m args below meth c H locs cells slots Q (F0 m pc ls (.int n :: rest)) :=
  k_newq hx hb hown hclink hover hK hw hA t ht hn0 hN hbytes hcells hslots f o hn hdg (fun q H1 hw1 => kk _ _ H1 (Ex.upa hn) rfl hw1)
theorem k_new2 (hx : p.tables.exec = Jvm.exec) (hb : c.code = cc) {own C : String} {T : u_T} {N ci index : Nat} {Ts : List Cond} (hts : ∀ w ∈ Ts, w.before args s = true) (hin : ∀ w ∈ u_ws C T N, w ∈ Ts) (ty : Nat → FieldType) (hty : ∀ k, k < N → parseFieldDescriptor (T k).2.2.1 = some (ty k)) (hown : s.vm.findClass own = some m.cls) (hcl : (Cond.classLink own index C).before args s = true) (hinst : (Cond.instantiable C N).before args s = true) (hini : (Cond.initialized C).before args s = true)
    (hK : va_K D vwCl tys s) (hw : wk D A L ad ce H0 H locs) (hA : ∀ q, H0.size ≤ q → A q) (hc : vwCl[ci]? = some (C, T, N)) {fs : List Value} (hfs : ∀ j, j < N → defaultValue (ty j) = vp_V fs j) (hcells : cells + 1 ≤ R.cells) (hslots : slots + N ≤ R.slots) (f o : Nat) (hn : (f, o) ∉ L) (hdg : decode cc pc = .ok (.new index, 3))
    (kk : ∀ (u : Nat → Nat → Nat) (q : Nat) (H1 : Heap), Ex L ad u → u f o = q → wk D A (L ++ [(f, o)]) u (up2 ce f o (.inr (ci, fs))) H0 H1 locs → W p l e R s m args below meth c H1 locs (cells + 1) (slots + N) Q (F0 m (pc + 3) ls (.ref q :: rest))) : W p l e R s m args below meth c H locs cells slots Q (F0 m pc ls rest) :=
  k_new hx hb hts hin ty hty hown hcl hinst hini hK hw hA hc hfs hcells hslots f o hn hdg (fun q H1 hw1 => kk _ _ H1 (Ex.upa hn) rfl hw1)
theorem k_put2 (hx : p.tables.exec = Jvm.exec) (hb : c.code = cc) {own ref C : String} {T : u_T} {N ci index : Nat} {Ts : List Cond} (hts : ∀ w ∈ Ts, w.before args s = true) (hin : ∀ w ∈ u_ws C T N, w ∈ Ts) (ty0 : Nat → FieldType) (hty : ∀ k, k < N → parseFieldDescriptor (T k).2.2.1 = some (ty0 k)) (hnm : ∀ a, a < N → ∀ b, b < N → a ≠ b → (T a).2.1 ≠ (T b).2.1) (hown : s.vm.findClass own = some m.cls) (hK : va_K D vwCl tys s) (hw : wk D A L ad ce H0 H locs) {f o a : Nat} (hi : (f, o) ∈ L) (ha : ad f o = a) {fs : List Value} (he : ce f o = .inr (ci, fs)) (hc : vwCl[ci]? = some (C, T, N)) (k : Nat) (hk : k < N) (hlink : (Cond.fieldLink own index ref (T k).2.1 (T k).2.2.1).before args s = true) (hsame : ∀ x, s.fieldFound? (T k).1 (T k).2.1 (T k).2.2.1 = some x → s.fieldFound? ref (T k).2.1 (T k).2.2.1 = some x) (hfin : (T k).2.2.2 = false) {ty : FieldType} {v : Value} (hd : parseFieldDescriptor (T k).2.2.1 = some ty) (hn : narrow ty v = v) (hfit : fits ty v = true) (hl : k < fs.length)
    (hdg : decode cc pc = .ok (.putfield index, 3)) (kk : ∀ (H1 : Heap) (locs1 : List Loc), wk D A L ad (up2 ce f o (.inr (ci, fs.set k v))) H0 H1 locs1 → W p l e R s m args below meth c H1 locs1 cells slots Q (F0 m (pc + 3) ls rest)) : W p l e R s m args below meth c H locs cells slots Q (F0 m pc ls (v :: .ref a :: rest)) := by
  subst ha
  exact k_put hx hb hts hin ty0 hty hnm hown hK hw hi he hc k hk hlink hsame hfin hd hn hfit hl rfl hdg kk
theorem k_putF2 (hx : p.tables.exec = Jvm.exec) (hb : c.code = cc) {own ref C : String} {T : u_T} {N ci index : Nat} {Ts : List Cond} (hts : ∀ w ∈ Ts, w.before args s = true) (hin : ∀ w ∈ u_ws C T N, w ∈ Ts) (ty0 : Nat → FieldType) (hty : ∀ k, k < N → parseFieldDescriptor (T k).2.2.1 = some (ty0 k)) (hnm : ∀ a, a < N → ∀ b, b < N → a ≠ b → (T a).2.1 ≠ (T b).2.1) (hown : s.vm.findClass own = some m.cls) (hK : va_K D vwCl tys s) (hw : wk D A L ad ce H0 H locs) {f o a : Nat} (hi : (f, o) ∈ L) (ha : ad f o = a) {fs : List Value} (he : ce f o = .inr (ci, fs)) (hc : vwCl[ci]? = some (C, T, N)) (k : Nat) (hk : k < N) (hlink : (Cond.fieldLink own index ref (T k).2.1 (T k).2.2.1).before args s = true) (hsame : ∀ x, s.fieldFound? (T k).1 (T k).2.1 (T k).2.2.1 = some x → s.fieldFound? ref (T k).2.1 (T k).2.2.1 = some x) (hin2 : meth.name = "<init>") (hfin : (T k).2.2.2 = true) (hdecl : (T k).1 = own) {ty : FieldType} {v : Value} (hd : parseFieldDescriptor (T k).2.2.1 = some ty) (hn : narrow ty v = v) (hfit : fits ty v = true) (hl : k < fs.length)
    (hdg : decode cc pc = .ok (.putfield index, 3)) (kk : ∀ (H1 : Heap) (locs1 : List Loc), wk D A L ad (up2 ce f o (.inr (ci, fs.set k v))) H0 H1 locs1 → W p l e R s m args below meth c H1 locs1 cells slots Q (F0 m (pc + 3) ls rest)) : W p l e R s m args below meth c H locs cells slots Q (F0 m pc ls (v :: .ref a :: rest)) := by
  subst ha
  exact k_putF hx hb hts hin ty0 hty hnm hown hK hw hi he hc k hk hlink hsame hfin hin2 hdecl hd hn hfit hl rfl hdg kk
theorem k_get2 (hx : p.tables.exec = Jvm.exec) (hb : c.code = cc) {own ref C : String} {T : u_T} {N ci index : Nat} {Ts : List Cond} (hts : ∀ w ∈ Ts, w.before args s = true) (hin : ∀ w ∈ u_ws C T N, w ∈ Ts) (hown : s.vm.findClass own = some m.cls) (hK : va_K D vwCl tys s) (hw : wk D A L ad ce H0 H locs) {f o a : Nat} (hi : (f, o) ∈ L) (ha : ad f o = a) {fs : List Value} (he : ce f o = .inr (ci, fs)) (hc : vwCl[ci]? = some (C, T, N)) (k : Nat) (hk : k < N) (hlink : (Cond.fieldLink own index ref (T k).2.1 (T k).2.2.1).before args s = true) (hsame : ∀ x, s.fieldFound? (T k).1 (T k).2.1 (T k).2.2.1 = some x → s.fieldFound? ref (T k).2.1 (T k).2.2.1 = some x) {v : Value} (hv : fs[k]? = some v) (hdg : decode cc pc = .ok (.getfield index, 3))
    (kk : W p l e R s m args below meth c H locs cells slots Q (F0 m (pc + 3) ls (v :: rest))) : W p l e R s m args below meth c H locs cells slots Q (F0 m pc ls (.ref a :: rest)) := by
  subst ha
  exact k_get hx hb hts hin hown hK hw hi he hc k hk hlink hsame hv hdg kk
/-- a maker's end: new addresses, the old ones stay -/
abbrev kQx (D : va_G) (A : Nat → Prop) (L : List (Nat × Nat)) (ad : Nat → Nat → Nat) (L' : List (Nat × Nat)) (F : (Nat → Nat → Nat) → Nat → Nat → va_E) : Array Value → State → Outcome → State → Prop := va_Qv (fun (u : Nat → Nat → Nat) => Ex L ad u) (fun u t => WE D A L' u (F u) t) A
theorem k_vretx {F : (Nat → Nat → Nat) → Nat → Nat → va_E} {u : Nat → Nat → Nat} (hx : p.tables.exec = Jvm.exec) (hb : c.code = cc) (hr : meth.sig.returnType = none) (hlocks : meth.locks = false) (hw : wk D A L' u ce s.heap H locs) (hE : Ex L ad u) (hce : F u = ce) (hc : cells ≤ mc) (hs : slots ≤ ms) (hdg : decode cc pc = .ok (.return_, 1)) : W p l e R s m args below meth c H locs cells slots (MQ below (kQx D A L ad L' F) args s mc ms A) (F0 m pc ls []) := by
  subst hce
  exact W.widen hc hs (W.vret hx hb hr (fun t ht _ => ⟨⟨u, rfl, hE, by rw [ht]; exact hw.1, hw.2.1⟩, hw.2.2.F ht⟩) hw.2.2.2.2 hdg hlocks)
theorem k_cvx {F : (Nat → Nat → Nat) → Nat → Nat → va_E} {L0 : List (Nat × Nat)} {ad0 : Nat → Nat → Nat} {a : Array Value} (hw : wk D A L ad ce s.heap H locs) (hr : kRun p l e R s m args below meth c H locs cells slots mc ms pc ls st0 rest A (kQx D A L0 ad0 L' F a))
    (kk : ∀ (u : Nat → Nat → Nat) (H1 : Heap) (locs1 : List Loc), Ex L0 ad0 u → wk D A L' u (F u) s.heap H1 locs1 → W p l e R s m args below meth c H1 locs1 (cells + mc) (slots + ms) Q (F0 m (pc + 3) ls rest)) : W p l e R s m args below meth c H locs cells slots Q (F0 m pc ls st0) :=
  va_callv hr hw.2.2 (fun _ _ h => h) (fun _ h => h) (fun u t H1 locs1 ht _ hp hB _ _ hS => kk u H1 locs1 hp ⟨by rw [← ht]; exact hB.1, hB.2, hS⟩)
/-- the class's first state -/
def S0 : Nat → Nat → Nat → Int32 := fun f => if f = 27 then fun _ k => if k < 12 then -1 else 0 else fun _ _ => 0
/-- the class's cells of the ids N -/
def cX (cI cJ : ClassId) (u : Nat → Nat → Nat) (ce : Nat → Nat → va_E) (N : List (Nat × Nat)) : Nat → Nat → va_E := fun f o => if (f, o) ∈ N then ccell cI cJ u f o (S0 f o) else ce f o
theorem row_s {i : Nat} : upd (fun q => if q < i then (-1 : Int32) else 0) i (-1) = fun q => if q < i + 1 then (-1 : Int32) else 0 := by
  funext q
  unfold upd
  by_cases h : q = i
  · subst h
    rw [if_pos rfl, if_pos (Nat.lt_succ_self _)]
  · rw [if_neg h]
    show (if q < i then (-1 : Int32) else 0) = _
    by_cases h2 : q < i
    · rw [if_pos h2, if_pos (by omega)]
    · rw [if_neg h2, if_neg (by omega)]
theorem row_0 : (fun q : Nat => if q < 0 then (-1 : Int32) else 0) = fun _ => 0 := by
  funext q; rw [if_neg (Nat.not_lt_zero q)]
theorem cc_1 {ad : Nat → Nat → Nat} {o : Nat} {g : Nat → Int32} : ccell cI cJ ad 1 o g = .inr (2, [.ref (ad 7 0), .ref (ad 8 0), .ref (ad 9 0), .ref (ad 10 0), .ref (ad 11 0), .ref (ad 12 0), .int (g 0), .int (g 1)]) := rfl
theorem cc_0 {ad : Nat → Nat → Nat} {o : Nat} {g : Nat → Int32} : ccell cI cJ ad 0 o g = .inr (5, [.ref (ad 1 0), .ref (ad 2 0), .ref (ad 3 0), .ref (ad 4 0), .ref (ad 5 0), .int (g 0), .int (g 1)]) := rfl
theorem cc_2 {ad : Nat → Nat → Nat} {o : Nat} {g : Nat → Int32} : ccell cI cJ ad 2 o g = .inr (3, [.ref (ad 13 0), .ref (ad 14 0), .ref (ad 15 0), .ref (ad 16 0), .int (g 0)]) := rfl
theorem cc_3 {ad : Nat → Nat → Nat} {o : Nat} {g : Nat → Int32} : ccell cI cJ ad 3 o g = .inr (4, [.ref (ad 17 0), .ref (ad 18 0), .ref (ad 19 0), .ref (ad 20 0), .int (g 0)]) := rfl
theorem cc_4 {ad : Nat → Nat → Nat} {o : Nat} {g : Nat → Int32} : ccell cI cJ ad 4 o g = .inr (0, [.ref (ad 1 0), .ref (ad 2 0), .ref (ad 3 0), .ref (ad 21 0), .ref (ad 22 0), .ref (ad 23 0), .int (g 0)]) := rfl
theorem cc_6 {ad : Nat → Nat → Nat} {o : Nat} {g : Nat → Int32} : ccell cI cJ ad 6 o g = .inr (1, [.ref (ad 24 o), .ref (ad 25 o), .ref (ad 26 o), .ref (ad 27 o), .ref (ad 28 o), .int (g 0), .int (g 1), .int (g 2)]) := rfl
end MADE
