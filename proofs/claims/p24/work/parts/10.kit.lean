section WORDS
/-- all good words of the tables: every method's own list is its code and these -/
def BIG : List Cond := lw_tbl.filter goodWord
theorem kB (i : Nat) {w : Cond} (h : tables_1[i]? = some w) (hg : goodWord w = true) : w ∈ BIG := List.mem_filter.mpr ⟨List.mem_append_right _ (List.mem_of_getElem? h), hg⟩
theorem kBs (i : Nat) {w : Cond} (h : (k2_sels lw_privs)[i]? = some w) (hg : goodWord w = true) : w ∈ BIG := List.mem_filter.mpr ⟨List.mem_append_left _ (List.mem_of_getElem? h), hg⟩
theorem kBu {ws : List Cond} (h : ∀ w ∈ ws, w ∈ lw_tbl) (hg : ws.all goodWord = true) : ∀ w ∈ ws, w ∈ BIG := fun w hw => List.mem_filter.mpr ⟨h w hw, List.all_eq_true.mp hg w hw⟩
theorem big_g {w : Cond} (h : w ∈ BIG) : w ∈ BIG ∧ ((w.onTables && w.keeps) = true ∨ ∃ ty, w = .arrayClass ty) := ⟨h, good_of_word (List.mem_filter.mp h).2⟩
theorem gB_0 {y : MethodName} {bytes : ByteArray} {maxL : Nat} {ret : Option FieldType} (h5 : Cond.code y bytes maxL ret ∈ BIG) : GoodIn BIG (.code y bytes maxL ret :: BIG) := fun w hw => by
  rcases List.mem_cons.mp hw with rfl | hw
  · exact big_g h5
  · exact big_g hw
theorem gB_H {y : MethodName} {bytes : ByteArray} {maxL : Nat} {ret : Option FieldType} {hh : List (Nat × Nat × Nat × Nat)} (h5 : Cond.codeWith y bytes maxL ret hh ∈ BIG) : GoodIn BIG (.codeWith y bytes maxL ret hh :: BIG) := fun w hw => by
  rcases List.mem_cons.mp hw with rfl | hw
  · exact big_g h5
  · exact big_g hw
theorem gB_app {a b : List Cond} (ha : ∀ w ∈ a, w ∈ BIG) (hb : GoodIn BIG b) : GoodIn BIG (a ++ b) := fun w hw => (List.mem_append.mp hw).elim (fun h => big_g (ha w h)) (hb w)
theorem gB_V {own C : String} {idx : Nat} {y : MethodName} {bytes : ByteArray} {maxL : Nat} {ret : Option FieldType} (h1 : Cond.methodLink own idx y ∈ BIG) (h2 : Cond.instanceMethod y ∈ BIG) (h3 : Cond.selects C y y ∈ BIG) (h4 : Cond.initialized C ∈ BIG) (h5 : Cond.code y bytes maxL ret ∈ BIG) : GoodIn BIG (wsV own idx C y (.code y bytes maxL ret :: BIG)) := by
  refine gB_app ?_ (gB_0 h5)
  intro w hw
  simp only [List.mem_cons, List.not_mem_nil, or_false] at hw
  rcases hw with rfl | rfl | rfl | rfl <;> assumption
theorem gB_S {own : String} {idx : Nat} {y : MethodName} {bytes : ByteArray} {maxL : Nat} {ret : Option FieldType} (h1 : Cond.methodLink own idx y ∈ BIG) (h2 : Cond.static y ∈ BIG) (h4 : Cond.initialized y.cls ∈ BIG) (h5 : Cond.code y bytes maxL ret ∈ BIG) : GoodIn BIG (va_wsS own idx y (.code y bytes maxL ret :: BIG)) := by
  refine gB_app ?_ (gB_0 h5)
  intro w hw
  simp only [List.mem_cons, List.not_mem_nil, or_false] at hw
  rcases hw with rfl | rfl | rfl <;> assumption
theorem gB_VH {own C : String} {idx : Nat} {y : MethodName} {bytes : ByteArray} {maxL : Nat} {ret : Option FieldType} {hh : List (Nat × Nat × Nat × Nat)} (h1 : Cond.methodLink own idx y ∈ BIG) (h2 : Cond.instanceMethod y ∈ BIG) (h3 : Cond.selects C y y ∈ BIG) (h4 : Cond.initialized C ∈ BIG) (h5 : Cond.codeWith y bytes maxL ret hh ∈ BIG) : GoodIn BIG (wsV own idx C y (.codeWith y bytes maxL ret hh :: BIG)) := by
  refine gB_app ?_ (gB_H h5)
  intro w hw
  simp only [List.mem_cons, List.not_mem_nil, or_false] at hw
  rcases hw with rfl | rfl | rfl | rfl <;> assumption
theorem gB_SH {own : String} {idx : Nat} {y : MethodName} {bytes : ByteArray} {maxL : Nat} {ret : Option FieldType} {hh : List (Nat × Nat × Nat × Nat)} (h1 : Cond.methodLink own idx y ∈ BIG) (h2 : Cond.static y ∈ BIG) (h4 : Cond.initialized y.cls ∈ BIG) (h5 : Cond.codeWith y bytes maxL ret hh ∈ BIG) : GoodIn BIG (va_wsS own idx y (.codeWith y bytes maxL ret hh :: BIG)) := by
  refine gB_app ?_ (gB_H h5)
  intro w hw
  simp only [List.mem_cons, List.not_mem_nil, or_false] at hw
  rcases hw with rfl | rfl | rfl <;> assumption
/-- the words of a throw of the class's own -/
abbrev kEx : List String := ["java/lang/RuntimeException", "java/lang/Exception"]
/-- the words that are not good, but go with the tables -/
def kmv : Cond → Bool
  | .methodLinkNest .. => true
  | .fieldLinkNest .. => true
  | .declares _ => true
  | .castable .. => true
  | _ => false
def KOW : List Cond := lw_tbl.filter kmv
theorem kO (i : Nat) {w : Cond} (h : tables_1[i]? = some w) (hg : kmv w = true) : w ∈ KOW := List.mem_filter.mpr ⟨List.mem_append_right _ (List.mem_of_getElem? h), hg⟩
theorem kmv_t {w : Cond} (h : kmv w = true) : w.onTables = true := by
  cases w <;> first | rfl | (simp [kmv] at h)
theorem kmv_w {w : Cond} (h : kmv w = true) {s U : State} (hW : s.WarmedH U.vm) (z : va_Nw w s) : va_Nw w U := by
  cases w <;> first | exact z.warmM hW | exact z.warmF hW | exact z.warmD hW | exact z.warmC hW | (simp [kmv] at h)
theorem xw_2 : ∀ w ∈ vx_atS RX5 62 "java/lang/IllegalArgumentException" kEx, w ∈ lw_tbl ∧ (goodWord w || kmv w) = true := by decide +kernel
theorem xw_3 : ∀ w ∈ vx_atS RX5 73 "java/lang/IllegalStateException" kEx, w ∈ lw_tbl ∧ (goodWord w || kmv w) = true := by decide +kernel
theorem xw_1 : ∀ w ∈ vx_atS RX5 78 "java/lang/IndexOutOfBoundsException" kEx, w ∈ lw_tbl ∧ (goodWord w || kmv w) = true := by decide +kernel
theorem xw_use {args : Array Value} {s : State} {w : Cond} (hts : ∀ w ∈ BIG, w.before args s = true) (hO : ∀ w ∈ KOW, va_Nw w s) (h : w ∈ lw_tbl ∧ (goodWord w || kmv w) = true) : w.before args s = true := by
  cases g : goodWord w with
  | true => exact hts w (List.mem_filter.mpr ⟨h.1, g⟩)
  | false =>
    have k : kmv w = true := by have := h.2; rw [g] at this; simpa using this
    exact (hO w (List.mem_filter.mpr ⟨h.1, k⟩)).use (kmv_t k)
theorem xh_1 {args : Array Value} {s : State} (hts : ∀ w ∈ BIG, w.before args s = true) (hO : ∀ w ∈ KOW, va_Nw w s) : ∀ w ∈ vx_atS RX5 78 "java/lang/IndexOutOfBoundsException" kEx, w.before args s = true := fun w hw => xw_use hts hO (xw_1 w hw)
theorem xh_2 {args : Array Value} {s : State} (hts : ∀ w ∈ BIG, w.before args s = true) (hO : ∀ w ∈ KOW, va_Nw w s) : ∀ w ∈ vx_atS RX5 62 "java/lang/IllegalArgumentException" kEx, w.before args s = true := fun w hw => xw_use hts hO (xw_2 w hw)
theorem xh_3 {args : Array Value} {s : State} (hts : ∀ w ∈ BIG, w.before args s = true) (hO : ∀ w ∈ KOW, va_Nw w s) : ∀ w ∈ vx_atS RX5 73 "java/lang/IllegalStateException" kEx, w.before args s = true := fun w hw => xw_use hts hO (xw_3 w hw)
theorem xg_1 : ∀ w ∈ Cond.classLink RX5 74 "java/lang/IndexOutOfBoundsException" :: Cond.initialized "java/lang/IndexOutOfBoundsException" :: vx_atS RX5 78 "java/lang/IndexOutOfBoundsException" kEx, vx_ot w = true := by decide +kernel
theorem xg_2 : ∀ w ∈ Cond.classLink RX5 58 "java/lang/IllegalArgumentException" :: Cond.initialized "java/lang/IllegalArgumentException" :: vx_atS RX5 62 "java/lang/IllegalArgumentException" kEx, vx_ot w = true := by decide +kernel
theorem xg_3 : ∀ w ∈ Cond.classLink RX5 69 "java/lang/IllegalStateException" :: Cond.initialized "java/lang/IllegalStateException" :: vx_atS RX5 73 "java/lang/IllegalStateException" kEx, vx_ot w = true := by decide +kernel
end WORDS
section KIT
/-! WORLDS BY IDS: a cell has a kind f and an owner o; its address is ad f o, what it holds ce f o; L lists the ids that are there -/
def wl (L : List (Nat × Nat)) (ad : Nat → Nat → Nat) (ce : Nat → Nat → va_E) : va_W := L.map fun i => (ad i.1 i.2, ce i.1 i.2)
def up2 (ce : Nat → Nat → va_E) (f o : Nat) (e : va_E) : Nat → Nat → va_E := fun f' => if f' = f then (fun o' => if o' = o then e else ce f o') else ce f'
def up3 (S : Nat → Nat → Nat → Int32) (f o k : Nat) (v : Int32) : Nat → Nat → Nat → Int32 := fun f' => if f' = f then (fun o' => if o' = o then upd (S f o) k v else S f o') else S f'
theorem up2_eq {ce : Nat → Nat → va_E} {f o : Nat} {e : va_E} : up2 ce f o e f o = e := by unfold up2; rw [if_pos rfl, if_pos rfl]
theorem up2_ne {ce : Nat → Nat → va_E} {f o : Nat} {e : va_E} {i : Nat × Nat} (h : i ≠ (f, o)) : up2 ce f o e i.1 i.2 = ce i.1 i.2 := by
  unfold up2
  by_cases h1 : i.1 = f
  · rw [if_pos h1]
    by_cases h2 : i.2 = o
    · exact absurd (Prod.ext h1 h2) h
    · rw [if_neg h2, h1]
  · rw [if_neg h1]
theorem wl_at {L : List (Nat × Nat)} {ad : Nat → Nat → Nat} {ce : Nat → Nat → va_E} {k f o : Nat} (h : L[k]? = some (f, o)) : (wl L ad ce)[k]? = some (ad f o, ce f o) := by
  unfold wl; rw [List.getElem?_map, h]; rfl
theorem wl_in {L : List (Nat × Nat)} {f o : Nat} (h : (f, o) ∈ L) : ∃ k : Nat, L[k]? = some (f, o) := List.mem_iff_getElem?.mp h
theorem wl_set {A : Nat → Prop} {L : List (Nat × Nat)} {ad : Nat → Nat → Nat} {ce : Nat → Nat → va_E} {k f o : Nat} {e : va_E} (hD : va_D A (wl L ad ce)) (hk : L[k]? = some (f, o)) : (wl L ad ce).set k (ad f o, e) = wl L ad (up2 ce f o e) := by
  apply List.ext_getElem?
  intro i
  rw [List.getElem?_set]
  by_cases hi : k = i
  · subst hi
    rw [if_pos rfl]
    have hlt : k < (wl L ad ce).length := by
      unfold wl; rw [List.length_map]; exact (List.getElem?_eq_some_iff.mp hk).1
    rw [if_pos hlt, wl_at hk, up2_eq]
  · rw [if_neg hi]
    unfold wl
    rw [List.getElem?_map, List.getElem?_map]
    cases hq : L[i]? with
    | none => rfl
    | some j =>
      have hj : j ≠ (f, o) := by
        intro e1
        subst e1
        exact hi (hD.1 k i _ _ (wl_at hk) (wl_at hq) rfl)
      show some (ad j.1 j.2, ce j.1 j.2) = some (ad j.1 j.2, up2 ce f o e j.1 j.2)
      rw [up2_ne hj]
/-- the world at a heap H, on the way from H0 -/
def wk (D : va_G) (A : Nat → Prop) (L : List (Nat × Nat)) (ad : Nat → Nat → Nat) (ce : Nat → Nat → va_E) (H0 H : Heap) (locs : List Loc) : Prop := va_P D vwCl (wl L ad ce) H ∧ va_D A (wl L ad ce) ∧ va_S A H0 H locs
variable {p : Program} {l : Launch} {e : Env} {R : Room} {s : State} {m : MethodId} {args : Array Value} {below : List Frame} {meth : Method} {c : Code} {H : Heap} {locs : List Loc} {cells slots : Nat} {Q : State → Prop} {cc : ByteArray} {pc : Nat} {ls : Array Slot} {rest : List Value} {D : va_G} {A : Nat → Prop} {tys : List (ClassId × FieldType)} {H0 : Heap} {L : List (Nat × Nat)} {ad : Nat → Nat → Nat} {ce : Nat → Nat → va_E}
theorem k_get (hx : p.tables.exec = Jvm.exec) (hb : c.code = cc) {own ref C : String} {T : u_T} {N ci index : Nat} {Ts : List Cond} (hts : ∀ w ∈ Ts, w.before args s = true) (hin : ∀ w ∈ u_ws C T N, w ∈ Ts) (hown : s.vm.findClass own = some m.cls) (hK : va_K D vwCl tys s) (hw : wk D A L ad ce H0 H locs) {f o : Nat} (hi : (f, o) ∈ L) {fs : List Value} (he : ce f o = .inr (ci, fs)) (hc : vwCl[ci]? = some (C, T, N)) (k : Nat) (hk : k < N) (hlink : (Cond.fieldLink own index ref (T k).2.1 (T k).2.2.1).before args s = true) (hsame : ∀ x, s.fieldFound? (T k).1 (T k).2.1 (T k).2.2.1 = some x → s.fieldFound? ref (T k).2.1 (T k).2.2.1 = some x) {v : Value} (hv : fs[k]? = some v) (hdg : decode cc pc = .ok (.getfield index, 3))
    (kk : W p l e R s m args below meth c H locs cells slots Q (F0 m (pc + 3) ls (v :: rest))) : W p l e R s m args below meth c H locs cells slots Q (F0 m pc ls (.ref (ad f o) :: rest)) := by
  obtain ⟨q, hq⟩ := wl_in hi
  exact va_get hx hb hts hin hown hK hw.1 q ((wl_at hq).trans (by rw [he])) hc k hk hlink hsame hv hdg kk
theorem k_put (hx : p.tables.exec = Jvm.exec) (hb : c.code = cc) {own ref C : String} {T : u_T} {N ci index : Nat} {Ts : List Cond} (hts : ∀ w ∈ Ts, w.before args s = true) (hin : ∀ w ∈ u_ws C T N, w ∈ Ts) (ty0 : Nat → FieldType) (hty : ∀ k, k < N → parseFieldDescriptor (T k).2.2.1 = some (ty0 k)) (hnm : ∀ a, a < N → ∀ b, b < N → a ≠ b → (T a).2.1 ≠ (T b).2.1) (hown : s.vm.findClass own = some m.cls) (hK : va_K D vwCl tys s) (hw : wk D A L ad ce H0 H locs) {f o : Nat} (hi : (f, o) ∈ L) {fs : List Value} (he : ce f o = .inr (ci, fs)) (hc : vwCl[ci]? = some (C, T, N)) (k : Nat) (hk : k < N) (hlink : (Cond.fieldLink own index ref (T k).2.1 (T k).2.2.1).before args s = true) (hsame : ∀ x, s.fieldFound? (T k).1 (T k).2.1 (T k).2.2.1 = some x → s.fieldFound? ref (T k).2.1 (T k).2.2.1 = some x) (hfin : (T k).2.2.2 = false) {ty : FieldType} {v : Value} (hd : parseFieldDescriptor (T k).2.2.1 = some ty) (hn : narrow ty v = v) (hfit : fits ty v = true) (hl : k < fs.length) {ce' : Nat → Nat → va_E} (hce : up2 ce f o (.inr (ci, fs.set k v)) = ce')
    (hdg : decode cc pc = .ok (.putfield index, 3)) (kk : ∀ (H1 : Heap) (locs1 : List Loc), wk D A L ad ce' H0 H1 locs1 → W p l e R s m args below meth c H1 locs1 cells slots Q (F0 m (pc + 3) ls rest)) : W p l e R s m args below meth c H locs cells slots Q (F0 m pc ls (v :: .ref (ad f o) :: rest)) := by
  obtain ⟨q, hq⟩ := wl_in hi
  subst hce
  refine va_put hx hb hts hin ty0 hty hnm hown hK hw.1 hw.2.1 hw.2.2 q ((wl_at hq).trans (by rw [he])) hc k hk hlink hsame hfin hd hn hfit hl hdg (fun H1 locs1 h1 h2 h3 => kk H1 locs1 ⟨?_, ?_, h3⟩)
  · rw [wl_set hw.2.1 hq] at h1; exact h1
  · rw [wl_set hw.2.1 hq] at h2; exact h2
theorem k_putF (hx : p.tables.exec = Jvm.exec) (hb : c.code = cc) {own ref C : String} {T : u_T} {N ci index : Nat} {Ts : List Cond} (hts : ∀ w ∈ Ts, w.before args s = true) (hin : ∀ w ∈ u_ws C T N, w ∈ Ts) (ty0 : Nat → FieldType) (hty : ∀ k, k < N → parseFieldDescriptor (T k).2.2.1 = some (ty0 k)) (hnm : ∀ a, a < N → ∀ b, b < N → a ≠ b → (T a).2.1 ≠ (T b).2.1) (hown : s.vm.findClass own = some m.cls) (hK : va_K D vwCl tys s) (hw : wk D A L ad ce H0 H locs) {f o : Nat} (hi : (f, o) ∈ L) {fs : List Value} (he : ce f o = .inr (ci, fs)) (hc : vwCl[ci]? = some (C, T, N)) (k : Nat) (hk : k < N) (hlink : (Cond.fieldLink own index ref (T k).2.1 (T k).2.2.1).before args s = true) (hsame : ∀ x, s.fieldFound? (T k).1 (T k).2.1 (T k).2.2.1 = some x → s.fieldFound? ref (T k).2.1 (T k).2.2.1 = some x) (hfin : (T k).2.2.2 = true) (hin2 : meth.name = "<init>") (hdecl : (T k).1 = own) {ty : FieldType} {v : Value} (hd : parseFieldDescriptor (T k).2.2.1 = some ty) (hn : narrow ty v = v) (hfit : fits ty v = true) (hl : k < fs.length) {ce' : Nat → Nat → va_E} (hce : up2 ce f o (.inr (ci, fs.set k v)) = ce')
    (hdg : decode cc pc = .ok (.putfield index, 3)) (kk : ∀ (H1 : Heap) (locs1 : List Loc), wk D A L ad ce' H0 H1 locs1 → W p l e R s m args below meth c H1 locs1 cells slots Q (F0 m (pc + 3) ls rest)) : W p l e R s m args below meth c H locs cells slots Q (F0 m pc ls (v :: .ref (ad f o) :: rest)) := by
  obtain ⟨q, hq⟩ := wl_in hi
  subst hce
  refine va_putF hx hb hts hin ty0 hty hnm hown hK hw.1 hw.2.1 hw.2.2 q ((wl_at hq).trans (by rw [he])) hc k hk hlink hsame hfin hin2 hdecl hd hn hfit hl hdg (fun H1 locs1 h1 h2 h3 => kk H1 locs1 ⟨?_, ?_, h3⟩)
  · rw [wl_set hw.2.1 hq] at h1; exact h1
  · rw [wl_set hw.2.1 hq] at h2; exact h2
/-- an int row read at any index -/
theorem k_ald (hx : p.tables.exec = Jvm.exec) (hb : c.code = cc) (hK : va_K D vwCl tys s) (hw : wk D A L ad ce H0 H locs) {f o : Nat} (hi : (f, o) ∈ L) (t0 : Nat) {cA : ClassId} {n : Nat} {g : Nat → Int32} (he : ce f o = .inl (cA, n, .inl g)) (ht : tys[t0]? = some (cA, .int)) {i : Int32} (hin : vp_in i n) (hdg : decode cc pc = .ok (.iaload, 1))
    (kk : W p l e R s m args below meth c H locs cells slots Q (F0 m (pc + 1) ls (.int (g i.toNatClampNeg) :: rest))) : W p l e R s m args below meth c H locs cells slots Q (F0 m pc ls (.int i :: .ref (ad f o) :: rest)) := by
  obtain ⟨q, hq⟩ := wl_in hi
  exact va_iald hx hb hK hw.1 q t0 ((wl_at hq).trans (by rw [he])) ht hin hdg kk
/-- .. at an index that is a number -/
theorem k_aldn (hx : p.tables.exec = Jvm.exec) (hb : c.code = cc) (hK : va_K D vwCl tys s) (hw : wk D A L ad ce H0 H locs) {f o : Nat} (hi : (f, o) ∈ L) (t0 : Nat) {cA : ClassId} {n : Nat} {g : Nat → Int32} (he : ce f o = .inl (cA, n, .inl g)) (ht : tys[t0]? = some (cA, .int)) {i : Nat} (hin : i < n) (hn : n < 2 ^ 31) (hdg : decode cc pc = .ok (.iaload, 1))
    (kk : W p l e R s m args below meth c H locs cells slots Q (F0 m (pc + 1) ls (.int (g i) :: rest))) : W p l e R s m args below meth c H locs cells slots Q (F0 m pc ls (.int (nI i) :: .ref (ad f o) :: rest)) :=
  k_ald hx hb hK hw hi t0 he ht (vp_in_nI hin hn) hdg (by rw [nI_clamp (Nat.lt_trans hin hn)]; exact kk)
theorem k_ast (hx : p.tables.exec = Jvm.exec) (hb : c.code = cc) (hK : va_K D vwCl tys s) (hw : wk D A L ad ce H0 H locs) {f o : Nat} (hi : (f, o) ∈ L) (t0 : Nat) {cA : ClassId} {n : Nat} {g : Nat → Int32} (he : ce f o = .inl (cA, n, .inl g)) (ht : tys[t0]? = some (cA, .int)) {i x : Int32} (hin : vp_in i n) {ce' : Nat → Nat → va_E} (hce : up2 ce f o (.inl (cA, n, .inl (upd g i.toNatClampNeg x))) = ce') (hdg : decode cc pc = .ok (.iastore, 1))
    (kk : ∀ (H1 : Heap) (locs1 : List Loc), wk D A L ad ce' H0 H1 locs1 → W p l e R s m args below meth c H1 locs1 cells slots Q (F0 m (pc + 1) ls rest)) : W p l e R s m args below meth c H locs cells slots Q (F0 m pc ls (.int x :: .int i :: .ref (ad f o) :: rest)) := by
  obtain ⟨q, hq⟩ := wl_in hi
  subst hce
  refine va_iast hx hb hK hw.1 hw.2.1 hw.2.2 q t0 ((wl_at hq).trans (by rw [he])) ht hin hdg (fun H1 locs1 h1 h2 h3 => kk H1 locs1 ⟨?_, ?_, h3⟩)
  · rw [wl_set hw.2.1 hq] at h1; exact h1
  · rw [wl_set hw.2.1 hq] at h2; exact h2
theorem k_astn (hx : p.tables.exec = Jvm.exec) (hb : c.code = cc) (hK : va_K D vwCl tys s) (hw : wk D A L ad ce H0 H locs) {f o : Nat} (hi : (f, o) ∈ L) (t0 : Nat) {cA : ClassId} {n : Nat} {g : Nat → Int32} (he : ce f o = .inl (cA, n, .inl g)) (ht : tys[t0]? = some (cA, .int)) {i : Nat} {x : Int32} (hin : i < n) (hn : n < 2 ^ 31) {ce' : Nat → Nat → va_E} (hce : up2 ce f o (.inl (cA, n, .inl (upd g i x))) = ce') (hdg : decode cc pc = .ok (.iastore, 1))
    (kk : ∀ (H1 : Heap) (locs1 : List Loc), wk D A L ad ce' H0 H1 locs1 → W p l e R s m args below meth c H1 locs1 cells slots Q (F0 m (pc + 1) ls rest)) : W p l e R s m args below meth c H locs cells slots Q (F0 m pc ls (.int x :: .int (nI i) :: .ref (ad f o) :: rest)) :=
  k_ast hx hb hK hw hi t0 he ht (vp_in_nI hin hn) (by rw [nI_clamp (Nat.lt_trans hin hn)]; exact hce) hdg kk
/-- a reference row read -/
theorem k_aldq (hx : p.tables.exec = Jvm.exec) (hb : c.code = cc) (hK : va_K D vwCl tys s) (hw : wk D A L ad ce H0 H locs) {f o : Nat} (hi : (f, o) ∈ L) (t0 : Nat) {cA : ClassId} {C : String} {n : Nat} {g : Nat → Option Nat} (he : ce f o = .inl (cA, n, .inr (.inr (.inr (.inr g))))) (ht : tys[t0]? = some (cA, .object C)) {i : Int32} (hin : vp_in i n) {a : Nat} (ha : g i.toNatClampNeg = some a) (hdg : decode cc pc = .ok (.aaload, 1))
    (kk : W p l e R s m args below meth c H locs cells slots Q (F0 m (pc + 1) ls (.ref a :: rest))) : W p l e R s m args below meth c H locs cells slots Q (F0 m pc ls (.int i :: .ref (ad f o) :: rest)) := by
  obtain ⟨q, hq⟩ := wl_in hi
  exact va_aldq hx hb hK hw.1 q t0 ((wl_at hq).trans (by rw [he])) ht hin hdg (by rw [ha]; exact kk)
end KIT
section KIT2
def kstr : List (String × Nat × String) := [(RX5, 60, "no STEP can be so"), (RX5, 71, "there are all STEPS that can be"), (RX5, 76, "no such ROLE"), (RX5, 79, "no such set of STEPS"), (RX5, 89, "there are all RIGHTS that can be"), (RX5, 91, "no such ITEM"), (RX5, 93, "not so many at once"), (RX5, 105, "no ORDER can be so"), (RX5, 111, "there are all ORDERS that can be"), (RX5, 124, "no such STEP"), (RX5, 129, "no SESSION can be so"), (RX5, 134, "there are all SESSIONS that can be"), (RX5, 312, "no such JOINER"), (RX5, 158, "nothing of an ITEM is told so"), (RX5, 172, "nobody can START then"), (RX5, 177, "nobody can join with that ROLE"), (RX5, 193, "it has LEFT"), (RX5, 208, "it is the last DAY"), (RX5, 241, "nothing of a JOINER is told so"), (RX5, 247, "nothing is counted so"), (RX5, 271, "no such RIGHT"), (RX5, 142, "no such SESSION"), (RX5, 144, "nothing of a SESSION is told so"), (RX5, 229, "no such STEP of that JOINER"), (RX5, 231, "nothing of a STEP is told so")]
/-- what is old: statics, texts, nest mates; nothing in A -/
def OW (A : Nat → Prop) (K0 : Nat → Nat) (U : State) : Prop :=
  (vx_Zq Bundle.tN "UNASSIGNED_STACK" Bundle.steD A U U.heap ∧ vx_Zq Bundle.tN "SUPPRESSED_SENTINEL" Bundle.listD A U U.heap) ∧
  (∀ q ∈ kstr, ∃ sa, vk_R q.1 q.2.1 q.2.2 sa U) ∧
  (∀ w ∈ KOW, va_Nw w U) ∧
  (va_X (K0 0) (K0 1) (fun i => nI (K0 (2 + i))) U U.heap ∧ K0 0 < U.heap.size ∧ ¬ A (K0 0)) ∧
  (va_AO "OnboardingWorks$Joiner" U ∧ True)
theorem OW.go {A : Nat → Prop} {K0 : Nat → Nat} {s U : State} {H : Heap} {locs : List Loc} (h : OW A K0 s) (hS : va_S A s.heap H locs) (hU : U.heap = H) (hW : s.WarmedH U.vm) : OW A K0 U := by
  obtain ⟨⟨a1, a2⟩, b, c, ⟨d1, d2, d3⟩, ⟨e1, -⟩⟩ := h
  have al := hW.alike
  have hk : ∀ a : Nat, a < s.heap.size → ¬ A a → U.heap[a]? = s.heap[a]? := fun a x y => by rw [hU]; exact hS.2.1 a x y
  exact ⟨⟨(a1.moved al).kept hk, (a2.moved al).kept hk⟩, fun q hq => (b q hq).imp fun _ z => z.warm hW, fun q hq => kmv_w (List.mem_filter.mp hq).2 hW (c q hq), ⟨(d1.moved al).kept (by rw [hU]; exact hS.2.1 _ d2 d3), by rw [hU]; exact Nat.lt_of_lt_of_le d2 hS.1, d3⟩, ⟨e1.moved al, trivial⟩⟩
theorem OW.cal {A : Nat → Prop} {K0 : Nat → Nat} {U : State} (g : JFrame) (mk : MethodId) (a : Array Value) (h : OW A K0 U) : OW A K0 (U.calling g mk a) := by
  obtain ⟨⟨a1, a2⟩, b, c, ⟨d1, d2, d3⟩, ⟨e1, -⟩⟩ := h
  have al : U.vm.Alike (U.calling g mk a).vm := Vm.Alike.refl U.vm
  exact ⟨⟨a1.moved al, a2.moved al⟩, fun q hq => (b q hq).imp fun _ z => z.same rfl, fun q hq => va_Nw.same (u := U) (U := U.calling g mk a) (kmv_t (List.mem_filter.mp hq).2) rfl (c q hq), ⟨d1.moved al, d2, d3⟩, ⟨e1.moved al, trivial⟩⟩
def ktys (cI cG cJ cO : ClassId) : List (ClassId × FieldType) := [(cI, .int), (cG, .int), (cJ, .object "OnboardingWorks$Joiner"), (cO, .object "OnboardingWorks$Joiner")]
/-- a method's start: this world -/
def WS (D : va_G) (tys : List (ClassId × FieldType)) (K0 : Nat → Nat) (A : Nat → Prop) (L : List (Nat × Nat)) (ad : Nat → Nat → Nat) (ce : Nat → Nat → va_E) (sz : Nat) (U : State) : Prop :=
  U.heap.size = sz ∧ va_P D vwCl (wl L ad ce) U.heap ∧ va_D A (wl L ad ce) ∧ va_K D vwCl tys U ∧ OW A K0 U
/-- .. and its end -/
def WE (D : va_G) (A : Nat → Prop) (L : List (Nat × Nat)) (ad : Nat → Nat → Nat) (ce : Nat → Nat → va_E) (t : State) : Prop := va_P D vwCl (wl L ad ce) t.heap ∧ va_D A (wl L ad ce)
abbrev kP (D : va_G) (tys : List (ClassId × FieldType)) (K0 : Nat → Nat) (A : Nat → Prop) (L : List (Nat × Nat)) (ad : Nat → Nat → Nat) (ce : Nat → Nat → va_E) (sz : Nat) (as : List Value) : Array Value → State → Prop := va_Pc as (WS D tys K0 A L ad ce sz)
abbrev kQi (D : va_G) (A : Nat → Prop) (v : Int32) (L : List (Nat × Nat)) (ad : Nat → Nat → Nat) (ce : Nat → Nat → va_E) : Array Value → State → Outcome → State → Prop := va_Qi (fun (r : Int32) (_ : Unit) => r = v) (fun _ t => WE D A L ad ce t) A
abbrev kQl (D : va_G) (A : Nat → Prop) (v : Int64) (L : List (Nat × Nat)) (ad : Nat → Nat → Nat) (ce : Nat → Nat → va_E) : Array Value → State → Outcome → State → Prop := va_Ql (fun (r : Int64) (_ : Unit) => r = v) (fun _ t => WE D A L ad ce t) A
abbrev kQv (D : va_G) (A : Nat → Prop) (L : List (Nat × Nat)) (ad : Nat → Nat → Nat) (ce : Nat → Nat → va_E) : Array Value → State → Outcome → State → Prop := va_Qv (fun (_ : Unit) => True) (fun _ t => WE D A L ad ce t) A
abbrev kQr (D : va_G) (A : Nat → Prop) (v : Nat) (L : List (Nat × Nat)) (ad : Nat → Nat → Nat) (ce : Nat → Nat → va_E) : Array Value → State → Outcome → State → Prop := va_Qr (fun (_ : Unit) => True) (fun _ a t => a = v ∧ WE D A L ad ce t) A
variable {p : Program} {l : Launch} {e : Env} {R : Room} {s : State} {m : MethodId} {args : Array Value} {below : List Frame} {meth : Method} {c : Code} {H : Heap} {locs : List Loc} {cells slots : Nat} {Q : State → Prop} {cc : ByteArray} {pc : Nat} {ls : Array Slot} {rest st0 : List Value} {D : va_G} {A : Nat → Prop} {tys : List (ClassId × FieldType)} {K0 : Nat → Nat} {L L' : List (Nat × Nat)} {ad ad' : Nat → Nat → Nat} {ce ce' : Nat → Nat → va_E}
variable {y : MethodName} {bytes : ByteArray} {maxL nL mc ms n index : Nat} {ret : Option FieldType} {ws : List Cond} {rm : Room} {Ts : List Cond} {own C host : String} {As : List Value}
theorem WS.blind {sz : Nat} {as : List Value} : FrameBlind (kP D tys K0 A L ad ce sz as) := fun a U g mk q => by
  obtain ⟨q0, q1, qP, qD, qK, qO⟩ := q
  exact ⟨q0, q1, qP, qD, va_K.moved (u := U) (U := U.calling g mk a) (Vm.Alike.refl U.vm) qK, qO.cal g mk a⟩
theorem WS.at (hK : va_K D vwCl tys s) (hO : OW A K0 s) (hw : wk D A L ad ce s.heap H locs) (as : List Value) : ∀ U : State, U.heap = H → s.WarmedH U.vm → kP D tys K0 A L ad ce H.size as as.toArray U := fun U hU hW =>
  ⟨rfl, by rw [hU], by rw [hU]; exact hw.1, hw.2.1, va_K.moved hW.alike hK, hO.go hw.2.2 hU hW⟩
theorem wk.recv (hK : va_K D vwCl tys s) (hw : wk D A L ad ce s.heap H locs) {f o : Nat} (hi : (f, o) ∈ L) {ci : Nat} {fs : List Value} (he : ce f o = .inr (ci, fs)) {q : vw_C} (hc : vwCl[ci]? = some q) : ∃ cell : Cell, H[ad f o]? = some cell ∧ cell.vm.isStatics = false ∧ s.vm.findClass q.1 = some cell.cls := by
  obtain ⟨k, hk⟩ := wl_in hi
  exact va_recv hK hw.1 hc ((wl_at hk).trans (by rw [he]))
/-- what a call's row gives, whichever way it is made -/
abbrev kRun (p : Program) (l : Launch) (e : Env) (R : Room) (s : State) (m : MethodId) (args : Array Value) (below : List Frame) (meth : Method) (c : Code) (H : Heap) (locs : List Loc) (cells slots mc ms : Nat) (pc : Nat) (ls : Array Slot) (st0 rest : List Value) (A : Nat → Prop) (Qa : State → Outcome → State → Prop) : Prop := va_Run p l e R s m args below meth c H locs cells slots mc ms (F0 m pc ls st0) rest Qa A
theorem k_ci {v : Int32} {a : Array Value} (hw : wk D A L ad ce s.heap H locs) (hr : kRun p l e R s m args below meth c H locs cells slots mc ms pc ls st0 rest A (kQi D A v L' ad' ce' a))
    (kk : ∀ (H1 : Heap) (locs1 : List Loc), wk D A L' ad' ce' s.heap H1 locs1 → W p l e R s m args below meth c H1 locs1 (cells + mc) (slots + ms) Q (F0 m (pc + 3) ls (.int v :: rest))) : W p l e R s m args below meth c H locs cells slots Q (F0 m pc ls st0) :=
  va_calli hr hw.2.2 (fun _ _ h => h) (fun _ h => h) (fun r _ t H1 locs1 ht _ hp hB _ _ hS => by
    subst hp
    exact kk H1 locs1 ⟨by rw [← ht]; exact hB.1, hB.2, hS⟩)
theorem k_cl {v : Int64} {a : Array Value} (hw : wk D A L ad ce s.heap H locs) (hr : kRun p l e R s m args below meth c H locs cells slots mc ms pc ls st0 rest A (kQl D A v L' ad' ce' a))
    (kk : ∀ (H1 : Heap) (locs1 : List Loc), wk D A L' ad' ce' s.heap H1 locs1 → W p l e R s m args below meth c H1 locs1 (cells + mc) (slots + ms) Q (F0 m (pc + 3) ls (.long v :: rest))) : W p l e R s m args below meth c H locs cells slots Q (F0 m pc ls st0) :=
  va_calll hr hw.2.2 (fun _ _ h => h) (fun _ h => h) (fun r _ t H1 locs1 ht _ hp hB _ _ hS => by
    subst hp
    exact kk H1 locs1 ⟨by rw [← ht]; exact hB.1, hB.2, hS⟩)
theorem k_cv {a : Array Value} (hw : wk D A L ad ce s.heap H locs) (hr : kRun p l e R s m args below meth c H locs cells slots mc ms pc ls st0 rest A (kQv D A L' ad' ce' a))
    (kk : ∀ (H1 : Heap) (locs1 : List Loc), wk D A L' ad' ce' s.heap H1 locs1 → W p l e R s m args below meth c H1 locs1 (cells + mc) (slots + ms) Q (F0 m (pc + 3) ls rest)) : W p l e R s m args below meth c H locs cells slots Q (F0 m pc ls st0) :=
  va_callv hr hw.2.2 (fun _ _ h => h) (fun _ h => h) (fun _ t H1 locs1 ht _ _ hB _ _ hS => kk H1 locs1 ⟨by rw [← ht]; exact hB.1, hB.2, hS⟩)
theorem k_cr {v : Nat} {a : Array Value} (hw : wk D A L ad ce s.heap H locs) (hr : kRun p l e R s m args below meth c H locs cells slots mc ms pc ls st0 rest A (kQr D A v L' ad' ce' a))
    (kk : ∀ (H1 : Heap) (locs1 : List Loc), wk D A L' ad' ce' s.heap H1 locs1 → W p l e R s m args below meth c H1 locs1 (cells + mc) (slots + ms) Q (F0 m (pc + 3) ls (.ref v :: rest))) : W p l e R s m args below meth c H locs cells slots Q (F0 m pc ls st0) :=
  va_callr hr hw.2.2 (fun _ _ h => h) (fun _ h => h) (fun _ ra t H1 locs1 ht _ _ hB _ _ hS => by
    obtain ⟨rfl, hB⟩ := hB
    exact kk H1 locs1 ⟨by rw [← ht]; exact hB.1, hB.2, hS⟩)
/-- the receiver is the world's cell (f, o) -/
theorem k_rV {Qc : Array Value → State → Outcome → State → Prop} (F : CallFix p m c cc nL s args Ts own) (hK : va_K D vwCl tys s) (hO : OW A K0 s) (hw : wk D A L ad ce s.heap H locs) {f o : Nat} (hM : Met l y ws rm (kP D tys K0 A L ad ce H.size (.ref (ad f o) :: As)) Qc mc ms A) (cw : CallW R s args own C index y bytes maxL ret ws rm mc ms n) (hi : (f, o) ∈ L) {ci : Nat} {fs : List Value} (he : ce f o = .inr (ci, fs)) {T : u_T} {N : Nat} (hc : vwCl[ci]? = some (C, T, N)) (hn : As.length = n) (hsize : ls.size = nL) (hst : st0 = As.reverse ++ .ref (ad f o) :: rest) (hW : (rest.map fun v => v.category).sum ≤ 8) (hdg : decode cc pc = .ok (.invokevirtual index, 3)) (hf : cells + mc ≤ R.cells ∧ slots + ms ≤ R.slots) :
    kRun p l e R s m args below meth c H locs cells slots mc ms pc ls st0 rest A (Qc (Value.ref (ad f o) :: As).toArray) :=
  va_runV F hM cw ⟨WS.blind, wk.recv hK hw hi he hc, WS.at hK hO hw _⟩ rfl hn hsize hst (by show 2 * 0 + _ ≤ 8; omega) hdg hf
theorem k_rS {Qc : Array Value → State → Outcome → State → Prop} (F : CallFix p m c cc nL s args Ts own) (hK : va_K D vwCl tys s) (hO : OW A K0 s) (hw : wk D A L ad ce s.heap H locs) (hM : Met l y ws rm (kP D tys K0 A L ad ce H.size As) Qc mc ms A) (cw : CallB R s args own index y bytes maxL ret ws rm mc ms n ∧ (Cond.static y).before args s = true) (hn : As.length = n) (hsize : ls.size = nL) (hst : st0 = As.reverse ++ rest) (hW : (rest.map fun v => v.category).sum ≤ 8) (hdg : decode cc pc = .ok (.invokestatic index, 3)) (hf : cells + mc ≤ R.cells ∧ slots + ms ≤ R.slots) :
    kRun p l e R s m args below meth c H locs cells slots mc ms pc ls st0 rest A (Qc As.toArray) :=
  va_runS F hM cw ⟨WS.blind, WS.at hK hO hw _⟩ rfl hn hsize hst (by show 2 * 0 + _ ≤ 8; omega) hdg hf
theorem k_rSN {Qc : Array Value → State → Outcome → State → Prop} (F : CallFix p m c cc nL s args Ts own) (hK : va_K D vwCl tys s) (hO : OW A K0 s) (hw : wk D A L ad ce s.heap H locs) (hM : Met l y ws rm (kP D tys K0 A L ad ce H.size As) Qc mc ms A) (cw : va_CN R s args own index y host bytes maxL ret ws rm mc ms n ∧ (Cond.static y).before args s = true ∧ True) (hn : As.length = n) (hsize : ls.size = nL) (hst : st0 = As.reverse ++ rest) (hW : (rest.map fun v => v.category).sum ≤ 8) (hdg : decode cc pc = .ok (.invokestatic index, 3)) (hf : cells + mc ≤ R.cells ∧ slots + ms ≤ R.slots) :
    kRun p l e R s m args below meth c H locs cells slots mc ms pc ls st0 rest A (Qc As.toArray) :=
  va_runSN F hM cw ⟨WS.blind, WS.at hK hO hw _⟩ rfl hn hsize hst (by show 2 * 0 + _ ≤ 8; omega) hdg hf
theorem k_rI {Qc : Array Value → State → Outcome → State → Prop} (F : CallFix p m c cc nL s args Ts own) (hK : va_K D vwCl tys s) (hO : OW A K0 s) (hw : wk D A L ad ce s.heap H locs) {b : Nat} (hM : Met l y ws rm (kP D tys K0 A L ad ce H.size (.ref b :: As)) Qc mc ms A) (cw : CallB R s args own index y bytes maxL none ws rm mc ms n ∧ y.name = "<init>" ∧ (Cond.instanceMethod y).before args s = true) (hn : As.length = n) (hsize : ls.size = nL) (hst : st0 = As.reverse ++ .ref b :: rest) (hW : (rest.map fun v => v.category).sum ≤ 8) (hdg : decode cc pc = .ok (.invokespecial index, 3)) (hf : cells + mc ≤ R.cells ∧ slots + ms ≤ R.slots) :
    kRun p l e R s m args below meth c H locs cells slots mc ms pc ls st0 rest A (Qc (Value.ref b :: As).toArray) :=
  va_runI F hM cw ⟨WS.blind, WS.at hK hO hw _⟩ rfl hn hsize hst (by show 2 * 0 + _ ≤ 8; omega) hdg hf
theorem k_rIN {Qc : Array Value → State → Outcome → State → Prop} (F : CallFix p m c cc nL s args Ts own) (hK : va_K D vwCl tys s) (hO : OW A K0 s) (hw : wk D A L ad ce s.heap H locs) {b : Nat} (hM : Met l y ws rm (kP D tys K0 A L ad ce H.size (.ref b :: As)) Qc mc ms A) (cw : va_CN R s args own index y host bytes maxL none ws rm mc ms n ∧ y.name = "<init>" ∧ (Cond.instanceMethod y).before args s = true) (hn : As.length = n) (hsize : ls.size = nL) (hst : st0 = As.reverse ++ .ref b :: rest) (hW : (rest.map fun v => v.category).sum ≤ 8) (hdg : decode cc pc = .ok (.invokespecial index, 3)) (hf : cells + mc ≤ R.cells ∧ slots + ms ≤ R.slots) :
    kRun p l e R s m args below meth c H locs cells slots mc ms pc ls st0 rest A (Qc (Value.ref b :: As).toArray) :=
  va_runIN F hM cw ⟨WS.blind, WS.at hK hO hw _⟩ rfl hn hsize hst (by show 2 * 0 + _ ≤ 8; omega) hdg hf
/-- ends -/
theorem k_iret {v v0 : Int32} {ty : FieldType} (hx : p.tables.exec = Jvm.exec) (hb : c.code = cc) (hr : meth.sig.returnType = some ty) (hlocks : meth.locks = false) (hn : narrow ty (.int v) = .int v) (hw : wk D A L ad ce s.heap H locs) (hv : v0 = v) (hce : ce' = ce) (hdg : decode cc pc = .ok (.ireturn, 1)) : W p l e R s m args below meth c H locs cells slots (MQ below (kQi D A v0 L ad ce') args s cells slots A) (F0 m pc ls [.int v]) := by
  subst hv; subst hce
  exact W.zret hx hb hr hn (fun t ht _ => ⟨⟨_, (), rfl, rfl, by rw [ht]; exact hw.1, hw.2.1⟩, hw.2.2.F ht⟩) hw.2.2.2.2 hdg hlocks
theorem k_lret {v v0 : Int64} (hx : p.tables.exec = Jvm.exec) (hb : c.code = cc) (hr : meth.sig.returnType = some .long) (hlocks : meth.locks = false) (hw : wk D A L ad ce s.heap H locs) (hv : v0 = v) (hce : ce' = ce) (hdg : decode cc pc = .ok (.lreturn, 1)) : W p l e R s m args below meth c H locs cells slots (MQ below (kQl D A v0 L ad ce') args s cells slots A) (F0 m pc ls [.long v]) := by
  subst hv; subst hce
  exact W.lret hx hb hr (fun t ht _ => ⟨⟨_, (), rfl, rfl, by rw [ht]; exact hw.1, hw.2.1⟩, hw.2.2.F ht⟩) hw.2.2.2.2 hdg hlocks
theorem k_vret (hx : p.tables.exec = Jvm.exec) (hb : c.code = cc) (hr : meth.sig.returnType = none) (hlocks : meth.locks = false) (hw : wk D A L ad ce s.heap H locs) (hce : ce' = ce) (hdg : decode cc pc = .ok (.return_, 1)) : W p l e R s m args below meth c H locs cells slots (MQ below (kQv D A L ad ce') args s cells slots A) (F0 m pc ls []) := by
  subst hce
  exact W.vret hx hb hr (fun t ht _ => ⟨⟨(), rfl, trivial, by rw [ht]; exact hw.1, hw.2.1⟩, hw.2.2.F ht⟩) hw.2.2.2.2 hdg hlocks
theorem k_rret {v v0 : Nat} {rt : FieldType} (hx : p.tables.exec = Jvm.exec) (hb : c.code = cc) (hr : meth.sig.returnType = some rt) (hrt : (∃ n, rt = .object n) ∨ ∃ t, rt = .array t) (hlocks : meth.locks = false) (hw : wk D A L ad ce s.heap H locs) (hv : v0 = v) (hce : ce' = ce) (hdg : decode cc pc = .ok (.areturn, 1)) : W p l e R s m args below meth c H locs cells slots (MQ below (kQr D A v0 L ad ce') args s cells slots A) (F0 m pc ls [.ref v]) := by
  subst hv; subst hce
  exact W.aret hx hb hr hrt (Or.inr ⟨_, rfl⟩) (fun t ht _ => ⟨⟨(), _, rfl, trivial, rfl, by rw [ht]; exact hw.1, hw.2.1⟩, hw.2.2.F ht⟩) hw.2.2.2.2 hdg hlocks
/-- loops that count -/
theorem lp_o {i N : Nat} {b : Int32} (hb : b = nI N) (h : i + 0 = N) (hN : N < 2 ^ 31) : b ≤ nI i := by
  subst hb; subst h; exact nI_le (Nat.le_refl _) hN
theorem lp_i {i k N : Nat} {b : Int32} (hb : b = nI N) (h : i + (k + 1) = N) (hN : N < 2 ^ 31) : ¬ b ≤ nI i := by
  subst hb; exact nI_ge (by omega) hN
theorem lp_s {i k N : Nat} (h : i + (k + 1) = N) : i + 1 + k = N := by omega
theorem lp_l {i k N : Nat} (h : i + (k + 1) = N) : i < N := by omega
theorem k_in {x b : Int32} {n : Nat} (h1 : ¬ x < 0) (h2 : ¬ b ≤ x) (hb : b.toInt ≤ n) : vp_in x n := by
  rw [vp_in_iff]
  rw [Int32.lt_iff_toInt_lt] at h1
  rw [Int32.le_iff_toInt_le] at h2
  have h0 : (0 : Int32).toInt = 0 := rfl
  omega
theorem k_in' {x b : Int32} {n : Nat} (h1 : ¬ x < 0) (h2 : x < b) (hb : b.toInt ≤ n) : vp_in x n := by
  rw [vp_in_iff]
  rw [Int32.lt_iff_toInt_lt] at h1 h2
  have h0 : (0 : Int32).toInt = 0 := rfl
  omega
end KIT2
