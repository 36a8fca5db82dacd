section SMR
variable {p : Program} {l : Launch} {e : Env} {R : Room} {s : State} {m : MethodId} {args : Array Value} {below : List Frame} {meth : Method} {c : Code} {H : Heap} {locs : List Loc} {cells slots : Nat} {Q : State → Prop} {cc : ByteArray} {pc : Nat} {ls : Array Slot} {rest st0 : List Value} {D : va_G} {A : Nat → Prop} {tys : List (ClassId × FieldType)} {K0 : Nat → Nat} {H0 : Heap} {L L' : List (Nat × Nat)} {ad ad' : Nat → Nat → Nat} {ce ce' : Nat → Nat → va_E} {cI cG cJ cO : ClassId} {mc ms : Nat} {cp : Nat → Nat} {S T U : Nat → Nat → Nat → Int32}
/-- the rows that no inner method writes -/
def fx (f : Nat) : Bool := f == 1 || f == 2 || f == 3 || f == 7 || f == 8 || f == 9 || f == 10 || f == 12 || f == 14 || f == 15 || f == 17 || f == 18 || f == 19 || f == 42
def SM (S T : Nat → Nat → Nat → Int32) : Prop := T 0 0 0 = S 0 0 0 ∧ ∀ f, fx f = true → T f = S f
theorem SM.rf (S : Nat → Nat → Nat → Int32) : SM S S := ⟨rfl, fun _ _ => rfl⟩
theorem SM.tr (h : SM S T) (k : SM T U) : SM S U := ⟨k.1.trans h.1, fun f hf => (k.2 f hf).trans (h.2 f hf)⟩
theorem SM.up {f o i : Nat} {v : Int32} (hf : fx f = false) (h0 : f ≠ 0) (h : SM S T) : SM S (up3 T f o i v) := ⟨by rw [up3_f (fun z => h0 z.symm)]; exact h.1, fun g hg => by rw [up3_f (fun z => by subst z; rw [hf] at hg; cases hg)]; exact h.2 g hg⟩
theorem SM.td {v : Int32} (h : SM S T) : SM S (up3 T 0 0 1 v) := ⟨(up3_i (by decide)).trans h.1, fun g hg => (up3_f (fun z => by subst z; exact absurd hg (by decide))).trans (h.2 g hg)⟩
theorem SM.c0 (h : SM S T) : T 1 0 0 = S 1 0 0 := congrFun (congrFun (h.2 1 rfl) 0) 0
theorem SM.c1 (h : SM S T) : T 1 0 1 = S 1 0 1 := congrFun (congrFun (h.2 1 rfl) 0) 1
theorem SM.c2 (h : SM S T) : T 2 0 0 = S 2 0 0 := congrFun (congrFun (h.2 2 rfl) 0) 0
theorem SM.c3 (h : SM S T) : T 3 0 0 = S 3 0 0 := congrFun (congrFun (h.2 3 rfl) 0) 0
theorem SM.c4 (h : SM S T) : T 0 0 0 = S 0 0 0 := h.1
theorem SM.mo (h : SM S T) (t : Nat) : T 42 t 0 = S 42 t 0 := congrFun (congrFun (h.2 42 rfl) t) 0
theorem SM.z (h : SM S T) (t : Nat) : msz T t = msz S t := by unfold msz mszI; rw [h.c0, h.c1, h.c2, h.c3, h.c4]
theorem SM.ci (h : SM S T) (k : CI S) : CI T := by unfold CI; rw [h.c0, h.c1, h.c2, h.c3, h.c4]; exact k
theorem SM.me {K0 : Nat → Nat} {ad : Nat → Nat → Nat} (h : SM S T) (t k : Nat) : mel K0 ad T t k = mel K0 ad S t k := by unfold mel; rw [h.2 12 rfl]
/-- what of the reference is there -/
def MR (S : Nat → Nat → Nat → Int32) (L : List (Nat × Nat)) (cp : Nat → Nat) : Prop :=
  (∀ f, 30 ≤ f → f < 38 → (f, 0) ∈ L) ∧ (∀ t, t < 5 → 0 < msz S t → (38 + t, 0) ∈ L) ∧ (∀ t, t < 5 → msz S t ≤ cp t ∧ cp t < 100) ∧
  (∀ k, k < msz S 0 → (43, k) ∈ L) ∧ (∀ k, k < msz S 1 → (127 < S 12 0 k → (52, k) ∈ L) ∧ ¬ S 12 0 k < -128) ∧ (∀ k, k < msz S 2 → (44, k) ∈ L) ∧ (∀ k, k < msz S 3 → (45, k) ∈ L) ∧ (∀ f k, 46 ≤ f → f < 52 → k < msz S 4 → (f, k) ∈ L)
theorem MR.sm (h : SM S T) (k : MR S L cp) : MR T L cp := by unfold MR; simp only [h.z, h.2 12 rfl]; exact k
theorem MR.push {i : Nat × Nat} (k : MR S L cp) : MR S (L ++ [i]) cp := ⟨fun f a b => List.mem_append_left _ (k.1 f a b), fun t a b => List.mem_append_left _ (k.2.1 t a b), k.2.2.1, fun q a => List.mem_append_left _ (k.2.2.2.1 q a), fun q a => ⟨fun b => List.mem_append_left _ ((k.2.2.2.2.1 q a).1 b), (k.2.2.2.2.1 q a).2⟩, fun q a => List.mem_append_left _ (k.2.2.2.2.2.1 q a), fun q a => List.mem_append_left _ (k.2.2.2.2.2.2.1 q a), fun f q a b c => List.mem_append_left _ (k.2.2.2.2.2.2.2 f q a b c)⟩
/-- no cell of the kinds 60 .. n -/
def TL (n : Nat) (L : List (Nat × Nat)) : Prop := ∀ i ∈ L, i.1 < 60 ∨ n < i.1
theorem TL.le {n m : Nat} (h : TL n L) (hm : m ≤ n) : TL m L := fun i hi => (h i hi).elim Or.inl (fun z => Or.inr (by omega))
theorem TL.push {n m f o : Nat} (h : TL n L) (hm : m ≤ n) (hf : m < f) : TL m (L ++ [(f, o)]) := fun i hi => (List.mem_append.mp hi).elim (fun z => h.le hm i z) (fun z => by cases List.mem_singleton.mp z; exact Or.inr hf)
theorem TL.new {n f o : Nat} (h : TL n L) (h1 : 60 ≤ f) (h2 : f ≤ n) : (f, o) ∉ L := fun z => (h _ z).elim (fun a => by have a : f < 60 := a; omega) (fun a => by have a : n < f := a; omega)
theorem cn_ltb {x n : Int32} {i : Nat} (h0 : ¬ x < 0) (hx : x.toNatClampNeg = i) (hi : i < n.toNatClampNeg) : x < n := by
  rw [Int32.lt_iff_toInt_lt] at h0 ⊢
  have e1 : x.toNatClampNeg = x.toInt.toNat := rfl
  have e2 : n.toNatClampNeg = n.toInt.toNat := rfl
  have h9 : (0 : Int32).toInt = 0 := rfl
  omega
theorem ob1 {α β : Type} {x : Option α} {f : α → Option β} {v : β} (h : x.bind f = some v) : ∃ a, x = some a ∧ f a = some v := Option.bind_eq_some_iff.mp h
/-- a result of two, three, four parts -/
def obi2 {α β γ : Type} (x : Option (α × β)) (f : α → β → Option γ) : Option γ := x.bind fun r => f r.1 r.2
def obi3 {α β γ δ : Type} (x : Option (α × β × γ)) (f : α → β → γ → Option δ) : Option δ := x.bind fun r => f r.1 r.2.1 r.2.2
def obi4 {α β γ δ ε : Type} (x : Option (α × β × γ × δ)) (f : α → β → γ → δ → Option ε) : Option ε := x.bind fun r => f r.1 r.2.1 r.2.2.1 r.2.2.2
theorem ob2 {α β γ : Type} {x : Option (α × β)} {f : α → β → Option γ} {v : γ} (h : obi2 x f = some v) : ∃ a b, x = some (a, b) ∧ f a b = some v := by
  obtain ⟨⟨a, b⟩, h1, h2⟩ := Option.bind_eq_some_iff.mp h; exact ⟨a, b, h1, h2⟩
theorem ob3 {α β γ δ : Type} {x : Option (α × β × γ)} {f : α → β → γ → Option δ} {v : δ} (h : obi3 x f = some v) : ∃ a b c, x = some (a, b, c) ∧ f a b c = some v := by
  obtain ⟨⟨a, b, c⟩, h1, h2⟩ := Option.bind_eq_some_iff.mp h; exact ⟨a, b, c, h1, h2⟩
theorem ob4 {α β γ δ ε : Type} {x : Option (α × β × γ × δ)} {f : α → β → γ → δ → Option ε} {v : ε} (h : obi4 x f = some v) : ∃ a b c d, x = some (a, b, c, d) ∧ f a b c d = some v := by
  obtain ⟨⟨a, b, c, d⟩, h1, h2⟩ := Option.bind_eq_some_iff.mp h; exact ⟨a, b, c, d, h1, h2⟩
theorem sj2 {α β : Type} {a c : α} {b d : β} (h : some (a, b) = some (c, d)) : c = a ∧ d = b := by cases h; exact ⟨rfl, rfl⟩
theorem sj3 {α β γ : Type} {a c : α} {b d : β} {e f : γ} (h : some (a, b, e) = some (c, d, f)) : c = a ∧ d = b ∧ f = e := by cases h; exact ⟨rfl, rfl, rfl⟩
theorem sj4 {α β γ δ : Type} {a c : α} {b d : β} {e f : γ} {g k : δ} (h : some (a, b, e, g) = some (c, d, f, k)) : c = a ∧ d = b ∧ f = e ∧ k = g := by cases h; exact ⟨rfl, rfl, rfl, rfl⟩
/-- ends -/
theorem m_iret {v x : Int32} {ty : FieldType} (hx : p.tables.exec = Jvm.exec) (hb : c.code = cc) (hr : meth.sig.returnType = some ty) (hlocks : meth.locks = false) (hn : narrow ty (.int x) = .int x) (hw : wk D A L ad (mK cI cO K0 ad cp ce S) s.heap H locs) (hE : some x = some v) (hc : cells ≤ mc) (hs : slots ≤ ms) (hdg : decode cc pc = .ok (.ireturn, 1)) : W p l e R s m args below meth c H locs cells slots (MQ below (kQi D A v L ad (mK cI cO K0 ad cp ce S)) args s mc ms A) (F0 m pc ls [.int x]) := by
  cases hE
  exact W.widen hc hs (W.zret hx hb hr hn (fun t ht _ => ⟨⟨_, (), rfl, rfl, by rw [ht]; exact hw.1, hw.2.1⟩, hw.2.2.F ht⟩) hw.2.2.2.2 hdg hlocks)
theorem m_iretE {v : Int32 × (Nat → Nat → Nat → Int32)} {x : Int32} {ty : FieldType} (hx : p.tables.exec = Jvm.exec) (hb : c.code = cc) (hr : meth.sig.returnType = some ty) (hlocks : meth.locks = false) (hn : narrow ty (.int x) = .int x) (hw : wk D A L ad (mK cI cO K0 ad cp ce S) s.heap H locs) (hE : some (x, S) = some v) (hc : cells ≤ mc) (hs : slots ≤ ms) (hdg : decode cc pc = .ok (.ireturn, 1)) : W p l e R s m args below meth c H locs cells slots (MQ below (kQi D A v.1 L ad (mK cI cO K0 ad cp ce v.2)) args s mc ms A) (F0 m pc ls [.int x]) := by
  cases hE
  exact W.widen hc hs (W.zret hx hb hr hn (fun t ht _ => ⟨⟨_, (), rfl, rfl, by rw [ht]; exact hw.1, hw.2.1⟩, hw.2.2.F ht⟩) hw.2.2.2.2 hdg hlocks)
theorem m_lretE {v : Int64 × (Nat → Nat → Nat → Int32)} {x : Int64} (hx : p.tables.exec = Jvm.exec) (hb : c.code = cc) (hr : meth.sig.returnType = some .long) (hlocks : meth.locks = false) (hw : wk D A L ad (mK cI cO K0 ad cp ce S) s.heap H locs) (hE : some (x, S) = some v) (hc : cells ≤ mc) (hs : slots ≤ ms) (hdg : decode cc pc = .ok (.lreturn, 1)) : W p l e R s m args below meth c H locs cells slots (MQ below (kQl D A v.1 L ad (mK cI cO K0 ad cp ce v.2)) args s mc ms A) (F0 m pc ls [.long x]) := by
  cases hE
  exact W.widen hc hs (W.lret hx hb hr (fun t ht _ => ⟨⟨_, (), rfl, rfl, by rw [ht]; exact hw.1, hw.2.1⟩, hw.2.2.F ht⟩) hw.2.2.2.2 hdg hlocks)
theorem m_vretE {v : Nat → Nat → Nat → Int32} (hx : p.tables.exec = Jvm.exec) (hb : c.code = cc) (hr : meth.sig.returnType = none) (hlocks : meth.locks = false) (hw : wk D A L ad (mK cI cO K0 ad cp ce S) s.heap H locs) (hE : some S = some v) (hc : cells ≤ mc) (hs : slots ≤ ms) (hdg : decode cc pc = .ok (.return_, 1)) : W p l e R s m args below meth c H locs cells slots (MQ below (kQv D A L ad (mK cI cO K0 ad cp ce v)) args s mc ms A) (F0 m pc ls []) := by
  cases hE
  exact W.widen hc hs (W.vret hx hb hr (fun t ht _ => ⟨⟨(), rfl, trivial, by rw [ht]; exact hw.1, hw.2.1⟩, hw.2.2.F ht⟩) hw.2.2.2.2 hdg hlocks)
/-- a checked cast to the cell's own class -/
theorem k_cast (hx : p.tables.exec = Jvm.exec) (hb : c.code = cc) {own C : String} {index : Nat} {Tt : u_T} {N : Nat} (hown : s.vm.findClass own = some m.cls) (hlink : (Cond.classLink own index C).before args s = true) (hK : va_K D vwCl tys s) (hw : wk D A L ad ce s.heap H locs) {f o : Nat} (hi : (f, o) ∈ L) {ci : Nat} {fs : List Value} (he : ce f o = .inr (ci, fs)) (hc : vwCl[ci]? = some (C, Tt, N)) (hdg : decode cc pc = .ok (.checkcast index, 3))
    (k : W p l e R s m args below meth c H locs cells slots Q (F0 m (pc + 3) ls (.ref (ad f o) :: rest))) : W p l e R s m args below meth c H locs cells slots Q (F0 m pc ls (.ref (ad f o) :: rest)) := va_castE hx hb hown hlink (wk.recv hK hw hi he hc) hdg k
/-- an iterator's cell -/
abbrev itc (i : Nat) (mo : Int32) (a : Nat) : va_E := .inr (1, [.int (nI i), .int (itl i), .int mo, .ref a])
theorem mK_itp {it o : Nat} {x y : va_E} (h : it < 30 ∨ 53 ≤ it) : up2 (mK cI cO K0 ad cp (up2 ce it o x) S) it o y = mK cI cO K0 ad cp (up2 ce it o y) S := (mK_out h).trans (by rw [up2_up2])
/-- a new cell beyond the reference's -/
theorem wk.tmp {f o q : Nat} {x : va_E} (h : f < 30 ∨ 53 ≤ f) (hw : wk D A (L ++ [(f, o)]) (upa ad f o q) (up2 (mK cI cO K0 ad cp ce S) f o x) H0 H locs) : wk D A (L ++ [(f, o)]) (upa ad f o q) (mK cI cO K0 (upa ad f o q) cp (up2 ce f o x) S) H0 H locs := by
  rw [mK_upa h, ← mK_out h]; exact hw
theorem wk.untmp {f o q : Nat} {x : va_E} (h : f < 30 ∨ 53 ≤ f) (hn : (f, o) ∉ L) (hw : wk D A (L ++ [(f, o)]) (upa ad f o q) (mK cI cO K0 (upa ad f o q) cp (up2 ce f o x) S) H0 H locs) : wk D A L ad (mK cI cO K0 ad cp ce S) H0 H locs := by
  rw [mK_upa h, ← mK_out h] at hw; exact hw.drop hn
variable {y : MethodName} {bytes : ByteArray} {maxL nL n index count : Nat} {ret : Option FieldType} {ws : List Cond} {rm : Room} {Ts : List Cond} {own C : String} {As : List Value}
theorem gB_F {own C : String} {idx : Nat} {x y : MethodName} {bytes : ByteArray} {maxL : Nat} {ret : Option FieldType} (h1 : Cond.methodLink own idx x ∈ BIG) (h2 : Cond.selects C x y ∈ BIG) (h3 : Cond.instanceMethod y ∈ BIG) (h4 : Cond.initialized y.cls ∈ BIG) (h5 : Cond.code y bytes maxL ret ∈ BIG) : GoodIn BIG (va_wsF own idx C x y (.code y bytes maxL ret :: BIG)) := by
  refine gB_app ?_ (gB_0 h5)
  intro w hw
  simp only [List.mem_cons, List.not_mem_nil, or_false] at hw
  rcases hw with rfl | rfl | rfl | rfl <;> assumption
theorem k_rF {x : MethodName} {Qc : Array Value → State → Outcome → State → Prop} (F : CallFix p m c cc nL s args Ts own) (hK : va_K D vwCl tys s) (hO : OW A K0 s) (hw : wk D A L ad ce s.heap H locs) {f o : Nat} (hM : Met l y ws rm (kP D tys K0 A L ad ce H.size (.ref (ad f o) :: As)) Qc mc ms A) (cw : va_CI R s args own C index x y bytes maxL ret ws rm mc ms n) (hi : (f, o) ∈ L) {ci : Nat} {fs : List Value} (he : ce f o = .inr (ci, fs)) {Tt : u_T} {N : Nat} (hc : vwCl[ci]? = some (C, Tt, N)) (hn : As.length = n) (hsize : ls.size = nL) (hst : st0 = As.reverse ++ .ref (ad f o) :: rest) (hW : (rest.map fun v => v.category).sum ≤ 8) (hdg : decode cc pc = .ok (.invokeinterface index count, 5)) (hf : cells + mc ≤ R.cells ∧ slots + ms ≤ R.slots) :
    va_Run5 p l e R s m args below meth c H locs cells slots mc ms (F0 m pc ls st0) rest (Qc (Value.ref (ad f o) :: As).toArray) A :=
  va_runF (hK.1 ci _ hc).2 F hM cw ⟨WS.blind, wk.recv hK hw hi he hc, WS.at hK hO hw _⟩ rfl hn hsize hst (by show 2 * 0 + _ ≤ 8; omega) hdg hf
theorem k_cFi {v : Int32} {a : Array Value} (hw : wk D A L ad ce s.heap H locs) (hr : va_Run5 p l e R s m args below meth c H locs cells slots 0 0 (F0 m pc ls st0) rest (kQi D A v L' ad' ce' a) A)
    (kk : ∀ (H1 : Heap) (locs1 : List Loc), wk D A L' ad' ce' s.heap H1 locs1 → W p l e R s m args below meth c H1 locs1 cells slots Q (F0 m (pc + 5) ls (.int v :: rest))) : W p l e R s m args below meth c H locs cells slots Q (F0 m pc ls st0) :=
  va_callFi hr hw.2.2 (fun _ _ h => h) (fun _ h => h) (fun r _ t H1 locs1 ht _ hp hB _ _ hS => by
    subst hp
    exact kk H1 locs1 ⟨by rw [← ht]; exact hB.1, hB.2, hS⟩)
theorem k_cFr {v : Nat} {a : Array Value} (hw : wk D A L ad ce s.heap H locs) (hr : va_Run5 p l e R s m args below meth c H locs cells slots 0 0 (F0 m pc ls st0) rest (kQr D A v L' ad' ce' a) A)
    (kk : ∀ (H1 : Heap) (locs1 : List Loc), wk D A L' ad' ce' s.heap H1 locs1 → W p l e R s m args below meth c H1 locs1 cells slots Q (F0 m (pc + 5) ls (.ref v :: rest))) : W p l e R s m args below meth c H locs cells slots Q (F0 m pc ls st0) :=
  va_callFr hr hw.2.2 (fun _ _ h => h) (fun _ h => h) (fun _ ra t H1 locs1 ht _ _ hB _ _ hS => by
    obtain ⟨rfl, hB⟩ := hB
    exact kk H1 locs1 ⟨by rw [← ht]; exact hB.1, hB.2, hS⟩)
end SMR

/-! the lists, one by one -/
set_option maxHeartbeats 1000000
theorem ce_l0 {K0 : Nat → Nat} {ad : Nat → Nat → Nat} {ce : Nat → Nat → va_E} {cI cO : ClassId} {cp : Nat → Nat} {S T : Nat → Nat → Nat → Int32} (hs : SM S T) : mK cI cO K0 ad cp ce T 31 0 = .inr (2, [.int (S 42 0 0), .ref (if cp 0 = 0 then K0 0 else ad 38 0), .int (S 1 0 0)]) := by rw [mke_31, hs.mo 0, hs.c0]
theorem ct_size_0 {l : Launch} {D : va_G} {cI cG cJ cO : ClassId} {K0 : Nat → Nat} {A : Nat → Prop} {L : List (Nat × Nat)} {ad : Nat → Nat → Nat} {ce : Nat → Nat → va_E} {cp : Nat → Nat} {S T : Nat → Nat → Nat → Int32} (hs : SM S T) (hR : MR S L cp) (sz : Nat) (hA : ∀ q, sz ≤ q → A q) : Met l yJx4a65c_size_8abf5 bw_Jx4a65c_size_8abf5 rm_Jx4a65c_size_8abf5 (kP D (ktys cI cG cJ cO) K0 A L ad (mK cI cO K0 ad cp ce T) sz [.ref (ad 31 0)]) (kQi D A (S 1 0 0) L ad (mK cI cO K0 ad cp ce T)) 0 0 A := ct_Jx4a65c_size_8abf5 (hR.1 31 (by decide) (by decide)) (ce_l0 hs) sz hA
theorem ct_get_0 {l : Launch} {D : va_G} {cI cG cJ cO : ClassId} {K0 : Nat → Nat} {A : Nat → Prop} {L : List (Nat × Nat)} {ad : Nat → Nat → Nat} {ce : Nat → Nat → va_E} {cp : Nat → Nat} {S T : Nat → Nat → Nat → Int32} (hs : SM S T) (hR : MR S L cp) {x : Int32} {i : Nat} (h0 : ¬ x < 0) (hx : x.toNatClampNeg = i) (hi : i < (S 1 0 0).toNatClampNeg) (sz : Nat) (hA : ∀ q, sz ≤ q → A q) : Met l yJx4a65c_get_915e3 bw_Jx4a65c_get_915e3 rm_Jx4a65c_get_915e3 (kP D (ktys cI cG cJ cO) K0 A L ad (mK cI cO K0 ad cp ce T) sz [.ref (ad 31 0), .int x]) (kQr D A (mel K0 ad S 0 i) L ad (mK cI cO K0 ad cp ce T)) 0 0 A := by
  have hc := (hR.2.2.1 0 (by decide))
  have hz : msz S 0 = (S 1 0 0).toNatClampNeg := rfl
  rw [hz] at hc
  refine ct_Jx4a65c_get_915e3 (bf := 38) (cap := cp 0) (g := fun k => if k < msz T 0 then some (mel K0 ad T 0 k) else none) (hR.1 31 (by decide) (by decide)) ((ce_l0 hs).trans (by rw [if_neg (show ¬ cp 0 = 0 from by omega)])) (hR.2.1 0 (by decide) (by rw [hz]; omega)) rfl x (fun z => z.elim h0 (fun z => by omega)) ?_ h0 (cn_ltb h0 hx hi) sz hA
  rw [hx]
  show (if i < msz T 0 then some (mel K0 ad T 0 i) else none) = some (mel K0 ad S 0 i)
  rw [hs.z, hs.me, if_pos (show i < msz S 0 from hi)]

theorem ce_l1 {K0 : Nat → Nat} {ad : Nat → Nat → Nat} {ce : Nat → Nat → va_E} {cI cO : ClassId} {cp : Nat → Nat} {S T : Nat → Nat → Nat → Int32} (hs : SM S T) : mK cI cO K0 ad cp ce T 32 0 = .inr (2, [.int (S 42 1 0), .ref (if cp 1 = 0 then K0 0 else ad 39 0), .int (S 1 0 1)]) := by rw [mke_32, hs.mo 1, hs.c1]
theorem ct_size_1 {l : Launch} {D : va_G} {cI cG cJ cO : ClassId} {K0 : Nat → Nat} {A : Nat → Prop} {L : List (Nat × Nat)} {ad : Nat → Nat → Nat} {ce : Nat → Nat → va_E} {cp : Nat → Nat} {S T : Nat → Nat → Nat → Int32} (hs : SM S T) (hR : MR S L cp) (sz : Nat) (hA : ∀ q, sz ≤ q → A q) : Met l yJx4a65c_size_8abf5 bw_Jx4a65c_size_8abf5 rm_Jx4a65c_size_8abf5 (kP D (ktys cI cG cJ cO) K0 A L ad (mK cI cO K0 ad cp ce T) sz [.ref (ad 32 0)]) (kQi D A (S 1 0 1) L ad (mK cI cO K0 ad cp ce T)) 0 0 A := ct_Jx4a65c_size_8abf5 (hR.1 32 (by decide) (by decide)) (ce_l1 hs) sz hA
theorem ct_get_1 {l : Launch} {D : va_G} {cI cG cJ cO : ClassId} {K0 : Nat → Nat} {A : Nat → Prop} {L : List (Nat × Nat)} {ad : Nat → Nat → Nat} {ce : Nat → Nat → va_E} {cp : Nat → Nat} {S T : Nat → Nat → Nat → Int32} (hs : SM S T) (hR : MR S L cp) {x : Int32} {i : Nat} (h0 : ¬ x < 0) (hx : x.toNatClampNeg = i) (hi : i < (S 1 0 1).toNatClampNeg) (sz : Nat) (hA : ∀ q, sz ≤ q → A q) : Met l yJx4a65c_get_915e3 bw_Jx4a65c_get_915e3 rm_Jx4a65c_get_915e3 (kP D (ktys cI cG cJ cO) K0 A L ad (mK cI cO K0 ad cp ce T) sz [.ref (ad 32 0), .int x]) (kQr D A (mel K0 ad S 1 i) L ad (mK cI cO K0 ad cp ce T)) 0 0 A := by
  have hc := (hR.2.2.1 1 (by decide))
  have hz : msz S 1 = (S 1 0 1).toNatClampNeg := rfl
  rw [hz] at hc
  refine ct_Jx4a65c_get_915e3 (bf := 39) (cap := cp 1) (g := fun k => if k < msz T 1 then some (mel K0 ad T 1 k) else none) (hR.1 32 (by decide) (by decide)) ((ce_l1 hs).trans (by rw [if_neg (show ¬ cp 1 = 0 from by omega)])) (hR.2.1 1 (by decide) (by rw [hz]; omega)) rfl x (fun z => z.elim h0 (fun z => by omega)) ?_ h0 (cn_ltb h0 hx hi) sz hA
  rw [hx]
  show (if i < msz T 1 then some (mel K0 ad T 1 i) else none) = some (mel K0 ad S 1 i)
  rw [hs.z, hs.me, if_pos (show i < msz S 1 from hi)]

theorem ce_l2 {K0 : Nat → Nat} {ad : Nat → Nat → Nat} {ce : Nat → Nat → va_E} {cI cO : ClassId} {cp : Nat → Nat} {S T : Nat → Nat → Nat → Int32} (hs : SM S T) : mK cI cO K0 ad cp ce T 33 0 = .inr (2, [.int (S 42 2 0), .ref (if cp 2 = 0 then K0 0 else ad 40 0), .int (S 2 0 0)]) := by rw [mke_33, hs.mo 2, hs.c2]
theorem ct_size_2 {l : Launch} {D : va_G} {cI cG cJ cO : ClassId} {K0 : Nat → Nat} {A : Nat → Prop} {L : List (Nat × Nat)} {ad : Nat → Nat → Nat} {ce : Nat → Nat → va_E} {cp : Nat → Nat} {S T : Nat → Nat → Nat → Int32} (hs : SM S T) (hR : MR S L cp) (sz : Nat) (hA : ∀ q, sz ≤ q → A q) : Met l yJx4a65c_size_8abf5 bw_Jx4a65c_size_8abf5 rm_Jx4a65c_size_8abf5 (kP D (ktys cI cG cJ cO) K0 A L ad (mK cI cO K0 ad cp ce T) sz [.ref (ad 33 0)]) (kQi D A (S 2 0 0) L ad (mK cI cO K0 ad cp ce T)) 0 0 A := ct_Jx4a65c_size_8abf5 (hR.1 33 (by decide) (by decide)) (ce_l2 hs) sz hA
theorem ct_get_2 {l : Launch} {D : va_G} {cI cG cJ cO : ClassId} {K0 : Nat → Nat} {A : Nat → Prop} {L : List (Nat × Nat)} {ad : Nat → Nat → Nat} {ce : Nat → Nat → va_E} {cp : Nat → Nat} {S T : Nat → Nat → Nat → Int32} (hs : SM S T) (hR : MR S L cp) {x : Int32} {i : Nat} (h0 : ¬ x < 0) (hx : x.toNatClampNeg = i) (hi : i < (S 2 0 0).toNatClampNeg) (sz : Nat) (hA : ∀ q, sz ≤ q → A q) : Met l yJx4a65c_get_915e3 bw_Jx4a65c_get_915e3 rm_Jx4a65c_get_915e3 (kP D (ktys cI cG cJ cO) K0 A L ad (mK cI cO K0 ad cp ce T) sz [.ref (ad 33 0), .int x]) (kQr D A (mel K0 ad S 2 i) L ad (mK cI cO K0 ad cp ce T)) 0 0 A := by
  have hc := (hR.2.2.1 2 (by decide))
  have hz : msz S 2 = (S 2 0 0).toNatClampNeg := rfl
  rw [hz] at hc
  refine ct_Jx4a65c_get_915e3 (bf := 40) (cap := cp 2) (g := fun k => if k < msz T 2 then some (mel K0 ad T 2 k) else none) (hR.1 33 (by decide) (by decide)) ((ce_l2 hs).trans (by rw [if_neg (show ¬ cp 2 = 0 from by omega)])) (hR.2.1 2 (by decide) (by rw [hz]; omega)) rfl x (fun z => z.elim h0 (fun z => by omega)) ?_ h0 (cn_ltb h0 hx hi) sz hA
  rw [hx]
  show (if i < msz T 2 then some (mel K0 ad T 2 i) else none) = some (mel K0 ad S 2 i)
  rw [hs.z, hs.me, if_pos (show i < msz S 2 from hi)]

theorem ce_l3 {K0 : Nat → Nat} {ad : Nat → Nat → Nat} {ce : Nat → Nat → va_E} {cI cO : ClassId} {cp : Nat → Nat} {S T : Nat → Nat → Nat → Int32} (hs : SM S T) : mK cI cO K0 ad cp ce T 34 0 = .inr (2, [.int (S 42 3 0), .ref (if cp 3 = 0 then K0 0 else ad 41 0), .int (S 3 0 0)]) := by rw [mke_34, hs.mo 3, hs.c3]
theorem ct_size_3 {l : Launch} {D : va_G} {cI cG cJ cO : ClassId} {K0 : Nat → Nat} {A : Nat → Prop} {L : List (Nat × Nat)} {ad : Nat → Nat → Nat} {ce : Nat → Nat → va_E} {cp : Nat → Nat} {S T : Nat → Nat → Nat → Int32} (hs : SM S T) (hR : MR S L cp) (sz : Nat) (hA : ∀ q, sz ≤ q → A q) : Met l yJx4a65c_size_8abf5 bw_Jx4a65c_size_8abf5 rm_Jx4a65c_size_8abf5 (kP D (ktys cI cG cJ cO) K0 A L ad (mK cI cO K0 ad cp ce T) sz [.ref (ad 34 0)]) (kQi D A (S 3 0 0) L ad (mK cI cO K0 ad cp ce T)) 0 0 A := ct_Jx4a65c_size_8abf5 (hR.1 34 (by decide) (by decide)) (ce_l3 hs) sz hA
theorem ct_get_3 {l : Launch} {D : va_G} {cI cG cJ cO : ClassId} {K0 : Nat → Nat} {A : Nat → Prop} {L : List (Nat × Nat)} {ad : Nat → Nat → Nat} {ce : Nat → Nat → va_E} {cp : Nat → Nat} {S T : Nat → Nat → Nat → Int32} (hs : SM S T) (hR : MR S L cp) {x : Int32} {i : Nat} (h0 : ¬ x < 0) (hx : x.toNatClampNeg = i) (hi : i < (S 3 0 0).toNatClampNeg) (sz : Nat) (hA : ∀ q, sz ≤ q → A q) : Met l yJx4a65c_get_915e3 bw_Jx4a65c_get_915e3 rm_Jx4a65c_get_915e3 (kP D (ktys cI cG cJ cO) K0 A L ad (mK cI cO K0 ad cp ce T) sz [.ref (ad 34 0), .int x]) (kQr D A (mel K0 ad S 3 i) L ad (mK cI cO K0 ad cp ce T)) 0 0 A := by
  have hc := (hR.2.2.1 3 (by decide))
  have hz : msz S 3 = (S 3 0 0).toNatClampNeg := rfl
  rw [hz] at hc
  refine ct_Jx4a65c_get_915e3 (bf := 41) (cap := cp 3) (g := fun k => if k < msz T 3 then some (mel K0 ad T 3 k) else none) (hR.1 34 (by decide) (by decide)) ((ce_l3 hs).trans (by rw [if_neg (show ¬ cp 3 = 0 from by omega)])) (hR.2.1 3 (by decide) (by rw [hz]; omega)) rfl x (fun z => z.elim h0 (fun z => by omega)) ?_ h0 (cn_ltb h0 hx hi) sz hA
  rw [hx]
  show (if i < msz T 3 then some (mel K0 ad T 3 i) else none) = some (mel K0 ad S 3 i)
  rw [hs.z, hs.me, if_pos (show i < msz S 3 from hi)]

theorem ce_l4 {K0 : Nat → Nat} {ad : Nat → Nat → Nat} {ce : Nat → Nat → va_E} {cI cO : ClassId} {cp : Nat → Nat} {S T : Nat → Nat → Nat → Int32} (hs : SM S T) : mK cI cO K0 ad cp ce T 35 0 = .inr (2, [.int (S 42 4 0), .ref (if cp 4 = 0 then K0 0 else ad 42 0), .int (S 0 0 0)]) := by rw [mke_35, hs.mo 4, hs.c4]
theorem ct_size_4 {l : Launch} {D : va_G} {cI cG cJ cO : ClassId} {K0 : Nat → Nat} {A : Nat → Prop} {L : List (Nat × Nat)} {ad : Nat → Nat → Nat} {ce : Nat → Nat → va_E} {cp : Nat → Nat} {S T : Nat → Nat → Nat → Int32} (hs : SM S T) (hR : MR S L cp) (sz : Nat) (hA : ∀ q, sz ≤ q → A q) : Met l yJx4a65c_size_8abf5 bw_Jx4a65c_size_8abf5 rm_Jx4a65c_size_8abf5 (kP D (ktys cI cG cJ cO) K0 A L ad (mK cI cO K0 ad cp ce T) sz [.ref (ad 35 0)]) (kQi D A (S 0 0 0) L ad (mK cI cO K0 ad cp ce T)) 0 0 A := ct_Jx4a65c_size_8abf5 (hR.1 35 (by decide) (by decide)) (ce_l4 hs) sz hA
theorem ct_get_4 {l : Launch} {D : va_G} {cI cG cJ cO : ClassId} {K0 : Nat → Nat} {A : Nat → Prop} {L : List (Nat × Nat)} {ad : Nat → Nat → Nat} {ce : Nat → Nat → va_E} {cp : Nat → Nat} {S T : Nat → Nat → Nat → Int32} (hs : SM S T) (hR : MR S L cp) {x : Int32} {i : Nat} (h0 : ¬ x < 0) (hx : x.toNatClampNeg = i) (hi : i < (S 0 0 0).toNatClampNeg) (sz : Nat) (hA : ∀ q, sz ≤ q → A q) : Met l yJx4a65c_get_915e3 bw_Jx4a65c_get_915e3 rm_Jx4a65c_get_915e3 (kP D (ktys cI cG cJ cO) K0 A L ad (mK cI cO K0 ad cp ce T) sz [.ref (ad 35 0), .int x]) (kQr D A (mel K0 ad S 4 i) L ad (mK cI cO K0 ad cp ce T)) 0 0 A := by
  have hc := (hR.2.2.1 4 (by decide))
  have hz : msz S 4 = (S 0 0 0).toNatClampNeg := rfl
  rw [hz] at hc
  refine ct_Jx4a65c_get_915e3 (bf := 42) (cap := cp 4) (g := fun k => if k < msz T 4 then some (mel K0 ad T 4 k) else none) (hR.1 35 (by decide) (by decide)) ((ce_l4 hs).trans (by rw [if_neg (show ¬ cp 4 = 0 from by omega)])) (hR.2.1 4 (by decide) (by rw [hz]; omega)) rfl x (fun z => z.elim h0 (fun z => by omega)) ?_ h0 (cn_ltb h0 hx hi) sz hA
  rw [hx]
  show (if i < msz T 4 then some (mel K0 ad T 4 i) else none) = some (mel K0 ad S 4 i)
  rw [hs.z, hs.me, if_pos (show i < msz S 4 from hi)]

theorem ct_iter_2 {l : Launch} {D : va_G} {cI cG cJ cO : ClassId} {K0 : Nat → Nat} {A : Nat → Prop} {L : List (Nat × Nat)} {ad : Nat → Nat → Nat} {ce : Nat → Nat → va_E} {cp : Nat → Nat} {S T : Nat → Nat → Nat → Int32} (hs : SM S T) (hR : MR S L cp) {it : Nat} (hit : it < 30 ∨ 53 ≤ it) (hnt : (it, 0) ∉ L) (sz : Nat) (hA : ∀ q, sz ≤ q → A q) : Met l yJx4a65c_iterator_32c93 bw_Jx4a65c_iterator_32c93 rm_Jx4a65c_iterator_32c93 (kP D (ktys cI cG cJ cO) K0 A L ad (mK cI cO K0 ad cp ce T) sz [.ref (ad 33 0)]) (kQn D A (L ++ [(it, 0)]) (fun q => q) (fun q => upa ad it 0 q) (fun _ => up2 (mK cI cO K0 ad cp ce T) it 0 (itc 0 (S 42 2 0) (ad 33 0)))) 1 4 A := ct_Jx4a65c_iterator_32c93 (hR.1 33 (by decide) (by decide)) rfl (ce_l2 hs) hnt sz hA
theorem ct_hn_2 {l : Launch} {D : va_G} {cI cG cJ cO : ClassId} {K0 : Nat → Nat} {A : Nat → Prop} {L : List (Nat × Nat)} {ad : Nat → Nat → Nat} {ce : Nat → Nat → va_E} {cp : Nat → Nat} {S T : Nat → Nat → Nat → Int32} (hs : SM S T) (hR : MR S L cp) {it i : Nat} (hit : it < 30 ∨ 53 ≤ it) (hi : (it, 0) ∈ L) (sz : Nat) (hA : ∀ q, sz ≤ q → A q) : Met l yJx35411_hasNext_aae02 bw_Jx35411_hasNext_aae02 rm_Jx35411_hasNext_aae02 (kP D (ktys cI cG cJ cO) K0 A L ad (mK cI cO K0 ad cp (up2 ce it 0 (itc i (S 42 2 0) (ad 33 0))) T) sz [.ref (ad it 0)]) (kQi D A (if nI i = S 2 0 0 then 0 else 1) L ad (mK cI cO K0 ad cp (up2 ce it 0 (itc i (S 42 2 0) (ad 33 0))) T)) 0 0 A := ct_Jx35411_hasNext_aae02 (hR.1 33 (by decide) (by decide)) (ce_l2 hs) hi ((mK_ou hit).trans up2_eq) sz hA
theorem ct_nx_2 {l : Launch} {D : va_G} {cI cG cJ cO : ClassId} {K0 : Nat → Nat} {A : Nat → Prop} {L : List (Nat × Nat)} {ad : Nat → Nat → Nat} {ce : Nat → Nat → va_E} {cp : Nat → Nat} {S T : Nat → Nat → Nat → Int32} (hs : SM S T) (hR : MR S L cp) (hI : CI S) {it i : Nat} (hit : it < 30 ∨ 53 ≤ it) (hi : (it, 0) ∈ L) (hin : i < (S 2 0 0).toNatClampNeg) (sz : Nat) (hA : ∀ q, sz ≤ q → A q) : Met l yJx35411_next_0502b bw_Jx35411_next_0502b rm_Jx35411_next_0502b (kP D (ktys cI cG cJ cO) K0 A L ad (mK cI cO K0 ad cp (up2 ce it 0 (itc i (S 42 2 0) (ad 33 0))) T) sz [.ref (ad it 0)]) (kQr D A (ad 44 i) L ad (mK cI cO K0 ad cp (up2 ce it 0 (itc (i + 1) (S 42 2 0) (ad 33 0))) T)) 0 0 A := by
  have hc := (hR.2.2.1 2 (by decide))
  have hz : msz S 2 = (S 2 0 0).toNatClampNeg := rfl
  rw [hz] at hc
  have hb : (S 2 0 0).toNatClampNeg < 2 ^ 31 := cn_lt _
  have hcl : (nI i).toNatClampNeg = i := nI_clamp (by omega)
  have ct := ct_Jx35411_next_0502b (l := l) (D := D) (cI := cI) (cG := cG) (cJ := cJ) (cO := cO) (K0 := K0) (A := A) (L := L) (ad := ad) (ce := mK cI cO K0 ad cp (up2 ce it 0 (itc i (S 42 2 0) (ad 33 0))) T) (a := ad 44 i) (bf := 40) (cap := cp 2) (g := fun k => if k < msz T 2 then some (mel K0 ad T 2 k) else none) (hR.1 33 (by decide) (by decide)) ((ce_l2 hs).trans (by rw [if_neg (show ¬ cp 2 = 0 from by omega)])) (hR.2.1 2 (by decide) (by rw [hz]; omega)) rfl hi ((mK_ou hit).trans up2_eq) (by omega) (vp_in_nI (by omega) (by omega)) (by omega) (by omega) (cn_ltb (nI_nlt (a := i) (b := 0) (Nat.zero_le _) (by omega)) hcl hin) (by
    rw [hcl]
    show (if i < msz T 2 then some (mel K0 ad T 2 i) else none) = some (ad 44 i)
    rw [hs.z, if_pos (show i < msz S 2 from hin)]
    rfl) sz hA
  rw [mK_itp hit] at ct
  exact ct

theorem ct_iter_4 {l : Launch} {D : va_G} {cI cG cJ cO : ClassId} {K0 : Nat → Nat} {A : Nat → Prop} {L : List (Nat × Nat)} {ad : Nat → Nat → Nat} {ce : Nat → Nat → va_E} {cp : Nat → Nat} {S T : Nat → Nat → Nat → Int32} (hs : SM S T) (hR : MR S L cp) {it : Nat} (hit : it < 30 ∨ 53 ≤ it) (hnt : (it, 0) ∉ L) (sz : Nat) (hA : ∀ q, sz ≤ q → A q) : Met l yJx4a65c_iterator_32c93 bw_Jx4a65c_iterator_32c93 rm_Jx4a65c_iterator_32c93 (kP D (ktys cI cG cJ cO) K0 A L ad (mK cI cO K0 ad cp ce T) sz [.ref (ad 35 0)]) (kQn D A (L ++ [(it, 0)]) (fun q => q) (fun q => upa ad it 0 q) (fun _ => up2 (mK cI cO K0 ad cp ce T) it 0 (itc 0 (S 42 4 0) (ad 35 0)))) 1 4 A := ct_Jx4a65c_iterator_32c93 (hR.1 35 (by decide) (by decide)) rfl (ce_l4 hs) hnt sz hA
theorem ct_hn_4 {l : Launch} {D : va_G} {cI cG cJ cO : ClassId} {K0 : Nat → Nat} {A : Nat → Prop} {L : List (Nat × Nat)} {ad : Nat → Nat → Nat} {ce : Nat → Nat → va_E} {cp : Nat → Nat} {S T : Nat → Nat → Nat → Int32} (hs : SM S T) (hR : MR S L cp) {it i : Nat} (hit : it < 30 ∨ 53 ≤ it) (hi : (it, 0) ∈ L) (sz : Nat) (hA : ∀ q, sz ≤ q → A q) : Met l yJx35411_hasNext_aae02 bw_Jx35411_hasNext_aae02 rm_Jx35411_hasNext_aae02 (kP D (ktys cI cG cJ cO) K0 A L ad (mK cI cO K0 ad cp (up2 ce it 0 (itc i (S 42 4 0) (ad 35 0))) T) sz [.ref (ad it 0)]) (kQi D A (if nI i = S 0 0 0 then 0 else 1) L ad (mK cI cO K0 ad cp (up2 ce it 0 (itc i (S 42 4 0) (ad 35 0))) T)) 0 0 A := ct_Jx35411_hasNext_aae02 (hR.1 35 (by decide) (by decide)) (ce_l4 hs) hi ((mK_ou hit).trans up2_eq) sz hA
theorem ct_nx_4 {l : Launch} {D : va_G} {cI cG cJ cO : ClassId} {K0 : Nat → Nat} {A : Nat → Prop} {L : List (Nat × Nat)} {ad : Nat → Nat → Nat} {ce : Nat → Nat → va_E} {cp : Nat → Nat} {S T : Nat → Nat → Nat → Int32} (hs : SM S T) (hR : MR S L cp) (hI : CI S) {it i : Nat} (hit : it < 30 ∨ 53 ≤ it) (hi : (it, 0) ∈ L) (hin : i < (S 0 0 0).toNatClampNeg) (sz : Nat) (hA : ∀ q, sz ≤ q → A q) : Met l yJx35411_next_0502b bw_Jx35411_next_0502b rm_Jx35411_next_0502b (kP D (ktys cI cG cJ cO) K0 A L ad (mK cI cO K0 ad cp (up2 ce it 0 (itc i (S 42 4 0) (ad 35 0))) T) sz [.ref (ad it 0)]) (kQr D A (ad 46 i) L ad (mK cI cO K0 ad cp (up2 ce it 0 (itc (i + 1) (S 42 4 0) (ad 35 0))) T)) 0 0 A := by
  have hc := (hR.2.2.1 4 (by decide))
  have hz : msz S 4 = (S 0 0 0).toNatClampNeg := rfl
  rw [hz] at hc
  have hb : (S 0 0 0).toNatClampNeg < 2 ^ 31 := cn_lt _
  have hcl : (nI i).toNatClampNeg = i := nI_clamp (by omega)
  have ct := ct_Jx35411_next_0502b (l := l) (D := D) (cI := cI) (cG := cG) (cJ := cJ) (cO := cO) (K0 := K0) (A := A) (L := L) (ad := ad) (ce := mK cI cO K0 ad cp (up2 ce it 0 (itc i (S 42 4 0) (ad 35 0))) T) (a := ad 46 i) (bf := 42) (cap := cp 4) (g := fun k => if k < msz T 4 then some (mel K0 ad T 4 k) else none) (hR.1 35 (by decide) (by decide)) ((ce_l4 hs).trans (by rw [if_neg (show ¬ cp 4 = 0 from by omega)])) (hR.2.1 4 (by decide) (by rw [hz]; omega)) rfl hi ((mK_ou hit).trans up2_eq) (by omega) (vp_in_nI (by omega) (by omega)) (by omega) (by omega) (cn_ltb (nI_nlt (a := i) (b := 0) (Nat.zero_le _) (by omega)) hcl hin) (by
    rw [hcl]
    show (if i < msz T 4 then some (mel K0 ad T 4 i) else none) = some (ad 46 i)
    rw [hs.z, if_pos (show i < msz S 4 from hin)]
    rfl) sz hA
  rw [mK_itp hit] at ct
  exact ct

theorem vb_of {v : Int32} (h1 : ¬ v < -128) (h2 : ¬ 127 < v) : vb_c (v + 128).toNatClampNeg = v ∧ (v + 128).toNatClampNeg < 256 := by
  have h := vp_in_iff.mp (vo_in h1 h2)
  have e1 : (v + 128).toNatClampNeg = (v + 128).toInt.toNat := rfl
  refine ⟨?_, by omega⟩
  unfold vb_c
  have e2 : nI (v + 128).toNatClampNeg = v + 128 := (cn_eq h.1).symm
  have e3 : Int32.ofNat (v + 128).toNatClampNeg = v + 128 := e2
  rw [e3, Int32.add_sub_cancel]
theorem ct_int {l : Launch} {D : va_G} {cI cG cJ cO : ClassId} {K0 : Nat → Nat} {A : Nat → Prop} {L : List (Nat × Nat)} {ad : Nat → Nat → Nat} {ce : Nat → Nat → va_E} {cp : Nat → Nat} {S T : Nat → Nat → Nat → Int32} (hs : SM S T) (hR : MR S L cp) {i : Nat} (hi : i < (S 1 0 1).toNatClampNeg) (sz : Nat) (hA : ∀ q, sz ≤ q → A q) : Met l yJ6_intValue_8abf5 bw_J6_intValue_8abf5 rm_J6_intValue_8abf5 (kP D (ktys cI cG cJ cO) K0 A L ad (mK cI cO K0 ad cp ce T) sz [.ref (mel K0 ad S 1 i)]) (kQi D A (S 12 0 i) L ad (mK cI cO K0 ad cp ce T)) 0 0 A := by
  obtain ⟨h1, h2⟩ := hR.2.2.2.2.1 i hi
  by_cases c : 127 < S 12 0 i
  · have e : mel K0 ad S 1 i = ad 52 i := if_pos c
    rw [e]
    exact ct_J6_intValue_8abf5 (f := 52) (o := i) (h1 c) rfl (by rw [mke_52, hs.2 12 rfl]) sz hA
  · have e : mel K0 ad S 1 i = K0 (2 + (S 12 0 i + 128).toNatClampNeg) := if_neg c
    rw [e]
    obtain ⟨k1, k2⟩ := vb_of h2 c
    have ct := ct_J6_intValue_8abf5_c (l := l) (D := D) (cI := cI) (cG := cG) (cJ := cJ) (cO := cO) (K0 := K0) (A := A) (L := L) (ad := ad) (ce := mK cI cO K0 ad cp ce T) k2 sz hA
    rw [k1] at ct
    exact ct
theorem wk.box {s : State} {tys : List (ClassId × FieldType)} {H : Heap} {locs : List Loc} {D : va_G} {cI cO : ClassId} {K0 : Nat → Nat} {A : Nat → Prop} {L : List (Nat × Nat)} {ad : Nat → Nat → Nat} {ce : Nat → Nat → va_E} {cp : Nat → Nat} {S T : Nat → Nat → Nat → Int32} (hs : SM S T) (hR : MR S L cp) (hK : va_K D vwCl tys s) (hO : OW A K0 s) (hw : wk D A L ad (mK cI cO K0 ad cp ce T) s.heap H locs) {i : Nat} (hi : i < (S 1 0 1).toNatClampNeg) : ∃ cell : Cell, H[mel K0 ad S 1 i]? = some cell ∧ cell.vm.isStatics = false ∧ s.vm.findClass "java/lang/Integer" = some cell.cls := by
  obtain ⟨h1, h2⟩ := hR.2.2.2.2.1 i hi
  by_cases c : 127 < S 12 0 i
  · have e : mel K0 ad S 1 i = ad 52 i := if_pos c
    rw [e]
    exact wk.recv (f := 52) (o := i) (q := (RJ6, TJ6, 1)) hK hw (h1 c) mke_52 rfl
  · have e : mel K0 ad S 1 i = K0 (2 + (S 12 0 i + 128).toNatClampNeg) := if_neg c
    rw [e]
    obtain ⟨cell, g1, g2, g3, -⟩ := (hO.2.2.2.2.2.2.1.2.2.2.1 _ (vb_of h2 c).2).kept hw.2.2.2.1
    exact ⟨cell, g1, g2, g3⟩
