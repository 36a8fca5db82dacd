section
variable {p : Program} {l : Launch} {e : Env} {R : Room} {s : State} {m : MethodId} {args : Array Value} {below : List Frame} {meth : Method} {c : Code} {H : Heap} {locs : List Loc} {cells slots : Nat} {Q : State → Prop}
variable {mc ms : Nat} {free : Addr → Prop} {A0 A1 : Nat → Prop} {H0 : Heap} {a : Array Value} {pc : Nat} {ls : Array Slot} {st0 rest : List Value}
theorem vx_callq {S SX : Type} {post : Option Nat → S → Prop} {px : SX → Prop} {B : S → State → Prop} {BX : String → SX → State → Prop} {AX : Nat → Prop} (hr : vx_Run p l e R s m args below meth c H locs cells slots mc ms (F0 m pc ls st0) rest (va_Qq post B A1 a) (vx_X px BX AX) free) (hS : va_S A0 H0 H locs) (hA : ∀ q, q < H.size → A1 q → A0 q) (hf : ∀ q, free q → A0 q) (hAX : ∀ q, q < H.size → AX q → A0 q)
    (kx : ∀ (E : String) (ce : Cell) (q9 : Addr) (u : SX) (t : State) (H1 : Heap) (locs1 : List Loc), t.heap = H1 → s.vm.Alike t.vm → px u → BX E u t → H.size ≤ H1.size → (∀ q : Nat, q < H.size → ¬ AX q → H1[q]? = H[q]?) → va_S A0 H0 H1 locs1 → H1[q9]? = some ce → ce.vm = .none → s.vm.findClass E = some ce.cls → vx_W p l e R s m args below meth c H1 locs1 (cells + mc) (slots + ms) Q (F0 m pc ls rest) q9)
    (kk : ∀ (r : Option Nat) (u : S) (t : State) (H1 : Heap) (locs1 : List Loc), t.heap = H1 → s.vm.Alike t.vm → post r u → B u t → H.size ≤ H1.size → (∀ q : Nat, q < H.size → ¬ A1 q → H1[q]? = H[q]?) → va_S A0 H0 H1 locs1 → W p l e R s m args below meth c H1 locs1 (cells + mc) (slots + ms) Q (F0 m (pc + 3) ls (va_rf r :: rest))) : W p l e R s m args below meth c H locs cells slots Q (F0 m pc ls st0) := by
  intro T hT X
  rcases hr T hT X with ⟨v, st₀, t, T', L, h0, X', hL, e1, e2, ⟨⟨r, u, hv, hp, hb⟩, hF⟩, st⟩ | ⟨q, st₀, t, T', L, E, ce, h0, X', hL, e1, e2, ⟨u, hp, hb, hF⟩, hce, hcv, hcl, st⟩
  · cases hv
    obtain ⟨k1, k2, k3⟩ := vx_keep h0 e1 hS hA hf hL hF
    obtain ⟨t2, a1, b1⟩ := kk r u t T'.heap (locs ++ L) e1.symm (by rw [← e2]; exact X'.warmed.alike) hp hb k1 k2 k3 T' rfl X'
    exact ⟨t2, st t2 a1, b1⟩
  · obtain ⟨k1, k2, k3⟩ := vx_keep h0 e1 hS hAX hf hL hF
    obtain ⟨t2, a1, b1⟩ := kx E ce q u t T'.heap (locs ++ L) e1.symm (by rw [← e2]; exact X'.warmed.alike) hp hb k1 k2 k3 (by rw [e1]; exact hce) hcv hcl T' rfl X'
    exact ⟨t2, st.trans a1, b1⟩
end
section KIT3
variable {p : Program} {l : Launch} {e : Env} {R : Room} {s : State} {m : MethodId} {args : Array Value} {below : List Frame} {meth : Method} {c : Code} {H : Heap} {locs : List Loc} {cells slots : Nat} {Q : State → Prop} {cc : ByteArray} {pc : Nat} {ls : Array Slot} {rest st0 : List Value} {D : va_G} {A : Nat → Prop} {tys : List (ClassId × FieldType)} {K0 : Nat → Nat} {L L' : List (Nat × Nat)} {ad ad' : Nat → Nat → Nat} {ce ce' : Nat → Nat → va_E}
variable {y : MethodName} {bytes : ByteArray} {maxL nL mc ms n index : Nat} {ret : Option FieldType} {ws : List Cond} {rm : Room} {Ts : List Cond} {own C host : String} {As : List Value}
theorem wk.start (hP : va_P D vwCl (wl L ad ce) H) (hD : va_D A (wl L ad ce)) : wk D A L ad ce H H [] := ⟨hP, hD, va_S.rf⟩
theorem wk.hA (hw : wk D A L ad ce s.heap H locs) (hA : ∀ q, s.heap.size ≤ q → A q) : ∀ q, H.size ≤ q → A q := fun q h => hA q (Nat.le_trans hw.2.2.1 h)
theorem k_start {av : List Value} {sl : List Slot} (hs : sl = lg_sl av) (h : args = av.toArray) (hn : sl.length ≤ n) (k : ∀ ls : Array Slot, lv_has ls n (lv_args 0 av) → W p l e R s m args below meth c H locs cells slots Q (F0 m 0 ls [])) : W p l e R s m args below meth c H locs cells slots Q (entryFrame m args n) := by
  subst hs
  have hl := lv_entry av hn
  have k2 := k _ hl
  have e1 : entryFrame m args n = F0 m 0 ((lg_sl av ++ List.replicate (n - (lg_sl av).length) Slot.unset).toArray) [] := by rw [h]; exact lg_entry_eq ..
  rw [e1]; exact k2
theorem k_ci0 {v : Int32} {a : Array Value} (hw : wk D A L ad ce s.heap H locs) (hr : kRun p l e R s m args below meth c H locs cells slots 0 0 pc ls st0 rest A (kQi D A v L' ad' ce' a))
    (kk : ∀ (H1 : Heap) (locs1 : List Loc), wk D A L' ad' ce' s.heap H1 locs1 → W p l e R s m args below meth c H1 locs1 cells slots Q (F0 m (pc + 3) ls (.int v :: rest))) : W p l e R s m args below meth c H locs cells slots Q (F0 m pc ls st0) := k_ci hw hr kk
theorem k_cl0 {v : Int64} {a : Array Value} (hw : wk D A L ad ce s.heap H locs) (hr : kRun p l e R s m args below meth c H locs cells slots 0 0 pc ls st0 rest A (kQl D A v L' ad' ce' a))
    (kk : ∀ (H1 : Heap) (locs1 : List Loc), wk D A L' ad' ce' s.heap H1 locs1 → W p l e R s m args below meth c H1 locs1 cells slots Q (F0 m (pc + 3) ls (.long v :: rest))) : W p l e R s m args below meth c H locs cells slots Q (F0 m pc ls st0) := k_cl hw hr kk
theorem k_cv0 {a : Array Value} (hw : wk D A L ad ce s.heap H locs) (hr : kRun p l e R s m args below meth c H locs cells slots 0 0 pc ls st0 rest A (kQv D A L' ad' ce' a))
    (kk : ∀ (H1 : Heap) (locs1 : List Loc), wk D A L' ad' ce' s.heap H1 locs1 → W p l e R s m args below meth c H1 locs1 cells slots Q (F0 m (pc + 3) ls rest)) : W p l e R s m args below meth c H locs cells slots Q (F0 m pc ls st0) := k_cv hw hr kk
theorem k_cr0 {v : Nat} {a : Array Value} (hw : wk D A L ad ce s.heap H locs) (hr : kRun p l e R s m args below meth c H locs cells slots 0 0 pc ls st0 rest A (kQr D A v L' ad' ce' a))
    (kk : ∀ (H1 : Heap) (locs1 : List Loc), wk D A L' ad' ce' s.heap H1 locs1 → W p l e R s m args below meth c H1 locs1 cells slots Q (F0 m (pc + 3) ls (.ref v :: rest))) : W p l e R s m args below meth c H locs cells slots Q (F0 m pc ls st0) := k_cr hw hr kk
theorem k_nz {x : Int32} (h : x = 0 ∨ x = 1) : narrow .boolean (.int x) = .int x := by rcases h with rfl | rfl <;> rfl
theorem cn_lt (x : Int32) : x.toNatClampNeg < 2 ^ 31 := by
  have h := Int32.toInt_lt x
  have h2 : x.toNatClampNeg = x.toInt.toNat := rfl
  omega
theorem cn_eq {x : Int32} (h : 0 ≤ x.toInt) : x = nI x.toNatClampNeg := by
  apply Int32.toInt_inj.mp
  rw [nI_toInt (cn_lt x)]
  have h2 : x.toNatClampNeg = x.toInt.toNat := rfl
  omega
theorem cn_le {x : Int32} {n : Nat} (h : x.toInt ≤ n) : x.toNatClampNeg ≤ n := by
  have h2 : x.toNatClampNeg = x.toInt.toNat := rfl
  omega
theorem k_lt {x : Int32} {n : Nat} (h : vp_in x n) : x.toNatClampNeg < n := by
  unfold vp_in at h
  exact Nat.lt_of_not_le (fun z => h (Or.inr z))
theorem sw_lt {x : Int32} {k : Nat} (hk : k < 2 ^ 31) (h : ∀ j, j < k → ¬ x = nI j) : x.toInt < 0 ∨ ((k : Int) - 1) < x.toInt := by
  rcases Int.lt_or_le x.toInt 0 with q | q
  · exact Or.inl q
  · refine Or.inr ?_
    rcases Int.lt_or_le ((k : Int) - 1) x.toInt with r | r
    · exact r
    · exfalso
      have h2 : x.toNatClampNeg = x.toInt.toNat := rfl
      exact h x.toNatClampNeg (by omega) (cn_eq q)
theorem sw_out3 {x : Int32} (h0 : ¬ x = 0) (h1 : ¬ x = 1) (h2 : ¬ x = 2) : x.toInt < 0 ∨ 2 < x.toInt := sw_lt (k := 3) (by decide) (fun j hj => by rcases (show j = 0 ∨ j = 1 ∨ j = 2 by omega) with rfl | rfl | rfl <;> assumption)
theorem sw_out4 {x : Int32} (h0 : ¬ x = 0) (h1 : ¬ x = 1) (h2 : ¬ x = 2) (h3 : ¬ x = 3) : x.toInt < 0 ∨ 3 < x.toInt := sw_lt (k := 4) (by decide) (fun j hj => by rcases (show j = 0 ∨ j = 1 ∨ j = 2 ∨ j = 3 by omega) with rfl | rfl | rfl | rfl <;> assumption)
theorem sw_out5 {x : Int32} (h0 : ¬ x = 0) (h1 : ¬ x = 1) (h2 : ¬ x = 2) (h3 : ¬ x = 3) (h4 : ¬ x = 4) : x.toInt < 0 ∨ 4 < x.toInt := sw_lt (k := 5) (by decide) (fun j hj => by rcases (show j = 0 ∨ j = 1 ∨ j = 2 ∨ j = 3 ∨ j = 4 by omega) with rfl | rfl | rfl | rfl | rfl <;> assumption)
theorem sw_out6 {x : Int32} (h0 : ¬ x = 0) (h1 : ¬ x = 1) (h2 : ¬ x = 2) (h3 : ¬ x = 3) (h4 : ¬ x = 4) (h5 : ¬ x = 5) : x.toInt < 0 ∨ 5 < x.toInt := sw_lt (k := 6) (by decide) (fun j hj => by rcases (show j = 0 ∨ j = 1 ∨ j = 2 ∨ j = 3 ∨ j = 4 ∨ j = 5 by omega) with rfl | rfl | rfl | rfl | rfl | rfl <;> assumption)
theorem sw_out10 {x : Int32} (h0 : ¬ x = 0) (h1 : ¬ x = 1) (h2 : ¬ x = 2) (h3 : ¬ x = 3) (h4 : ¬ x = 4) (h5 : ¬ x = 5) (h6 : ¬ x = 6) (h7 : ¬ x = 7) (h8 : ¬ x = 8) (h9 : ¬ x = 9) : x.toInt < 0 ∨ 9 < x.toInt := sw_lt (k := 10) (by decide) (fun j hj => by rcases (show j = 0 ∨ j = 1 ∨ j = 2 ∨ j = 3 ∨ j = 4 ∨ j = 5 ∨ j = 6 ∨ j = 7 ∨ j = 8 ∨ j = 9 by omega) with rfl | rfl | rfl | rfl | rfl | rfl | rfl | rfl | rfl | rfl <;> assumption)
/-! exceptions -/
def kE (E : String) (k : Nat) : Prop := (k = 1 ∧ E = "java/lang/IndexOutOfBoundsException") ∨ (k = 2 ∧ E = "java/lang/IllegalArgumentException") ∨ (k = 3 ∧ E = "java/lang/IllegalStateException")
theorem kE_1 : kE "java/lang/IndexOutOfBoundsException" 1 := Or.inl ⟨rfl, rfl⟩
theorem kE_2 : kE "java/lang/IllegalArgumentException" 2 := Or.inr (Or.inl ⟨rfl, rfl⟩)
theorem kE_3 : kE "java/lang/IllegalStateException" 3 := Or.inr (Or.inr ⟨rfl, rfl⟩)
theorem kE.ne {E : String} {k : Nat} (h : kE E k) : ¬ k = 0 := by rcases h with ⟨rfl, -⟩ | ⟨rfl, -⟩ | ⟨rfl, -⟩ <;> decide
/-- where a method of the class throws: nothing has changed -/
abbrev kX (D : va_G) (A : Nat → Prop) (k : Nat) (L : List (Nat × Nat)) (ad : Nat → Nat → Nat) (ce : Nat → Nat → va_E) : String → State → State → Prop := vx_X (fun (_ : Unit) => True) (fun E _ t => kE E k ∧ WE D A L ad ce t) A
theorem WE.kept {t : State} (hw : wk D A L ad ce s.heap H locs) (h1 : ∀ q : Nat, q < H.size → t.heap[q]? = H[q]?) : WE D A L ad ce t := ⟨hw.1.kept (fun k q hk => h1 _ (hw.1 k q hk).lt), hw.2.1⟩
theorem k_throw {k : Nat} {Qc : Array Value → State → Outcome → State → Prop} (hx : p.tables.exec = Jvm.exec) (hb : c.code = cc) (hl : l.stackTraces = false) {cls text : String} {names : List String} {ik is ic sa : Nat}
    (hown : s.vm.findClass own = some m.cls) (hcls : Bundle.fit cls = true) (hnames : ∀ n ∈ names, Bundle.fit n = true) (hk : (Cond.classLink own ik cls).before args s = true) (hini : (Cond.initialized cls).before args s = true) (hstr : vk_R own is text sa s) (hat : ∀ w ∈ vx_atS own ic cls names, w.before args s = true)
    (hgood : ∀ w ∈ Cond.classLink own ik cls :: Cond.initialized cls :: vx_atS own ic cls names, vx_ot w = true) (hO : OW A K0 s) (hw : wk D A L ad ce s.heap H locs) (hsize : ls.size = nL) (hml : c.maxLocals = nL)
    (d0 : decode cc pc = .ok (.new ik, 3)) (d3 : decode cc (pc + 3) = .ok (.dup, 1)) (d4 : decode cc (pc + 4) = .ok (.ldc is, 2)) (d6 : decode cc (pc + 6) = .ok (.invokespecial ic, 3)) (d9 : decode cc (pc + 9) = .ok (.athrow, 1))
    (hexn : ∀ x ∈ c.exceptionTable.toList, False) (hRframes : names.length + 3 < R.frames) (hRlocals : (rest.map fun v => v.category).sum + (13 * (names.length + 1) + 43) ≤ R.locals) (hRcells : cells + 1 ≤ R.cells) (hRslots : slots + 6 ≤ R.slots) (hlocks : meth.locks = false) (hkE : kE cls k) (hc : cells + 1 ≤ mc) (hs : slots + 6 ≤ ms) :
    W p l e R s m args below meth c H locs cells slots (vx_MQ below Qc (kX D A k L ad ce) args s mc ms A) (F0 m pc ls rest) :=
  vx_throwS hx hb hl hown hcls hnames hk hini hstr hat hgood hO.1.1 hO.1.2 hw.2.2 (hsize.trans hml.symm) d0 d3 d4 d6 d9 (fun x h => (hexn x h).elim) hRframes hRlocals hRcells hRslots hlocks
    (fun t _ h1 h2 => ⟨(), trivial, ⟨hkE, WE.kept hw h2⟩, Nat.le_trans hw.2.2.1 h1, fun q hq hA => (h2 q (Nat.lt_of_lt_of_le hq hw.2.2.1)).trans (hw.2.2.2.1 q hq hA)⟩) hw.2.2.2.2 hc hs
theorem k_throwW {k : Nat} {Qc : Array Value → State → Outcome → State → Prop} (hx : p.tables.exec = Jvm.exec) (hb : c.code = cc) (hl : l.stackTraces = false) {cls text : String} {names : List String} {ik is ic sa : Nat}
    (hown : s.vm.findClass own = some m.cls) (hcls : Bundle.fit cls = true) (hnames : ∀ n ∈ names, Bundle.fit n = true) (hk : (Cond.classLink own ik cls).before args s = true) (hini : (Cond.initialized cls).before args s = true) (hstr : vk_R own is text sa s) (hat : ∀ w ∈ vx_atS own ic cls names, w.before args s = true)
    (hgood : ∀ w ∈ Cond.classLink own ik cls :: Cond.initialized cls :: vx_atS own ic cls names, vx_ot w = true) (hO : OW A K0 s) (hw : wk D A L ad ce s.heap H locs) (hsize : ls.size = nL) (hml : c.maxLocals = nL)
    (d0 : decode cc pc = .ok (.new ik, 3)) (d3 : decode cc (pc + 3) = .ok (.dup, 1)) (d4 : decode cc (pc + 4) = .ok (.ldc_w is, 3)) (d6 : decode cc (pc + 7) = .ok (.invokespecial ic, 3)) (d9 : decode cc (pc + 10) = .ok (.athrow, 1))
    (hexn : ∀ x ∈ c.exceptionTable.toList, False) (hRframes : names.length + 3 < R.frames) (hRlocals : (rest.map fun v => v.category).sum + (13 * (names.length + 1) + 43) ≤ R.locals) (hRcells : cells + 1 ≤ R.cells) (hRslots : slots + 6 ≤ R.slots) (hlocks : meth.locks = false) (hkE : kE cls k) (hc : cells + 1 ≤ mc) (hs : slots + 6 ≤ ms) :
    W p l e R s m args below meth c H locs cells slots (vx_MQ below Qc (kX D A k L ad ce) args s mc ms A) (F0 m pc ls rest) :=
  vx_throwSW hx hb hl hown hcls hnames hk hini hstr hat hgood hO.1.1 hO.1.2 hw.2.2 (hsize.trans hml.symm) d0 d3 d4 d6 d9 (fun x h => (hexn x h).elim) hRframes hRlocals hRcells hRslots hlocks
    (fun t _ h1 h2 => ⟨(), trivial, ⟨hkE, WE.kept hw h2⟩, Nat.le_trans hw.2.2.1 h1, fun q hq hA => (h2 q (Nat.lt_of_lt_of_le hq hw.2.2.1)).trans (hw.2.2.2.1 q hq hA)⟩) hw.2.2.2.2 hc hs
theorem x_rV {Qc : Array Value → State → Outcome → State → Prop} {XC : String → State → State → Prop} (F : CallFix p m c cc nL s args Ts own) (hK : va_K D vwCl tys s) (hO : OW A K0 s) (hw : wk D A L ad ce s.heap H locs) {f o : Nat} (hM : vx_Met l y ws rm (kP D tys K0 A L ad ce H.size (.ref (ad f o) :: As)) Qc XC mc ms A) (cw : CallW R s args own C index y bytes maxL ret ws rm mc ms n) (hi : (f, o) ∈ L) {ci : Nat} {fs : List Value} (he : ce f o = .inr (ci, fs)) {T : u_T} {N : Nat} (hc : vwCl[ci]? = some (C, T, N)) (hn : As.length = n) (hsize : ls.size = nL) (hst : st0 = As.reverse ++ .ref (ad f o) :: rest) (hW : (rest.map fun v => v.category).sum ≤ 8) (hdg : decode cc pc = .ok (.invokevirtual index, 3)) (hf : cells + mc ≤ R.cells ∧ slots + ms ≤ R.slots) :
    vx_Run p l e R s m args below meth c H locs cells slots mc ms (F0 m pc ls st0) rest (Qc (Value.ref (ad f o) :: As).toArray) XC A :=
  vx_runV F hM cw ⟨WS.blind, wk.recv hK hw hi he hc, WS.at hK hO hw _⟩ rfl hn hsize hst (by show 2 * 0 + _ ≤ 8; omega) hdg hf
theorem x_ci {v : Int32} {k : Nat} {cd : Prop} {a : Array Value} (hw : wk D A L ad ce s.heap H locs) (hr : vx_Run p l e R s m args below meth c H locs cells slots mc ms (F0 m pc ls st0) rest (va_Qi (fun (r : Int32) (_ : Unit) => r = v ∧ cd) (fun _ t => WE D A L' ad' ce' t) A a) (kX D A k L ad ce) A)
    (kx : ∀ (E : String) (cx : Cell) (q9 : Addr) (H1 : Heap) (locs1 : List Loc), kE E k → wk D A L ad ce s.heap H1 locs1 → H1[q9]? = some cx → cx.vm = .none → s.vm.findClass E = some cx.cls → vx_W p l e R s m args below meth c H1 locs1 (cells + mc) (slots + ms) Q (F0 m pc ls rest) q9)
    (kk : ∀ (H1 : Heap) (locs1 : List Loc), cd → wk D A L' ad' ce' s.heap H1 locs1 → W p l e R s m args below meth c H1 locs1 (cells + mc) (slots + ms) Q (F0 m (pc + 3) ls (.int v :: rest))) : W p l e R s m args below meth c H locs cells slots Q (F0 m pc ls st0) :=
  vx_calli hr hw.2.2 (fun _ _ h => h) (fun _ h => h) (fun _ _ h => h) (fun E cx q9 _ t H1 locs1 ht _ _ hB _ _ hS h1 h2 h3 => kx E cx q9 H1 locs1 hB.1 ⟨by rw [← ht]; exact hB.2.1, hB.2.2, hS⟩ h1 h2 h3) (fun r _ t H1 locs1 ht _ hp hB _ _ hS => by
    obtain ⟨rfl, hcd⟩ := hp
    exact kk H1 locs1 hcd ⟨by rw [← ht]; exact hB.1, hB.2, hS⟩)
theorem x_cl {v : Int64} {k : Nat} {cd : Prop} {a : Array Value} (hw : wk D A L ad ce s.heap H locs) (hr : vx_Run p l e R s m args below meth c H locs cells slots mc ms (F0 m pc ls st0) rest (va_Ql (fun (r : Int64) (_ : Unit) => r = v ∧ cd) (fun _ t => WE D A L' ad' ce' t) A a) (kX D A k L ad ce) A)
    (kx : ∀ (E : String) (cx : Cell) (q9 : Addr) (H1 : Heap) (locs1 : List Loc), kE E k → wk D A L ad ce s.heap H1 locs1 → H1[q9]? = some cx → cx.vm = .none → s.vm.findClass E = some cx.cls → vx_W p l e R s m args below meth c H1 locs1 (cells + mc) (slots + ms) Q (F0 m pc ls rest) q9)
    (kk : ∀ (H1 : Heap) (locs1 : List Loc), cd → wk D A L' ad' ce' s.heap H1 locs1 → W p l e R s m args below meth c H1 locs1 (cells + mc) (slots + ms) Q (F0 m (pc + 3) ls (.long v :: rest))) : W p l e R s m args below meth c H locs cells slots Q (F0 m pc ls st0) :=
  vx_calll hr hw.2.2 (fun _ _ h => h) (fun _ h => h) (fun _ _ h => h) (fun E cx q9 _ t H1 locs1 ht _ _ hB _ _ hS h1 h2 h3 => kx E cx q9 H1 locs1 hB.1 ⟨by rw [← ht]; exact hB.2.1, hB.2.2, hS⟩ h1 h2 h3) (fun r _ t H1 locs1 ht _ hp hB _ _ hS => by
    obtain ⟨rfl, hcd⟩ := hp
    exact kk H1 locs1 hcd ⟨by rw [← ht]; exact hB.1, hB.2, hS⟩)
theorem x_cv {k : Nat} {cd : Prop} {a : Array Value} (hw : wk D A L ad ce s.heap H locs) (hr : vx_Run p l e R s m args below meth c H locs cells slots mc ms (F0 m pc ls st0) rest (va_Qv (fun (_ : Unit) => cd) (fun _ t => WE D A L' ad' ce' t) A a) (kX D A k L ad ce) A)
    (kx : ∀ (E : String) (cx : Cell) (q9 : Addr) (H1 : Heap) (locs1 : List Loc), kE E k → wk D A L ad ce s.heap H1 locs1 → H1[q9]? = some cx → cx.vm = .none → s.vm.findClass E = some cx.cls → vx_W p l e R s m args below meth c H1 locs1 (cells + mc) (slots + ms) Q (F0 m pc ls rest) q9)
    (kk : ∀ (H1 : Heap) (locs1 : List Loc), cd → wk D A L' ad' ce' s.heap H1 locs1 → W p l e R s m args below meth c H1 locs1 (cells + mc) (slots + ms) Q (F0 m (pc + 3) ls rest)) : W p l e R s m args below meth c H locs cells slots Q (F0 m pc ls st0) :=
  vx_callv hr hw.2.2 (fun _ _ h => h) (fun _ h => h) (fun _ _ h => h) (fun E cx q9 _ t H1 locs1 ht _ _ hB _ _ hS h1 h2 h3 => kx E cx q9 H1 locs1 hB.1 ⟨by rw [← ht]; exact hB.2.1, hB.2.2, hS⟩ h1 h2 h3) (fun _ t H1 locs1 ht _ hp hB _ _ hS => kk H1 locs1 hp ⟨by rw [← ht]; exact hB.1, hB.2, hS⟩)
theorem x_cq {v : Nat} {k : Nat} {cd : Prop} {a : Array Value} (hw : wk D A L ad ce s.heap H locs) (hr : vx_Run p l e R s m args below meth c H locs cells slots mc ms (F0 m pc ls st0) rest (va_Qq (fun (r : Option Nat) (_ : Unit) => r = some v ∧ cd) (fun _ t => WE D A L' ad' ce' t) A a) (kX D A k L ad ce) A)
    (kx : ∀ (E : String) (cx : Cell) (q9 : Addr) (H1 : Heap) (locs1 : List Loc), kE E k → wk D A L ad ce s.heap H1 locs1 → H1[q9]? = some cx → cx.vm = .none → s.vm.findClass E = some cx.cls → vx_W p l e R s m args below meth c H1 locs1 (cells + mc) (slots + ms) Q (F0 m pc ls rest) q9)
    (kk : ∀ (H1 : Heap) (locs1 : List Loc), cd → wk D A L' ad' ce' s.heap H1 locs1 → W p l e R s m args below meth c H1 locs1 (cells + mc) (slots + ms) Q (F0 m (pc + 3) ls (.ref v :: rest))) : W p l e R s m args below meth c H locs cells slots Q (F0 m pc ls st0) :=
  vx_callq hr hw.2.2 (fun _ _ h => h) (fun _ h => h) (fun _ _ h => h) (fun E cx q9 _ t H1 locs1 ht _ _ hB _ _ hS h1 h2 h3 => kx E cx q9 H1 locs1 hB.1 ⟨by rw [← ht]; exact hB.2.1, hB.2.2, hS⟩ h1 h2 h3) (fun r _ t H1 locs1 ht _ hp hB _ _ hS => by
    obtain ⟨rfl, hcd⟩ := hp
    exact kk H1 locs1 hcd ⟨by rw [← ht]; exact hB.1, hB.2, hS⟩)
theorem x_out {k : Nat} {E : String} {cx : Cell} {q : Addr} {Qc : Array Value → State → Outcome → State → Prop} (hexn : ∀ x ∈ c.exceptionTable.toList, False) (hlocks : meth.locks = false) (hw : wk D A L ad ce s.heap H locs) (h1 : H[q]? = some cx) (h2 : cx.vm = .none) (h3 : s.vm.findClass E = some cx.cls) (hk : kE E k) (hc : cells ≤ mc) (hs : slots ≤ ms) :
    vx_W p l e R s m args below meth c H locs cells slots (vx_MQ below Qc (kX D A k L ad ce) args s mc ms A) (F0 m pc ls rest) q :=
  vx_out (fun x h => (hexn x h).elim) hlocks h1 h2 h3 (fun t ht _ => ⟨(), trivial, ⟨hk, by rw [ht]; exact hw.1, hw.2.1⟩, hw.2.2.F ht⟩) hw.2.2.2.2 hc hs
theorem x_iret {v v0 : Int32} {cd : Prop} {ty : FieldType} {XC : String → State → State → Prop} (hx : p.tables.exec = Jvm.exec) (hb : c.code = cc) (hr : meth.sig.returnType = some ty) (hlocks : meth.locks = false) (hn : narrow ty (.int v) = .int v) (hw : wk D A L ad ce s.heap H locs) (hv : v0 = v) (hcd : cd) (hce : ce' = ce) (hc : cells ≤ mc) (hs : slots ≤ ms) (hdg : decode cc pc = .ok (.ireturn, 1)) : W p l e R s m args below meth c H locs cells slots (vx_MQ below (va_Qi (fun (r : Int32) (_ : Unit) => r = v0 ∧ cd) (fun _ t => WE D A L ad ce' t) A) XC args s mc ms A) (F0 m pc ls [.int v]) := by
  subst hv; subst hce
  exact W.widen hc hs (vx_ret (W.zret hx hb hr hn (fun t ht _ => ⟨⟨_, (), rfl, ⟨rfl, hcd⟩, by rw [ht]; exact hw.1, hw.2.1⟩, hw.2.2.F ht⟩) hw.2.2.2.2 hdg hlocks))
theorem x_lret {v v0 : Int64} {cd : Prop} {XC : String → State → State → Prop} (hx : p.tables.exec = Jvm.exec) (hb : c.code = cc) (hr : meth.sig.returnType = some .long) (hlocks : meth.locks = false) (hw : wk D A L ad ce s.heap H locs) (hv : v0 = v) (hcd : cd) (hce : ce' = ce) (hc : cells ≤ mc) (hs : slots ≤ ms) (hdg : decode cc pc = .ok (.lreturn, 1)) : W p l e R s m args below meth c H locs cells slots (vx_MQ below (va_Ql (fun (r : Int64) (_ : Unit) => r = v0 ∧ cd) (fun _ t => WE D A L ad ce' t) A) XC args s mc ms A) (F0 m pc ls [.long v]) := by
  subst hv; subst hce
  exact W.widen hc hs (vx_ret (W.lret hx hb hr (fun t ht _ => ⟨⟨_, (), rfl, ⟨rfl, hcd⟩, by rw [ht]; exact hw.1, hw.2.1⟩, hw.2.2.F ht⟩) hw.2.2.2.2 hdg hlocks))
theorem x_vret {cd : Prop} {XC : String → State → State → Prop} (hx : p.tables.exec = Jvm.exec) (hb : c.code = cc) (hr : meth.sig.returnType = none) (hlocks : meth.locks = false) (hw : wk D A L ad ce s.heap H locs) (hcd : cd) (hce : ce' = ce) (hc : cells ≤ mc) (hs : slots ≤ ms) (hdg : decode cc pc = .ok (.return_, 1)) : W p l e R s m args below meth c H locs cells slots (vx_MQ below (va_Qv (fun (_ : Unit) => cd) (fun _ t => WE D A L ad ce' t) A) XC args s mc ms A) (F0 m pc ls []) := by
  subst hce
  exact W.widen hc hs (vx_ret (W.vret hx hb hr (fun t ht _ => ⟨⟨(), rfl, hcd, by rw [ht]; exact hw.1, hw.2.1⟩, hw.2.2.F ht⟩) hw.2.2.2.2 hdg hlocks))
theorem x_qret {v v0 : Nat} {cd : Prop} {rt : FieldType} {XC : String → State → State → Prop} (hx : p.tables.exec = Jvm.exec) (hb : c.code = cc) (hr : meth.sig.returnType = some rt) (hrt : (∃ n, rt = .object n) ∨ ∃ t, rt = .array t) (hlocks : meth.locks = false) (hw : wk D A L ad ce s.heap H locs) (hv : v0 = v) (hcd : cd) (hce : ce' = ce) (hc : cells ≤ mc) (hs : slots ≤ ms) (hdg : decode cc pc = .ok (.areturn, 1)) : W p l e R s m args below meth c H locs cells slots (vx_MQ below (va_Qq (fun (r : Option Nat) (_ : Unit) => r = some v0 ∧ cd) (fun _ t => WE D A L ad ce' t) A) XC args s mc ms A) (F0 m pc ls [.ref v]) := by
  subst hv; subst hce
  exact W.widen hc hs (vx_ret (W.aret hx hb hr hrt (Or.inr ⟨_, rfl⟩) (fun t ht _ => ⟨⟨some _, (), rfl, ⟨rfl, hcd⟩, by rw [ht]; exact hw.1, hw.2.1⟩, hw.2.2.F ht⟩) hw.2.2.2.2 hdg hlocks))
end KIT3
section COMP
/-! THE CLASS'S STATE: S f o k, the row f of the owner o at k -/
def clen (f : Nat) : Nat := match f with
  | 11 => 4 | 12 => 6 | 13 => 4 | 21 => 4 | 14 => 20 | 15 => 20 | 16 => 20 | 17 => 20 | 18 => 20 | 19 => 20 | 20 => 20 | _ => 12
def ccell (cI cJ : ClassId) (ad : Nat → Nat → Nat) (f o : Nat) (g : Nat → Int32) : va_E := match f with
  | 0 => .inr (5, [.ref (ad 1 0), .ref (ad 2 0), .ref (ad 3 0), .ref (ad 4 0), .ref (ad 5 0), .int (g 0), .int (g 1)])
  | 1 => .inr (2, [.ref (ad 7 0), .ref (ad 8 0), .ref (ad 9 0), .ref (ad 10 0), .ref (ad 11 0), .ref (ad 12 0), .int (g 0), .int (g 1)])
  | 2 => .inr (3, [.ref (ad 13 0), .ref (ad 14 0), .ref (ad 15 0), .ref (ad 16 0), .int (g 0)])
  | 3 => .inr (4, [.ref (ad 17 0), .ref (ad 18 0), .ref (ad 19 0), .ref (ad 20 0), .int (g 0)])
  | 4 => .inr (0, [.ref (ad 1 0), .ref (ad 2 0), .ref (ad 3 0), .ref (ad 21 0), .ref (ad 22 0), .ref (ad 23 0), .int (g 0)])
  | 5 => .inl (cJ, 8, .inr (.inr (.inr (.inr (fun k => if k < 8 then some (ad 6 k) else none)))))
  | 6 => .inr (1, [.ref (ad 24 o), .ref (ad 25 o), .ref (ad 26 o), .ref (ad 27 o), .ref (ad 28 o), .int (g 0), .int (g 1), .int (g 2)])
  | n + 7 => .inl (cI, clen (n + 7), .inl g)
def cK (cI cJ : ClassId) (ad : Nat → Nat → Nat) (ce : Nat → Nat → va_E) (S : Nat → Nat → Nat → Int32) : Nat → Nat → va_E := fun f o => if f < 30 then ccell cI cJ ad f o (S f o) else ce f o
def cid (f o : Nat) : Bool := if f = 6 then decide (o < 8) else if f < 24 then decide (o = 0) else if f < 29 then decide (o < 8) else false
theorem cidJ6 {j : Nat} (h : j < 8) : cid 6 j = true := decide_eq_true h
theorem cidJ24 {j : Nat} (h : j < 8) : cid 24 j = true := decide_eq_true h
theorem cidJ25 {j : Nat} (h : j < 8) : cid 25 j = true := decide_eq_true h
theorem cidJ26 {j : Nat} (h : j < 8) : cid 26 j = true := decide_eq_true h
theorem cidJ27 {j : Nat} (h : j < 8) : cid 27 j = true := decide_eq_true h
theorem cidJ28 {j : Nat} (h : j < 8) : cid 28 j = true := decide_eq_true h
variable {cI cJ : ClassId} {ad : Nat → Nat → Nat} {ce : Nat → Nat → va_E} {S T U : Nat → Nat → Nat → Int32} {o : Nat}
theorem cK_up {f i : Nat} {x : Int32} {e : va_E} (hf : f < 30) (he : e = ccell cI cJ ad f o (upd (S f o) i x)) : up2 (cK cI cJ ad ce S) f o e = cK cI cJ ad ce (up3 S f o i x) := by
  funext f' o'
  unfold up2 cK up3
  by_cases h1 : f' = f
  · subst h1
    rw [if_pos rfl, if_pos hf, if_pos rfl]
    by_cases h2 : o' = o
    · subst h2
      rw [if_pos rfl, if_pos rfl, he, if_pos hf]
    · rw [if_neg h2, if_neg h2, if_pos hf]
  · rw [if_neg h1, if_neg h1]
theorem cke_0 : cK cI cJ ad ce S 0 o = .inr (5, [.ref (ad 1 0), .ref (ad 2 0), .ref (ad 3 0), .ref (ad 4 0), .ref (ad 5 0), .int (S 0 o 0), .int (S 0 o 1)]) := rfl
theorem cke_1 : cK cI cJ ad ce S 1 o = .inr (2, [.ref (ad 7 0), .ref (ad 8 0), .ref (ad 9 0), .ref (ad 10 0), .ref (ad 11 0), .ref (ad 12 0), .int (S 1 o 0), .int (S 1 o 1)]) := rfl
theorem cke_2 : cK cI cJ ad ce S 2 o = .inr (3, [.ref (ad 13 0), .ref (ad 14 0), .ref (ad 15 0), .ref (ad 16 0), .int (S 2 o 0)]) := rfl
theorem cke_3 : cK cI cJ ad ce S 3 o = .inr (4, [.ref (ad 17 0), .ref (ad 18 0), .ref (ad 19 0), .ref (ad 20 0), .int (S 3 o 0)]) := rfl
theorem cke_4 : cK cI cJ ad ce S 4 o = .inr (0, [.ref (ad 1 0), .ref (ad 2 0), .ref (ad 3 0), .ref (ad 21 0), .ref (ad 22 0), .ref (ad 23 0), .int (S 4 o 0)]) := rfl
theorem cke_5 : cK cI cJ ad ce S 5 o = .inl (cJ, 8, .inr (.inr (.inr (.inr (fun k => if k < 8 then some (ad 6 k) else none))))) := rfl
theorem cke_6 : cK cI cJ ad ce S 6 o = .inr (1, [.ref (ad 24 o), .ref (ad 25 o), .ref (ad 26 o), .ref (ad 27 o), .ref (ad 28 o), .int (S 6 o 0), .int (S 6 o 1), .int (S 6 o 2)]) := rfl
theorem cke_7 : cK cI cJ ad ce S 7 o = .inl (cI, 12, .inl (S 7 o)) := rfl
theorem cke_8 : cK cI cJ ad ce S 8 o = .inl (cI, 12, .inl (S 8 o)) := rfl
theorem cke_9 : cK cI cJ ad ce S 9 o = .inl (cI, 12, .inl (S 9 o)) := rfl
theorem cke_10 : cK cI cJ ad ce S 10 o = .inl (cI, 12, .inl (S 10 o)) := rfl
theorem cke_11 : cK cI cJ ad ce S 11 o = .inl (cI, 4, .inl (S 11 o)) := rfl
theorem cke_12 : cK cI cJ ad ce S 12 o = .inl (cI, 6, .inl (S 12 o)) := rfl
theorem cke_13 : cK cI cJ ad ce S 13 o = .inl (cI, 4, .inl (S 13 o)) := rfl
theorem cke_14 : cK cI cJ ad ce S 14 o = .inl (cI, 20, .inl (S 14 o)) := rfl
theorem cke_15 : cK cI cJ ad ce S 15 o = .inl (cI, 20, .inl (S 15 o)) := rfl
theorem cke_16 : cK cI cJ ad ce S 16 o = .inl (cI, 20, .inl (S 16 o)) := rfl
theorem cke_17 : cK cI cJ ad ce S 17 o = .inl (cI, 20, .inl (S 17 o)) := rfl
theorem cke_18 : cK cI cJ ad ce S 18 o = .inl (cI, 20, .inl (S 18 o)) := rfl
theorem cke_19 : cK cI cJ ad ce S 19 o = .inl (cI, 20, .inl (S 19 o)) := rfl
theorem cke_20 : cK cI cJ ad ce S 20 o = .inl (cI, 20, .inl (S 20 o)) := rfl
theorem cke_21 : cK cI cJ ad ce S 21 o = .inl (cI, 4, .inl (S 21 o)) := rfl
theorem cke_22 : cK cI cJ ad ce S 22 o = .inl (cI, 12, .inl (S 22 o)) := rfl
theorem cke_23 : cK cI cJ ad ce S 23 o = .inl (cI, 12, .inl (S 23 o)) := rfl
theorem cke_24 : cK cI cJ ad ce S 24 o = .inl (cI, 12, .inl (S 24 o)) := rfl
theorem cke_25 : cK cI cJ ad ce S 25 o = .inl (cI, 12, .inl (S 25 o)) := rfl
theorem cke_26 : cK cI cJ ad ce S 26 o = .inl (cI, 12, .inl (S 26 o)) := rfl
theorem cke_27 : cK cI cJ ad ce S 27 o = .inl (cI, 12, .inl (S 27 o)) := rfl
theorem cke_28 : cK cI cJ ad ce S 28 o = .inl (cI, 12, .inl (S 28 o)) := rfl
/-- the counters stay within the document's bounds -/
def CI (S : Nat → Nat → Nat → Int32) : Prop := (0 ≤ (S 1 0 0).toInt ∧ (S 1 0 0).toInt ≤ 12) ∧ (0 ≤ (S 1 0 1).toInt ∧ (S 1 0 1).toInt ≤ 6) ∧ (0 ≤ (S 2 0 0).toInt ∧ (S 2 0 0).toInt ≤ 20) ∧ (0 ≤ (S 3 0 0).toInt ∧ (S 3 0 0).toInt ≤ 20) ∧ (0 ≤ (S 0 0 0).toInt ∧ (S 0 0 0).toInt ≤ 8)
theorem CI.le1 (h : CI S) {n : Nat} (hn : 12 ≤ n) : (S 1 0 0).toInt ≤ n := by have := h.1.2; omega
theorem CI.le2 (h : CI S) {n : Nat} (hn : 6 ≤ n) : (S 1 0 1).toInt ≤ n := by have := h.2.1.2; omega
theorem CI.le3 (h : CI S) {n : Nat} (hn : 20 ≤ n) : (S 2 0 0).toInt ≤ n := by have := h.2.2.1.2; omega
theorem CI.le4 (h : CI S) {n : Nat} (hn : 20 ≤ n) : (S 3 0 0).toInt ≤ n := by have := h.2.2.2.1.2; omega
theorem CI.le5 (h : CI S) {n : Nat} (hn : 8 ≤ n) : (S 0 0 0).toInt ≤ n := by have := h.2.2.2.2.2; omega
theorem CI.n1 (h : CI S) : (S 1 0 0).toNatClampNeg ≤ 12 := cn_le h.1.2
theorem CI.n2 (h : CI S) : (S 1 0 1).toNatClampNeg ≤ 6 := cn_le h.2.1.2
theorem CI.n3 (h : CI S) : (S 2 0 0).toNatClampNeg ≤ 20 := cn_le h.2.2.1.2
theorem CI.n4 (h : CI S) : (S 3 0 0).toNatClampNeg ≤ 20 := cn_le h.2.2.2.1.2
theorem CI.n5 (h : CI S) : (S 0 0 0).toNatClampNeg ≤ 8 := cn_le h.2.2.2.2.2
theorem lt_nle {x b : Int32} (h : x < b) : ¬ b ≤ x := by
  rw [Int32.lt_iff_toInt_lt] at h
  rw [Int32.le_iff_toInt_le]
  omega
theorem k_inC {x b : Int32} {n : Nat} (h0 : 0 ≤ x.toInt) (h2 : ¬ b ≤ x) (hb : b.toInt ≤ n) : vp_in x n := by
  rw [vp_in_iff]
  rw [Int32.le_iff_toInt_le] at h2
  omega
theorem CI.in1 (h : CI S) (c : ¬ 12 ≤ S 1 0 0) : vp_in (S 1 0 0) 12 := k_inC h.1.1 c (by decide)
theorem CI.in2 (h : CI S) (c : ¬ 6 ≤ S 1 0 1) : vp_in (S 1 0 1) 6 := k_inC h.2.1.1 c (by decide)
theorem CI.in3 (h : CI S) (c : ¬ 20 ≤ S 2 0 0) : vp_in (S 2 0 0) 20 := k_inC h.2.2.1.1 c (by decide)
theorem CI.in4 (h : CI S) (c : ¬ 20 ≤ S 3 0 0) : vp_in (S 3 0 0) 20 := k_inC h.2.2.2.1.1 c (by decide)
theorem CI.in5 (h : CI S) (c : ¬ 8 ≤ S 0 0 0) : vp_in (S 0 0 0) 8 := k_inC h.2.2.2.2.1 c (by decide)
theorem cn_nn {x : Int32} (h : ¬ x < 0) : x = nI x.toNatClampNeg := cn_eq (by
  rw [Int32.lt_iff_toInt_lt] at h
  have h0 : (0 : Int32).toInt = 0 := rfl
  omega)
theorem inc_le {x : Int32} {n : Nat} {b : Int32} (h0 : 0 ≤ x.toInt) (hb : b.toInt = n) (hn : n < 2 ^ 31) (c : ¬ b ≤ x) : 0 ≤ (x + 1).toInt ∧ (x + 1).toInt ≤ n := by
  rw [Int32.le_iff_toInt_le] at c
  have e : x + 1 = nI (x.toNatClampNeg + 1) := by
    conv => lhs; rw [cn_eq h0]
    exact nI_1 _
  have h2 : x.toNatClampNeg = x.toInt.toNat := rfl
  rw [e, nI_toInt (by omega)]
  omega
/-- the counters are the same -/
def SF (S T : Nat → Nat → Nat → Int32) : Prop := T 0 = S 0 ∧ T 1 = S 1 ∧ T 2 = S 2 ∧ T 3 = S 3
theorem SF.rf (S : Nat → Nat → Nat → Int32) : SF S S := ⟨rfl, rfl, rfl, rfl⟩
theorem SF.tr (h : SF S T) (k : SF T U) : SF S U := ⟨k.1.trans h.1, k.2.1.trans h.2.1, k.2.2.1.trans h.2.2.1, k.2.2.2.trans h.2.2.2⟩
theorem SF.up {f i : Nat} {x : Int32} (hf : 4 ≤ f) (h : SF S T) : SF S (up3 T f o i x) := by
  have k : ∀ g, g < 4 → up3 T f o i x g = T g := fun g hg => by unfold up3; rw [if_neg (by omega)]
  exact ⟨(k 0 (by decide)).trans h.1, (k 1 (by decide)).trans h.2.1, (k 2 (by decide)).trans h.2.2.1, (k 3 (by decide)).trans h.2.2.2⟩
theorem SF.ci (h : SF S T) (k : CI S) : CI T := by
  unfold CI; rw [h.1, h.2.1, h.2.2.1, h.2.2.2]; exact k
theorem SF.q5 {q : Nat} (h : SF S T) (hq : q < (S 0 0 0).toNatClampNeg) : q < (T 0 0 0).toNatClampNeg := by rw [h.1]; exact hq
theorem lp_o' {i N : Nat} {b : Int32} (hb : b = nI N) (h : i + 0 = N + 1) (hN : N + 1 < 2 ^ 31) : b < nI i := by
  subst hb; rw [show i = N + 1 by omega]; exact nI_lt (by omega) hN
theorem lp_i' {i k N : Nat} {b : Int32} (hb : b = nI N) (h : i + (k + 1) = N + 1) (hN : N + 1 < 2 ^ 31) : ¬ b < nI i := by
  subst hb; exact nI_nlt (by omega) (by omega)
theorem SF.b1 (h : SF S T) (k : CI S) : T 1 0 0 = nI (S 1 0 0).toNatClampNeg := by rw [h.2.1]; exact cn_eq k.1.1
theorem SF.b2 (h : SF S T) (k : CI S) : T 1 0 1 = nI (S 1 0 1).toNatClampNeg := by rw [h.2.1]; exact cn_eq k.2.1.1
theorem SF.b3 (h : SF S T) (k : CI S) : T 2 0 0 = nI (S 2 0 0).toNatClampNeg := by rw [h.2.2.1]; exact cn_eq k.2.2.1.1
theorem SF.b4 (h : SF S T) (k : CI S) : T 3 0 0 = nI (S 3 0 0).toNatClampNeg := by rw [h.2.2.2]; exact cn_eq k.2.2.2.1.1
theorem SF.b5 (h : SF S T) (k : CI S) : T 0 0 0 = nI (S 0 0 0).toNatClampNeg := by rw [h.1]; exact cn_eq k.2.2.2.2.1
end COMP
