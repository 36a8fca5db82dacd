section GROW
variable {p : Program} {l : Launch} {e : Env} {R : Room} {s : State} {m : MethodId} {args : Array Value} {below : List Frame} {meth : Method} {c : Code} {H : Heap} {locs : List Loc} {cells slots : Nat} {Q : State → Prop} {cc : ByteArray} {pc : Nat} {ls : Array Slot} {rest st0 : List Value} {D : va_G} {A : Nat → Prop} {tys : List (ClassId × FieldType)} {K0 : Nat → Nat} {H0 : Heap} {L L' : List (Nat × Nat)} {ad ad' : Nat → Nat → Nat} {ce ce' : Nat → Nat → va_E} {cI cG cJ cO : ClassId} {mc ms : Nat}
/-- an end that has made a cell: its address is q -/
abbrev kQn (D : va_G) (A : Nat → Prop) (L' : List (Nat × Nat)) (vf : Nat → Nat) (u : Nat → Nat → Nat → Nat) (cf : Nat → Nat → Nat → va_E) : Array Value → State → Outcome → State → Prop := va_Qr (fun (_ : Nat) => True) (fun q a t => a = vf q ∧ WE D A L' (u q) (cf q) t) A
abbrev kQin (D : va_G) (A : Nat → Prop) (v : Int32) (L' : List (Nat × Nat)) (u : Nat → Nat → Nat → Nat) (cf : Nat → Nat → Nat → va_E) : Array Value → State → Outcome → State → Prop := va_Qi (fun (r : Int32) (_ : Nat) => r = v) (fun q t => WE D A L' (u q) (cf q) t) A
abbrev kQvn (D : va_G) (A : Nat → Prop) (L' : List (Nat × Nat)) (u : Nat → Nat → Nat → Nat) (cf : Nat → Nat → Nat → va_E) : Array Value → State → Outcome → State → Prop := va_Qv (fun (_ : Nat) => True) (fun q t => WE D A L' (u q) (cf q) t) A
variable {vf : Nat → Nat} {u : Nat → Nat → Nat → Nat} {cf : Nat → Nat → Nat → va_E}
theorem k_crn {a : Array Value} (hw : wk D A L ad ce s.heap H locs) (hr : kRun p l e R s m args below meth c H locs cells slots mc ms pc ls st0 rest A (kQn D A L' vf u cf a))
    (kk : ∀ (q : Nat) (H1 : Heap) (locs1 : List Loc), wk D A L' (u q) (cf q) s.heap H1 locs1 → W p l e R s m args below meth c H1 locs1 (cells + mc) (slots + ms) Q (F0 m (pc + 3) ls (.ref (vf q) :: rest))) : W p l e R s m args below meth c H locs cells slots Q (F0 m pc ls st0) :=
  va_callr hr hw.2.2 (fun _ _ h => h) (fun _ h => h) (fun q ra t H1 locs1 ht _ _ hB _ _ hS => by
    obtain ⟨rfl, hB⟩ := hB
    exact kk q H1 locs1 ⟨by rw [← ht]; exact hB.1, hB.2, hS⟩)
theorem k_cvn {a : Array Value} (hw : wk D A L ad ce s.heap H locs) (hr : kRun p l e R s m args below meth c H locs cells slots mc ms pc ls st0 rest A (kQvn D A L' u cf a))
    (kk : ∀ (q : Nat) (H1 : Heap) (locs1 : List Loc), wk D A L' (u q) (cf q) s.heap H1 locs1 → W p l e R s m args below meth c H1 locs1 (cells + mc) (slots + ms) Q (F0 m (pc + 3) ls rest)) : W p l e R s m args below meth c H locs cells slots Q (F0 m pc ls st0) :=
  va_callv hr hw.2.2 (fun _ _ h => h) (fun _ h => h) (fun q t H1 locs1 ht _ _ hB _ _ hS => kk q H1 locs1 ⟨by rw [← ht]; exact hB.1, hB.2, hS⟩)
theorem k_rretn {v : Nat} {rt : FieldType} (q : Nat) (hx : p.tables.exec = Jvm.exec) (hb : c.code = cc) (hr : meth.sig.returnType = some rt) (hrt : (∃ n, rt = .object n) ∨ ∃ t, rt = .array t) (hlocks : meth.locks = false) (hw : wk D A L' (u q) ce s.heap H locs) (hv : vf q = v) (hce : cf q = ce) (hc : cells ≤ mc) (hs : slots ≤ ms) (hdg : decode cc pc = .ok (.areturn, 1)) : W p l e R s m args below meth c H locs cells slots (MQ below (kQn D A L' vf u cf) args s mc ms A) (F0 m pc ls [.ref v]) := by
  subst hv; subst hce
  exact W.widen hc hs (W.aret hx hb hr hrt (Or.inr ⟨_, rfl⟩) (fun t ht _ => ⟨⟨q, _, rfl, trivial, rfl, by rw [ht]; exact hw.1, hw.2.1⟩, hw.2.2.F ht⟩) hw.2.2.2.2 hdg hlocks)
theorem k_iretn {v v0 : Int32} {ty : FieldType} (q : Nat) (hx : p.tables.exec = Jvm.exec) (hb : c.code = cc) (hr : meth.sig.returnType = some ty) (hlocks : meth.locks = false) (hn : narrow ty (.int v) = .int v) (hw : wk D A L' (u q) ce s.heap H locs) (hv : v0 = v) (hce : cf q = ce) (hc : cells ≤ mc) (hs : slots ≤ ms) (hdg : decode cc pc = .ok (.ireturn, 1)) : W p l e R s m args below meth c H locs cells slots (MQ below (kQin D A v0 L' u cf) args s mc ms A) (F0 m pc ls [.int v]) := by
  subst hv; subst hce
  exact W.widen hc hs (W.zret hx hb hr hn (fun t ht _ => ⟨⟨_, q, rfl, rfl, by rw [ht]; exact hw.1, hw.2.1⟩, hw.2.2.F ht⟩) hw.2.2.2.2 hdg hlocks)
theorem k_vretn (q : Nat) (hx : p.tables.exec = Jvm.exec) (hb : c.code = cc) (hr : meth.sig.returnType = none) (hlocks : meth.locks = false) (hw : wk D A L' (u q) ce s.heap H locs) (hce : cf q = ce) (hc : cells ≤ mc) (hs : slots ≤ ms) (hdg : decode cc pc = .ok (.return_, 1)) : W p l e R s m args below meth c H locs cells slots (MQ below (kQvn D A L' u cf) args s mc ms A) (F0 m pc ls []) := by
  subst hce
  exact W.widen hc hs (W.vret hx hb hr (fun t ht _ => ⟨⟨q, rfl, trivial, by rw [ht]; exact hw.1, hw.2.1⟩, hw.2.2.F ht⟩) hw.2.2.2.2 hdg hlocks)
theorem k_cin {v : Int32} {a : Array Value} (hw : wk D A L ad ce s.heap H locs) (hr : kRun p l e R s m args below meth c H locs cells slots mc ms pc ls st0 rest A (kQin D A v L' u cf a))
    (kk : ∀ (q : Nat) (H1 : Heap) (locs1 : List Loc), wk D A L' (u q) (cf q) s.heap H1 locs1 → W p l e R s m args below meth c H1 locs1 (cells + mc) (slots + ms) Q (F0 m (pc + 3) ls (.int v :: rest))) : W p l e R s m args below meth c H locs cells slots Q (F0 m pc ls st0) :=
  va_calli hr hw.2.2 (fun _ _ h => h) (fun _ h => h) (fun r q t H1 locs1 ht _ hp hB _ _ hS => by
    obtain rfl : r = v := hp
    exact kk q H1 locs1 ⟨by rw [← ht]; exact hB.1, hB.2, hS⟩)
theorem up2_comm {f o f' o' : Nat} {x y : va_E} (h : f ≠ f') : up2 (up2 ce f o x) f' o' y = up2 (up2 ce f' o' y) f o x := by
  funext g p
  by_cases h1 : g = f
  · subst h1
    rw [up2_n h]
    by_cases h3 : p = o
    · subst h3; rw [up2_eq, up2_eq]
    · rw [up2_o (fun z => h3 z.2), up2_o (fun z => h3 z.2), up2_n h]
  · rw [up2_n (ce := up2 ce f' o' y) h1]
    by_cases h2 : g = f'
    · subst h2
      by_cases h3 : p = o'
      · subst h3; rw [up2_eq, up2_eq]
      · rw [up2_o (fun z => h3 z.2), up2_n h1, up2_o (fun z => h3 z.2)]
    · rw [up2_n h2, up2_n h1, up2_n h2]
/-- a new cell takes an old one's place -/
theorem wk.swap {f o g p q : Nat} {x : va_E} (hi : (f, o) ∈ L) (hn : (g, p) ∉ L) (hw : wk D A (L ++ [(g, p)]) (upa ad g p q) (up2 ce g p x) H0 H locs) : wk D A L (upa ad f o q) (up2 ce f o x) H0 H locs := by
  unfold wk at hw ⊢
  rw [wl_push hn] at hw
  obtain ⟨hP, hD, hS⟩ := hw
  have hlt : ∀ (k : Nat) (z : Nat × va_E), (wl L ad ce)[k]? = some z → (wl L ad ce ++ [(q, x)])[k]? = some z := fun k z hz => by
    rw [List.getElem?_append_left (List.getElem?_eq_some_iff.mp hz).1]; exact hz
  have hlen : (wl L ad ce).length = L.length := by unfold wl; rw [List.length_map]
  have hlast : (wl L ad ce ++ [(q, x)])[L.length]? = some (q, x) := by
    rw [← hlen, List.getElem?_append_right (Nat.le_refl _), Nat.sub_self]; rfl
  have key : ∀ (k : Nat) (z : Nat × va_E), (wl L (upa ad f o q) (up2 ce f o x))[k]? = some z → (L[k]? = some (f, o) ∧ z = (q, x)) ∨ (L[k]? ≠ some (f, o) ∧ (wl L ad ce)[k]? = some z ∧ k < L.length) := fun k z hz => by
    unfold wl at hz ⊢
    rw [List.getElem?_map] at hz ⊢
    cases hk : L[k]? with
    | none => rw [hk] at hz; cases hz
    | some i =>
      rw [hk] at hz
      have hz' : (upa ad f o q i.1 i.2, up2 ce f o x i.1 i.2) = z := Option.some.inj hz
      by_cases hif : i = (f, o)
      · subst hif
        rw [upa_eq, up2_eq] at hz'
        exact Or.inl ⟨rfl, hz'.symm⟩
      · rw [upa_ne hif, up2_ne hif] at hz'
        exact Or.inr ⟨fun z => hif (Option.some.inj z), congrArg some hz', (List.getElem?_eq_some_iff.mp hk).1⟩
  have uniq : ∀ i j : Nat, L[i]? = some (f, o) → L[j]? = some (f, o) → i = j := fun i j h1 h2 => hD.1 i j _ _ (hlt i _ (wl_at h1)) (hlt j _ (wl_at h2)) rfl
  refine ⟨fun k z hz => ?_, ⟨fun i j p1 p2 h1 h2 he => ?_, fun k z hz => ?_⟩, hS⟩
  · rcases key k z hz with ⟨-, rfl⟩ | ⟨-, h, -⟩
    · exact hP _ _ hlast
    · exact hP _ _ (hlt _ _ h)
  · rcases key i p1 h1 with ⟨a1, rfl⟩ | ⟨a1, b1, c1⟩
    · rcases key j p2 h2 with ⟨a2, rfl⟩ | ⟨a2, b2, c2⟩
      · exact uniq i j a1 a2
      · have := hD.1 _ _ _ _ hlast (hlt _ _ b2) he
        omega
    · rcases key j p2 h2 with ⟨a2, rfl⟩ | ⟨a2, b2, c2⟩
      · have := hD.1 _ _ _ _ (hlt _ _ b1) hlast he
        omega
      · exact hD.1 _ _ _ _ (hlt _ _ b1) (hlt _ _ b2) he
  · rcases key k z hz with ⟨-, rfl⟩ | ⟨-, h, -⟩
    · exact hD.2 _ _ hlast
    · exact hD.2 _ _ (hlt _ _ h)
/-- an address that may lie in a list -/
def EL (K0 : Nat → Nat) (L : List (Nat × Nat)) (ad : Nat → Nat → Nat) (ce : Nat → Nat → va_E) (v : Nat) : Prop := (∃ (f o ci : Nat) (fs : List Value) (r : vw_C), (f, o) ∈ L ∧ ad f o = v ∧ ce f o = .inr (ci, fs) ∧ vwCl[ci]? = some r ∧ Cond.castable r.1 "java/lang/Object" ∈ KOW) ∨ ∃ k : Nat, k < 256 ∧ K0 (2 + k) = v
theorem EL.any {v : Nat} (hK : va_K D vwCl tys s) (hO : OW A K0 s) (hw : wk D A L ad ce s.heap H locs) (h : EL K0 L ad ce v) : va_Any "java/lang/Object" s H v := by
  rcases h with ⟨f, o, ci, fs, r, h1, rfl, h3, h4, h5⟩ | ⟨k, hk, rfl⟩
  · obtain ⟨q, hq⟩ := wl_in h1
    refine va_rAny hK hw.1 ((wl_at hq).trans (by rw [h3])) h4 (fun comp c0 g1 g2 => ?_)
    obtain ⟨c1, t1, f1, f2, f3⟩ := Cond.castable_spec (va_Nw.use (A := #[]) rfl (hO.2.2.1 _ h5))
    cases g1.symm.trans f2
    cases g2.symm.trans f1
    exact f3
  · obtain ⟨cell, g1, g2, g3, -⟩ := (hO.2.2.2.2.2.2.1.2.2.2.1 k hk).kept hw.2.2.2.1
    obtain ⟨kC, hkC, -⟩ := Vm.findClass_spec g3
    refine ⟨cell, g1, g2, ⟨kC, hkC⟩, fun comp hc => ?_⟩
    obtain ⟨c1, t1, f1, f2, f3⟩ := Cond.castable_spec (va_Nw.use (A := #[]) rfl (hO.2.2.1 _ w_ca_Integer))
    cases hc.symm.trans f2
    cases g3.symm.trans f1
    exact f3
theorem EL.push {v f o q : Nat} {x : va_E} (hn : (f, o) ∉ L) (h : EL K0 L ad ce v) : EL K0 (L ++ [(f, o)]) (upa ad f o q) (up2 ce f o x) v := by
  rcases h with ⟨f', o', ci, fs, r, h1, h2, h3, h4, h5⟩ | h
  · have hne : (f', o') ≠ (f, o) := fun z => hn (z ▸ h1)
    exact Or.inl ⟨f', o', ci, fs, r, List.mem_append_left _ h1, (upa_ne (i := (f', o')) hne).trans h2, (up2_ne (i := (f', o')) hne).trans h3, h4, h5⟩
  · exact Or.inr h
theorem EL.put {v f o ci : Nat} {fs fs' : List Value} (hc : ce f o = .inr (ci, fs)) (h : EL K0 L ad ce v) : EL K0 L ad (up2 ce f o (.inr (ci, fs'))) v := by
  rcases h with ⟨f', o', ci', fs2, r, h1, h2, h3, h4, h5⟩ | h
  · by_cases hq : f' = f ∧ o' = o
    · obtain ⟨rfl, rfl⟩ := hq
      rw [hc] at h3
      obtain ⟨rfl, rfl⟩ : ci = ci' ∧ fs = fs2 := by
        have := Sum.inr.inj h3
        exact ⟨congrArg Prod.fst this, congrArg Prod.snd this⟩
      exact Or.inl ⟨f', o', ci, fs', r, h1, h2, up2_eq, h4, h5⟩
    · exact Or.inl ⟨f', o', ci', fs2, r, h1, h2, (up2_o hq).trans h3, h4, h5⟩
  · exact Or.inr h
theorem k_astM (hx : p.tables.exec = Jvm.exec) (hb : c.code = cc) (hK : va_K D vwCl tys s) (hw : wk D A L ad ce H0 H locs) {f o a : Nat} (hi : (f, o) ∈ L) (ha : ad f o = a) (t0 : Nat) {v : Nat} {cA : ClassId} {E : String} {n : Nat} {g : Nat → Option Nat} (he : ce f o = .inl (cA, n, .inr (.inr (.inr (.inr g))))) (ht : tys[t0]? = some (cA, .object E)) (hr : va_Any E s H v) {i : Int32} (hin : vp_in i n) {ce' : Nat → Nat → va_E} (hce : up2 ce f o (.inl (cA, n, .inr (.inr (.inr (.inr (va_up g i.toNatClampNeg (some v))))))) = ce') (hdg : decode cc pc = .ok (.aastore, 1))
    (kk : ∀ (H1 : Heap) (locs1 : List Loc), wk D A L ad ce' H0 H1 locs1 → W p l e R s m args below meth c H1 locs1 cells slots Q (F0 m (pc + 1) ls rest)) : W p l e R s m args below meth c H locs cells slots Q (F0 m pc ls (.ref v :: .int i :: .ref a :: rest)) := by
  subst ha; subst hce
  obtain ⟨q, hq⟩ := wl_in hi
  refine va_astqM hx hb hK hw.1 hw.2.1 hw.2.2 q t0 ((wl_at hq).trans (by rw [he])) ht hr hin hdg (fun H1 locs1 h1 h2 h3 => kk H1 locs1 ⟨?_, ?_, h3⟩)
  · rw [wl_set hw.2.1 hq] at h1; exact h1
  · rw [wl_set hw.2.1 hq] at h2; exact h2
theorem va_RA.cls {cA : ClassId} {C : String} (h : va_RA s cA (.object C)) : s.vm.findClass ("[" ++ (FieldType.object C).toString) = some cA := by
  obtain ⟨_, _, _, _, _, h4⟩ := h
  exact h4
theorem wk.row (hK : va_K D vwCl (ktys cI cG cJ cO) s) (hw : wk D A L ad ce H0 H locs) {f o : Nat} (hi : (f, o) ∈ L) {n : Nat} {g : Nat → Option Nat} (he : ce f o = .inl (cO, n, .inr (.inr (.inr (.inr g))))) : ∃ cell : Cell, H[ad f o]? = some cell ∧ cell.vm.isStatics = false ∧ s.vm.findClass "[Ljava/lang/Object;" = some cell.cls := by
  obtain ⟨q, hq⟩ := wl_in hi
  have h := hw.1 q _ (wl_at hq)
  rw [he] at h
  have hr := (hK.2 3 _ rfl).2
  exact ⟨_, h, rfl, va_RA.cls hr⟩
variable {y : MethodName} {bytes : ByteArray} {maxL nL n index : Nat} {ret : Option FieldType} {ws : List Cond} {rm : Room} {Ts : List Cond} {own C : String} {As : List Value}
theorem k_rV2 {Qc : Array Value → State → Outcome → State → Prop} (F : CallFix p m c cc nL s args Ts own) (hK : va_K D vwCl tys s) (hO : OW A K0 s) (hw : wk D A L ad ce s.heap H locs) {f o a : Nat} (hM : Met l y ws rm (kP D tys K0 A L ad ce H.size (.ref a :: As)) Qc mc ms A) (cw : CallW R s args own C index y bytes maxL ret ws rm mc ms n) (hi : (f, o) ∈ L) (ha : ad f o = a) {ci : Nat} {fs : List Value} (he : ce f o = .inr (ci, fs)) {T : u_T} {N : Nat} (hc : vwCl[ci]? = some (C, T, N)) (hn : As.length = n) (hsize : ls.size = nL) (hst : st0 = As.reverse ++ .ref a :: rest) (hW : (rest.map fun v => v.category).sum ≤ 8) (hdg : decode cc pc = .ok (.invokevirtual index, 3)) (hf : cells + mc ≤ R.cells ∧ slots + ms ≤ R.slots) :
    kRun p l e R s m args below meth c H locs cells slots mc ms pc ls st0 rest A (Qc (Value.ref a :: As).toArray) := by
  subst ha; exact k_rV F hK hO hw hM cw hi he hc hn hsize hst hW hdg hf
end GROW

abbrev bw_Jx4a65c_iterator_32c93 : List Cond := .code yJx4a65c_iterator_32c93 cJx4a65c_iterator_32c93 1 (some (.object "java/util/Iterator")) :: BIG
abbrev rm_Jx4a65c_iterator_32c93 : Room := { frames := 2, cells := 1, slots := 4, locals := 33 }
set_option maxHeartbeats 1000000 in
theorem ct_Jx4a65c_iterator_32c93 {l : Launch} {D : va_G} {cI cG cJ cO : ClassId} {K0 : Nat → Nat} {A : Nat → Prop} {L : List (Nat × Nat)} {ad : Nat → Nat → Nat} {ce : Nat → Nat → va_E} {lf it al : Nat} {mo n : Int32} {el : Value} (hll : (lf, 0) ∈ L) (hal : ad lf 0 = al) (hcl : ce lf 0 = .inr (2, [.int mo, el, .int n])) (hnt : (it, 0) ∉ L) (sz : Nat) (hA : ∀ q, sz ≤ q → A q) : Met l yJx4a65c_iterator_32c93 bw_Jx4a65c_iterator_32c93 rm_Jx4a65c_iterator_32c93 (kP D (ktys cI cG cJ cO) K0 A L ad ce sz [.ref al]) (kQn D A (L ++ [(it, 0)]) (fun q => q) (fun q => upa ad it 0 q) (fun _ => up2 ce it 0 (.inr (1, [.int 0, .int (-1), .int mo, .ref al])))) 1 4 A := by
  refine Met.ofW (cc := cJx4a65c_iterator_32c93) (maxL := 1) (ret := (some (.object "java/util/Iterator"))) (by decide) rfl ?_
  intro p e s m args below meth c s₁ B hml hv
  obtain ⟨hav, hsz, hP, hD, hK, hO⟩ := hv
  have hx := B.exec
  have hb := B.bytes
  have hr := B.returns
  have hts : ∀ w ∈ BIG, w.before args s = true := fun w h => atoms_spec (ws := bw_Jx4a65c_iterator_32c93) B.pre w (List.mem_cons_of_mem _ h)
  have hown : s.vm.findClass RJx4a65c = some m.cls := findClass_of_methodNamed B.named
  have hlocks := B.notSynchronized
  subst hsz
  have hw := wk.start hP hD
  refine k_start (by rfl) hav (Nat.le_of_ble_eq_true rfl) (fun ls hl => ?_)
  have hl : lv_has ls 1 [(0, .ref al)] := hl
  have hne : lf ≠ it := fun z => hnt (z ▸ hll)
  refine k_new (C := RJx35411) (T := TJx35411) (N := 4) (ci := 1) (fs := [.int 0, .int 0, .int 0, .null]) hx hb hts inB_Jx35411 tyJx35411 tyJx35411_ok hown (hts _ w_cl_Jx4a65c_267) (hts _ w_is_Jx35411) (hts _ w_in_Jx35411) hK hw hA rfl (fun j hj => match j, hj with | 0, _ => rfl | 1, _ => rfl | 2, _ => rfl | 3, _ => rfl | n + 4, h => absurd h (by omega)) (Nat.le_of_ble_eq_true rfl) (Nat.le_of_ble_eq_true rfl) it 0 hnt dJx4a65c_iterator_32c93_0 (fun q H hw => ?_)
  refine lv_dup hx hb dJx4a65c_iterator_32c93_3 rfl ?_
  refine lv_aload_n hx hb dJx4a65c_iterator_32c93_4 rfl (lv_at hl 0 rfl) ?_
  have e1 : upa ad it 0 q lf 0 = al := (upa_ne (i := (lf, 0)) (fun z => hne (congrArg Prod.fst z))).trans hal
  have ct := ct_Jx35411_init_45d68 (l := l) (D := D) (cI := cI) (cG := cG) (cJ := cJ) (cO := cO) (K0 := K0) (A := A) (L := L ++ [(it, 0)]) (ad := upa ad it 0 q) (ce := up2 ce it 0 (.inr (1, [.int 0, .int 0, .int 0, .null]))) (it := it) (lf := lf) (List.mem_append_right _ (List.mem_singleton_self _)) up2_eq (List.mem_append_left _ hll) ((up2_n hne).trans hcl) hne _ (wk.hA hw hA)
  rw [e1] at ct
  refine k_cv0 hw (k_rI (As := [.ref al]) (rest := [.ref (upa ad it 0 q it 0)]) ⟨hx, hb, hml, hown, hts⟩ hK hO hw ct (cwI 1 hts (gB_0 w_co_Jx35411_init_45d68) rfl rfl rfl (hts _ w_in_Jx35411) (hts _ w_ml_Jx4a65c_269) (hts _ w_im_Jx35411_init_45d68) rfl (by decide +kernel) ⟨by decide, by decide⟩) rfl hl.1 rfl (Nat.le_of_ble_eq_true rfl) dJx4a65c_iterator_32c93_5 ⟨Nat.le_of_ble_eq_true rfl, Nat.le_of_ble_eq_true rfl⟩) (fun H locs hw => ?_)
  exact k_rretn q hx hb hr (Or.inl ⟨_, rfl⟩) hlocks hw upa_eq.symm (up2_up2).symm (Nat.le_refl _) (Nat.le_refl _) dJx4a65c_iterator_32c93_8

abbrev bw_J6_intValue_8abf5 : List Cond := .code yJ6_intValue_8abf5 cJ6_intValue_8abf5 1 (some .int) :: BIG
abbrev rm_J6_intValue_8abf5 : Room := { frames := 1, cells := 0, slots := 0, locals := 12 }
set_option maxHeartbeats 1000000 in
theorem ct_J6_intValue_8abf5 {l : Launch} {D : va_G} {cI cG cJ cO : ClassId} {K0 : Nat → Nat} {A : Nat → Prop} {L : List (Nat × Nat)} {ad : Nat → Nat → Nat} {ce : Nat → Nat → va_E} {f o a : Nat} {v : Int32} (hi : (f, o) ∈ L) (ha : ad f o = a) (hc : ce f o = .inr (0, [.int v])) (sz : Nat) (hA : ∀ q, sz ≤ q → A q) : Met l yJ6_intValue_8abf5 bw_J6_intValue_8abf5 rm_J6_intValue_8abf5 (kP D (ktys cI cG cJ cO) K0 A L ad ce sz [.ref a]) (kQi D A v L ad ce) 0 0 A := by
  refine Met.ofW (cc := cJ6_intValue_8abf5) (maxL := 1) (ret := (some .int)) (by decide) rfl ?_
  intro p e s m args below meth c s₁ B hml hv
  obtain ⟨hav, hsz, hP, hD, hK, hO⟩ := hv
  have hx := B.exec
  have hb := B.bytes
  have hr := B.returns
  have hts : ∀ w ∈ BIG, w.before args s = true := fun w h => atoms_spec (ws := bw_J6_intValue_8abf5) B.pre w (List.mem_cons_of_mem _ h)
  have hown : s.vm.findClass RJ6 = some m.cls := findClass_of_methodNamed B.named
  have hlocks := B.notSynchronized
  subst hsz
  have hw := wk.start hP hD
  refine k_start (by rfl) hav (Nat.le_of_ble_eq_true rfl) (fun ls hl => ?_)
  have hl : lv_has ls 1 [(0, .ref a)] := hl
  refine lv_aload_n hx hb dJ6_intValue_8abf5_0 rfl (lv_at hl 0 rfl) ?_
  refine k_get2 (C := RJ6) (T := TJ6) (N := 1) (v := .int v) hx hb hts inB_J6 hown hK hw hi ha hc rfl 0 (by decide) (hts _ w_f_J6_205) (fun _ h9 => h9) rfl dJ6_intValue_8abf5_1 ?_
  exact k_iret hx hb hr hlocks rfl hw rfl rfl dJ6_intValue_8abf5_4

abbrev rm_J6_intValue_8abf5_c : Room := { frames := 1, cells := 0, slots := 0, locals := 12 }
set_option maxHeartbeats 1000000 in
theorem ct_J6_intValue_8abf5_c {l : Launch} {D : va_G} {cI cG cJ cO : ClassId} {K0 : Nat → Nat} {A : Nat → Prop} {L : List (Nat × Nat)} {ad : Nat → Nat → Nat} {ce : Nat → Nat → va_E} {k : Nat} (hk : k < 256) (sz : Nat) (hA : ∀ q, sz ≤ q → A q) : Met l yJ6_intValue_8abf5 bw_J6_intValue_8abf5 rm_J6_intValue_8abf5_c (kP D (ktys cI cG cJ cO) K0 A L ad ce sz [.ref (K0 (2 + k))]) (kQi D A (vb_c k) L ad ce) 0 0 A := by
  refine Met.ofW (cc := cJ6_intValue_8abf5) (maxL := 1) (ret := (some .int)) (by decide) rfl ?_
  intro p e s m args below meth c s₁ B hml hv
  obtain ⟨hav, hsz, hP, hD, hK, hO⟩ := hv
  have hx := B.exec
  have hb := B.bytes
  have hr := B.returns
  have hts : ∀ w ∈ BIG, w.before args s = true := fun w h => atoms_spec (ws := bw_J6_intValue_8abf5) B.pre w (List.mem_cons_of_mem _ h)
  have hown : s.vm.findClass RJ6 = some m.cls := findClass_of_methodNamed B.named
  have hlocks := B.notSynchronized
  subst hsz
  have hw := wk.start hP hD
  refine k_start (by rfl) hav (Nat.le_of_ble_eq_true rfl) (fun ls hl => ?_)
  have hl : lv_has ls 1 [(0, .ref (K0 (2 + k)))] := hl
  refine lv_aload_n hx hb dJ6_intValue_8abf5_0 rfl (lv_at hl 0 rfl) ?_
  refine va_getX (o := "java/lang/Integer") (n := "value") (d := "I") (N := 256) (ad := fun k => K0 (2 + k)) (i := k) (v := fun k => .int (vb_c k)) hx hb hO.2.2.2.2.2.2.1.2.2.2.2 hk hw.2.2 hown (hts _ w_f_J6_205) (fun _ h9 => h9) dJ6_intValue_8abf5_1 ?_
  exact k_iret hx hb hr hlocks rfl hw rfl rfl dJ6_intValue_8abf5_4

theorem vo_in {v : Int32} (h1 : ¬ v < -128) (h2 : ¬ 127 < v) : vp_in (v + 128) 256 := by
  rw [Int32.lt_iff_toInt_lt] at h1 h2
  have e1 : (-128 : Int32).toInt = -128 := by decide
  have e2 : (127 : Int32).toInt = 127 := by decide
  have e3 : (128 : Int32).toInt = 128 := by decide
  rw [e1] at h1; rw [e2] at h2
  refine vp_in_iff.mpr ?_
  have e4 : (v + 128).toInt = v.toInt + 128 := by
    rw [Int32.toInt_add, e3, Int.bmod_def]
    omega
  rw [e4]
  omega

abbrev bw_J6_valueOf_2dffe : List Cond := .code yJ6_valueOf_2dffe cJ6_valueOf_2dffe 1 (some (.object "java/lang/Integer")) :: BIG
abbrev rm_J6_valueOf_2dffe_c : Room := { frames := 1, cells := 0, slots := 0, locals := 12 }
set_option maxHeartbeats 1000000 in
theorem ct_J6_valueOf_2dffe_c {l : Launch} {D : va_G} {cI cG cJ cO : ClassId} {K0 : Nat → Nat} {A : Nat → Prop} {L : List (Nat × Nat)} {ad : Nat → Nat → Nat} {ce : Nat → Nat → va_E} {v : Int32} (h1 : ¬ v < -128) (h2 : ¬ 127 < v) (sz : Nat) (hA : ∀ q, sz ≤ q → A q) : Met l yJ6_valueOf_2dffe bw_J6_valueOf_2dffe rm_J6_valueOf_2dffe_c (kP D (ktys cI cG cJ cO) K0 A L ad ce sz [.int v]) (kQr D A (K0 (2 + (v + 128).toNatClampNeg)) L ad ce) 0 0 A := by
  refine Met.ofW (cc := cJ6_valueOf_2dffe) (maxL := 1) (ret := (some (.object "java/lang/Integer"))) (by decide) rfl ?_
  intro p e s m args below meth c s₁ B hml hv
  obtain ⟨hav, hsz, hP, hD, hK, hO⟩ := hv
  have hx := B.exec
  have hb := B.bytes
  have hr := B.returns
  have hts : ∀ w ∈ BIG, w.before args s = true := fun w h => atoms_spec (ws := bw_J6_valueOf_2dffe) B.pre w (List.mem_cons_of_mem _ h)
  have hown : s.vm.findClass RJ6 = some m.cls := findClass_of_methodNamed B.named
  have hlocks := B.notSynchronized
  subst hsz
  have hw := wk.start hP hD
  refine k_start (by rfl) hav (Nat.le_of_ble_eq_true rfl) (fun ls hl => ?_)
  have hl : lv_has ls 1 [(0, .int v)] := hl
  refine lv_iload_n hx hb dJ6_valueOf_2dffe_0 rfl (lv_at hl 0 rfl) ?_
  refine lv_bipush (v := (-128)) hx hb dJ6_valueOf_2dffe_1 (by decide) ?_
  refine lv_icmp_lt (tgt := 23) hx hb dJ6_valueOf_2dffe_3 (by decide) (fun h => absurd h h1) (fun _ => ?_)
  refine lv_iload_n hx hb dJ6_valueOf_2dffe_6 rfl (lv_at hl 0 rfl) ?_
  refine va_gets hx hb hO.2.2.2.2.2.2.1.1 hw.2.2 hown (hts _ w_f_J6_191) (fun _ h9 => h9) dJ6_valueOf_2dffe_7 ?_
  refine lv_icmp_gt (tgt := 23) hx hb dJ6_valueOf_2dffe_10 (by decide) (fun h => absurd h h2) (fun _ => ?_)
  refine va_gets hx hb hO.2.2.2.2.2.2.1.2.1 hw.2.2 hown (hts _ w_f_J6_195) (fun _ h9 => h9) dJ6_valueOf_2dffe_13 ?_
  refine lv_iload_n hx hb dJ6_valueOf_2dffe_16 rfl (lv_at hl 0 rfl) ?_
  refine lv_sipush (v := 128) hx hb dJ6_valueOf_2dffe_17 (by decide) ?_
  refine lv_iadd hx hb dJ6_valueOf_2dffe_20 ?_
  refine vb_tq hx hb hO.2.2.2.2.2.2.1.2.2.1 hw.2.2 (vo_in h1 h2) rfl dJ6_valueOf_2dffe_21 ?_
  exact k_rret hx hb hr (Or.inl ⟨_, rfl⟩) hlocks hw rfl rfl dJ6_valueOf_2dffe_22

abbrev rm_J6_valueOf_2dffe_b : Room := { frames := 3, cells := 1, slots := 1, locals := 53 }
set_option maxHeartbeats 1000000 in
theorem ct_J6_valueOf_2dffe_b {l : Launch} {D : va_G} {cI cG cJ cO : ClassId} {K0 : Nat → Nat} {A : Nat → Prop} {L : List (Nat × Nat)} {ad : Nat → Nat → Nat} {ce : Nat → Nat → va_E} {k : Nat} {v : Int32} (h1 : ¬ v < -128) (h2 : 127 < v) (hn : (52, k) ∉ L) (sz : Nat) (hA : ∀ q, sz ≤ q → A q) : Met l yJ6_valueOf_2dffe bw_J6_valueOf_2dffe rm_J6_valueOf_2dffe_b (kP D (ktys cI cG cJ cO) K0 A L ad ce sz [.int v]) (kQn D A (L ++ [(52, k)]) (fun q => q) (fun q => upa ad 52 k q) (fun _ => up2 ce 52 k (.inr (0, [.int v])))) 1 1 A := by
  refine Met.ofW (cc := cJ6_valueOf_2dffe) (maxL := 1) (ret := (some (.object "java/lang/Integer"))) (by decide) rfl ?_
  intro p e s m args below meth c s₁ B hml hv
  obtain ⟨hav, hsz, hP, hD, hK, hO⟩ := hv
  have hx := B.exec
  have hb := B.bytes
  have hr := B.returns
  have hts : ∀ w ∈ BIG, w.before args s = true := fun w h => atoms_spec (ws := bw_J6_valueOf_2dffe) B.pre w (List.mem_cons_of_mem _ h)
  have hown : s.vm.findClass RJ6 = some m.cls := findClass_of_methodNamed B.named
  have hlocks := B.notSynchronized
  subst hsz
  have hw := wk.start hP hD
  refine k_start (by rfl) hav (Nat.le_of_ble_eq_true rfl) (fun ls hl => ?_)
  have hl : lv_has ls 1 [(0, .int v)] := hl
  refine lv_iload_n hx hb dJ6_valueOf_2dffe_0 rfl (lv_at hl 0 rfl) ?_
  refine lv_bipush (v := (-128)) hx hb dJ6_valueOf_2dffe_1 (by decide) ?_
  refine lv_icmp_lt (tgt := 23) hx hb dJ6_valueOf_2dffe_3 (by decide) (fun h => absurd h h1) (fun _ => ?_)
  refine lv_iload_n hx hb dJ6_valueOf_2dffe_6 rfl (lv_at hl 0 rfl) ?_
  refine va_gets hx hb hO.2.2.2.2.2.2.1.1 hw.2.2 hown (hts _ w_f_J6_191) (fun _ h9 => h9) dJ6_valueOf_2dffe_7 ?_
  refine lv_icmp_gt (tgt := 23) hx hb dJ6_valueOf_2dffe_10 (by decide) (fun _ => ?_) (fun h => absurd h2 h)
  refine k_new (C := RJ6) (T := TJ6) (N := 1) (ci := 0) (fs := [.int 0]) hx hb hts inB_J6 tyJ6 tyJ6_ok hown (hts _ w_cl_J6_1) (hts _ w_is_J6) (hts _ w_in_J6) hK hw hA rfl (fun j hj => match j, hj with | 0, _ => rfl | n + 1, h => absurd h (by omega)) (Nat.le_of_ble_eq_true rfl) (Nat.le_of_ble_eq_true rfl) 52 k hn dJ6_valueOf_2dffe_23 (fun q H hw => ?_)
  refine lv_dup hx hb dJ6_valueOf_2dffe_26 rfl ?_
  refine lv_iload_n hx hb dJ6_valueOf_2dffe_27 rfl (lv_at hl 0 rfl) ?_
  refine k_cv0 hw (k_rI (As := [.int v]) (rest := [.ref (upa ad 52 k q 52 k)]) ⟨hx, hb, hml, hown, hts⟩ hK hO hw (ct_J6_init_d00df (List.mem_append_right _ (List.mem_singleton_self _)) up2_eq _ (wk.hA hw hA)) (cwI 1 hts (gB_0 w_co_J6_init_d00df) rfl rfl rfl (hts _ w_in_J6) (hts _ w_ml_J6_199) (hts _ w_im_J6_init_d00df) rfl (by decide +kernel) ⟨by decide, by decide⟩) rfl hl.1 rfl (Nat.le_of_ble_eq_true rfl) dJ6_valueOf_2dffe_28 ⟨Nat.le_of_ble_eq_true rfl, Nat.le_of_ble_eq_true rfl⟩) (fun H locs hw => ?_)
  exact k_rretn q hx hb hr (Or.inl ⟨_, rfl⟩) hlocks hw upa_eq.symm (up2_up2).symm (Nat.le_refl _) (Nat.le_refl _) dJ6_valueOf_2dffe_31

abbrev bw_J8_newLength_cabcc : List Cond := .code yJ8_newLength_cabcc cJ8_newLength_cabcc 4 (some .int) :: BIG
abbrev rm_J8_newLength_cabcc : Room := { frames := 1, cells := 0, slots := 0, locals := 21 }
set_option maxHeartbeats 1000000 in
theorem ct_J8_newLength_cabcc {l : Launch} {D : va_G} {cI cG cJ cO : ClassId} {K0 : Nat → Nat} {A : Nat → Prop} {L : List (Nat × Nat)} {ad : Nat → Nat → Nat} {ce : Nat → Nat → va_E} {x y z r : Int32} (hr0 : x + (if y < z then z else y) = r) (h1 : ¬ r ≤ 0) (h2 : ¬ 2147483639 < r) (sz : Nat) (hA : ∀ q, sz ≤ q → A q) : Met l yJ8_newLength_cabcc bw_J8_newLength_cabcc rm_J8_newLength_cabcc (kP D (ktys cI cG cJ cO) K0 A L ad ce sz [.int x, .int y, .int z]) (kQi D A r L ad ce) 0 0 A := by
  refine Met.ofW (cc := cJ8_newLength_cabcc) (maxL := 4) (ret := (some .int)) (by decide) rfl ?_
  intro p e s m args below meth c s₁ B hml hv
  obtain ⟨hav, hsz, hP, hD, hK, hO⟩ := hv
  have hx := B.exec
  have hb := B.bytes
  have hr := B.returns
  have hts : ∀ w ∈ BIG, w.before args s = true := fun w h => atoms_spec (ws := bw_J8_newLength_cabcc) B.pre w (List.mem_cons_of_mem _ h)
  have hown : s.vm.findClass RJ8 = some m.cls := findClass_of_methodNamed B.named
  have hlocks := B.notSynchronized
  subst hsz
  have hw := wk.start hP hD
  refine k_start (by rfl) hav (Nat.le_of_ble_eq_true rfl) (fun ls hl => ?_)
  have hl : lv_has ls 4 [(0, .int x), (1, .int y), (2, .int z)] := hl
  refine lv_iload_n hx hb dJ8_newLength_cabcc_0 rfl (lv_at hl 0 rfl) ?_
  refine lv_iload_n hx hb dJ8_newLength_cabcc_1 rfl (lv_at hl 1 rfl) ?_
  refine lv_iload_n hx hb dJ8_newLength_cabcc_2 rfl (lv_at hl 2 rfl) ?_
  refine va_mmax hx hb (hml.trans hl.1.symm) hown (hts _ w_ml_J8_194) (hts _ w_st_max) (hts _ w_in_J9) (hts _ w_co_max) (by decide) (Nat.le_of_ble_eq_true rfl) (Nat.zero_le _) (Nat.zero_le _) dJ8_newLength_cabcc_3 ?_
  refine lv_iadd hx hb dJ8_newLength_cabcc_6 ?_
  rw [hr0]
  refine lv_istore_n (lv' := [(3, .int r), (0, .int x), (1, .int y), (2, .int z)]) hx hb dJ8_newLength_cabcc_7 rfl hl (by decide) rfl (fun ls hl => ?_)
  refine lv_iconst (v := 0) hx hb dJ8_newLength_cabcc_8 (by decide) ?_
  refine lv_iload_n hx hb dJ8_newLength_cabcc_9 rfl (lv_at hl 0 rfl) ?_
  refine lv_icmp_ge (tgt := 21) hx hb dJ8_newLength_cabcc_10 (by decide) (fun h => absurd h h1) (fun _ => ?_)
  refine lv_iload_n hx hb dJ8_newLength_cabcc_13 rfl (lv_at hl 0 rfl) ?_
  refine lv_ldc hx hb hown (hts _ w_ct_J8_200) dJ8_newLength_cabcc_14 ?_
  refine lv_icmp_gt (tgt := 21) hx hb dJ8_newLength_cabcc_16 (by decide) (fun h => absurd h h2) (fun _ => ?_)
  refine lv_iload_n hx hb dJ8_newLength_cabcc_19 rfl (lv_at hl 0 rfl) ?_
  exact k_iret hx hb hr hlocks rfl hw rfl rfl dJ8_newLength_cabcc_20

section COPY
variable {p : Program} {l : Launch} {e : Env} {R : Room} {s : State} {m : MethodId} {args : Array Value} {below : List Frame} {meth : Method} {c : Code} {H : Heap} {locs : List Loc} {cells slots : Nat} {Q : State → Prop} {cc : ByteArray} {pc : Nat} {ls : Array Slot} {rest st0 : List Value} {D : va_G} {A : Nat → Prop} {tys : List (ClassId × FieldType)} {K0 : Nat → Nat} {H0 : Heap} {L L' : List (Nat × Nat)} {ad ad' : Nat → Nat → Nat} {ce ce' : Nat → Nat → va_E} {cI cG cJ cO : ClassId} {mc ms : Nat}
theorem nI_min {n n2 : Nat} (h : n ≤ n2) (h2 : n2 < 2 ^ 31) : (if nI n2 < nI n then nI n2 else nI n) = nI n := by
  by_cases c : nI n2 < nI n
  · exact absurd c (nI_nlt h h2)
  · first | rw [if_neg c] | (by_cases c2 : nI n ≤ nI n2; rw [if_pos c2]; exact absurd (nI_le h h2) c2)
theorem k_alen2 (hx : p.tables.exec = Jvm.exec) (hb : c.code = cc) (hK : va_K D vwCl tys s) (hw : wk D A L ad ce H0 H locs) {f o a : Nat} (hi : (f, o) ∈ L) (ha : ad f o = a) (t0 : Nat) {cA : ClassId} {n : Nat} {g : (Nat → Int32) ⊕ (Nat → Int64) ⊕ (Nat → UInt32) ⊕ (Nat → UInt64) ⊕ (Nat → Option Nat)} (he : ce f o = .inl (cA, n, g)) {ty : FieldType} (ht : tys[t0]? = some (cA, ty)) (hdg : decode cc pc = .ok (.arraylength, 1))
    (kk : W p l e R s m args below meth c H locs cells slots Q (F0 m (pc + 1) ls (.int (nI n) :: rest))) : W p l e R s m args below meth c H locs cells slots Q (F0 m pc ls (.ref a :: rest)) := by
  subst ha; exact k_alen hx hb hK hw hi t0 he ht hdg kk
/-- a copy of a whole row into a longer one -/
theorem k_copy (hx : p.tables.exec = Jvm.exec) (hb : c.code = cc) (hml : c.maxLocals = ls.size) {own : String} {index : Nat} (hown : s.vm.findClass own = some m.cls) (hlink : (Cond.methodLink own index arraycopyName).before args s = true) (hnat : (Cond.native arraycopyName).before args s = true) (hstat : (Cond.static arraycopyName).before args s = true) (hini : (Cond.initialized "java/lang/System").before args s = true)
    (hK : va_K D vwCl tys s) (hw : wk D A L ad ce H0 H locs) {f o f1 o1 a0 a1 : Nat} (hi : (f, o) ∈ L) (hi1 : (f1, o1) ∈ L) (ha : ad f o = a0) (ha1 : ad f1 o1 = a1) (t0 t1 : Nat) {c0 c1 : ClassId} {n n2 : Nat} {g h : Nat → Option Nat} {E0 E1 : String} (he : ce f o = .inl (c0, n, .inr (.inr (.inr (.inr g))))) (he1 : ce f1 o1 = .inl (c1, n2, .inr (.inr (.inr (.inr h))))) (ht0 : tys[t0]? = some (c0, .object E0)) (ht1 : tys[t1]? = some (c1, .object E1)) (hn : n ≤ n2) (hn2 : n2 < 2 ^ 31) (hel : ∀ k y, k < n → g k = some y → va_Any E1 s H y)
    (hframes : 1 ≤ R.frames) (hlocals : (rest.map fun v => v.category).sum + (nativeFrameWords "java/lang/System" "arraycopy" 5 + 11) ≤ R.locals) (hdg : decode cc pc = .ok (.invokestatic index, 3))
    (kk : ∀ (H1 : Heap) (locs1 : List Loc), wk D A L ad (up2 ce f1 o1 (.inl (c1, n2, .inr (.inr (.inr (.inr (va_cpy g h 0 0 n))))))) H0 H1 locs1 → W p l e R s m args below meth c H1 locs1 cells slots Q (F0 m (pc + 3) ls rest)) : W p l e R s m args below meth c H locs cells slots Q (F0 m pc ls (.int (nI n) :: .int 0 :: .ref a1 :: .int 0 :: .ref a0 :: rest)) := by
  subst ha; subst ha1
  obtain ⟨q, hq⟩ := wl_in hi
  obtain ⟨q1, hq1⟩ := wl_in hi1
  have hz : (0 : Int32).toNatClampNeg = 0 := rfl
  have hnn : (nI n).toNatClampNeg = n := nI_clamp (by omega)
  refine va_copyM hx hb hml hown hlink hnat hstat hini hK hw.1 hw.2.1 hw.2.2 q q1 t0 t1 ((wl_at hq).trans (by rw [he])) ((wl_at hq1).trans (by rw [he1])) ht0 ht1 (by decide) (by decide) (nI_nlt (a := n) (b := 0) (Nat.zero_le _) (by omega)) (by rw [hz, hnn]; omega) (by rw [hz, hnn]; omega) (fun i hi y hy => ?_) hframes hlocals hdg (fun H1 locs1 h1 h2 h3 => kk H1 locs1 ⟨?_, ?_, h3⟩)
  · rw [hnn] at hi
    rw [hz, Nat.zero_add] at hy
    exact hel i y hi hy
  · rw [hnn, hz, wl_set hw.2.1 hq1] at h1; exact h1
  · rw [hnn, hz, wl_set hw.2.1 hq1] at h2; exact h2
end COPY

abbrev bw_J7_copyOf_6403c : List Cond := .code yJ7_copyOf_6403c cJ7_copyOf_6403c 4 (some (.array (.object "java/lang/Object"))) :: BIG
abbrev rm_J7_copyOf_6403c : Room := { frames := 2, cells := 1, slots := 22, locals := 40 }
set_option maxHeartbeats 1000000 in
theorem ct_J7_copyOf_6403c {l : Launch} {D : va_G} {cI cG cJ cO : ClassId} {K0 : Nat → Nat} {A : Nat → Prop} {L : List (Nat × Nat)} {ad : Nat → Nat → Nat} {ce : Nat → Nat → va_E} {bf nf ab n n2 : Nat} {g : Nat → Option Nat} (hbf : (bf, 0) ∈ L) (hab : ad bf 0 = ab) (hcb : ce bf 0 = .inl (cO, n, .inr (.inr (.inr (.inr (g)))))) (hnf : (nf, 0) ∉ L) (hn : n ≤ n2) (h22 : n2 ≤ 22) (hel : ∀ k y, k < n → g k = some y → EL K0 L ad ce y) (sz : Nat) (hA : ∀ q, sz ≤ q → A q) : Met l yJ7_copyOf_6403c bw_J7_copyOf_6403c rm_J7_copyOf_6403c (kP D (ktys cI cG cJ cO) K0 A L ad ce sz [.ref ab, .int (nI n2), .ref (K0 300)]) (kQn D A (L ++ [(nf, 0)]) (fun q => q) (fun q => upa ad nf 0 q) (fun _ => up2 ce nf 0 (.inl (cO, n2, .inr (.inr (.inr (.inr (va_cpy g (fun _ => none) 0 0 n)))))))) 1 22 A := by
  refine Met.ofW (cc := cJ7_copyOf_6403c) (maxL := 4) (ret := (some (.array (.object "java/lang/Object")))) (by decide) rfl ?_
  intro p e s m args below meth c s₁ B hml hv
  obtain ⟨hav, hsz, hP, hD, hK, hO⟩ := hv
  have hx := B.exec
  have hb := B.bytes
  have hr := B.returns
  have hts : ∀ w ∈ BIG, w.before args s = true := fun w h => atoms_spec (ws := bw_J7_copyOf_6403c) B.pre w (List.mem_cons_of_mem _ h)
  have hown : s.vm.findClass RJ7 = some m.cls := findClass_of_methodNamed B.named
  have hlocks := B.notSynchronized
  subst hsz
  have hw := wk.start hP hD
  refine k_start (by rfl) hav (Nat.le_of_ble_eq_true rfl) (fun ls hl => ?_)
  have hl : lv_has ls 4 [(0, .ref ab), (1, .int (nI n2)), (2, .ref (K0 300))] := hl
  have hne : bf ≠ nf := fun z => hnf (z ▸ hbf)
  refine lv_aload_n hx hb dJ7_copyOf_6403c_0 rfl (lv_at hl 2 rfl) ?_
  refine va_ldcM hx hb hown (hts _ w_cl_J7_110) hO.2.2.2.1.2.2 dJ7_copyOf_6403c_1 ?_
  refine lv_acmp_ne (rx := some (K0 300)) (ry := some (K0 300)) (tgt := 13) hx hb dJ7_copyOf_6403c_3 (by decide) (fun h => absurd rfl h) (fun _ => ?_)
  refine lv_iload_n hx hb dJ7_copyOf_6403c_6 rfl (lv_at hl 1 rfl) ?_
  refine k_newq hx hb hown (hts _ w_cl_J7_2) hO.2.2.2.2.1.2 hK hw hA 3 rfl (n := nI n2) (N' := n2) (nI_nlt (a := n2) (b := 0) (Nat.zero_le _) (by omega)) (nI_clamp (by omega)) (by omega) (Nat.le_of_ble_eq_true rfl) (show 0 + n2 ≤ 22 from by omega) nf 0 hnf dJ7_copyOf_6403c_7 (fun q H hw => ?_)
  have e1 : upa ad nf 0 q bf 0 = ab := (upa_ne (i := (bf, 0)) (fun z => hne (congrArg Prod.fst z))).trans hab
  refine lv_goto (tgt := 24) hx hb dJ7_copyOf_6403c_10 (by decide) ?_
  refine lv_astore_n (lv' := [(3, .ref (upa ad nf 0 q nf 0)), (0, .ref ab), (1, .int (nI n2)), (2, .ref (K0 300))]) hx hb dJ7_copyOf_6403c_24 rfl hl (by decide) rfl (fun ls hl => ?_)
  refine lv_aload_n hx hb dJ7_copyOf_6403c_25 rfl (lv_at hl 1 rfl) ?_
  refine lv_iconst (v := 0) hx hb dJ7_copyOf_6403c_26 (by decide) ?_
  refine lv_aload_n hx hb dJ7_copyOf_6403c_27 rfl (lv_at hl 0 rfl) ?_
  refine lv_iconst (v := 0) hx hb dJ7_copyOf_6403c_28 (by decide) ?_
  refine lv_aload_n hx hb dJ7_copyOf_6403c_29 rfl (lv_at hl 1 rfl) ?_
  have hwb : up2 ce nf 0 (.inl (cO, n2, .inr (.inr (.inr (.inr (fun _ => none)))))) bf 0 = .inl (cO, n, .inr (.inr (.inr (.inr (g))))) := (up2_n hne).trans hcb
  refine k_alen2 hx hb hK hw (List.mem_append_left _ hbf) e1 3 hwb rfl dJ7_copyOf_6403c_30 ?_
  refine lv_iload_n hx hb dJ7_copyOf_6403c_31 rfl (lv_at hl 2 rfl) ?_
  refine va_mmin hx hb (hml.trans hl.1.symm) hown (hts _ w_ml_J7_304) (hts _ w_st_min) (hts _ w_in_J9) (hts _ w_co_min) (by decide) (Nat.le_of_ble_eq_true rfl) (Nat.le_of_ble_eq_true rfl) (show 0 + n2 ≤ 22 from by omega) dJ7_copyOf_6403c_32 ?_
  rw [nI_min hn (by omega)]
  refine k_copy hx hb (hml.trans hl.1.symm) hown (hts _ w_ml_J7_150) (hts _ w_na_ac) (hts _ w_st_ac) (hts _ w_in_J10) hK hw (List.mem_append_left _ hbf) (List.mem_append_right _ (List.mem_singleton_self _)) e1 rfl 3 3 hwb up2_eq rfl rfl hn (by omega) (fun k y hk hy => EL.any hK hO hw ((hel k y hk hy).push hnf)) (Nat.le_of_ble_eq_true rfl) (Nat.le_of_ble_eq_true rfl) dJ7_copyOf_6403c_35 (fun H locs hw => ?_)
  refine lv_aload_n hx hb dJ7_copyOf_6403c_38 rfl (lv_at hl 0 rfl) ?_
  exact k_rretn q hx hb hr (Or.inr ⟨_, rfl⟩) hlocks hw upa_eq.symm up2_up2.symm (Nat.le_refl _) (show 0 + n2 ≤ 22 from by omega) dJ7_copyOf_6403c_39

abbrev bw_J7_copyOf_1904c : List Cond := .code yJ7_copyOf_1904c cJ7_copyOf_1904c 2 (some (.array (.object "java/lang/Object"))) :: BIG
abbrev rm_J7_copyOf_1904c : Room := { frames := 3, cells := 1, slots := 22, locals := 63 }
set_option maxHeartbeats 1000000 in
theorem ct_J7_copyOf_1904c {l : Launch} {D : va_G} {cI cG cJ cO : ClassId} {K0 : Nat → Nat} {A : Nat → Prop} {L : List (Nat × Nat)} {ad : Nat → Nat → Nat} {ce : Nat → Nat → va_E} {bf nf ab n n2 : Nat} {g : Nat → Option Nat} (hbf : (bf, 0) ∈ L) (hab : ad bf 0 = ab) (hcb : ce bf 0 = .inl (cO, n, .inr (.inr (.inr (.inr (g)))))) (hnf : (nf, 0) ∉ L) (hn : n ≤ n2) (h22 : n2 ≤ 22) (hel : ∀ k y, k < n → g k = some y → EL K0 L ad ce y) (sz : Nat) (hA : ∀ q, sz ≤ q → A q) : Met l yJ7_copyOf_1904c bw_J7_copyOf_1904c rm_J7_copyOf_1904c (kP D (ktys cI cG cJ cO) K0 A L ad ce sz [.ref ab, .int (nI n2)]) (kQn D A (L ++ [(nf, 0)]) (fun q => q) (fun q => upa ad nf 0 q) (fun _ => up2 ce nf 0 (.inl (cO, n2, .inr (.inr (.inr (.inr (va_cpy g (fun _ => none) 0 0 n)))))))) 1 22 A := by
  refine Met.ofW (cc := cJ7_copyOf_1904c) (maxL := 2) (ret := (some (.array (.object "java/lang/Object")))) (by decide) rfl ?_
  intro p e s m args below meth c s₁ B hml hv
  obtain ⟨hav, hsz, hP, hD, hK, hO⟩ := hv
  have hx := B.exec
  have hb := B.bytes
  have hr := B.returns
  have hts : ∀ w ∈ BIG, w.before args s = true := fun w h => atoms_spec (ws := bw_J7_copyOf_1904c) B.pre w (List.mem_cons_of_mem _ h)
  have hown : s.vm.findClass RJ7 = some m.cls := findClass_of_methodNamed B.named
  have hlocks := B.notSynchronized
  subst hsz
  have hw := wk.start hP hD
  refine k_start (by rfl) hav (Nat.le_of_ble_eq_true rfl) (fun ls hl => ?_)
  have hl : lv_has ls 2 [(0, .ref ab), (1, .int (nI n2))] := hl
  refine lv_aload_n hx hb dJ7_copyOf_1904c_0 rfl (lv_at hl 0 rfl) ?_
  refine lv_iload_n hx hb dJ7_copyOf_1904c_1 rfl (lv_at hl 1 rfl) ?_
  refine lv_aload_n hx hb dJ7_copyOf_1904c_2 rfl (lv_at hl 0 rfl) ?_
  have hcell := wk.row hK hw hbf hcb
  rw [hab] at hcell
  refine va_getC hx hb (hml.trans hl.1.symm) hown (hts _ w_ml_J7_86) ((hO.2.2.1 _ w_de_gc).use rfl) (hts _ w_se_gc) (hts _ w_im_gc) (hts _ w_na_gc) hO.2.2.2.1.2.2 hcell (Nat.le_of_ble_eq_true rfl) (Nat.le_of_ble_eq_true rfl) dJ7_copyOf_1904c_3 ?_
  refine k_crn hw (k_rS (As := [.ref ab, .int (nI n2), .ref (K0 300)]) (rest := []) ⟨hx, hb, hml, hown, hts⟩ hK hO hw (ct_J7_copyOf_6403c hbf hab hcb hnf hn h22 hel _ (wk.hA hw hA)) (va_cwS 3 hts (gB_S w_ml_J7_300 w_st_J7_copyOf_6403c w_in_J7 w_co_J7_copyOf_6403c) rfl rfl rfl (by decide +kernel) ⟨by decide, by decide⟩) rfl hl.1 rfl (Nat.le_of_ble_eq_true rfl) dJ7_copyOf_1904c_6 ⟨Nat.le_of_ble_eq_true rfl, Nat.le_of_ble_eq_true rfl⟩) (fun q H locs hw => ?_)
  exact k_rretn q hx hb hr (Or.inr ⟨_, rfl⟩) hlocks hw rfl rfl (Nat.le_refl _) (Nat.le_refl _) dJ7_copyOf_1904c_9

abbrev bw_Jx4a65c_grow_92f84 : List Cond := .code yJx4a65c_grow_92f84 cJx4a65c_grow_92f84 4 (some (.array (.object "java/lang/Object"))) :: BIG
abbrev rm_Jx4a65c_grow_92f84_e : Room := { frames := 1, cells := 1, slots := 22, locals := 21 }
set_option maxHeartbeats 1000000 in
theorem ct_Jx4a65c_grow_92f84_e {l : Launch} {D : va_G} {cI cG cJ cO : ClassId} {K0 : Nat → Nat} {A : Nat → Prop} {L : List (Nat × Nat)} {ad : Nat → Nat → Nat} {ce : Nat → Nat → va_E} {lf nf al : Nat} {mo : Int32} (hll : (lf, 0) ∈ L) (hal : ad lf 0 = al) (hnf : (nf, 0) ∉ L) (hcl : ce lf 0 = .inr (2, [.int mo, .ref (K0 0), .int 0])) (sz : Nat) (hA : ∀ q, sz ≤ q → A q) : Met l yJx4a65c_grow_92f84 bw_Jx4a65c_grow_92f84 rm_Jx4a65c_grow_92f84_e (kP D (ktys cI cG cJ cO) K0 A L ad ce sz [.ref al, .int 1]) (kQn D A (L ++ [(nf, 0)]) (fun q => q) (fun q => upa ad nf 0 q) (fun q => up2 (up2 ce lf 0 (.inr (2, [.int mo, .ref q, .int 0]))) nf 0 (.inl (cO, 10, .inr (.inr (.inr (.inr (fun _ => none)))))))) 1 22 A := by
  refine Met.ofW (cc := cJx4a65c_grow_92f84) (maxL := 4) (ret := (some (.array (.object "java/lang/Object")))) (by decide) rfl ?_
  intro p e s m args below meth c s₁ B hml hv
  obtain ⟨hav, hsz, hP, hD, hK, hO⟩ := hv
  have hx := B.exec
  have hb := B.bytes
  have hr := B.returns
  have hts : ∀ w ∈ BIG, w.before args s = true := fun w h => atoms_spec (ws := bw_Jx4a65c_grow_92f84) B.pre w (List.mem_cons_of_mem _ h)
  have hown : s.vm.findClass RJx4a65c = some m.cls := findClass_of_methodNamed B.named
  have hlocks := B.notSynchronized
  subst hsz
  have hw := wk.start hP hD
  refine k_start (by rfl) hav (Nat.le_of_ble_eq_true rfl) (fun ls hl => ?_)
  have hl : lv_has ls 4 [(0, .ref al), (1, .int 1)] := hl
  have hne : lf ≠ nf := fun z => hnf (z ▸ hll)
  refine lv_aload_n hx hb dJx4a65c_grow_92f84_0 rfl (lv_at hl 0 rfl) ?_
  refine k_get2 (C := RJx4a65c) (T := TJx4a65c) (N := 3) (v := .ref (K0 0)) hx hb hts inB_Jx4a65c hown hK hw hll hal hcl rfl 1 (by decide) (hts _ w_f_Jx4a65c_9) (fun _ h9 => h9) rfl dJx4a65c_grow_92f84_1 ?_
  refine va_tlen (v := 0) hx hb hO.2.2.2.2.2.1.2 hw.2.2 rfl dJx4a65c_grow_92f84_4 ?_
  refine lv_istore_n (lv' := [(2, .int 0), (0, .ref al), (1, .int 1)]) hx hb dJx4a65c_grow_92f84_5 rfl hl (by decide) rfl (fun ls hl => ?_)
  refine lv_iload_n hx hb dJx4a65c_grow_92f84_6 rfl (lv_at hl 0 rfl) ?_
  refine lv_if_gt (tgt := 20) hx hb dJx4a65c_grow_92f84_7 (by decide) (fun h => absurd h (by decide)) (fun _ => ?_)
  refine lv_aload_n hx hb dJx4a65c_grow_92f84_10 rfl (lv_at hl 1 rfl) ?_
  refine k_get2 (C := RJx4a65c) (T := TJx4a65c) (N := 3) (v := .ref (K0 0)) hx hb hts inB_Jx4a65c hown hK hw hll hal hcl rfl 1 (by decide) (hts _ w_f_Jx4a65c_9) (fun _ h9 => h9) rfl dJx4a65c_grow_92f84_11 ?_
  refine va_gets hx hb hO.2.2.2.2.2.1.1 hw.2.2 hown (hts _ w_f_Jx4a65c_39) (fun _ h9 => h9) dJx4a65c_grow_92f84_14 ?_
  refine lv_acmp_eq (rx := some (K0 0)) (ry := some (K0 0)) (tgt := 45) hx hb dJx4a65c_grow_92f84_17 (by decide) (fun _ => ?_) (fun h => absurd rfl h)
  refine lv_aload_n hx hb dJx4a65c_grow_92f84_45 rfl (lv_at hl 1 rfl) ?_
  refine lv_bipush (v := 10) hx hb dJx4a65c_grow_92f84_46 (by decide) ?_
  refine lv_iload_n hx hb dJx4a65c_grow_92f84_48 rfl (lv_at hl 2 rfl) ?_
  refine va_mmax hx hb (hml.trans hl.1.symm) hown (hts _ w_ml_Jx4a65c_79) (hts _ w_st_max) (hts _ w_in_J9) (hts _ w_co_max) (by decide) (Nat.le_of_ble_eq_true rfl) (Nat.zero_le _) (Nat.zero_le _) dJx4a65c_grow_92f84_49 ?_
  rw [if_neg (by decide)]
  refine k_newq hx hb hown (hts _ w_cl_Jx4a65c_7) hO.2.2.2.2.1.2 hK hw hA 3 rfl (n := 10) (N' := 10) (by decide) (by decide) (Nat.le_of_ble_eq_true rfl) (Nat.le_of_ble_eq_true rfl) (Nat.le_of_ble_eq_true rfl) nf 0 hnf dJx4a65c_grow_92f84_52 (fun q H hw => ?_)
  have e1 : upa ad nf 0 q lf 0 = al := (upa_ne (i := (lf, 0)) (fun z => hne (congrArg Prod.fst z))).trans hal
  rw [upa_eq]
  refine lv_dup_x1 hx hb dJx4a65c_grow_92f84_55 rfl rfl ?_
  refine k_put2 (C := RJx4a65c) (T := TJx4a65c) (N := 3) (v := .ref q) (ty := (.array (.object "java/lang/Object"))) hx hb hts inB_Jx4a65c tyJx4a65c tyJx4a65c_ok nmJx4a65c hown hK hw (List.mem_append_left _ hll) e1 ((up2_n hne).trans hcl) rfl 1 (by decide) (hts _ w_f_Jx4a65c_9) (fun _ h9 => h9) rfl (by decide +kernel) rfl rfl (Nat.le_of_ble_eq_true rfl) dJx4a65c_grow_92f84_56 (fun H locs hw => ?_)
  exact k_rretn q hx hb hr (Or.inr ⟨_, rfl⟩) hlocks hw rfl (up2_comm hne) (Nat.le_refl _) (Nat.le_of_ble_eq_true rfl) dJx4a65c_grow_92f84_59

abbrev rm_Jx4a65c_grow_92f84_c : Room := { frames := 4, cells := 1, slots := 22, locals := 84 }
set_option maxHeartbeats 1000000 in
theorem ct_Jx4a65c_grow_92f84_c {l : Launch} {D : va_G} {cI cG cJ cO : ClassId} {K0 : Nat → Nat} {A : Nat → Prop} {L : List (Nat × Nat)} {ad : Nat → Nat → Nat} {ce : Nat → Nat → va_E} {lf nf al bf ab n n2 : Nat} {mo : Int32} {g : Nat → Option Nat} (hll : (lf, 0) ∈ L) (hal : ad lf 0 = al) (hnf : (nf, 0) ∉ L) (hcl : ce lf 0 = .inr (2, [.int mo, .ref ab, .int (nI n)])) (hbf : (bf, 0) ∈ L) (hab : ad bf 0 = ab) (hcb : ce bf 0 = .inl (cO, n, .inr (.inr (.inr (.inr (g)))))) (hn : n = 10 ∧ n2 = 15 ∨ n = 15 ∧ n2 = 22) (hel : ∀ k y, k < n → g k = some y → EL K0 L ad ce y) (sz : Nat) (hA : ∀ q, sz ≤ q → A q) : Met l yJx4a65c_grow_92f84 bw_Jx4a65c_grow_92f84 rm_Jx4a65c_grow_92f84_c (kP D (ktys cI cG cJ cO) K0 A L ad ce sz [.ref al, .int (nI (n + 1))]) (kQn D A (L ++ [(nf, 0)]) (fun q => q) (fun q => upa ad nf 0 q) (fun q => up2 (up2 ce lf 0 (.inr (2, [.int mo, .ref q, .int (nI n)]))) nf 0 (.inl (cO, n2, .inr (.inr (.inr (.inr (va_cpy g (fun _ => none) 0 0 n)))))))) 1 22 A := by
  refine Met.ofW (cc := cJx4a65c_grow_92f84) (maxL := 4) (ret := (some (.array (.object "java/lang/Object")))) (by decide) rfl ?_
  intro p e s m args below meth c s₁ B hml hv
  obtain ⟨hav, hsz, hP, hD, hK, hO⟩ := hv
  have hx := B.exec
  have hb := B.bytes
  have hr := B.returns
  have hts : ∀ w ∈ BIG, w.before args s = true := fun w h => atoms_spec (ws := bw_Jx4a65c_grow_92f84) B.pre w (List.mem_cons_of_mem _ h)
  have hown : s.vm.findClass RJx4a65c = some m.cls := findClass_of_methodNamed B.named
  have hlocks := B.notSynchronized
  subst hsz
  have hw := wk.start hP hD
  refine k_start (by rfl) hav (Nat.le_of_ble_eq_true rfl) (fun ls hl => ?_)
  have hl : lv_has ls 4 [(0, .ref al), (1, .int (nI (n + 1)))] := hl
  have hne : lf ≠ nf := fun z => hnf (z ▸ hll)
  have f0 : 0 < nI n := by rcases hn with ⟨rfl, rfl⟩ | ⟨rfl, rfl⟩ <;> decide
  have f1 : nI n + (if nI (n + 1) - nI n < nI n >>> (1 &&& 31) then nI n >>> (1 &&& 31) else nI (n + 1) - nI n) = nI n2 := by rcases hn with ⟨rfl, rfl⟩ | ⟨rfl, rfl⟩ <;> decide
  have f2 : ¬ nI n2 ≤ 0 ∧ ¬ 2147483639 < nI n2 := by rcases hn with ⟨rfl, rfl⟩ | ⟨rfl, rfl⟩ <;> decide
  refine lv_aload_n hx hb dJx4a65c_grow_92f84_0 rfl (lv_at hl 0 rfl) ?_
  refine k_get2 (C := RJx4a65c) (T := TJx4a65c) (N := 3) (v := .ref ab) hx hb hts inB_Jx4a65c hown hK hw hll hal hcl rfl 1 (by decide) (hts _ w_f_Jx4a65c_9) (fun _ h9 => h9) rfl dJx4a65c_grow_92f84_1 ?_
  refine k_alen2 hx hb hK hw hbf hab 3 hcb rfl dJx4a65c_grow_92f84_4 ?_
  refine lv_istore_n (lv' := [(2, .int (nI n)), (0, .ref al), (1, .int (nI (n + 1)))]) hx hb dJx4a65c_grow_92f84_5 rfl hl (by decide) rfl (fun ls hl => ?_)
  refine lv_iload_n hx hb dJx4a65c_grow_92f84_6 rfl (lv_at hl 0 rfl) ?_
  refine lv_if_gt (tgt := 20) hx hb dJx4a65c_grow_92f84_7 (by decide) (fun _ => ?_) (fun h => absurd f0 h)
  refine lv_iload_n hx hb dJx4a65c_grow_92f84_20 rfl (lv_at hl 0 rfl) ?_
  refine lv_iload_n hx hb dJx4a65c_grow_92f84_21 rfl (lv_at hl 2 rfl) ?_
  refine lv_iload_n hx hb dJx4a65c_grow_92f84_22 rfl (lv_at hl 0 rfl) ?_
  refine lv_isub hx hb dJx4a65c_grow_92f84_23 ?_
  refine lv_iload_n hx hb dJx4a65c_grow_92f84_24 rfl (lv_at hl 0 rfl) ?_
  refine lv_iconst (v := 1) hx hb dJx4a65c_grow_92f84_25 (by decide) ?_
  refine lv_ishr hx hb dJx4a65c_grow_92f84_26 ?_
  refine k_ci0 hw (k_rS (As := [.int (nI n), .int (nI (n + 1) - nI n), .int (nI n >>> (1 &&& 31))]) (rest := []) ⟨hx, hb, hml, hown, hts⟩ hK hO hw (ct_J8_newLength_cabcc f1 f2.1 f2.2 _ (wk.hA hw hA)) (va_cwS 3 hts (gB_S w_ml_Jx4a65c_73 w_st_J8_newLength_cabcc w_in_J8 w_co_J8_newLength_cabcc) rfl rfl rfl (by decide +kernel) ⟨by decide, by decide⟩) rfl hl.1 rfl (Nat.le_of_ble_eq_true rfl) dJx4a65c_grow_92f84_27 ⟨Nat.le_of_ble_eq_true rfl, Nat.le_of_ble_eq_true rfl⟩) (fun H locs hw => ?_)
  refine lv_istore_n (lv' := [(3, .int (nI n2)), (2, .int (nI n)), (0, .ref al), (1, .int (nI (n + 1)))]) hx hb dJx4a65c_grow_92f84_30 rfl hl (by decide) rfl (fun ls hl => ?_)
  refine lv_aload_n hx hb dJx4a65c_grow_92f84_31 rfl (lv_at hl 2 rfl) ?_
  refine lv_aload_n hx hb dJx4a65c_grow_92f84_32 rfl (lv_at hl 2 rfl) ?_
  refine k_get2 (C := RJx4a65c) (T := TJx4a65c) (N := 3) (v := .ref ab) hx hb hts inB_Jx4a65c hown hK hw hll hal hcl rfl 1 (by decide) (hts _ w_f_Jx4a65c_9) (fun _ h9 => h9) rfl dJx4a65c_grow_92f84_33 ?_
  refine lv_iload_n hx hb dJx4a65c_grow_92f84_36 rfl (lv_at hl 0 rfl) ?_
  refine k_crn hw (k_rS (As := [.ref ab, .int (nI n2)]) (rest := [.ref al]) ⟨hx, hb, hml, hown, hts⟩ hK hO hw (ct_J7_copyOf_1904c hbf hab hcb hnf (by omega) (by omega) hel _ (wk.hA hw hA)) (va_cwS 2 hts (gB_S w_ml_Jx4a65c_66 w_st_J7_copyOf_1904c w_in_J7 w_co_J7_copyOf_1904c) rfl rfl rfl (by decide +kernel) ⟨by decide, by decide⟩) rfl hl.1 rfl (Nat.le_of_ble_eq_true rfl) dJx4a65c_grow_92f84_37 ⟨Nat.le_of_ble_eq_true rfl, Nat.le_of_ble_eq_true rfl⟩) (fun q H locs hw => ?_)
  have e1 : upa ad nf 0 q lf 0 = al := (upa_ne (i := (lf, 0)) (fun z => hne (congrArg Prod.fst z))).trans hal
  refine lv_dup_x1 hx hb dJx4a65c_grow_92f84_40 rfl rfl ?_
  refine k_put2 (C := RJx4a65c) (T := TJx4a65c) (N := 3) (v := .ref q) (ty := (.array (.object "java/lang/Object"))) hx hb hts inB_Jx4a65c tyJx4a65c tyJx4a65c_ok nmJx4a65c hown hK hw (List.mem_append_left _ hll) e1 ((up2_n hne).trans hcl) rfl 1 (by decide) (hts _ w_f_Jx4a65c_9) (fun _ h9 => h9) rfl (by decide +kernel) rfl rfl (Nat.le_of_ble_eq_true rfl) dJx4a65c_grow_92f84_41 (fun H locs hw => ?_)
  exact k_rretn q hx hb hr (Or.inr ⟨_, rfl⟩) hlocks hw rfl (up2_comm hne) (Nat.le_refl _) (Nat.le_refl _) dJx4a65c_grow_92f84_44

abbrev bw_Jx4a65c_grow_d5877 : List Cond := .code yJx4a65c_grow_d5877 cJx4a65c_grow_d5877 1 (some (.array (.object "java/lang/Object"))) :: BIG
abbrev rm_Jx4a65c_grow_d5877_e : Room := { frames := 2, cells := 1, slots := 22, locals := 44 }
set_option maxHeartbeats 1000000 in
theorem ct_Jx4a65c_grow_d5877_e {l : Launch} {D : va_G} {cI cG cJ cO : ClassId} {K0 : Nat → Nat} {A : Nat → Prop} {L : List (Nat × Nat)} {ad : Nat → Nat → Nat} {ce : Nat → Nat → va_E} {lf nf al : Nat} {mo : Int32} (hll : (lf, 0) ∈ L) (hal : ad lf 0 = al) (hnf : (nf, 0) ∉ L) (hcl : ce lf 0 = .inr (2, [.int mo, .ref (K0 0), .int 0])) (sz : Nat) (hA : ∀ q, sz ≤ q → A q) : Met l yJx4a65c_grow_d5877 bw_Jx4a65c_grow_d5877 rm_Jx4a65c_grow_d5877_e (kP D (ktys cI cG cJ cO) K0 A L ad ce sz [.ref al]) (kQn D A (L ++ [(nf, 0)]) (fun q => q) (fun q => upa ad nf 0 q) (fun q => up2 (up2 ce lf 0 (.inr (2, [.int mo, .ref q, .int 0]))) nf 0 (.inl (cO, 10, .inr (.inr (.inr (.inr (fun _ => none)))))))) 1 22 A := by
  refine Met.ofW (cc := cJx4a65c_grow_d5877) (maxL := 1) (ret := (some (.array (.object "java/lang/Object")))) (by decide) rfl ?_
  intro p e s m args below meth c s₁ B hml hv
  obtain ⟨hav, hsz, hP, hD, hK, hO⟩ := hv
  have hx := B.exec
  have hb := B.bytes
  have hr := B.returns
  have hts : ∀ w ∈ BIG, w.before args s = true := fun w h => atoms_spec (ws := bw_Jx4a65c_grow_d5877) B.pre w (List.mem_cons_of_mem _ h)
  have hown : s.vm.findClass RJx4a65c = some m.cls := findClass_of_methodNamed B.named
  have hlocks := B.notSynchronized
  subst hsz
  have hw := wk.start hP hD
  refine k_start (by rfl) hav (Nat.le_of_ble_eq_true rfl) (fun ls hl => ?_)
  have hl : lv_has ls 1 [(0, .ref al)] := hl
  refine lv_aload_n hx hb dJx4a65c_grow_d5877_0 rfl (lv_at hl 0 rfl) ?_
  refine lv_aload_n hx hb dJx4a65c_grow_d5877_1 rfl (lv_at hl 0 rfl) ?_
  refine k_get2 (C := RJx4a65c) (T := TJx4a65c) (N := 3) (v := .int 0) hx hb hts inB_Jx4a65c hown hK hw hll hal hcl rfl 2 (by decide) (hts _ w_f_Jx4a65c_48) (fun _ h9 => h9) rfl dJx4a65c_grow_d5877_2 ?_
  refine lv_iconst (v := 1) hx hb dJx4a65c_grow_d5877_5 (by decide) ?_
  refine lv_iadd hx hb dJx4a65c_grow_d5877_6 ?_
  rw [show (0 : Int32) + 1 = 1 from by decide]
  refine k_crn hw (k_rV2 (As := [.int 1]) (rest := []) ⟨hx, hb, hml, hown, hts⟩ hK hO hw (ct_Jx4a65c_grow_92f84_e hll hal hnf hcl _ (wk.hA hw hA)) (cwV 1 hts (gB_V w_ml_Jx4a65c_69 w_im_Jx4a65c_grow_92f84 w_se_Jx4a65c_grow_92f84 w_in_Jx4a65c w_co_Jx4a65c_grow_92f84) rfl rfl rfl (by decide +kernel) ⟨by decide, by decide⟩) hll hal hcl rfl rfl hl.1 rfl (Nat.le_of_ble_eq_true rfl) dJx4a65c_grow_d5877_7 ⟨Nat.le_of_ble_eq_true rfl, Nat.le_of_ble_eq_true rfl⟩) (fun q H locs hw => ?_)
  exact k_rretn q hx hb hr (Or.inr ⟨_, rfl⟩) hlocks hw rfl rfl (Nat.le_refl _) (Nat.le_refl _) dJx4a65c_grow_d5877_10

abbrev rm_Jx4a65c_grow_d5877_c : Room := { frames := 5, cells := 1, slots := 22, locals := 107 }
set_option maxHeartbeats 1000000 in
theorem ct_Jx4a65c_grow_d5877_c {l : Launch} {D : va_G} {cI cG cJ cO : ClassId} {K0 : Nat → Nat} {A : Nat → Prop} {L : List (Nat × Nat)} {ad : Nat → Nat → Nat} {ce : Nat → Nat → va_E} {lf nf al bf ab n n2 : Nat} {mo : Int32} {g : Nat → Option Nat} (hll : (lf, 0) ∈ L) (hal : ad lf 0 = al) (hnf : (nf, 0) ∉ L) (hcl : ce lf 0 = .inr (2, [.int mo, .ref ab, .int (nI n)])) (hbf : (bf, 0) ∈ L) (hab : ad bf 0 = ab) (hcb : ce bf 0 = .inl (cO, n, .inr (.inr (.inr (.inr (g)))))) (hn : n = 10 ∧ n2 = 15 ∨ n = 15 ∧ n2 = 22) (hel : ∀ k y, k < n → g k = some y → EL K0 L ad ce y) (sz : Nat) (hA : ∀ q, sz ≤ q → A q) : Met l yJx4a65c_grow_d5877 bw_Jx4a65c_grow_d5877 rm_Jx4a65c_grow_d5877_c (kP D (ktys cI cG cJ cO) K0 A L ad ce sz [.ref al]) (kQn D A (L ++ [(nf, 0)]) (fun q => q) (fun q => upa ad nf 0 q) (fun q => up2 (up2 ce lf 0 (.inr (2, [.int mo, .ref q, .int (nI n)]))) nf 0 (.inl (cO, n2, .inr (.inr (.inr (.inr (va_cpy g (fun _ => none) 0 0 n)))))))) 1 22 A := by
  refine Met.ofW (cc := cJx4a65c_grow_d5877) (maxL := 1) (ret := (some (.array (.object "java/lang/Object")))) (by decide) rfl ?_
  intro p e s m args below meth c s₁ B hml hv
  obtain ⟨hav, hsz, hP, hD, hK, hO⟩ := hv
  have hx := B.exec
  have hb := B.bytes
  have hr := B.returns
  have hts : ∀ w ∈ BIG, w.before args s = true := fun w h => atoms_spec (ws := bw_Jx4a65c_grow_d5877) B.pre w (List.mem_cons_of_mem _ h)
  have hown : s.vm.findClass RJx4a65c = some m.cls := findClass_of_methodNamed B.named
  have hlocks := B.notSynchronized
  subst hsz
  have hw := wk.start hP hD
  refine k_start (by rfl) hav (Nat.le_of_ble_eq_true rfl) (fun ls hl => ?_)
  have hl : lv_has ls 1 [(0, .ref al)] := hl
  refine lv_aload_n hx hb dJx4a65c_grow_d5877_0 rfl (lv_at hl 0 rfl) ?_
  refine lv_aload_n hx hb dJx4a65c_grow_d5877_1 rfl (lv_at hl 0 rfl) ?_
  refine k_get2 (C := RJx4a65c) (T := TJx4a65c) (N := 3) (v := .int (nI n)) hx hb hts inB_Jx4a65c hown hK hw hll hal hcl rfl 2 (by decide) (hts _ w_f_Jx4a65c_48) (fun _ h9 => h9) rfl dJx4a65c_grow_d5877_2 ?_
  refine lv_iconst (v := 1) hx hb dJx4a65c_grow_d5877_5 (by decide) ?_
  refine lv_iadd hx hb dJx4a65c_grow_d5877_6 ?_
  rw [show (nI n) + 1 = (nI (n + 1)) from nI_1 _]
  refine k_crn hw (k_rV2 (As := [.int (nI (n + 1))]) (rest := []) ⟨hx, hb, hml, hown, hts⟩ hK hO hw (ct_Jx4a65c_grow_92f84_c hll hal hnf hcl hbf hab hcb hn hel _ (wk.hA hw hA)) (cwV 1 hts (gB_V w_ml_Jx4a65c_69 w_im_Jx4a65c_grow_92f84 w_se_Jx4a65c_grow_92f84 w_in_Jx4a65c w_co_Jx4a65c_grow_92f84) rfl rfl rfl (by decide +kernel) ⟨by decide, by decide⟩) hll hal hcl rfl rfl hl.1 rfl (Nat.le_of_ble_eq_true rfl) dJx4a65c_grow_d5877_7 ⟨Nat.le_of_ble_eq_true rfl, Nat.le_of_ble_eq_true rfl⟩) (fun q H locs hw => ?_)
  exact k_rretn q hx hb hr (Or.inr ⟨_, rfl⟩) hlocks hw rfl rfl (Nat.le_refl _) (Nat.le_refl _) dJx4a65c_grow_d5877_10

theorem nI_neq {a b : Nat} (h : a < b) (hb : b < 2 ^ 31) : ¬ nI a = nI b := fun z => by
  have e : (nI a).toInt = (nI b).toInt := congrArg Int32.toInt z
  rw [nI_toInt hb, nI_toInt (by omega)] at e
  omega

abbrev bw_Jx4a65c_add_72be8 : List Cond := .code yJx4a65c_add_72be8 cJx4a65c_add_72be8 4 none :: BIG
abbrev rm_Jx4a65c_add_72be8_r : Room := { frames := 1, cells := 0, slots := 0, locals := 12 }
set_option maxHeartbeats 1000000 in
theorem ct_Jx4a65c_add_72be8_r {l : Launch} {D : va_G} {cI cG cJ cO : ClassId} {K0 : Nat → Nat} {A : Nat → Prop} {L : List (Nat × Nat)} {ad : Nat → Nat → Nat} {ce : Nat → Nat → va_E} {lf al bf ab cap n v : Nat} {mo : Int32} {g : Nat → Option Nat} (hll : (lf, 0) ∈ L) (hal : ad lf 0 = al) (hcl : ce lf 0 = .inr (2, [.int mo, .ref ab, .int (nI n)])) (hbf : (bf, 0) ∈ L) (hab : ad bf 0 = ab) (hcb : ce bf 0 = .inl (cO, cap, .inr (.inr (.inr (.inr (g)))))) (hne : lf ≠ bf) (hn : n < cap) (hcap : cap < 2 ^ 31) (hv : EL K0 L ad ce v) (sz : Nat) (hA : ∀ q, sz ≤ q → A q) : Met l yJx4a65c_add_72be8 bw_Jx4a65c_add_72be8 rm_Jx4a65c_add_72be8_r (kP D (ktys cI cG cJ cO) K0 A L ad ce sz [.ref al, .ref v, .ref ab, .int (nI n)]) (kQv D A L ad (up2 (up2 ce bf 0 (.inl (cO, cap, .inr (.inr (.inr (.inr (va_up g n (some v)))))))) lf 0 (.inr (2, [.int mo, .ref ab, .int (nI (n + 1))])))) 0 0 A := by
  refine Met.ofW (cc := cJx4a65c_add_72be8) (maxL := 4) (ret := none) (by decide) rfl ?_
  intro p e s m args below meth c s₁ B hml hv
  obtain ⟨hav, hsz, hP, hD, hK, hO⟩ := hv
  have hx := B.exec
  have hb := B.bytes
  have hr := B.returns
  have hts : ∀ w ∈ BIG, w.before args s = true := fun w h => atoms_spec (ws := bw_Jx4a65c_add_72be8) B.pre w (List.mem_cons_of_mem _ h)
  have hown : s.vm.findClass RJx4a65c = some m.cls := findClass_of_methodNamed B.named
  have hlocks := B.notSynchronized
  subst hsz
  have hw := wk.start hP hD
  refine k_start (by rfl) hav (Nat.le_of_ble_eq_true rfl) (fun ls hl => ?_)
  have hl : lv_has ls 4 [(0, .ref al), (1, .ref v), (2, .ref ab), (3, .int (nI n))] := hl
  refine lv_iload_n hx hb dJx4a65c_add_72be8_0 rfl (lv_at hl 3 rfl) ?_
  refine lv_aload_n hx hb dJx4a65c_add_72be8_1 rfl (lv_at hl 2 rfl) ?_
  refine k_alen2 hx hb hK hw hbf hab 3 hcb rfl dJx4a65c_add_72be8_2 ?_
  refine lv_icmp_ne (tgt := 11) hx hb dJx4a65c_add_72be8_3 (by decide) (fun _ => ?_) (fun h => absurd h (nI_neq hn hcap))
  refine lv_aload_n hx hb dJx4a65c_add_72be8_11 rfl (lv_at hl 2 rfl) ?_
  refine lv_iload_n hx hb dJx4a65c_add_72be8_12 rfl (lv_at hl 3 rfl) ?_
  refine lv_aload_n hx hb dJx4a65c_add_72be8_13 rfl (lv_at hl 1 rfl) ?_
  refine k_astM hx hb hK hw hbf hab 3 hcb rfl (EL.any hK hO hw hv) (vp_in_nI hn hcap) (by rw [nI_clamp (by omega)]) dJx4a65c_add_72be8_14 (fun H locs hw => ?_)
  refine lv_aload_n hx hb dJx4a65c_add_72be8_15 rfl (lv_at hl 0 rfl) ?_
  refine lv_iload_n hx hb dJx4a65c_add_72be8_16 rfl (lv_at hl 3 rfl) ?_
  refine lv_iconst (v := 1) hx hb dJx4a65c_add_72be8_17 (by decide) ?_
  refine lv_iadd hx hb dJx4a65c_add_72be8_18 ?_
  rw [nI_1]
  refine k_put2 (C := RJx4a65c) (T := TJx4a65c) (N := 3) (v := .int (nI (n + 1))) (ty := .int) hx hb hts inB_Jx4a65c tyJx4a65c tyJx4a65c_ok nmJx4a65c hown hK hw hll hal ((up2_n hne).trans hcl) rfl 2 (by decide) (hts _ w_f_Jx4a65c_48) (fun _ h9 => h9) rfl (by decide +kernel) rfl rfl (Nat.le_of_ble_eq_true rfl) dJx4a65c_add_72be8_19 (fun H locs hw => ?_)
  exact k_vret hx hb hr hlocks hw rfl dJx4a65c_add_72be8_22

abbrev rm_Jx4a65c_add_72be8_e : Room := { frames := 3, cells := 1, slots := 22, locals := 64 }
set_option maxHeartbeats 1000000 in
theorem ct_Jx4a65c_add_72be8_e {l : Launch} {D : va_G} {cI cG cJ cO : ClassId} {K0 : Nat → Nat} {A : Nat → Prop} {L : List (Nat × Nat)} {ad : Nat → Nat → Nat} {ce : Nat → Nat → va_E} {lf nf al : Nat} {mo : Int32} (hll : (lf, 0) ∈ L) (hal : ad lf 0 = al) (hnf : (nf, 0) ∉ L) (hcl : ce lf 0 = .inr (2, [.int mo, .ref (K0 0), .int 0])) {v : Nat} (hv : EL K0 L ad ce v) (sz : Nat) (hA : ∀ q, sz ≤ q → A q) : Met l yJx4a65c_add_72be8 bw_Jx4a65c_add_72be8 rm_Jx4a65c_add_72be8_e (kP D (ktys cI cG cJ cO) K0 A L ad ce sz [.ref al, .ref v, .ref (K0 0), .int 0]) (kQvn D A (L ++ [(nf, 0)]) (fun q => upa ad nf 0 q) (fun q => up2 (up2 ce lf 0 (.inr (2, [.int mo, .ref q, .int 1]))) nf 0 (.inl (cO, 10, .inr (.inr (.inr (.inr (va_up (fun _ => none) 0 (some v))))))))) 1 22 A := by
  refine Met.ofW (cc := cJx4a65c_add_72be8) (maxL := 4) (ret := none) (by decide) rfl ?_
  intro p e s m args below meth c s₁ B hml hv
  obtain ⟨hav, hsz, hP, hD, hK, hO⟩ := hv
  have hx := B.exec
  have hb := B.bytes
  have hr := B.returns
  have hts : ∀ w ∈ BIG, w.before args s = true := fun w h => atoms_spec (ws := bw_Jx4a65c_add_72be8) B.pre w (List.mem_cons_of_mem _ h)
  have hown : s.vm.findClass RJx4a65c = some m.cls := findClass_of_methodNamed B.named
  have hlocks := B.notSynchronized
  subst hsz
  have hw := wk.start hP hD
  refine k_start (by rfl) hav (Nat.le_of_ble_eq_true rfl) (fun ls hl => ?_)
  have hl : lv_has ls 4 [(0, .ref al), (1, .ref v), (2, .ref (K0 0)), (3, .int 0)] := hl
  have hne : lf ≠ nf := fun z => hnf (z ▸ hll)
  refine lv_iload_n hx hb dJx4a65c_add_72be8_0 rfl (lv_at hl 3 rfl) ?_
  refine lv_aload_n hx hb dJx4a65c_add_72be8_1 rfl (lv_at hl 2 rfl) ?_
  refine va_tlen (v := 0) hx hb hO.2.2.2.2.2.1.2 hw.2.2 rfl dJx4a65c_add_72be8_2 ?_
  refine lv_icmp_ne (tgt := 11) hx hb dJx4a65c_add_72be8_3 (by decide) (fun h => absurd rfl h) (fun _ => ?_)
  refine lv_aload_n hx hb dJx4a65c_add_72be8_6 rfl (lv_at hl 0 rfl) ?_
  refine k_crn hw (k_rV2 (As := []) (rest := []) ⟨hx, hb, hml, hown, hts⟩ hK hO hw (ct_Jx4a65c_grow_d5877_e hll hal hnf hcl _ (wk.hA hw hA)) (cwV 0 hts (gB_V w_ml_Jx4a65c_129 w_im_Jx4a65c_grow_d5877 w_se_Jx4a65c_grow_d5877 w_in_Jx4a65c w_co_Jx4a65c_grow_d5877) rfl rfl rfl (by decide +kernel) ⟨by decide, by decide⟩) hll hal hcl rfl rfl hl.1 rfl (Nat.le_of_ble_eq_true rfl) dJx4a65c_add_72be8_7 ⟨Nat.le_of_ble_eq_true rfl, Nat.le_of_ble_eq_true rfl⟩) (fun q H locs hw => ?_)
  refine lv_astore_n (lv' := [(2, .ref q), (0, .ref al), (1, .ref v), (3, .int 0)]) hx hb dJx4a65c_add_72be8_10 rfl hl (by decide) rfl (fun ls hl => ?_)
  refine lv_aload_n hx hb dJx4a65c_add_72be8_11 rfl (lv_at hl 0 rfl) ?_
  refine lv_iload_n hx hb dJx4a65c_add_72be8_12 rfl (lv_at hl 3 rfl) ?_
  refine lv_aload_n hx hb dJx4a65c_add_72be8_13 rfl (lv_at hl 2 rfl) ?_
  have e1 : upa ad nf 0 q lf 0 = al := (upa_ne (i := (lf, 0)) (fun z => hne (congrArg Prod.fst z))).trans hal
  refine k_astM hx hb hK hw (List.mem_append_right _ (List.mem_singleton_self _)) upa_eq 3 up2_eq rfl (EL.any hK hO hw ((hv.put hcl).push hnf)) (i := (0 : Int32)) (vp_in_nI (n := 0) (N := 10) (by decide) (by decide)) (ce' := up2 (up2 ce lf 0 (.inr (2, [.int mo, .ref q, .int 0]))) nf 0 (.inl (cO, 10, .inr (.inr (.inr (.inr (va_up (fun _ => none) 0 (some v)))))))) (by rw [show ((0 : Int32)).toNatClampNeg = 0 from rfl]; exact up2_up2) dJx4a65c_add_72be8_14 (fun H locs hw => ?_)
  refine lv_aload_n hx hb dJx4a65c_add_72be8_15 rfl (lv_at hl 1 rfl) ?_
  refine lv_iload_n hx hb dJx4a65c_add_72be8_16 rfl (lv_at hl 3 rfl) ?_
  refine lv_iconst (v := 1) hx hb dJx4a65c_add_72be8_17 (by decide) ?_
  refine lv_iadd hx hb dJx4a65c_add_72be8_18 ?_
  rw [show (0 : Int32) + 1 = 1 from by decide]
  refine k_put2 (C := RJx4a65c) (T := TJx4a65c) (N := 3) (v := .int 1) (ty := .int) hx hb hts inB_Jx4a65c tyJx4a65c tyJx4a65c_ok nmJx4a65c hown hK hw (List.mem_append_left _ hll) e1 ((up2_n hne).trans up2_eq) rfl 2 (by decide) (hts _ w_f_Jx4a65c_48) (fun _ h9 => h9) rfl (by decide +kernel) rfl rfl (Nat.le_of_ble_eq_true rfl) dJx4a65c_add_72be8_19 (fun H locs hw => ?_)
  refine k_vretn q hx hb hr hlocks hw ?_ (Nat.le_refl _) (Nat.le_refl _) dJx4a65c_add_72be8_22
  rw [up2_comm (fun z => hne z.symm), up2_up2]; rfl

abbrev rm_Jx4a65c_add_72be8_c : Room := { frames := 6, cells := 1, slots := 22, locals := 127 }
set_option maxHeartbeats 1000000 in
theorem ct_Jx4a65c_add_72be8_c {l : Launch} {D : va_G} {cI cG cJ cO : ClassId} {K0 : Nat → Nat} {A : Nat → Prop} {L : List (Nat × Nat)} {ad : Nat → Nat → Nat} {ce : Nat → Nat → va_E} {lf nf al bf ab n n2 : Nat} {mo : Int32} {g : Nat → Option Nat} (hll : (lf, 0) ∈ L) (hal : ad lf 0 = al) (hnf : (nf, 0) ∉ L) (hcl : ce lf 0 = .inr (2, [.int mo, .ref ab, .int (nI n)])) (hbf : (bf, 0) ∈ L) (hab : ad bf 0 = ab) (hcb : ce bf 0 = .inl (cO, n, .inr (.inr (.inr (.inr (g)))))) (hn : n = 10 ∧ n2 = 15 ∨ n = 15 ∧ n2 = 22) (hel : ∀ k y, k < n → g k = some y → EL K0 L ad ce y) {v : Nat} (hv : EL K0 L ad ce v) (sz : Nat) (hA : ∀ q, sz ≤ q → A q) : Met l yJx4a65c_add_72be8 bw_Jx4a65c_add_72be8 rm_Jx4a65c_add_72be8_c (kP D (ktys cI cG cJ cO) K0 A L ad ce sz [.ref al, .ref v, .ref ab, .int (nI n)]) (kQvn D A (L ++ [(nf, 0)]) (fun q => upa ad nf 0 q) (fun q => up2 (up2 ce lf 0 (.inr (2, [.int mo, .ref q, .int (nI (n + 1))]))) nf 0 (.inl (cO, n2, .inr (.inr (.inr (.inr (va_up (va_cpy g (fun _ => none) 0 0 n) n (some v))))))))) 1 22 A := by
  refine Met.ofW (cc := cJx4a65c_add_72be8) (maxL := 4) (ret := none) (by decide) rfl ?_
  intro p e s m args below meth c s₁ B hml hv
  obtain ⟨hav, hsz, hP, hD, hK, hO⟩ := hv
  have hx := B.exec
  have hb := B.bytes
  have hr := B.returns
  have hts : ∀ w ∈ BIG, w.before args s = true := fun w h => atoms_spec (ws := bw_Jx4a65c_add_72be8) B.pre w (List.mem_cons_of_mem _ h)
  have hown : s.vm.findClass RJx4a65c = some m.cls := findClass_of_methodNamed B.named
  have hlocks := B.notSynchronized
  subst hsz
  have hw := wk.start hP hD
  refine k_start (by rfl) hav (Nat.le_of_ble_eq_true rfl) (fun ls hl => ?_)
  have hl : lv_has ls 4 [(0, .ref al), (1, .ref v), (2, .ref ab), (3, .int (nI n))] := hl
  have hne : lf ≠ nf := fun z => hnf (z ▸ hll)
  refine lv_iload_n hx hb dJx4a65c_add_72be8_0 rfl (lv_at hl 3 rfl) ?_
  refine lv_aload_n hx hb dJx4a65c_add_72be8_1 rfl (lv_at hl 2 rfl) ?_
  refine k_alen2 hx hb hK hw hbf hab 3 hcb rfl dJx4a65c_add_72be8_2 ?_
  refine lv_icmp_ne (tgt := 11) hx hb dJx4a65c_add_72be8_3 (by decide) (fun h => absurd rfl h) (fun _ => ?_)
  refine lv_aload_n hx hb dJx4a65c_add_72be8_6 rfl (lv_at hl 0 rfl) ?_
  refine k_crn hw (k_rV2 (As := []) (rest := []) ⟨hx, hb, hml, hown, hts⟩ hK hO hw (ct_Jx4a65c_grow_d5877_c hll hal hnf hcl hbf hab hcb hn hel _ (wk.hA hw hA)) (cwV 0 hts (gB_V w_ml_Jx4a65c_129 w_im_Jx4a65c_grow_d5877 w_se_Jx4a65c_grow_d5877 w_in_Jx4a65c w_co_Jx4a65c_grow_d5877) rfl rfl rfl (by decide +kernel) ⟨by decide, by decide⟩) hll hal hcl rfl rfl hl.1 rfl (Nat.le_of_ble_eq_true rfl) dJx4a65c_add_72be8_7 ⟨Nat.le_of_ble_eq_true rfl, Nat.le_of_ble_eq_true rfl⟩) (fun q H locs hw => ?_)
  refine lv_astore_n (lv' := [(2, .ref q), (0, .ref al), (1, .ref v), (3, .int (nI n))]) hx hb dJx4a65c_add_72be8_10 rfl hl (by decide) rfl (fun ls hl => ?_)
  refine lv_aload_n hx hb dJx4a65c_add_72be8_11 rfl (lv_at hl 0 rfl) ?_
  refine lv_iload_n hx hb dJx4a65c_add_72be8_12 rfl (lv_at hl 3 rfl) ?_
  refine lv_aload_n hx hb dJx4a65c_add_72be8_13 rfl (lv_at hl 2 rfl) ?_
  have e1 : upa ad nf 0 q lf 0 = al := (upa_ne (i := (lf, 0)) (fun z => hne (congrArg Prod.fst z))).trans hal
  refine k_astM hx hb hK hw (List.mem_append_right _ (List.mem_singleton_self _)) upa_eq 3 up2_eq rfl (EL.any hK hO hw ((hv.put hcl).push hnf)) (i := nI n) (vp_in_nI (n := n) (N := n2) (by omega) (by omega)) (ce' := up2 (up2 ce lf 0 (.inr (2, [.int mo, .ref q, .int (nI n)]))) nf 0 (.inl (cO, n2, .inr (.inr (.inr (.inr (va_up (va_cpy g (fun _ => none) 0 0 n) n (some v)))))))) (by rw [show (nI n).toNatClampNeg = n from nI_clamp (by omega)]; exact up2_up2) dJx4a65c_add_72be8_14 (fun H locs hw => ?_)
  refine lv_aload_n hx hb dJx4a65c_add_72be8_15 rfl (lv_at hl 1 rfl) ?_
  refine lv_iload_n hx hb dJx4a65c_add_72be8_16 rfl (lv_at hl 3 rfl) ?_
  refine lv_iconst (v := 1) hx hb dJx4a65c_add_72be8_17 (by decide) ?_
  refine lv_iadd hx hb dJx4a65c_add_72be8_18 ?_
  rw [show (nI n) + 1 = (nI (n + 1)) from nI_1 _]
  refine k_put2 (C := RJx4a65c) (T := TJx4a65c) (N := 3) (v := .int (nI (n + 1))) (ty := .int) hx hb hts inB_Jx4a65c tyJx4a65c tyJx4a65c_ok nmJx4a65c hown hK hw (List.mem_append_left _ hll) e1 ((up2_n hne).trans up2_eq) rfl 2 (by decide) (hts _ w_f_Jx4a65c_48) (fun _ h9 => h9) rfl (by decide +kernel) rfl rfl (Nat.le_of_ble_eq_true rfl) dJx4a65c_add_72be8_19 (fun H locs hw => ?_)
  refine k_vretn q hx hb hr hlocks hw ?_ (Nat.le_refl _) (Nat.le_refl _) dJx4a65c_add_72be8_22
  rw [up2_comm (fun z => hne z.symm), up2_up2]; rfl

abbrev bw_Jx4a65c_add_9ea2d : List Cond := .code yJx4a65c_add_9ea2d cJx4a65c_add_9ea2d 2 (some .boolean) :: BIG
abbrev rm_Jx4a65c_add_9ea2d_r : Room := { frames := 2, cells := 0, slots := 0, locals := 35 }
set_option maxHeartbeats 1000000 in
theorem ct_Jx4a65c_add_9ea2d_r {l : Launch} {D : va_G} {cI cG cJ cO : ClassId} {K0 : Nat → Nat} {A : Nat → Prop} {L : List (Nat × Nat)} {ad : Nat → Nat → Nat} {ce : Nat → Nat → va_E} {lf al bf ab cap n v : Nat} {mo : Int32} {g : Nat → Option Nat} (hll : (lf, 0) ∈ L) (hal : ad lf 0 = al) (hcl : ce lf 0 = .inr (2, [.int mo, .ref ab, .int (nI n)])) (hbf : (bf, 0) ∈ L) (hab : ad bf 0 = ab) (hcb : ce bf 0 = .inl (cO, cap, .inr (.inr (.inr (.inr (g)))))) (hne : lf ≠ bf) (hn : n < cap) (hcap : cap < 2 ^ 31) (hv : EL K0 L ad ce v) (sz : Nat) (hA : ∀ q, sz ≤ q → A q) : Met l yJx4a65c_add_9ea2d bw_Jx4a65c_add_9ea2d rm_Jx4a65c_add_9ea2d_r (kP D (ktys cI cG cJ cO) K0 A L ad ce sz [.ref al, .ref v]) (kQi D A 1 L ad (up2 (up2 ce bf 0 (.inl (cO, cap, .inr (.inr (.inr (.inr (va_up g n (some v)))))))) lf 0 (.inr (2, [.int (mo + 1), .ref ab, .int (nI (n + 1))])))) 0 0 A := by
  refine Met.ofW (cc := cJx4a65c_add_9ea2d) (maxL := 2) (ret := (some .boolean)) (by decide) rfl ?_
  intro p e s m args below meth c s₁ B hml hv
  obtain ⟨hav, hsz, hP, hD, hK, hO⟩ := hv
  have hx := B.exec
  have hb := B.bytes
  have hr := B.returns
  have hts : ∀ w ∈ BIG, w.before args s = true := fun w h => atoms_spec (ws := bw_Jx4a65c_add_9ea2d) B.pre w (List.mem_cons_of_mem _ h)
  have hown : s.vm.findClass RJx4a65c = some m.cls := findClass_of_methodNamed B.named
  have hlocks := B.notSynchronized
  subst hsz
  have hw := wk.start hP hD
  refine k_start (by rfl) hav (Nat.le_of_ble_eq_true rfl) (fun ls hl => ?_)
  have hl : lv_has ls 2 [(0, .ref al), (1, .ref v)] := hl
  refine lv_aload_n hx hb dJx4a65c_add_9ea2d_0 rfl (lv_at hl 0 rfl) ?_
  refine lv_dup hx hb dJx4a65c_add_9ea2d_1 rfl ?_
  refine k_get2 (C := RJx4a65c) (T := TJx4a65c) (N := 3) (v := .int mo) hx hb hts inB_Jx4a65c hown hK hw hll hal hcl rfl 0 (by decide) (hts _ w_f_Jx4a65c_63) (fun x9 h9 => u_same (hts _ w_sf_mod) x9 h9) rfl dJx4a65c_add_9ea2d_2 ?_
  refine lv_iconst (v := 1) hx hb dJx4a65c_add_9ea2d_5 (by decide) ?_
  refine lv_iadd hx hb dJx4a65c_add_9ea2d_6 ?_
  refine k_put2 (C := RJx4a65c) (T := TJx4a65c) (N := 3) (v := .int (mo + 1)) (ty := .int) hx hb hts inB_Jx4a65c tyJx4a65c tyJx4a65c_ok nmJx4a65c hown hK hw hll hal hcl rfl 0 (by decide) (hts _ w_f_Jx4a65c_63) (fun x9 h9 => u_same (hts _ w_sf_mod) x9 h9) rfl (by decide +kernel) rfl rfl (Nat.le_of_ble_eq_true rfl) dJx4a65c_add_9ea2d_7 (fun H locs hw => ?_)
  refine lv_aload_n hx hb dJx4a65c_add_9ea2d_10 rfl (lv_at hl 0 rfl) ?_
  refine lv_aload_n hx hb dJx4a65c_add_9ea2d_11 rfl (lv_at hl 1 rfl) ?_
  refine lv_aload_n hx hb dJx4a65c_add_9ea2d_12 rfl (lv_at hl 0 rfl) ?_
  refine k_get2 (C := RJx4a65c) (T := TJx4a65c) (N := 3) (v := .ref ab) hx hb hts inB_Jx4a65c hown hK hw hll hal up2_eq rfl 1 (by decide) (hts _ w_f_Jx4a65c_9) (fun _ h9 => h9) rfl dJx4a65c_add_9ea2d_13 ?_
  refine lv_aload_n hx hb dJx4a65c_add_9ea2d_16 rfl (lv_at hl 0 rfl) ?_
  refine k_get2 (C := RJx4a65c) (T := TJx4a65c) (N := 3) (v := .int (nI n)) hx hb hts inB_Jx4a65c hown hK hw hll hal up2_eq rfl 2 (by decide) (hts _ w_f_Jx4a65c_48) (fun _ h9 => h9) rfl dJx4a65c_add_9ea2d_17 ?_
  refine k_cv0 hw (k_rV2 (As := [.ref v, .ref ab, .int (nI n)]) (rest := []) ⟨hx, hb, hml, hown, hts⟩ hK hO hw (ct_Jx4a65c_add_72be8_r hll hal up2_eq hbf hab ((up2_n (fun z => hne z.symm)).trans hcb) hne hn hcap (hv.put hcl) _ (wk.hA hw hA)) (cwV 3 hts (gB_V w_ml_Jx4a65c_131 w_im_Jx4a65c_add_72be8 w_se_Jx4a65c_add_72be8 w_in_Jx4a65c w_co_Jx4a65c_add_72be8) rfl rfl rfl (by decide +kernel) ⟨by decide, by decide⟩) hll hal up2_eq rfl rfl hl.1 rfl (Nat.le_of_ble_eq_true rfl) dJx4a65c_add_9ea2d_20 ⟨Nat.le_of_ble_eq_true rfl, Nat.le_of_ble_eq_true rfl⟩) (fun H locs hw => ?_)
  refine lv_iconst (v := 1) hx hb dJx4a65c_add_9ea2d_23 (by decide) ?_
  exact k_iret hx hb hr hlocks rfl hw rfl (by rw [up2_comm hne, up2_up2]) dJx4a65c_add_9ea2d_24

abbrev rm_Jx4a65c_add_9ea2d_e : Room := { frames := 4, cells := 1, slots := 22, locals := 87 }
set_option maxHeartbeats 1000000 in
theorem ct_Jx4a65c_add_9ea2d_e {l : Launch} {D : va_G} {cI cG cJ cO : ClassId} {K0 : Nat → Nat} {A : Nat → Prop} {L : List (Nat × Nat)} {ad : Nat → Nat → Nat} {ce : Nat → Nat → va_E} {lf nf al : Nat} {mo : Int32} (hll : (lf, 0) ∈ L) (hal : ad lf 0 = al) (hnf : (nf, 0) ∉ L) (hcl : ce lf 0 = .inr (2, [.int mo, .ref (K0 0), .int 0])) {v : Nat} (hv : EL K0 L ad ce v) (sz : Nat) (hA : ∀ q, sz ≤ q → A q) : Met l yJx4a65c_add_9ea2d bw_Jx4a65c_add_9ea2d rm_Jx4a65c_add_9ea2d_e (kP D (ktys cI cG cJ cO) K0 A L ad ce sz [.ref al, .ref v]) (kQin D A 1 (L ++ [(nf, 0)]) (fun q => upa ad nf 0 q) (fun q => up2 (up2 ce lf 0 (.inr (2, [.int (mo + 1), .ref q, .int 1]))) nf 0 (.inl (cO, 10, .inr (.inr (.inr (.inr (va_up (fun _ => none) 0 (some v))))))))) 1 22 A := by
  refine Met.ofW (cc := cJx4a65c_add_9ea2d) (maxL := 2) (ret := (some .boolean)) (by decide) rfl ?_
  intro p e s m args below meth c s₁ B hml hv
  obtain ⟨hav, hsz, hP, hD, hK, hO⟩ := hv
  have hx := B.exec
  have hb := B.bytes
  have hr := B.returns
  have hts : ∀ w ∈ BIG, w.before args s = true := fun w h => atoms_spec (ws := bw_Jx4a65c_add_9ea2d) B.pre w (List.mem_cons_of_mem _ h)
  have hown : s.vm.findClass RJx4a65c = some m.cls := findClass_of_methodNamed B.named
  have hlocks := B.notSynchronized
  subst hsz
  have hw := wk.start hP hD
  refine k_start (by rfl) hav (Nat.le_of_ble_eq_true rfl) (fun ls hl => ?_)
  have hl : lv_has ls 2 [(0, .ref al), (1, .ref v)] := hl
  refine lv_aload_n hx hb dJx4a65c_add_9ea2d_0 rfl (lv_at hl 0 rfl) ?_
  refine lv_dup hx hb dJx4a65c_add_9ea2d_1 rfl ?_
  refine k_get2 (C := RJx4a65c) (T := TJx4a65c) (N := 3) (v := .int mo) hx hb hts inB_Jx4a65c hown hK hw hll hal hcl rfl 0 (by decide) (hts _ w_f_Jx4a65c_63) (fun x9 h9 => u_same (hts _ w_sf_mod) x9 h9) rfl dJx4a65c_add_9ea2d_2 ?_
  refine lv_iconst (v := 1) hx hb dJx4a65c_add_9ea2d_5 (by decide) ?_
  refine lv_iadd hx hb dJx4a65c_add_9ea2d_6 ?_
  refine k_put2 (C := RJx4a65c) (T := TJx4a65c) (N := 3) (v := .int (mo + 1)) (ty := .int) hx hb hts inB_Jx4a65c tyJx4a65c tyJx4a65c_ok nmJx4a65c hown hK hw hll hal hcl rfl 0 (by decide) (hts _ w_f_Jx4a65c_63) (fun x9 h9 => u_same (hts _ w_sf_mod) x9 h9) rfl (by decide +kernel) rfl rfl (Nat.le_of_ble_eq_true rfl) dJx4a65c_add_9ea2d_7 (fun H locs hw => ?_)
  refine lv_aload_n hx hb dJx4a65c_add_9ea2d_10 rfl (lv_at hl 0 rfl) ?_
  refine lv_aload_n hx hb dJx4a65c_add_9ea2d_11 rfl (lv_at hl 1 rfl) ?_
  refine lv_aload_n hx hb dJx4a65c_add_9ea2d_12 rfl (lv_at hl 0 rfl) ?_
  refine k_get2 (C := RJx4a65c) (T := TJx4a65c) (N := 3) (v := .ref (K0 0)) hx hb hts inB_Jx4a65c hown hK hw hll hal up2_eq rfl 1 (by decide) (hts _ w_f_Jx4a65c_9) (fun _ h9 => h9) rfl dJx4a65c_add_9ea2d_13 ?_
  refine lv_aload_n hx hb dJx4a65c_add_9ea2d_16 rfl (lv_at hl 0 rfl) ?_
  refine k_get2 (C := RJx4a65c) (T := TJx4a65c) (N := 3) (v := .int 0) hx hb hts inB_Jx4a65c hown hK hw hll hal up2_eq rfl 2 (by decide) (hts _ w_f_Jx4a65c_48) (fun _ h9 => h9) rfl dJx4a65c_add_9ea2d_17 ?_
  refine k_cvn hw (k_rV2 (As := [.ref v, .ref (K0 0), .int 0]) (rest := []) ⟨hx, hb, hml, hown, hts⟩ hK hO hw (ct_Jx4a65c_add_72be8_e hll hal hnf up2_eq (hv.put hcl) _ (wk.hA hw hA)) (cwV 3 hts (gB_V w_ml_Jx4a65c_131 w_im_Jx4a65c_add_72be8 w_se_Jx4a65c_add_72be8 w_in_Jx4a65c w_co_Jx4a65c_add_72be8) rfl rfl rfl (by decide +kernel) ⟨by decide, by decide⟩) hll hal up2_eq rfl rfl hl.1 rfl (Nat.le_of_ble_eq_true rfl) dJx4a65c_add_9ea2d_20 ⟨Nat.le_of_ble_eq_true rfl, Nat.le_of_ble_eq_true rfl⟩) (fun q H locs hw => ?_)
  refine lv_iconst (v := 1) hx hb dJx4a65c_add_9ea2d_23 (by decide) ?_
  exact k_iretn q hx hb hr hlocks rfl hw rfl (by rw [up2_up2]) (Nat.le_refl _) (Nat.le_refl _) dJx4a65c_add_9ea2d_24

abbrev rm_Jx4a65c_add_9ea2d_c : Room := { frames := 7, cells := 1, slots := 22, locals := 150 }
set_option maxHeartbeats 1000000 in
theorem ct_Jx4a65c_add_9ea2d_c {l : Launch} {D : va_G} {cI cG cJ cO : ClassId} {K0 : Nat → Nat} {A : Nat → Prop} {L : List (Nat × Nat)} {ad : Nat → Nat → Nat} {ce : Nat → Nat → va_E} {lf nf al bf ab n n2 : Nat} {mo : Int32} {g : Nat → Option Nat} (hll : (lf, 0) ∈ L) (hal : ad lf 0 = al) (hnf : (nf, 0) ∉ L) (hcl : ce lf 0 = .inr (2, [.int mo, .ref ab, .int (nI n)])) (hbf : (bf, 0) ∈ L) (hab : ad bf 0 = ab) (hcb : ce bf 0 = .inl (cO, n, .inr (.inr (.inr (.inr (g)))))) (hn : n = 10 ∧ n2 = 15 ∨ n = 15 ∧ n2 = 22) (hel : ∀ k y, k < n → g k = some y → EL K0 L ad ce y) (hlb : lf ≠ bf) {v : Nat} (hv : EL K0 L ad ce v) (sz : Nat) (hA : ∀ q, sz ≤ q → A q) : Met l yJx4a65c_add_9ea2d bw_Jx4a65c_add_9ea2d rm_Jx4a65c_add_9ea2d_c (kP D (ktys cI cG cJ cO) K0 A L ad ce sz [.ref al, .ref v]) (kQin D A 1 (L ++ [(nf, 0)]) (fun q => upa ad nf 0 q) (fun q => up2 (up2 ce lf 0 (.inr (2, [.int (mo + 1), .ref q, .int (nI (n + 1))]))) nf 0 (.inl (cO, n2, .inr (.inr (.inr (.inr (va_up (va_cpy g (fun _ => none) 0 0 n) n (some v))))))))) 1 22 A := by
  refine Met.ofW (cc := cJx4a65c_add_9ea2d) (maxL := 2) (ret := (some .boolean)) (by decide) rfl ?_
  intro p e s m args below meth c s₁ B hml hv
  obtain ⟨hav, hsz, hP, hD, hK, hO⟩ := hv
  have hx := B.exec
  have hb := B.bytes
  have hr := B.returns
  have hts : ∀ w ∈ BIG, w.before args s = true := fun w h => atoms_spec (ws := bw_Jx4a65c_add_9ea2d) B.pre w (List.mem_cons_of_mem _ h)
  have hown : s.vm.findClass RJx4a65c = some m.cls := findClass_of_methodNamed B.named
  have hlocks := B.notSynchronized
  subst hsz
  have hw := wk.start hP hD
  refine k_start (by rfl) hav (Nat.le_of_ble_eq_true rfl) (fun ls hl => ?_)
  have hl : lv_has ls 2 [(0, .ref al), (1, .ref v)] := hl
  refine lv_aload_n hx hb dJx4a65c_add_9ea2d_0 rfl (lv_at hl 0 rfl) ?_
  refine lv_dup hx hb dJx4a65c_add_9ea2d_1 rfl ?_
  refine k_get2 (C := RJx4a65c) (T := TJx4a65c) (N := 3) (v := .int mo) hx hb hts inB_Jx4a65c hown hK hw hll hal hcl rfl 0 (by decide) (hts _ w_f_Jx4a65c_63) (fun x9 h9 => u_same (hts _ w_sf_mod) x9 h9) rfl dJx4a65c_add_9ea2d_2 ?_
  refine lv_iconst (v := 1) hx hb dJx4a65c_add_9ea2d_5 (by decide) ?_
  refine lv_iadd hx hb dJx4a65c_add_9ea2d_6 ?_
  refine k_put2 (C := RJx4a65c) (T := TJx4a65c) (N := 3) (v := .int (mo + 1)) (ty := .int) hx hb hts inB_Jx4a65c tyJx4a65c tyJx4a65c_ok nmJx4a65c hown hK hw hll hal hcl rfl 0 (by decide) (hts _ w_f_Jx4a65c_63) (fun x9 h9 => u_same (hts _ w_sf_mod) x9 h9) rfl (by decide +kernel) rfl rfl (Nat.le_of_ble_eq_true rfl) dJx4a65c_add_9ea2d_7 (fun H locs hw => ?_)
  refine lv_aload_n hx hb dJx4a65c_add_9ea2d_10 rfl (lv_at hl 0 rfl) ?_
  refine lv_aload_n hx hb dJx4a65c_add_9ea2d_11 rfl (lv_at hl 1 rfl) ?_
  refine lv_aload_n hx hb dJx4a65c_add_9ea2d_12 rfl (lv_at hl 0 rfl) ?_
  refine k_get2 (C := RJx4a65c) (T := TJx4a65c) (N := 3) (v := .ref ab) hx hb hts inB_Jx4a65c hown hK hw hll hal up2_eq rfl 1 (by decide) (hts _ w_f_Jx4a65c_9) (fun _ h9 => h9) rfl dJx4a65c_add_9ea2d_13 ?_
  refine lv_aload_n hx hb dJx4a65c_add_9ea2d_16 rfl (lv_at hl 0 rfl) ?_
  refine k_get2 (C := RJx4a65c) (T := TJx4a65c) (N := 3) (v := .int (nI n)) hx hb hts inB_Jx4a65c hown hK hw hll hal up2_eq rfl 2 (by decide) (hts _ w_f_Jx4a65c_48) (fun _ h9 => h9) rfl dJx4a65c_add_9ea2d_17 ?_
  refine k_cvn hw (k_rV2 (As := [.ref v, .ref ab, .int (nI n)]) (rest := []) ⟨hx, hb, hml, hown, hts⟩ hK hO hw (ct_Jx4a65c_add_72be8_c hll hal hnf up2_eq hbf hab ((up2_n (fun z => hlb z.symm)).trans hcb) hn (fun k y h1 h2 => (hel k y h1 h2).put hcl) (hv.put hcl) _ (wk.hA hw hA)) (cwV 3 hts (gB_V w_ml_Jx4a65c_131 w_im_Jx4a65c_add_72be8 w_se_Jx4a65c_add_72be8 w_in_Jx4a65c w_co_Jx4a65c_add_72be8) rfl rfl rfl (by decide +kernel) ⟨by decide, by decide⟩) hll hal up2_eq rfl rfl hl.1 rfl (Nat.le_of_ble_eq_true rfl) dJx4a65c_add_9ea2d_20 ⟨Nat.le_of_ble_eq_true rfl, Nat.le_of_ble_eq_true rfl⟩) (fun q H locs hw => ?_)
  refine lv_iconst (v := 1) hx hb dJx4a65c_add_9ea2d_23 (by decide) ?_
  exact k_iretn q hx hb hr hlocks rfl hw rfl (by rw [up2_up2]) (Nat.le_refl _) (Nat.le_refl _) dJx4a65c_add_9ea2d_24
