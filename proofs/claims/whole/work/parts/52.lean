section MG
variable {p : Program} {l : Launch} {e : Env} {R : Room} {s : State} {m : MethodId} {args : Array Value} {below : List Frame} {meth : Method} {c : Code} {H : Heap} {locs : List Loc} {cells slots : Nat} {Q : State → Prop} {cc : ByteArray} {pc : Nat} {ls : Array Slot} {rest st0 : List Value} {D : va_G} {A : Nat → Prop} {tys : List (ClassId × FieldType)} {K0 : Nat → Nat} {H0 : Heap} {L L' : List (Nat × Nat)} {ad ad' : Nat → Nat → Nat} {ce ce' : Nat → Nat → va_E} {cI cG cJ cO : ClassId} {mc ms : Nat}
theorem it_z {i N : Nat} {b : Int32} (hb : b = nI N) (h : i + 0 = N) : nI i = b := by subst h; exact hb.symm
theorem it_s {i k N : Nat} {b : Int32} (hb : b = nI N) (h : i + (k + 1) = N) (hN : N < 2 ^ 31) : ¬ nI i = b := by subst hb; exact nI_neq (by omega) hN
theorem k_aldi (hx : p.tables.exec = Jvm.exec) (hb : c.code = cc) (hK : va_K D vwCl tys s) (hw : wk D A L ad ce H0 H locs) {f o : Nat} (hi : (f, o) ∈ L) (t0 : Nat) {cA : ClassId} {n i : Nat} {g : Nat → Int32} (he : ce f o = .inl (cA, n, .inl g)) (ht : tys[t0]? = some (cA, .int)) {x v : Int32} (h0 : ¬ x < 0) (hx2 : x.toNatClampNeg = i) (hin : i < n) (hv : g i = v) (hdg : decode cc pc = .ok (.iaload, 1))
    (kk : W p l e R s m args below meth c H locs cells slots Q (F0 m (pc + 1) ls (.int v :: rest))) : W p l e R s m args below meth c H locs cells slots Q (F0 m pc ls (.int x :: .ref (ad f o) :: rest)) := by
  subst hv; subst hx2
  exact k_ald hx hb hK hw hi t0 he ht (fun z => z.elim h0 (fun z => by omega)) hdg kk
theorem k_asti (hx : p.tables.exec = Jvm.exec) (hb : c.code = cc) (hK : va_K D vwCl tys s) (hw : wk D A L ad ce H0 H locs) {f o : Nat} (hi : (f, o) ∈ L) (t0 : Nat) {cA : ClassId} {n i : Nat} {g : Nat → Int32} (he : ce f o = .inl (cA, n, .inl g)) (ht : tys[t0]? = some (cA, .int)) {x v : Int32} (h0 : ¬ x < 0) (hx2 : x.toNatClampNeg = i) (hin : i < n) {ce' : Nat → Nat → va_E} (hce : up2 ce f o (.inl (cA, n, .inl (upd g i v))) = ce') (hdg : decode cc pc = .ok (.iastore, 1))
    (kk : ∀ (H1 : Heap) (locs1 : List Loc), wk D A L ad ce' H0 H1 locs1 → W p l e R s m args below meth c H1 locs1 cells slots Q (F0 m (pc + 1) ls rest)) : W p l e R s m args below meth c H locs cells slots Q (F0 m pc ls (.int v :: .int x :: .ref (ad f o) :: rest)) := by
  subst hx2
  exact k_ast hx hb hK hw hi t0 he ht (fun z => z.elim h0 (fun z => by omega)) hce hdg kk
theorem mcx_day {cp : Nat → Nat} {M : Nat → Nat → Nat → Int32} {o : Nat} {v : Int32} : (.inr (10, [.int (M 14 0 o), .int (M 15 0 o), .int v, .int (M 41 0 o)]) : va_E) = mcell cI cO K0 ad cp (up3 M 16 0 o v) 44 o := by
  show _ = (.inr (10, [.int (M 14 0 o), .int (M 15 0 o), .int (up3 M 16 0 o v 16 0 o), .int (M 41 0 o)]) : va_E)
  rw [up3_e]
theorem mcx_there {cp : Nat → Nat} {M : Nat → Nat → Nat → Int32} {o : Nat} {v : Int32} : (.inr (10, [.int (M 14 0 o), .int (M 15 0 o), .int (M 16 0 o), .int v]) : va_E) = mcell cI cO K0 ad cp (up3 M 41 0 o v) 44 o := by
  show _ = (.inr (10, [.int (M 14 0 o), .int (M 15 0 o), .int (M 16 0 o), .int (up3 M 41 0 o v 41 0 o)]) : va_E)
  rw [up3_e]
theorem mcx_left {cp : Nat → Nat} {M : Nat → Nat → Nat → Int32} {o : Nat} {v : Int32} : (.inr (9, [.int (M 6 o 0), .int (M 6 o 1), .ref (ad 47 o), .ref (ad 48 o), .ref (ad 49 o), .ref (ad 50 o), .ref (ad 51 o), .int v]) : va_E) = mcell cI cO K0 ad cp (up3 M 6 o 2 v) 46 o := by
  show _ = (.inr (9, [.int (up3 M 6 o 2 v 6 o 0), .int (up3 M 6 o 2 v 6 o 1), .ref (ad 47 o), .ref (ad 48 o), .ref (ad 49 o), .ref (ad 50 o), .ref (ad 51 o), .int (up3 M 6 o 2 v 6 o 2)]) : va_E)
  rw [up3_e, up3_i (by decide), up3_i (by decide)]
theorem mcx_a47 {cp : Nat → Nat} {M : Nat → Nat → Nat → Int32} {o i : Nat} {v : Int32} : (.inl (cI, 12, .inl (upd (M 24 o) i v)) : va_E) = mcell cI cO K0 ad cp (up3 M 24 o i v) 47 o := by
  show _ = (.inl (cI, 12, .inl (up3 M 24 o i v 24 o)) : va_E)
  rw [up3_s]
theorem mcx_a48 {cp : Nat → Nat} {M : Nat → Nat → Nat → Int32} {o i : Nat} {v : Int32} : (.inl (cI, 12, .inl (upd (M 25 o) i v)) : va_E) = mcell cI cO K0 ad cp (up3 M 25 o i v) 48 o := by
  show _ = (.inl (cI, 12, .inl (up3 M 25 o i v 25 o)) : va_E)
  rw [up3_s]
theorem mcx_a49 {cp : Nat → Nat} {M : Nat → Nat → Nat → Int32} {o i : Nat} {v : Int32} : (.inl (cI, 12, .inl (upd (M 26 o) i v)) : va_E) = mcell cI cO K0 ad cp (up3 M 26 o i v) 49 o := by
  show _ = (.inl (cI, 12, .inl (up3 M 26 o i v 26 o)) : va_E)
  rw [up3_s]
theorem mcx_a50 {cp : Nat → Nat} {M : Nat → Nat → Nat → Int32} {o i : Nat} {v : Int32} : (.inl (cI, 12, .inl (upd (M 27 o) i v)) : va_E) = mcell cI cO K0 ad cp (up3 M 27 o i v) 50 o := by
  show _ = (.inl (cI, 12, .inl (up3 M 27 o i v 27 o)) : va_E)
  rw [up3_s]
theorem mcx_a51 {cp : Nat → Nat} {M : Nat → Nat → Nat → Int32} {o i : Nat} {v : Int32} : (.inl (cI, 12, .inl (upd (M 28 o) i v)) : va_E) = mcell cI cO K0 ad cp (up3 M 28 o i v) 51 o := by
  show _ = (.inl (cI, 12, .inl (up3 M 28 o i v 28 o)) : va_E)
  rw [up3_s]
/-- a box is the receiver -/
theorem k_rVb {mc ms nL maxL n index b : Nat} {y : MethodName} {bytes : ByteArray} {ret : Option FieldType} {ws : List Cond} {rm : Room} {Ts : List Cond} {own C : String} {As : List Value} {Qc : Array Value → State → Outcome → State → Prop} (F : CallFix p m c cc nL s args Ts own) (hK : va_K D vwCl tys s) (hO : OW A K0 s) (hw : wk D A L ad ce s.heap H locs) (hM : Met l y ws rm (kP D tys K0 A L ad ce H.size (.ref b :: As)) Qc mc ms A) (cw : CallW R s args own C index y bytes maxL ret ws rm mc ms n) (hrc : ∃ cell : Cell, H[b]? = some cell ∧ cell.vm.isStatics = false ∧ s.vm.findClass C = some cell.cls) (hn : As.length = n) (hsize : ls.size = nL) (hst : st0 = As.reverse ++ .ref b :: rest) (hW : (rest.map fun v => v.category).sum ≤ 8) (hdg : decode cc pc = .ok (.invokevirtual index, 3)) (hf : cells + mc ≤ R.cells ∧ slots + ms ≤ R.slots) :
    kRun p l e R s m args below meth c H locs cells slots mc ms pc ls st0 rest A (Qc (Value.ref b :: As).toArray) :=
  va_runV F hM cw ⟨WS.blind, hrc, WS.at hK hO hw _⟩ rfl hn hsize hst (by show 2 * 0 + _ ≤ 8; omega) hdg hf
theorem m_dretE {cp : Nat → Nat} {S : Nat → Nat → Nat → Int32} {mc ms : Nat} {v : UInt64 × (Nat → Nat → Nat → Int32)} {x x0 : UInt64} {d : Drawn} (hd : s.drawn.sameBut d lw_cs) (hx : p.tables.exec = Jvm.exec) (hb : c.code = cc) (hr : meth.sig.returnType = some .double) (hlocks : meth.locks = false) (hw : wk D A L ad (mK cI cO K0 ad cp ce S) s.heap H locs) (hE : some (x0, S) = some v) (hv : alike64 x x0 = true) (hc : cells ≤ mc) (hs : slots ≤ ms) (hdg : decode cc pc = .ok (.dreturn, 1)) : W p l e R (s.setDrawn d) m args below meth c H locs cells slots (MQD lw_cs below (va_Qd (fun (r : UInt64) (_ : Unit) => alike64 r v.1 = true) (fun _ t => WE D A L ad (mK cI cO K0 ad cp ce v.2) t) A) args s mc ms A) (F0 m pc ls [.double x]) := by
  cases hE
  exact W.widen hc hs (k_dret hd hx hb hr hlocks hw hv rfl hdg)
end MG

abbrev bw_X10_isIn : List Cond := .code yX10_isIn cX10_isIn 2 (some .boolean) :: BIG
abbrev rm_X10_isIn : Room := { frames := 0, cells := 0, slots := 0, locals := 0 }
noncomputable def sp_X10_isIn (p1 : Int32) (p2 : Int32) : Int32 := if (p1 >>> (p2 &&& 31)) &&& 1 = 1 then (1) else (0)
set_option maxHeartbeats 1000000 in
set_option maxRecDepth 100000 in
theorem ct_X10_isIn {l : Launch} {D : va_G} {cI cG cJ cO : ClassId} {K0 : Nat → Nat} {A : Nat → Prop} {L : List (Nat × Nat)} {ad : Nat → Nat → Nat} {ce : Nat → Nat → va_E} (p1 : Int32) (p2 : Int32) (sz : Nat) (hA : ∀ q, sz ≤ q → A q) : Met l yX10_isIn bw_X10_isIn rm_X10_isIn (kP D (ktys cI cG cJ cO) K0 A L ad ce sz [.int p1, .int p2]) (kQi D A (sp_X10_isIn p1 p2) L ad ce) 0 0 A := by
  refine Met.ofW (cc := cX10_isIn) (maxL := 2) (ret := (some .boolean)) (by decide) rfl ?_
  intro p e s m args below meth c s₁ B hml hv
  obtain ⟨hav, hsz, hP, hD, hK, hO⟩ := hv
  have hx := B.exec
  have hb := B.bytes
  have hr := B.returns
  have hts : ∀ w ∈ BIG, w.before args s = true := fun w h => atoms_spec (ws := bw_X10_isIn) B.pre w (List.mem_cons_of_mem _ h)
  have hown : s.vm.findClass RX10 = some m.cls := findClass_of_methodNamed B.named
  have hlocks := B.notSynchronized
  subst hsz
  have hw := wk.start hP hD
  refine k_start (by rfl) hav (Nat.le_of_ble_eq_true rfl) (fun ls hl => ?_)
  have hl : lv_has ls 2 [(0, .int p1), (1, .int p2)] := hl
  have hE : sp_X10_isIn p1 p2 = sp_X10_isIn p1 p2 := rfl
  refine lv_iload_n hx hb dX10_isIn_0 rfl (lv_at hl 0 rfl) ?_
  refine lv_iload_n hx hb dX10_isIn_1 rfl (lv_at hl 1 rfl) ?_
  refine lv_ishr hx hb dX10_isIn_2 ?_
  refine lv_iconst (v := 1) hx hb dX10_isIn_3 (by decide) ?_
  refine lv_iand hx hb dX10_isIn_4 ?_
  refine lv_iconst (v := 1) hx hb dX10_isIn_5 (by decide) ?_
  refine lv_icmp_ne (tgt := 13) hx hb dX10_isIn_6 (by decide) (fun c_1 => ?_) (fun c_1 => ?_)
  · have hE := hE.trans (if_neg c_1)
    refine lv_iconst (v := 0) hx hb dX10_isIn_13 (by decide) ?_
    exact k_iret hx hb hr hlocks rfl hw hE rfl dX10_isIn_14
  · have hE := hE.trans (if_pos c_1)
    refine lv_iconst (v := 1) hx hb dX10_isIn_9 (by decide) ?_
    refine lv_goto (tgt := 14) hx hb dX10_isIn_10 (by decide) ?_
    exact k_iret hx hb hr hlocks rfl hw hE rfl dX10_isIn_14

theorem bz_X10_isIn (p1 : Int32) (p2 : Int32) : sp_X10_isIn p1 p2 = 0 ∨ sp_X10_isIn p1 p2 = 1 := by
  unfold sp_X10_isIn
  repeat' split
  all_goals first | exact Or.inl rfl | exact Or.inr rfl | exact bz_X5_has _ _ | exact bz_X5_isWithin _ _ _ | exact bz_X5_isOfKind _ _ | exact bz_X1_isIn _ _ _ _ | exact bz_X3_hasPiece _ _ | exact bz_X2_knows _ _ | exact bz_X2_needsAreDone _ _ _ | exact bz_X5_isAhead _ _ | exact bz_X5_isReady _ _ _ | exact bz_X5_canBegin _ _ _ | skip

abbrev bw_X10_isFrom : List Cond := .code yX10_isFrom cX10_isFrom 3 (some .boolean) :: BIG
abbrev rm_X10_isFrom : Room := { frames := 0, cells := 0, slots := 0, locals := 0 }
noncomputable def sp_X10_isFrom (p1 : Int32) (p2 : Int32) (p3 : Int32) : Int32 := if p1 < p2 then (0) else (if p3 < p1 then (0) else (1))
set_option maxHeartbeats 1000000 in
set_option maxRecDepth 100000 in
theorem ct_X10_isFrom {l : Launch} {D : va_G} {cI cG cJ cO : ClassId} {K0 : Nat → Nat} {A : Nat → Prop} {L : List (Nat × Nat)} {ad : Nat → Nat → Nat} {ce : Nat → Nat → va_E} (p1 : Int32) (p2 : Int32) (p3 : Int32) (sz : Nat) (hA : ∀ q, sz ≤ q → A q) : Met l yX10_isFrom bw_X10_isFrom rm_X10_isFrom (kP D (ktys cI cG cJ cO) K0 A L ad ce sz [.int p1, .int p2, .int p3]) (kQi D A (sp_X10_isFrom p1 p2 p3) L ad ce) 0 0 A := by
  refine Met.ofW (cc := cX10_isFrom) (maxL := 3) (ret := (some .boolean)) (by decide) rfl ?_
  intro p e s m args below meth c s₁ B hml hv
  obtain ⟨hav, hsz, hP, hD, hK, hO⟩ := hv
  have hx := B.exec
  have hb := B.bytes
  have hr := B.returns
  have hts : ∀ w ∈ BIG, w.before args s = true := fun w h => atoms_spec (ws := bw_X10_isFrom) B.pre w (List.mem_cons_of_mem _ h)
  have hown : s.vm.findClass RX10 = some m.cls := findClass_of_methodNamed B.named
  have hlocks := B.notSynchronized
  subst hsz
  have hw := wk.start hP hD
  refine k_start (by rfl) hav (Nat.le_of_ble_eq_true rfl) (fun ls hl => ?_)
  have hl : lv_has ls 3 [(0, .int p1), (1, .int p2), (2, .int p3)] := hl
  have hE : sp_X10_isFrom p1 p2 p3 = sp_X10_isFrom p1 p2 p3 := rfl
  refine lv_iload_n hx hb dX10_isFrom_0 rfl (lv_at hl 0 rfl) ?_
  refine lv_iload_n hx hb dX10_isFrom_1 rfl (lv_at hl 1 rfl) ?_
  refine lv_icmp_lt (tgt := 14) hx hb dX10_isFrom_2 (by decide) (fun c_1 => ?_) (fun c_1 => ?_)
  · have hE := hE.trans (if_pos c_1)
    refine lv_iconst (v := 0) hx hb dX10_isFrom_14 (by decide) ?_
    exact k_iret hx hb hr hlocks rfl hw hE rfl dX10_isFrom_15
  · have hE := hE.trans (if_neg c_1)
    refine lv_iload_n hx hb dX10_isFrom_5 rfl (lv_at hl 0 rfl) ?_
    refine lv_iload_n hx hb dX10_isFrom_6 rfl (lv_at hl 2 rfl) ?_
    refine lv_icmp_gt (tgt := 14) hx hb dX10_isFrom_7 (by decide) (fun c_2 => ?_) (fun c_2 => ?_)
    · have hE := hE.trans (if_pos c_2)
      refine lv_iconst (v := 0) hx hb dX10_isFrom_14 (by decide) ?_
      exact k_iret hx hb hr hlocks rfl hw hE rfl dX10_isFrom_15
    · have hE := hE.trans (if_neg c_2)
      refine lv_iconst (v := 1) hx hb dX10_isFrom_10 (by decide) ?_
      refine lv_goto (tgt := 15) hx hb dX10_isFrom_11 (by decide) ?_
      exact k_iret hx hb hr hlocks rfl hw hE rfl dX10_isFrom_15

theorem bz_X10_isFrom (p1 : Int32) (p2 : Int32) (p3 : Int32) : sp_X10_isFrom p1 p2 p3 = 0 ∨ sp_X10_isFrom p1 p2 p3 = 1 := by
  unfold sp_X10_isFrom
  repeat' split
  all_goals first | exact Or.inl rfl | exact Or.inr rfl | exact bz_X5_has _ _ | exact bz_X5_isWithin _ _ _ | exact bz_X5_isOfKind _ _ | exact bz_X1_isIn _ _ _ _ | exact bz_X3_hasPiece _ _ | exact bz_X2_knows _ _ | exact bz_X2_needsAreDone _ _ _ | exact bz_X5_isAhead _ _ | exact bz_X5_isReady _ _ _ | exact bz_X5_canBegin _ _ _ | exact bz_X10_isIn _ _ | skip

abbrev bw_X10_isNoRole : List Cond := .code yX10_isNoRole cX10_isNoRole 1 (some .boolean) :: BIG
abbrev rm_X10_isNoRole : Room := { frames := 1, cells := 0, slots := 0, locals := 22 }
noncomputable def sp_X10_isNoRole (p1 : Int32) : Int32 := if sp_X10_isFrom p1 0 3 = 0 then (1) else (0)
set_option maxHeartbeats 1000000 in
set_option maxRecDepth 100000 in
theorem ct_X10_isNoRole {l : Launch} {D : va_G} {cI cG cJ cO : ClassId} {K0 : Nat → Nat} {A : Nat → Prop} {L : List (Nat × Nat)} {ad : Nat → Nat → Nat} {ce : Nat → Nat → va_E} (p1 : Int32) (sz : Nat) (hA : ∀ q, sz ≤ q → A q) : Met l yX10_isNoRole bw_X10_isNoRole rm_X10_isNoRole (kP D (ktys cI cG cJ cO) K0 A L ad ce sz [.int p1]) (kQi D A (sp_X10_isNoRole p1) L ad ce) 0 0 A := by
  refine Met.ofW (cc := cX10_isNoRole) (maxL := 1) (ret := (some .boolean)) (by decide) rfl ?_
  intro p e s m args below meth c s₁ B hml hv
  obtain ⟨hav, hsz, hP, hD, hK, hO⟩ := hv
  have hx := B.exec
  have hb := B.bytes
  have hr := B.returns
  have hts : ∀ w ∈ BIG, w.before args s = true := fun w h => atoms_spec (ws := bw_X10_isNoRole) B.pre w (List.mem_cons_of_mem _ h)
  have hown : s.vm.findClass RX10 = some m.cls := findClass_of_methodNamed B.named
  have hlocks := B.notSynchronized
  subst hsz
  have hw := wk.start hP hD
  refine k_start (by rfl) hav (Nat.le_of_ble_eq_true rfl) (fun ls hl => ?_)
  have hl : lv_has ls 1 [(0, .int p1)] := hl
  have hE : sp_X10_isNoRole p1 = sp_X10_isNoRole p1 := rfl
  refine lv_iload_n hx hb dX10_isNoRole_0 rfl (lv_at hl 0 rfl) ?_
  refine lv_iconst (v := 0) hx hb dX10_isNoRole_1 (by decide) ?_
  refine lv_iconst (v := 3) hx hb dX10_isNoRole_2 (by decide) ?_
  refine k_ci0 hw (k_rS (As := [.int p1, .int 0, .int 3]) (rest := []) ⟨hx, hb, hml, hown, hts⟩ hK hO hw (ct_X10_isFrom p1 0 3 _ (wk.hA hw hA)) (va_cwS 3 hts (gB_S w_ml_X10_47 w_st_X10_isFrom w_in_X10 w_co_X10_isFrom) rfl rfl rfl (by decide +kernel) ⟨by decide, by decide⟩) rfl hl.1 rfl (Nat.le_of_ble_eq_true rfl) dX10_isNoRole_3 ⟨Nat.le_of_ble_eq_true rfl, Nat.le_of_ble_eq_true rfl⟩) (fun H locs hw => ?_)
  refine lv_if_ne (tgt := 13) hx hb dX10_isNoRole_6 (by decide) (fun c_1 => ?_) (fun c_1 => ?_)
  · have hE := hE.trans (if_neg c_1)
    refine lv_iconst (v := 0) hx hb dX10_isNoRole_13 (by decide) ?_
    exact k_iret hx hb hr hlocks rfl hw hE rfl dX10_isNoRole_14
  · have hE := hE.trans (if_pos c_1)
    refine lv_iconst (v := 1) hx hb dX10_isNoRole_9 (by decide) ?_
    refine lv_goto (tgt := 14) hx hb dX10_isNoRole_10 (by decide) ?_
    exact k_iret hx hb hr hlocks rfl hw hE rfl dX10_isNoRole_14

theorem bz_X10_isNoRole (p1 : Int32) : sp_X10_isNoRole p1 = 0 ∨ sp_X10_isNoRole p1 = 1 := by
  unfold sp_X10_isNoRole
  repeat' split
  all_goals first | exact Or.inl rfl | exact Or.inr rfl | exact bz_X5_has _ _ | exact bz_X5_isWithin _ _ _ | exact bz_X5_isOfKind _ _ | exact bz_X1_isIn _ _ _ _ | exact bz_X3_hasPiece _ _ | exact bz_X2_knows _ _ | exact bz_X2_needsAreDone _ _ _ | exact bz_X5_isAhead _ _ | exact bz_X5_isReady _ _ _ | exact bz_X5_canBegin _ _ _ | exact bz_X10_isIn _ _ | exact bz_X10_isFrom _ _ _ | skip

abbrev bw_X10_isNoItem : List Cond := .code yX10_isNoItem cX10_isNoItem 1 (some .boolean) :: BIG
abbrev rm_X10_isNoItem : Room := { frames := 1, cells := 0, slots := 0, locals := 22 }
noncomputable def sp_X10_isNoItem (p1 : Int32) : Int32 := if sp_X10_isFrom p1 0 3 = 0 then (1) else (0)
set_option maxHeartbeats 1000000 in
set_option maxRecDepth 100000 in
theorem ct_X10_isNoItem {l : Launch} {D : va_G} {cI cG cJ cO : ClassId} {K0 : Nat → Nat} {A : Nat → Prop} {L : List (Nat × Nat)} {ad : Nat → Nat → Nat} {ce : Nat → Nat → va_E} (p1 : Int32) (sz : Nat) (hA : ∀ q, sz ≤ q → A q) : Met l yX10_isNoItem bw_X10_isNoItem rm_X10_isNoItem (kP D (ktys cI cG cJ cO) K0 A L ad ce sz [.int p1]) (kQi D A (sp_X10_isNoItem p1) L ad ce) 0 0 A := by
  refine Met.ofW (cc := cX10_isNoItem) (maxL := 1) (ret := (some .boolean)) (by decide) rfl ?_
  intro p e s m args below meth c s₁ B hml hv
  obtain ⟨hav, hsz, hP, hD, hK, hO⟩ := hv
  have hx := B.exec
  have hb := B.bytes
  have hr := B.returns
  have hts : ∀ w ∈ BIG, w.before args s = true := fun w h => atoms_spec (ws := bw_X10_isNoItem) B.pre w (List.mem_cons_of_mem _ h)
  have hown : s.vm.findClass RX10 = some m.cls := findClass_of_methodNamed B.named
  have hlocks := B.notSynchronized
  subst hsz
  have hw := wk.start hP hD
  refine k_start (by rfl) hav (Nat.le_of_ble_eq_true rfl) (fun ls hl => ?_)
  have hl : lv_has ls 1 [(0, .int p1)] := hl
  have hE : sp_X10_isNoItem p1 = sp_X10_isNoItem p1 := rfl
  refine lv_iload_n hx hb dX10_isNoItem_0 rfl (lv_at hl 0 rfl) ?_
  refine lv_iconst (v := 0) hx hb dX10_isNoItem_1 (by decide) ?_
  refine lv_iconst (v := 3) hx hb dX10_isNoItem_2 (by decide) ?_
  refine k_ci0 hw (k_rS (As := [.int p1, .int 0, .int 3]) (rest := []) ⟨hx, hb, hml, hown, hts⟩ hK hO hw (ct_X10_isFrom p1 0 3 _ (wk.hA hw hA)) (va_cwS 3 hts (gB_S w_ml_X10_47 w_st_X10_isFrom w_in_X10 w_co_X10_isFrom) rfl rfl rfl (by decide +kernel) ⟨by decide, by decide⟩) rfl hl.1 rfl (Nat.le_of_ble_eq_true rfl) dX10_isNoItem_3 ⟨Nat.le_of_ble_eq_true rfl, Nat.le_of_ble_eq_true rfl⟩) (fun H locs hw => ?_)
  refine lv_if_ne (tgt := 13) hx hb dX10_isNoItem_6 (by decide) (fun c_1 => ?_) (fun c_1 => ?_)
  · have hE := hE.trans (if_neg c_1)
    refine lv_iconst (v := 0) hx hb dX10_isNoItem_13 (by decide) ?_
    exact k_iret hx hb hr hlocks rfl hw hE rfl dX10_isNoItem_14
  · have hE := hE.trans (if_pos c_1)
    refine lv_iconst (v := 1) hx hb dX10_isNoItem_9 (by decide) ?_
    refine lv_goto (tgt := 14) hx hb dX10_isNoItem_10 (by decide) ?_
    exact k_iret hx hb hr hlocks rfl hw hE rfl dX10_isNoItem_14

theorem bz_X10_isNoItem (p1 : Int32) : sp_X10_isNoItem p1 = 0 ∨ sp_X10_isNoItem p1 = 1 := by
  unfold sp_X10_isNoItem
  repeat' split
  all_goals first | exact Or.inl rfl | exact Or.inr rfl | exact bz_X5_has _ _ | exact bz_X5_isWithin _ _ _ | exact bz_X5_isOfKind _ _ | exact bz_X1_isIn _ _ _ _ | exact bz_X3_hasPiece _ _ | exact bz_X2_knows _ _ | exact bz_X2_needsAreDone _ _ _ | exact bz_X5_isAhead _ _ | exact bz_X5_isReady _ _ _ | exact bz_X5_canBegin _ _ _ | exact bz_X10_isIn _ _ | exact bz_X10_isFrom _ _ _ | exact bz_X10_isNoRole _ | skip

abbrev bw_X10_add : List Cond := .code yX10_add cX10_add 4 (some .long) :: BIG
abbrev rm_X10_add : Room := { frames := 0, cells := 0, slots := 0, locals := 0 }
noncomputable def sp_X10_add (p1 : Int64) (p2 : Int64) : Int64 := (p1 * 31) + p2
set_option maxHeartbeats 1000000 in
set_option maxRecDepth 100000 in
theorem ct_X10_add {l : Launch} {D : va_G} {cI cG cJ cO : ClassId} {K0 : Nat → Nat} {A : Nat → Prop} {L : List (Nat × Nat)} {ad : Nat → Nat → Nat} {ce : Nat → Nat → va_E} (p1 : Int64) (p2 : Int64) (sz : Nat) (hA : ∀ q, sz ≤ q → A q) : Met l yX10_add bw_X10_add rm_X10_add (kP D (ktys cI cG cJ cO) K0 A L ad ce sz [.long p1, .long p2]) (kQl D A (sp_X10_add p1 p2) L ad ce) 0 0 A := by
  refine Met.ofW (cc := cX10_add) (maxL := 4) (ret := (some .long)) (by decide) rfl ?_
  intro p e s m args below meth c s₁ B hml hv
  obtain ⟨hav, hsz, hP, hD, hK, hO⟩ := hv
  have hx := B.exec
  have hb := B.bytes
  have hr := B.returns
  have hts : ∀ w ∈ BIG, w.before args s = true := fun w h => atoms_spec (ws := bw_X10_add) B.pre w (List.mem_cons_of_mem _ h)
  have hown : s.vm.findClass RX10 = some m.cls := findClass_of_methodNamed B.named
  have hlocks := B.notSynchronized
  subst hsz
  have hw := wk.start hP hD
  refine k_start (by rfl) hav (Nat.le_of_ble_eq_true rfl) (fun ls hl => ?_)
  have hl : lv_has ls 4 [(0, .long p1), (2, .long p2)] := hl
  have hE : sp_X10_add p1 p2 = (p1 * 31) + p2 := by unfold sp_X10_add; rfl
  refine lv_lload_n hx hb dX10_add_0 rfl (lv_at hl 0 rfl) ?_
  refine lv_ldc2 hx hb hown (hts _ w_cq_X10_294) dX10_add_1 ?_
  refine lv_lmul hx hb dX10_add_4 ?_
  refine lv_lload_n hx hb dX10_add_5 rfl (lv_at hl 1 rfl) ?_
  refine lv_ladd hx hb dX10_add_6 ?_
  exact k_lret hx hb hr hlocks hw hE rfl dX10_add_7
