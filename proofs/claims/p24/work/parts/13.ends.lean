section ENDS
variable {p : Program} {l : Launch} {e : Env} {R : Room} {s : State} {m : MethodId} {args : Array Value} {below : List Frame} {meth : Method} {c : Code} {H : Heap} {locs : List Loc} {cells slots : Nat} {cc : ByteArray} {pc : Nat} {ls : Array Slot} {D : va_G} {A : Nat → Prop} {L : List (Nat × Nat)} {ad : Nat → Nat → Nat} {ce : Nat → Nat → va_E} {mc ms : Nat} {cI cJ : ClassId} {S' : Nat → Nat → Nat → Int32} {XC : String → State → State → Prop}
theorem x_iretE {sp : Nat × Int32 × (Nat → Nat → Nat → Int32)} {v : Int32} {ty : FieldType} (hx : p.tables.exec = Jvm.exec) (hb : c.code = cc) (hr : meth.sig.returnType = some ty) (hlocks : meth.locks = false) (hn : narrow ty (.int v) = .int v) (hw : wk D A L ad (cK cI cJ ad ce S') s.heap H locs) (hE : sp = (0, v, S')) (hc : cells ≤ mc) (hs : slots ≤ ms) (hdg : decode cc pc = .ok (.ireturn, 1)) : W p l e R s m args below meth c H locs cells slots (vx_MQ below (va_Qi (fun (r : Int32) (_ : Unit) => r = sp.2.1 ∧ sp.1 = 0) (fun _ t => WE D A L ad (cK cI cJ ad ce sp.2.2) t) A) XC args s mc ms A) (F0 m pc ls [.int v]) := by
  subst hE
  exact x_iret hx hb hr hlocks hn hw rfl rfl rfl hc hs hdg
theorem x_iretP {sp : Nat × Int32} {v : Int32} {ty : FieldType} (hx : p.tables.exec = Jvm.exec) (hb : c.code = cc) (hr : meth.sig.returnType = some ty) (hlocks : meth.locks = false) (hn : narrow ty (.int v) = .int v) (hw : wk D A L ad ce s.heap H locs) (hE : sp = (0, v)) (hc : cells ≤ mc) (hs : slots ≤ ms) (hdg : decode cc pc = .ok (.ireturn, 1)) : W p l e R s m args below meth c H locs cells slots (vx_MQ below (va_Qi (fun (r : Int32) (_ : Unit) => r = sp.2 ∧ sp.1 = 0) (fun _ t => WE D A L ad ce t) A) XC args s mc ms A) (F0 m pc ls [.int v]) := by
  subst hE
  exact x_iret hx hb hr hlocks hn hw rfl rfl rfl hc hs hdg
theorem x_vretP {sp : Nat × Unit} (hx : p.tables.exec = Jvm.exec) (hb : c.code = cc) (hr : meth.sig.returnType = none) (hlocks : meth.locks = false) (hw : wk D A L ad ce s.heap H locs) (hE : sp = (0, ())) (hc : cells ≤ mc) (hs : slots ≤ ms) (hdg : decode cc pc = .ok (.return_, 1)) : W p l e R s m args below meth c H locs cells slots (vx_MQ below (va_Qv (fun (_ : Unit) => sp.1 = 0) (fun _ t => WE D A L ad ce t) A) XC args s mc ms A) (F0 m pc ls []) := by
  subst hE
  exact x_vret hx hb hr hlocks hw rfl rfl hc hs hdg
theorem k_iretE {sp : Int32 × (Nat → Nat → Nat → Int32)} {v : Int32} {ty : FieldType} (hx : p.tables.exec = Jvm.exec) (hb : c.code = cc) (hr : meth.sig.returnType = some ty) (hlocks : meth.locks = false) (hn : narrow ty (.int v) = .int v) (hw : wk D A L ad (cK cI cJ ad ce S') s.heap H locs) (hE : sp = (v, S')) (hdg : decode cc pc = .ok (.ireturn, 1)) : W p l e R s m args below meth c H locs cells slots (MQ below (kQi D A sp.1 L ad (cK cI cJ ad ce sp.2)) args s cells slots A) (F0 m pc ls [.int v]) := by
  subst hE
  exact k_iret hx hb hr hlocks hn hw rfl rfl hdg
theorem k_lretE {sp : Int64 × (Nat → Nat → Nat → Int32)} {v : Int64} (hx : p.tables.exec = Jvm.exec) (hb : c.code = cc) (hr : meth.sig.returnType = some .long) (hlocks : meth.locks = false) (hw : wk D A L ad (cK cI cJ ad ce S') s.heap H locs) (hE : sp = (v, S')) (hdg : decode cc pc = .ok (.lreturn, 1)) : W p l e R s m args below meth c H locs cells slots (MQ below (kQl D A sp.1 L ad (cK cI cJ ad ce sp.2)) args s cells slots A) (F0 m pc ls [.long v]) := by
  subst hE
  exact k_lret hx hb hr hlocks hw rfl rfl hdg
theorem k_vretE {sp : Nat → Nat → Nat → Int32} (hx : p.tables.exec = Jvm.exec) (hb : c.code = cc) (hr : meth.sig.returnType = none) (hlocks : meth.locks = false) (hw : wk D A L ad (cK cI cJ ad ce S') s.heap H locs) (hE : sp = S') (hdg : decode cc pc = .ok (.return_, 1)) : W p l e R s m args below meth c H locs cells slots (MQ below (kQv D A L ad (cK cI cJ ad ce sp)) args s cells slots A) (F0 m pc ls []) := by
  subst hE
  exact k_vret hx hb hr hlocks hw rfl hdg
end ENDS
