section P24H
variable {p : Program} {l : Launch} {e : Env} {R : Room} {s : State} {m : MethodId} {args : Array Value} {below : List Frame} {meth : Method} {c : Code} {H : Heap} {locs : List Loc} {cells slots : Nat} {Q : State → Prop} {cc : ByteArray} {pc : Nat} {ls : Array Slot} {rest : List Value} {D : va_G} {cI cG cJ cO : ClassId} {K0 : Nat → Nat} {A : Nat → Prop} {L : List (Nat × Nat)} {ad : Nat → Nat → Nat} {ce : Nat → Nat → va_E} {S Z M : STT} {r r' index nL : Nat} {own : String}
theorem cK_30 {f o : Nat} (h : 30 ≤ f) : cK cI cJ ad ce S f o = ce f o := if_neg (by omega)
theorem r_many (F : CallFix p m c cc nL s args BIG own) (hK : va_K D vwCl (ktys cI cG cJ cO) s) (hO : OW A K0 s) (hL : ∀ f o, cid f o = true → (f, o) ∈ L) (hA : ∀ q, s.heap.size ≤ q → A q) (hw : wk D A L ad (cK cI cJ ad ce S) s.heap H locs) (hZ : RLn r Z M) (hS : RLn r' S M) {w : Nat} (hw1 : w < 11) {v : Int32} (hv : sp_X5_many_n Z (nI w) = v) (cw : CallW R s args own RX5 index yX5_many cX5_many 2 (some .int) bw_X5_many rm_X5_many_n 0 0 1) (hsz : ls.size = nL) (hW : (rest.map fun v => v.category).sum ≤ 8) (hf : cells ≤ R.cells ∧ slots ≤ R.slots) (hdg : decode cc pc = .ok (.invokevirtual index, 3))
    (kk : ∀ (H1 : Heap) (locs1 : List Loc), wk D A L ad (cK cI cJ ad ce S) s.heap H1 locs1 → W p l e R s m args below meth c H1 locs1 cells slots Q (F0 m (pc + 3) ls (.int v :: rest))) : W p l e R s m args below meth c H locs cells slots Q (F0 m pc ls (.int (nI w) :: .ref (ad 0 0) :: rest)) := by
  subst hv
  have h := k_rV (As := [.int (nI w)]) (rest := rest) (ls := ls) (pc := pc) (cells := cells) (slots := slots) (meth := meth) (below := below) (e := e) (l := l) F hK hO hw (ct_X5_many_n hL S (RLn.ci hS).1 (nI w) (within_q (n := 11) (by decide) hw1 rfl) _ (wk.hA hw hA)) cw (hL 0 0 rfl) cke_0 rfl rfl hsz rfl hW hdg hf
  rw [a_many hZ hS hw1] at h
  exact k_ci0 hw h kk
theorem r_sess (F : CallFix p m c cc nL s args BIG own) (hK : va_K D vwCl (ktys cI cG cJ cO) s) (hO : OW A K0 s) (hL : ∀ f o, cid f o = true → (f, o) ∈ L) (hA : ∀ q, s.heap.size ≤ q → A q) (hw : wk D A L ad (cK cI cJ ad ce S) s.heap H locs) (hZ : RLn r Z M) (hS : RLn r' S M) {q w : Nat} (hq : q < (Z 3 0 0).toNatClampNeg) (hw1 : w < 4) {v : Int32} (hv : sp_X5_ofSession_n Z (nI q) (nI w) = v) (cw : CallW R s args own RX5 index yX5_ofSession cX5_ofSession 3 (some .int) bw_X5_ofSession rm_X5_ofSession_n 0 0 2) (hsz : ls.size = nL) (hW : (rest.map fun v => v.category).sum ≤ 8) (hf : cells ≤ R.cells ∧ slots ≤ R.slots) (hdg : decode cc pc = .ok (.invokevirtual index, 3))
    (kk : ∀ (H1 : Heap) (locs1 : List Loc), wk D A L ad (cK cI cJ ad ce S) s.heap H1 locs1 → W p l e R s m args below meth c H1 locs1 cells slots Q (F0 m (pc + 3) ls (.int v :: rest))) : W p l e R s m args below meth c H locs cells slots Q (F0 m pc ls (.int (nI w) :: .int (nI q) :: .ref (ad 0 0) :: rest)) := by
  subst hv
  have e3 : S 3 = Z 3 := by rw [hS.c.rw.r3, hZ.c.rw.r3]
  have c3 := cnt_i (RLn.ci hS).1.2.2.2.1.1
  have n3 := (RLn.ci hS).1.n4
  have h := k_rV (As := [.int (nI q), .int (nI w)]) (rest := rest) (ls := ls) (pc := pc) (cells := cells) (slots := slots) (meth := meth) (below := below) (e := e) (l := l) F hK hO hw (ct_X5_ofSession_n hL S (RLn.ci hS).1 (nI q) (nI w) (q_ge (by rw [e3] at n3; omega)) (by rw [Int32.lt_iff_toInt_lt, c3, nI_toInt (by rw [e3] at n3; omega), e3]; omega) (within_q (n := 4) (by decide) hw1 rfl) _ (wk.hA hw hA)) cw (hL 0 0 rfl) cke_0 rfl rfl hsz rfl hW hdg hf
  rw [a_session hZ hS hq hw1] at h
  exact k_ci0 hw h kk
theorem r_item (F : CallFix p m c cc nL s args BIG own) (hK : va_K D vwCl (ktys cI cG cJ cO) s) (hO : OW A K0 s) (hL : ∀ f o, cid f o = true → (f, o) ∈ L) (hA : ∀ q, s.heap.size ≤ q → A q) (hw : wk D A L ad (cK cI cJ ad ce S) s.heap H locs) (hZ : RLn r Z M) (hS : RLn r' S M) {q w : Nat} (hq : q < 4) (hw1 : w < 4) {v : Int32} (hv : sp_X5_ofItem_n Z (nI q) (nI w) = v) (cw : CallW R s args own RX5 index yX5_ofItem cX5_ofItem 3 (some .int) bw_X5_ofItem rm_X5_ofItem_n 0 0 2) (hsz : ls.size = nL) (hW : (rest.map fun v => v.category).sum ≤ 8) (hf : cells ≤ R.cells ∧ slots ≤ R.slots) (hdg : decode cc pc = .ok (.invokevirtual index, 3))
    (kk : ∀ (H1 : Heap) (locs1 : List Loc), wk D A L ad (cK cI cJ ad ce S) s.heap H1 locs1 → W p l e R s m args below meth c H1 locs1 cells slots Q (F0 m (pc + 3) ls (.int v :: rest))) : W p l e R s m args below meth c H locs cells slots Q (F0 m pc ls (.int (nI w) :: .int (nI q) :: .ref (ad 0 0) :: rest)) := by
  subst hv
  have h := k_rV (As := [.int (nI q), .int (nI w)]) (rest := rest) (ls := ls) (pc := pc) (cells := cells) (slots := slots) (meth := meth) (below := below) (e := e) (l := l) F hK hO hw (ct_X5_ofItem_n hL S (RLn.ci hS).1 (nI q) (nI w) (q_ge (by omega)) (nI_lt (b := 4) hq (by decide)) (within_q (n := 4) (by decide) hw1 rfl) _ (wk.hA hw hA)) cw (hL 0 0 rfl) cke_0 rfl rfl hsz rfl hW hdg hf
  rw [a_item hZ hS hq hw1] at h
  exact k_ci0 hw h kk
theorem r_step (F : CallFix p m c cc nL s args BIG own) (hK : va_K D vwCl (ktys cI cG cJ cO) s) (hO : OW A K0 s) (hL : ∀ f o, cid f o = true → (f, o) ∈ L) (hA : ∀ q, s.heap.size ≤ q → A q) (hw : wk D A L ad (cK cI cJ ad ce S) s.heap H locs) (hZ : RLn r Z M) (hS : RLn r' S M) {j k w : Nat} (hj : j < (Z 0 0 0).toNatClampNeg) (hk : k < 12) (hq : qb (Z 6 j 0) k = true) (hw1 : w < 6) {v : Int32} (hv : sp_X5_foreseenOfStep (sp_X0_foresee Z j (Z 0 0 1) (-1) 0) j (nI k) (nI w) = v) (cw : CallW R s args own RX5 index yX5_ofStep cX5_ofStep 5 (some .int) bw_X5_ofStep rm_X5_ofStep_n 0 0 3) (hsz : ls.size = nL) (hW : (rest.map fun v => v.category).sum ≤ 8) (hf : cells ≤ R.cells ∧ slots ≤ R.slots) (hdg : decode cc pc = .ok (.invokevirtual index, 3))
    (kk : ∀ (S1 : STT) (H1 : Heap) (locs1 : List Loc), RLn r' S1 M → wk D A L ad (cK cI cJ ad ce S1) s.heap H1 locs1 → W p l e R s m args below meth c H1 locs1 cells slots Q (F0 m (pc + 3) ls (.int v :: rest))) : W p l e R s m args below meth c H locs cells slots Q (F0 m pc ls (.int (nI w) :: .int (nI k) :: .int (nI j) :: .ref (ad 0 0) :: rest)) := by
  subst hv
  have e0 : S 0 = Z 0 := by rw [hS.c.rw.r0, hZ.c.rw.r0]
  have e6 : S 6 = Z 6 := by rw [hS.c.rw.r6, hZ.c.rw.r6]
  obtain ⟨a1, a2⟩ := a_step hZ hS hj hq hw1
  have h := k_rV (As := [.int (nI j), .int (nI k), .int (nI w)]) (rest := rest) (ls := ls) (pc := pc) (cells := cells) (slots := slots) (meth := meth) (below := below) (e := e) (l := l) F hK hO hw (ct_X5_ofStep_n hL S (RLn.ci hS).1 (nI k) (nI w) j (by rw [e0]; exact hj) (q_ge (by omega)) (is12 hk) (fun z => (has_zero (by omega)).mp z (by rw [e6]; exact hq)) (within_q (n := 6) (by decide) hw1 rfl) _ (wk.hA hw hA)) cw (hL 0 0 rfl) cke_0 rfl rfl hsz rfl hW hdg hf
  rw [a1] at h
  exact k_ci0 hw h (fun H1 locs1 hw1 => kk _ H1 locs1 a2 hw1)
theorem r_joiner (F : CallFix p m c cc nL s args BIG own) (hK : va_K D vwCl (ktys cI cG cJ cO) s) (hO : OW A K0 s) (hL : ∀ f o, cid f o = true → (f, o) ∈ L) (hA : ∀ q, s.heap.size ≤ q → A q) (hw : wk D A L ad (cK cI cJ ad ce S) s.heap H locs) (hZ : RLn r Z M) (hS : RLn r' S M) {j w : Nat} (hj : j < (Z 0 0 0).toNatClampNeg) (hw1 : w < 7) {v : Int32} (hv : sp_X5_foreseenOfJoiner (sp_X0_foresee Z j (Z 0 0 1) (-1) 0) j (nI w) = v) (cw : CallW R s args own RX5 index yX5_ofJoiner cX5_ofJoiner 4 (some .int) bw_X5_ofJoiner rm_X5_ofJoiner_n 0 0 2) (hsz : ls.size = nL) (hW : (rest.map fun v => v.category).sum ≤ 8) (hf : cells ≤ R.cells ∧ slots ≤ R.slots) (hdg : decode cc pc = .ok (.invokevirtual index, 3))
    (kk : ∀ (S1 : STT) (H1 : Heap) (locs1 : List Loc), RLn r' S1 M → wk D A L ad (cK cI cJ ad ce S1) s.heap H1 locs1 → W p l e R s m args below meth c H1 locs1 cells slots Q (F0 m (pc + 3) ls (.int v :: rest))) : W p l e R s m args below meth c H locs cells slots Q (F0 m pc ls (.int (nI w) :: .int (nI j) :: .ref (ad 0 0) :: rest)) := by
  subst hv
  have e0 : S 0 = Z 0 := by rw [hS.c.rw.r0, hZ.c.rw.r0]
  obtain ⟨a1, a2⟩ := a_joiner hZ hS hj hw1
  have h := k_rV (As := [.int (nI j), .int (nI w)]) (rest := rest) (ls := ls) (pc := pc) (cells := cells) (slots := slots) (meth := meth) (below := below) (e := e) (l := l) F hK hO hw (ct_X5_ofJoiner_n hL S (RLn.ci hS).1 (nI w) j (by rw [e0]; exact hj) (within_q (n := 7) (by decide) hw1 rfl) _ (wk.hA hw hA)) cw (hL 0 0 rfl) cke_0 rfl rfl hsz rfl hW hdg hf
  rw [a1] at h
  exact k_ci0 hw h (fun H1 locs1 hw1 => kk _ H1 locs1 a2 hw1)
theorem r_right (F : CallFix p m c cc nL s args BIG own) (hK : va_K D vwCl (ktys cI cG cJ cO) s) (hO : OW A K0 s) (hL : ∀ f o, cid f o = true → (f, o) ∈ L) (hA : ∀ q, s.heap.size ≤ q → A q) (hw : wk D A L ad (cK cI cJ ad ce S) s.heap H locs) (hZ : RLn r Z M) (hS : RLn r' S M) {j q : Nat} (hj : j < (Z 0 0 0).toNatClampNeg) (hq : q < (Z 1 0 1).toNatClampNeg) {v : Int32} (hv : sp_X0_dayBehind (sp_X0_foresee Z j (Z 0 0 1) (-1) 0) (Z 12 0 q) = v) (cw : CallW R s args own RX5 index yX5_rightOn cX5_rightOn 4 (some .int) bw_X5_rightOn rm_X5_rightOn_n 0 0 2) (hsz : ls.size = nL) (hW : (rest.map fun v => v.category).sum ≤ 8) (hf : cells ≤ R.cells ∧ slots ≤ R.slots) (hdg : decode cc pc = .ok (.invokevirtual index, 3))
    (kk : ∀ (S1 : STT) (H1 : Heap) (locs1 : List Loc), RLn r' S1 M → wk D A L ad (cK cI cJ ad ce S1) s.heap H1 locs1 → W p l e R s m args below meth c H1 locs1 cells slots Q (F0 m (pc + 3) ls (.int v :: rest))) : W p l e R s m args below meth c H locs cells slots Q (F0 m pc ls (.int (nI q) :: .int (nI j) :: .ref (ad 0 0) :: rest)) := by
  subst hv
  have e0 : S 0 = Z 0 := by rw [hS.c.rw.r0, hZ.c.rw.r0]
  have e1 : S 1 = Z 1 := by rw [hS.c.rw.r1, hZ.c.rw.r1]
  have c1 := cnt_i (RLn.ci hS).1.2.1.1
  have n1 := (RLn.ci hS).1.n2
  obtain ⟨a1, a2⟩ := a_right hZ hS hj hq
  have h := k_rV (As := [.int (nI j), .int (nI q)]) (rest := rest) (ls := ls) (pc := pc) (cells := cells) (slots := slots) (meth := meth) (below := below) (e := e) (l := l) F hK hO hw (ct_X5_rightOn_n hL S (RLn.ci hS).1 (nI q) j (by rw [e0]; exact hj) (q_ge (by rw [e1] at n1; omega)) (by rw [Int32.lt_iff_toInt_lt, c1, nI_toInt (by rw [e1] at n1; omega), e1]; omega) _ (wk.hA hw hA)) cw (hL 0 0 rfl) cke_0 rfl rfl hsz rfl hW hdg hf
  rw [a1] at h
  exact k_ci0 hw h (fun H1 locs1 hw1 => kk _ H1 locs1 a2 hw1)
/-- a row of the law's own, read, and how long it is -/
theorem r_ald (F : CallFix p m c cc nL s args BIG own) (hK : va_K D vwCl (ktys cI cG cJ cO) s) (hw : wk D A L ad (cK cI cJ ad ce S) s.heap H locs) {f o n i : Nat} {g : Nat → Int32} (hi : (f, o) ∈ L) (hf : 30 ≤ f) (he : ce f o = .inl (cI, n, .inl g)) (hin : i < n) (hn : n < 2 ^ 31) {v : Int32} (hv : g i = v) (hdg : decode cc pc = .ok (.iaload, 1))
    (kk : W p l e R s m args below meth c H locs cells slots Q (F0 m (pc + 1) ls (.int v :: rest))) : W p l e R s m args below meth c H locs cells slots Q (F0 m pc ls (.int (nI i) :: .ref (ad f o) :: rest)) := by
  subst hv
  obtain ⟨hx, hb, -, -, -⟩ := F
  exact k_aldn hx hb hK hw hi 0 ((cK_30 hf).trans he) rfl hin hn hdg kk
theorem r_len (F : CallFix p m c cc nL s args BIG own) (hK : va_K D vwCl (ktys cI cG cJ cO) s) (hw : wk D A L ad (cK cI cJ ad ce S) s.heap H locs) {f o n : Nat} {g : Nat → Int32} (hi : (f, o) ∈ L) (hf : 30 ≤ f) (he : ce f o = .inl (cI, n, .inl g)) (hdg : decode cc pc = .ok (.arraylength, 1))
    (kk : W p l e R s m args below meth c H locs cells slots Q (F0 m (pc + 1) ls (.int (nI n) :: rest))) : W p l e R s m args below meth c H locs cells slots Q (F0 m pc ls (.ref (ad f o) :: rest)) := by
  obtain ⟨hx, hb, -, -, -⟩ := F
  obtain ⟨q, hq⟩ := wl_in hi
  exact va_alen (x := (n, .inl g)) (v := nI n) hx hb hK hw.1 q 0 ((wl_at hq).trans (by rw [(cK_30 hf).trans he])) rfl rfl hdg kk
end P24H
