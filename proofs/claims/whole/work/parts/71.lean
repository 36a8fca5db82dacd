section LAWP
variable {p : Program} {l : Launch} {e : Env} {R : Room} {s : State} {m : MethodId} {args : Array Value} {below : List Frame} {meth : Method} {c : Code} {H : Heap} {locs : List Loc} {cells slots : Nat} {Q : State → Prop} {cc : ByteArray} {pc : Nat} {ls : Array Slot} {rest st0 : List Value} {D : va_G} {A : Nat → Prop} {tys : List (ClassId × FieldType)} {K0 : Nat → Nat} {H0 : Heap} {L L' : List (Nat × Nat)} {ad ad' : Nat → Nat → Nat} {ce ce' : Nat → Nat → va_E} {cI cG cJ cO : ClassId} {mc ms : Nat} {cp cp2 : Nat → Nat} {S S1 S2 T M M2 : Nat → Nat → Nat → Int32} {u : Nat → Nat → Nat} {g : Nat → Int64} {nL maxL n index : Nat} {y : MethodName} {bytes : ByteArray} {ret : Option FieldType} {ws : List Cond} {rm : Room} {Ts : List Cond} {own C : String} {As : List Value} {hh : List (Nat × Nat × Nat × Nat)}
/-- both sides' cells and the row for answers -/
def LWc (cI cG cJ cO : ClassId) (K0 : Nat → Nat) (u : Nat → Nat → Nat) (cp : Nat → Nat) (ce : Nat → Nat → va_E) (g : Nat → Int64) (M S : Nat → Nat → Nat → Int32) : Nat → Nat → va_E := cK cI cJ u (mK cI cO K0 u cp (up2 ce 90 0 (.inl (cG, 1, .inr (.inl g)))) M) S
theorem cK_mK {ad2 : Nat → Nat → Nat} : cK cI cJ ad (mK cI cO K0 ad2 cp ce M) S = mK cI cO K0 ad2 cp (cK cI cJ ad ce S) M := by
  funext f o
  by_cases h : f < 30
  · rw [mK_ou (Or.inl h)]
    unfold cK
    rw [if_pos h, if_pos h]
  · rw [cK_ou (by omega)]
    by_cases h2 : f < 53
    · rw [mK_in (by omega) h2, mK_in (by omega) h2]
    · rw [mK_ou (Or.inr (by omega)), mK_ou (Or.inr (by omega)), cK_ou (by omega)]
theorem ccell_ex {f o : Nat} {q : Nat → Int32} (h : ∀ f o, cid f o = true → u f o = ad f o) (hc : cid f o = true) : ccell cI cJ u f o q = ccell cI cJ ad f o q := by
  match f, hc with
  | 0, _ => rw [cc_0, cc_0, h 1 0 rfl, h 2 0 rfl, h 3 0 rfl, h 4 0 rfl, h 5 0 rfl]
  | 1, _ => rw [cc_1, cc_1, h 7 0 rfl, h 8 0 rfl, h 9 0 rfl, h 10 0 rfl, h 11 0 rfl, h 12 0 rfl]
  | 2, _ => rw [cc_2, cc_2, h 13 0 rfl, h 14 0 rfl, h 15 0 rfl, h 16 0 rfl]
  | 3, _ => rw [cc_3, cc_3, h 17 0 rfl, h 18 0 rfl, h 19 0 rfl, h 20 0 rfl]
  | 4, _ => rw [cc_4, cc_4, h 1 0 rfl, h 2 0 rfl, h 3 0 rfl, h 21 0 rfl, h 22 0 rfl, h 23 0 rfl]
  | 5, _ =>
    have e : (fun k => if k < 8 then some (u 6 k) else none) = (fun k => if k < 8 then some (ad 6 k) else none) := by
      funext k
      by_cases hk : k < 8
      · rw [if_pos hk, if_pos hk, h 6 k (cidJ6 hk)]
      · rw [if_neg hk, if_neg hk]
    show (.inl (cJ, 8, .inr (.inr (.inr (.inr (fun k => if k < 8 then some (u 6 k) else none))))) : va_E) = .inl (cJ, 8, .inr (.inr (.inr (.inr (fun k => if k < 8 then some (ad 6 k) else none)))))
    rw [e]
  | 6, hc =>
    have ho : o < 8 := of_decide_eq_true hc
    rw [cc_6, cc_6, h 24 o (cidJ24 ho), h 25 o (cidJ25 ho), h 26 o (cidJ26 ho), h 27 o (cidJ27 ho), h 28 o (cidJ28 ho)]
  | n + 7, _ => rfl
/-- new addresses for the class's side too -/
theorem wk.ad2 {g2 : Nat → Int64} {L0 : List (Nat × Nat)} (hE : ∀ f o, (f, o) ∈ L0 → f < 38 → u f o = ad f o) (hL : ∀ f o, cid f o = true → (f, o) ∈ L0) (hLc : ∀ f o, (f, o) ∈ L → f < 30 → cid f o = true) (hw : wk D A L u (mK cI cO K0 u cp (cK cI cJ ad (up2 ce 90 0 (.inl (cG, 1, .inr (.inl g2)))) S) M) H0 H locs) : wk D A L u (LWc cI cG cJ cO K0 u cp ce g2 M S) H0 H locs := by
  refine hw.congr (fun f o h => ⟨rfl, ?_⟩)
  unfold LWc
  rw [← cK_mK]
  by_cases hf : f < 30
  · unfold cK
    rw [if_pos hf, if_pos hf]
    exact ccell_ex (fun f o c => hE f o (hL f o c) (by
      have : f < 29 := by
        unfold cid at c
        split at c
        · omega
        · split at c
          · omega
          · split at c
            · omega
            · exact absurd c (by decide)
      omega)) (hLc f o h hf)
  · rw [cK_ou (by omega), cK_ou (by omega)]
theorem k_lald (hx : p.tables.exec = Jvm.exec) (hb : c.code = cc) (hK : va_K D vwCl tys s) (hw : wk D A L ad ce H0 H locs) {f o : Nat} (hi : (f, o) ∈ L) (t0 : Nat) {cA : ClassId} {n : Nat} (he : ce f o = .inl (cA, n, .inr (.inl g))) (ht : tys[t0]? = some (cA, .long)) {i : Int32} (hin : vp_in i n) {v : Int64} (hv : g i.toNatClampNeg = v) (hdg : decode cc pc = .ok (.laload, 1))
    (kk : W p l e R s m args below meth c H locs cells slots Q (F0 m (pc + 1) ls (.long v :: rest))) : W p l e R s m args below meth c H locs cells slots Q (F0 m pc ls (.int i :: .ref (ad f o) :: rest)) := by
  obtain ⟨q, hq⟩ := wl_in hi
  subst hv
  exact va_lald hx hb hK hw.1 q t0 ((wl_at hq).trans (by rw [he])) ht hin hdg kk
theorem k_rSW {Qc : Array Value → State → Outcome → State → Prop} (F : CallFix p m c cc nL s args Ts own) (hK : va_K D vwCl tys s) (hO : OW A K0 s) (hw : wk D A L ad ce s.heap H locs) (hM : Met l y ws rm (kP D tys K0 A L ad ce H.size As) Qc mc ms A) (cw : vx_CSW R s args own index y bytes maxL ret hh ws rm mc ms n) (hn : As.length = n) (hsize : ls.size = nL) (hst : st0 = As.reverse ++ rest) (hW : (rest.map fun v => v.category).sum ≤ 8) (hdg : decode cc pc = .ok (.invokestatic index, 3)) (hf : cells + mc ≤ R.cells ∧ slots + ms ≤ R.slots) :
    kRun p l e R s m args below meth c H locs cells slots mc ms pc ls st0 rest A (Qc As.toArray) :=
  vx_runSW F hM cw ⟨WS.blind, WS.at hK hO hw _⟩ rfl hn hsize hst (by show 2 * 0 + _ ≤ 8; omega) hdg hf
/-- a call that may have made cells -/
theorem k_cig {v : Int32} {ce0 : Nat → Nat → va_E} {a : Array Value} (hw : wk D A L ad ce s.heap H locs) (hr : kRun p l e R s m args below meth c H locs cells slots mc ms pc ls st0 rest A (kQg D A v T L ad cI cO K0 ce0 a))
    (kk : ∀ (L2 : List (Nat × Nat)) (u2 : Nat → Nat → Nat) (cp2 : Nat → Nat) (H1 : Heap) (locs1 : List Loc), GRW L ad T (L2, u2, cp2) → wk D A L2 u2 (mK cI cO K0 u2 cp2 ce0 T) s.heap H1 locs1 → W p l e R s m args below meth c H1 locs1 (cells + mc) (slots + ms) Q (F0 m (pc + 3) ls (.int v :: rest))) : W p l e R s m args below meth c H locs cells slots Q (F0 m pc ls st0) :=
  va_calli hr hw.2.2 (fun _ _ h => h) (fun _ h => h) (fun r gw t H1 locs1 ht _ hp hB _ _ hS => by
    obtain ⟨rfl, hG⟩ := hp
    obtain ⟨L2, u2, cp2⟩ := gw
    exact kk L2 u2 cp2 H1 locs1 hG ⟨by rw [← ht]; exact hB.1, hB.2, hS⟩)
theorem lg_same (x : Int64) : lg_cmp x x = 0 := by
  unfold lg_cmp
  simp
end LAWP

section LAWS
variable {p : Program} {l : Launch} {e : Env} {R : Room} {s : State} {m : MethodId} {args : Array Value} {below : List Frame} {meth : Method} {c : Code} {H : Heap} {locs : List Loc} {cells slots : Nat} {Q : State → Prop} {cc : ByteArray} {pc : Nat} {ls : Array Slot} {rest st0 : List Value} {D : va_G} {A : Nat → Prop} {tys : List (ClassId × FieldType)} {K0 : Nat → Nat} {H0 : Heap} {L L' : List (Nat × Nat)} {ad ad' : Nat → Nat → Nat} {ce ce' : Nat → Nat → va_E} {cI cG cJ cO : ClassId} {mc ms : Nat}
theorem k_scr (hx : p.tables.exec = Jvm.exec) (hb : c.code = cc) {b N n : Nat} {xs : Nat → Int32} (hX : va_X b N xs s s.heap) (hbl : b < s.heap.size) (hbA : ¬ A b) (hw : wk D A L ad ce s.heap H locs) (hn : n < N) (hN : N ≤ 2560) (hdg : decode cc pc = .ok (.iaload, 1))
    (kk : W p l e R s m args below meth c H locs cells slots Q (F0 m (pc + 1) ls (.int (xs n) :: rest))) : W p l e R s m args below meth c H locs cells slots Q (F0 m pc ls (.int (nI n) :: .ref b :: rest)) :=
  va_sld hx hb hX hbl hbA hw.2.2 (vp_in_nI hn (by omega)) hdg (by rw [nI_clamp (by omega)]; exact kk)
end LAWS
