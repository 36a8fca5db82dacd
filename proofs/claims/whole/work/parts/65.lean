abbrev bw_X10_digest : List Cond := .code yX10_digest cX10_digest 7 (some .long) :: BIG
abbrev rm_X10_digest : Room := { frames := 41, cells := 600, slots := 2700, locals := 2193 }
noncomputable def lp_X10_digest_258 (S : (Nat → Nat → Nat → Int32)) (w_1 : Int64) (w_2 : Int64) (w_3 : Int64) (k : Nat) (i : Nat) (v1 : Int64) (w_5 : Int64) (x_6 : Int32) (w_7 : Int64) (kb : Nat) (ib : Nat) (v1b : Int64) (x_9 : Int32) : Nat → Nat → Int64 → Option (Int64)
  | 0, ic, v1c => some (v1c)
  | kc + 1, ic, v1c => (sp_X10_ofStepNow (up3 S 40 0 0 0) i (nI ib) (nI ic)).bind fun x_13 => (lp_X10_digest_258 S w_1 w_2 w_3 k i v1 w_5 x_6 w_7 kb ib v1b x_9 kc (ic + 1) (sp_X10_add v1c x_13.toInt64))
theorem lz_lp_X10_digest_258 (S : (Nat → Nat → Nat → Int32)) (w_1 : Int64) (w_2 : Int64) (w_3 : Int64) (k : Nat) (i : Nat) (v1 : Int64) (w_5 : Int64) (x_6 : Int32) (w_7 : Int64) (kb : Nat) (ib : Nat) (v1b : Int64) (x_9 : Int32) (ic : Nat) (v1c : Int64) : lp_X10_digest_258 S w_1 w_2 w_3 k i v1 w_5 x_6 w_7 kb ib v1b x_9 0 ic v1c = some (v1c) := rfl
theorem ls_lp_X10_digest_258 (S : (Nat → Nat → Nat → Int32)) (w_1 : Int64) (w_2 : Int64) (w_3 : Int64) (k : Nat) (i : Nat) (v1 : Int64) (w_5 : Int64) (x_6 : Int32) (w_7 : Int64) (kb : Nat) (ib : Nat) (v1b : Int64) (x_9 : Int32) (kc ic : Nat) (v1c : Int64) : lp_X10_digest_258 S w_1 w_2 w_3 k i v1 w_5 x_6 w_7 kb ib v1b x_9 (kc + 1) ic v1c = (sp_X10_ofStepNow (up3 S 40 0 0 0) i (nI ib) (nI ic)).bind fun x_13 => (lp_X10_digest_258 S w_1 w_2 w_3 k i v1 w_5 x_6 w_7 kb ib v1b x_9 kc (ic + 1) (sp_X10_add v1c x_13.toInt64)) := rfl
noncomputable def lp_X10_digest_230 (S : (Nat → Nat → Nat → Int32)) (w_1 : Int64) (w_2 : Int64) (w_3 : Int64) (k : Nat) (i : Nat) (v1 : Int64) (w_5 : Int64) (x_6 : Int32) (w_7 : Int64) : Nat → Nat → Int64 → Option (Int64)
  | 0, ib, v1b => some (v1b)
  | kb + 1, ib, v1b => (sp_X6_has (up3 S 40 0 0 0) i (nI ib)).bind fun x_9 => (if x_9 = 0 then (lp_X10_digest_230 S w_1 w_2 w_3 k i v1 w_5 x_6 w_7 kb (ib + 1) v1b) else ((lp_X10_digest_258 S w_1 w_2 w_3 k i v1 w_5 x_6 w_7 kb ib v1b x_9 6 0 v1b).bind (fun w_11 => ((sp_X10_waitForNow (up3 S 40 0 0 0) i (nI ib)).bind fun x_12 => (lp_X10_digest_230 S w_1 w_2 w_3 k i v1 w_5 x_6 w_7 kb (ib + 1) (sp_X10_add w_11 x_12.toInt64))))))
theorem lz_lp_X10_digest_230 (S : (Nat → Nat → Nat → Int32)) (w_1 : Int64) (w_2 : Int64) (w_3 : Int64) (k : Nat) (i : Nat) (v1 : Int64) (w_5 : Int64) (x_6 : Int32) (w_7 : Int64) (ib : Nat) (v1b : Int64) : lp_X10_digest_230 S w_1 w_2 w_3 k i v1 w_5 x_6 w_7 0 ib v1b = some (v1b) := rfl
theorem ls_lp_X10_digest_230 (S : (Nat → Nat → Nat → Int32)) (w_1 : Int64) (w_2 : Int64) (w_3 : Int64) (k : Nat) (i : Nat) (v1 : Int64) (w_5 : Int64) (x_6 : Int32) (w_7 : Int64) (kb ib : Nat) (v1b : Int64) : lp_X10_digest_230 S w_1 w_2 w_3 k i v1 w_5 x_6 w_7 (kb + 1) ib v1b = (sp_X6_has (up3 S 40 0 0 0) i (nI ib)).bind fun x_9 => (if x_9 = 0 then (lp_X10_digest_230 S w_1 w_2 w_3 k i v1 w_5 x_6 w_7 kb (ib + 1) v1b) else ((lp_X10_digest_258 S w_1 w_2 w_3 k i v1 w_5 x_6 w_7 kb ib v1b x_9 6 0 v1b).bind (fun w_11 => ((sp_X10_waitForNow (up3 S 40 0 0 0) i (nI ib)).bind fun x_12 => (lp_X10_digest_230 S w_1 w_2 w_3 k i v1 w_5 x_6 w_7 kb (ib + 1) (sp_X10_add w_11 x_12.toInt64)))))) := rfl
noncomputable def lp_X10_digest_195 (S : (Nat → Nat → Nat → Int32)) (w_1 : Int64) (w_2 : Int64) (w_3 : Int64) (k : Nat) (i : Nat) (v1 : Int64) (w_5 : Int64) (x_6 : Int32) : Nat → Nat → Int64 → Option (Int64)
  | 0, ib, v1b => some (v1b)
  | kb + 1, ib, v1b => (sp_X10_rightOnNow (up3 S 40 0 0 0) i (nI ib)).bind fun x_14 => (lp_X10_digest_195 S w_1 w_2 w_3 k i v1 w_5 x_6 kb (ib + 1) (sp_X10_add v1b x_14.toInt64))
theorem lz_lp_X10_digest_195 (S : (Nat → Nat → Nat → Int32)) (w_1 : Int64) (w_2 : Int64) (w_3 : Int64) (k : Nat) (i : Nat) (v1 : Int64) (w_5 : Int64) (x_6 : Int32) (ib : Nat) (v1b : Int64) : lp_X10_digest_195 S w_1 w_2 w_3 k i v1 w_5 x_6 0 ib v1b = some (v1b) := rfl
theorem ls_lp_X10_digest_195 (S : (Nat → Nat → Nat → Int32)) (w_1 : Int64) (w_2 : Int64) (w_3 : Int64) (k : Nat) (i : Nat) (v1 : Int64) (w_5 : Int64) (x_6 : Int32) (kb ib : Nat) (v1b : Int64) : lp_X10_digest_195 S w_1 w_2 w_3 k i v1 w_5 x_6 (kb + 1) ib v1b = (sp_X10_rightOnNow (up3 S 40 0 0 0) i (nI ib)).bind fun x_14 => (lp_X10_digest_195 S w_1 w_2 w_3 k i v1 w_5 x_6 kb (ib + 1) (sp_X10_add v1b x_14.toInt64)) := rfl
noncomputable def lp_X10_digest_153 (S : (Nat → Nat → Nat → Int32)) (w_1 : Int64) (w_2 : Int64) (w_3 : Int64) (k : Nat) (i : Nat) (v1 : Int64) : Nat → Nat → Int64 → Option (Int64)
  | 0, ib, v1b => some (v1b)
  | kb + 1, ib, v1b => (sp_X10_ofJoinerNow (up3 S 40 0 0 0) i (nI ib)).bind fun x_15 => (lp_X10_digest_153 S w_1 w_2 w_3 k i v1 kb (ib + 1) (sp_X10_add v1b x_15.toInt64))
theorem lz_lp_X10_digest_153 (S : (Nat → Nat → Nat → Int32)) (w_1 : Int64) (w_2 : Int64) (w_3 : Int64) (k : Nat) (i : Nat) (v1 : Int64) (ib : Nat) (v1b : Int64) : lp_X10_digest_153 S w_1 w_2 w_3 k i v1 0 ib v1b = some (v1b) := rfl
theorem ls_lp_X10_digest_153 (S : (Nat → Nat → Nat → Int32)) (w_1 : Int64) (w_2 : Int64) (w_3 : Int64) (k : Nat) (i : Nat) (v1 : Int64) (kb ib : Nat) (v1b : Int64) : lp_X10_digest_153 S w_1 w_2 w_3 k i v1 (kb + 1) ib v1b = (sp_X10_ofJoinerNow (up3 S 40 0 0 0) i (nI ib)).bind fun x_15 => (lp_X10_digest_153 S w_1 w_2 w_3 k i v1 kb (ib + 1) (sp_X10_add v1b x_15.toInt64)) := rfl
noncomputable def lp_X10_digest_130 (S : (Nat → Nat → Nat → Int32)) (w_1 : Int64) (w_2 : Int64) (w_3 : Int64) : Nat → Nat → Int64 → Option (Int64)
  | 0, i, v1 => some (v1)
  | k + 1, i, v1 => (lp_X10_digest_153 S w_1 w_2 w_3 k i v1 7 0 v1).bind (fun w_5 => ((sp_X10_nextNow (up3 S 40 0 0 0) i).bind fun x_6 => ((lp_X10_digest_195 S w_1 w_2 w_3 k i v1 w_5 x_6 ((S 1 0 1).toNatClampNeg) 0 (sp_X10_add w_5 x_6.toInt64)).bind (fun w_7 => ((lp_X10_digest_230 S w_1 w_2 w_3 k i v1 w_5 x_6 w_7 ((S 1 0 0).toNatClampNeg) 0 w_7).bind (fun w_8 => (lp_X10_digest_130 S w_1 w_2 w_3 k (i + 1) w_8)))))))
theorem lz_lp_X10_digest_130 (S : (Nat → Nat → Nat → Int32)) (w_1 : Int64) (w_2 : Int64) (w_3 : Int64) (i : Nat) (v1 : Int64) : lp_X10_digest_130 S w_1 w_2 w_3 0 i v1 = some (v1) := rfl
theorem ls_lp_X10_digest_130 (S : (Nat → Nat → Nat → Int32)) (w_1 : Int64) (w_2 : Int64) (w_3 : Int64) (k i : Nat) (v1 : Int64) : lp_X10_digest_130 S w_1 w_2 w_3 (k + 1) i v1 = (lp_X10_digest_153 S w_1 w_2 w_3 k i v1 7 0 v1).bind (fun w_5 => ((sp_X10_nextNow (up3 S 40 0 0 0) i).bind fun x_6 => ((lp_X10_digest_195 S w_1 w_2 w_3 k i v1 w_5 x_6 ((S 1 0 1).toNatClampNeg) 0 (sp_X10_add w_5 x_6.toInt64)).bind (fun w_7 => ((lp_X10_digest_230 S w_1 w_2 w_3 k i v1 w_5 x_6 w_7 ((S 1 0 0).toNatClampNeg) 0 w_7).bind (fun w_8 => (lp_X10_digest_130 S w_1 w_2 w_3 k (i + 1) w_8))))))) := rfl
noncomputable def lp_X10_digest_91 (S : (Nat → Nat → Nat → Int32)) (w_1 : Int64) (w_2 : Int64) (k : Nat) (i : Nat) (v1 : Int64) : Nat → Nat → Int64 → Option (Int64)
  | 0, ib, v1b => some (v1b)
  | kb + 1, ib, v1b => (sp_X10_ofSessionNow (up3 S 40 0 0 0) (nI i) (nI ib)).bind fun x_17 => (lp_X10_digest_91 S w_1 w_2 k i v1 kb (ib + 1) (sp_X10_add v1b x_17.toInt64))
theorem lz_lp_X10_digest_91 (S : (Nat → Nat → Nat → Int32)) (w_1 : Int64) (w_2 : Int64) (k : Nat) (i : Nat) (v1 : Int64) (ib : Nat) (v1b : Int64) : lp_X10_digest_91 S w_1 w_2 k i v1 0 ib v1b = some (v1b) := rfl
theorem ls_lp_X10_digest_91 (S : (Nat → Nat → Nat → Int32)) (w_1 : Int64) (w_2 : Int64) (k : Nat) (i : Nat) (v1 : Int64) (kb ib : Nat) (v1b : Int64) : lp_X10_digest_91 S w_1 w_2 k i v1 (kb + 1) ib v1b = (sp_X10_ofSessionNow (up3 S 40 0 0 0) (nI i) (nI ib)).bind fun x_17 => (lp_X10_digest_91 S w_1 w_2 k i v1 kb (ib + 1) (sp_X10_add v1b x_17.toInt64)) := rfl
noncomputable def lp_X10_digest_77 (S : (Nat → Nat → Nat → Int32)) (w_1 : Int64) (w_2 : Int64) : Nat → Nat → Int64 → Option (Int64)
  | 0, i, v1 => some (v1)
  | k + 1, i, v1 => (lp_X10_digest_91 S w_1 w_2 k i v1 4 0 v1).bind (fun w_16 => (lp_X10_digest_77 S w_1 w_2 k (i + 1) w_16))
theorem lz_lp_X10_digest_77 (S : (Nat → Nat → Nat → Int32)) (w_1 : Int64) (w_2 : Int64) (i : Nat) (v1 : Int64) : lp_X10_digest_77 S w_1 w_2 0 i v1 = some (v1) := rfl
theorem ls_lp_X10_digest_77 (S : (Nat → Nat → Nat → Int32)) (w_1 : Int64) (w_2 : Int64) (k i : Nat) (v1 : Int64) : lp_X10_digest_77 S w_1 w_2 (k + 1) i v1 = (lp_X10_digest_91 S w_1 w_2 k i v1 4 0 v1).bind (fun w_16 => (lp_X10_digest_77 S w_1 w_2 k (i + 1) w_16)) := rfl
noncomputable def lp_X10_digest_44 (S : (Nat → Nat → Nat → Int32)) (w_1 : Int64) (k : Nat) (i : Nat) (v1 : Int64) : Nat → Nat → Int64 → Option (Int64)
  | 0, ib, v1b => some (v1b)
  | kb + 1, ib, v1b => (sp_X10_ofItemNow (up3 S 40 0 0 0) (nI i) (nI ib)).bind fun x_19 => (lp_X10_digest_44 S w_1 k i v1 kb (ib + 1) (sp_X10_add v1b x_19.toInt64))
theorem lz_lp_X10_digest_44 (S : (Nat → Nat → Nat → Int32)) (w_1 : Int64) (k : Nat) (i : Nat) (v1 : Int64) (ib : Nat) (v1b : Int64) : lp_X10_digest_44 S w_1 k i v1 0 ib v1b = some (v1b) := rfl
theorem ls_lp_X10_digest_44 (S : (Nat → Nat → Nat → Int32)) (w_1 : Int64) (k : Nat) (i : Nat) (v1 : Int64) (kb ib : Nat) (v1b : Int64) : lp_X10_digest_44 S w_1 k i v1 (kb + 1) ib v1b = (sp_X10_ofItemNow (up3 S 40 0 0 0) (nI i) (nI ib)).bind fun x_19 => (lp_X10_digest_44 S w_1 k i v1 kb (ib + 1) (sp_X10_add v1b x_19.toInt64)) := rfl
noncomputable def lp_X10_digest_36 (S : (Nat → Nat → Nat → Int32)) (w_1 : Int64) : Nat → Nat → Int64 → Option (Int64)
  | 0, i, v1 => some (v1)
  | k + 1, i, v1 => (lp_X10_digest_44 S w_1 k i v1 4 0 v1).bind (fun w_18 => (lp_X10_digest_36 S w_1 k (i + 1) w_18))
theorem lz_lp_X10_digest_36 (S : (Nat → Nat → Nat → Int32)) (w_1 : Int64) (i : Nat) (v1 : Int64) : lp_X10_digest_36 S w_1 0 i v1 = some (v1) := rfl
theorem ls_lp_X10_digest_36 (S : (Nat → Nat → Nat → Int32)) (w_1 : Int64) (k i : Nat) (v1 : Int64) : lp_X10_digest_36 S w_1 (k + 1) i v1 = (lp_X10_digest_44 S w_1 k i v1 4 0 v1).bind (fun w_18 => (lp_X10_digest_36 S w_1 k (i + 1) w_18)) := rfl
noncomputable def lp_X10_digest_11 (S : (Nat → Nat → Nat → Int32)) : Nat → Nat → Int64 → Option (Int64)
  | 0, i, v1 => some (v1)
  | k + 1, i, v1 => (sp_X10_count (up3 S 40 0 0 0) (nI i)).bind fun x_20 => (lp_X10_digest_11 S k (i + 1) (sp_X10_add v1 x_20.toInt64))
theorem lz_lp_X10_digest_11 (S : (Nat → Nat → Nat → Int32)) (i : Nat) (v1 : Int64) : lp_X10_digest_11 S 0 i v1 = some (v1) := rfl
theorem ls_lp_X10_digest_11 (S : (Nat → Nat → Nat → Int32)) (k i : Nat) (v1 : Int64) : lp_X10_digest_11 S (k + 1) i v1 = (sp_X10_count (up3 S 40 0 0 0) (nI i)).bind fun x_20 => (lp_X10_digest_11 S k (i + 1) (sp_X10_add v1 x_20.toInt64)) := rfl
noncomputable def sp_X10_digest (S : (Nat → Nat → Nat → Int32)) : Option (Int64 × (Nat → Nat → Nat → Int32)) := (lp_X10_digest_11 S 11 0 58120).bind (fun w_1 => ((lp_X10_digest_36 S w_1 4 0 w_1).bind (fun w_2 => ((lp_X10_digest_77 S w_1 w_2 ((S 3 0 0).toNatClampNeg) 0 w_2).bind (fun w_3 => ((lp_X10_digest_130 S w_1 w_2 w_3 ((S 0 0 0).toNatClampNeg) 0 w_3).bind (fun w_4 => (some ((w_4, (up3 S 40 0 0 0)))))))))))
theorem sf_X10_digest {S : (Nat → Nat → Nat → Int32)} {v : Int64 × (Nat → Nat → Nat → Int32)} (h : sp_X10_digest S = some v) : SM S v.2 := by
  unfold sp_X10_digest at h
  obtain ⟨w_1, hL_11, h⟩ := ob1 h
  obtain ⟨w_2, hL_36, h⟩ := ob1 h
  obtain ⟨w_3, hL_77, h⟩ := ob1 h
  obtain ⟨w_4, hL_130, h⟩ := ob1 h
  have hz : SM S (up3 S 40 0 0 0) := (SM.up rfl (by decide) (SM.rf S)); cases h; exact hz

set_option maxHeartbeats 1000000 in
set_option maxRecDepth 100000 in
theorem ct_X10_digest {l : Launch} {D : va_G} {cI cG cJ cO : ClassId} {K0 : Nat → Nat} {A : Nat → Prop} {L : List (Nat × Nat)} {ad : Nat → Nat → Nat} {ce : Nat → Nat → va_E} {cp : Nat → Nat} {S : (Nat → Nat → Nat → Int32)} (hR : MR S L cp) (hI : CI S) (hT : TL 70 L) {v : Int64 × (Nat → Nat → Nat → Int32)} (hE : sp_X10_digest S = some v) (sz : Nat) (hA : ∀ q, sz ≤ q → A q) : Met l yX10_digest bw_X10_digest (rm_X10_digest) (kP D (ktys cI cG cJ cO) K0 A L ad (mK cI cO K0 ad cp ce S) sz [.ref (ad 30 0)]) (kQl D A v.1 L ad (mK cI cO K0 ad cp ce v.2)) 600 2700 A := by
  refine Met.ofW (cc := cX10_digest) (maxL := 7) (ret := (some .long)) (by decide) rfl ?_
  intro p e s m args below meth c s₁ B hml hv_
  obtain ⟨hav, hsz, hP, hD, hK, hO⟩ := hv_
  have hx := B.exec
  have hb := B.bytes
  have hr := B.returns
  have hts : ∀ w ∈ BIG, w.before args s = true := fun w h => atoms_spec (ws := bw_X10_digest) B.pre w (List.mem_cons_of_mem _ h)
  have hown : s.vm.findClass RX10 = some m.cls := findClass_of_methodNamed B.named
  have hlocks := B.notSynchronized
  subst hsz
  have hw := wk.start hP hD
  refine k_start (by rfl) hav (Nat.le_of_ble_eq_true rfl) (fun ls hl => ?_)
  have hl : lv_has ls 7 [(0, .ref (ad 30 0))] := hl
  unfold sp_X10_digest at hE
  refine lv_aload_n hx hb dX10_digest_0 rfl (lv_at hl 0 rfl) ?_
  refine lv_iconst (v := 0) hx hb dX10_digest_1 (by decide) ?_
  refine k_put (C := RX10) (T := TX10) (N := 9) (v := .int 0) (ty := .int) hx hb hts inB_X10 tyX10 tyX10_ok nmX10 hown hK hw (hR.1 30 (by decide) (by decide)) mke_30 rfl 0 (by decide) (hts _ w_f_X10_35) (fun _ h9 => h9) rfl (by decide +kernel) rfl rfl (Nat.le_of_ble_eq_true rfl) (mK_thrown (v := 0) rfl) dX10_digest_2 (fun H locs hw => ?_)
  refine lv_ldc2 hx hb hown (hts _ w_cq_X10_296) dX10_digest_5 ?_
  refine lv_lstore_n (lv' := [(1, .long 58120), (0, .ref (ad 30 0))]) hx hb dX10_digest_8 rfl hl (by decide) rfl (fun ls hl => ?_)
  refine lv_iconst (v := 0) hx hb dX10_digest_9 (by decide) ?_
  refine lv_istore_n (lv' := [(3, .int 0), (1, .long 58120), (0, .ref (ad 30 0))]) hx hb dX10_digest_10 rfl hl (by decide) rfl (fun ls hl => ?_)
  obtain ⟨w_1, hL_11, hE⟩ := ob1 hE
  have key_11 : ∀ (k i : Nat) (v1 : Int64) (H : Heap) (locs : List Loc) (ls : Array Slot), i + k = 11 → lp_X10_digest_11 S k i v1 = some (w_1) → wk D A (L) ad (mK cI cO K0 ad cp ce (up3 S 40 0 0 0)) s.heap H locs → lv_has ls 7 [(0, .ref (ad 30 0)), (1, .long v1), (3, .int (nI i))] → W p l e (headSpec bw_X10_digest (rm_X10_digest)).room s m args below meth c H locs (0 + 22 * i) (0 + 95 * i) (MQ below (kQl D A v.1 L ad (mK cI cO K0 ad cp ce v.2)) args s 600 2700 A) (F0 m 11 ls []) := by
    intro k
    induction k with
    | zero =>
      intro i v1 H locs ls hk hV hw hl
      have hV := (lz_lp_X10_digest_11 S i v1).symm.trans hV
      obtain rfl := (Option.some.inj hV).symm
      have hmx : i ≤ 11 := by omega
      refine W.widen (k := 0 + 242) (n := 0 + 1045) (by omega) (by omega) ?_
      refine lv_iload_n hx hb dX10_digest_11 rfl (lv_at hl 2 rfl) ?_
      refine lv_bipush (v := 11) hx hb dX10_digest_12 (by decide) ?_
      refine lv_icmp_ge (tgt := 34) hx hb dX10_digest_14 (by decide) (fun _ => ?_) (fun h => absurd (lp_o rfl hk (by decide)) h)
      refine lv_iconst (v := 0) hx hb dX10_digest_34 (by decide) ?_
      refine lv_istore_n (lv' := [(3, .int 0), (0, .ref (ad 30 0)), (1, .long w_1)]) hx hb dX10_digest_35 rfl hl (by decide) rfl (fun ls hl => ?_)
      obtain ⟨w_2, hL_36, hE⟩ := ob1 hE
      have key_36 : ∀ (k i : Nat) (v1 : Int64) (H : Heap) (locs : List Loc) (ls : Array Slot), i + k = 4 → lp_X10_digest_36 S w_1 k i v1 = some (w_2) → wk D A (L) ad (mK cI cO K0 ad cp ce (up3 S 40 0 0 0)) s.heap H locs → lv_has ls 7 [(0, .ref (ad 30 0)), (1, .long v1), (3, .int (nI i))] → W p l e (headSpec bw_X10_digest (rm_X10_digest)).room s m args below meth c H locs (0 + 242 + 4 * i) (0 + 1045 + 16 * i) (MQ below (kQl D A v.1 L ad (mK cI cO K0 ad cp ce v.2)) args s 600 2700 A) (F0 m 36 ls []) := by
        intro k
        induction k with
        | zero =>
          intro i v1 H locs ls hk hV hw hl
          have hV := (lz_lp_X10_digest_36 S w_1 i v1).symm.trans hV
          obtain rfl := (Option.some.inj hV).symm
          have hmx : i ≤ 4 := by omega
          refine W.widen (k := 0 + 242 + 16) (n := 0 + 1045 + 64) (by omega) (by omega) ?_
          refine lv_iload_n hx hb dX10_digest_36 rfl (lv_at hl 2 rfl) ?_
          refine lv_iconst (v := 4) hx hb dX10_digest_37 (by decide) ?_
          refine lv_icmp_ge (tgt := 75) hx hb dX10_digest_38 (by decide) (fun _ => ?_) (fun h => absurd (lp_o rfl hk (by decide)) h)
          refine lv_iconst (v := 0) hx hb dX10_digest_75 (by decide) ?_
          refine lv_istore_n (lv' := [(3, .int 0), (0, .ref (ad 30 0)), (1, .long w_2)]) hx hb dX10_digest_76 rfl hl (by decide) rfl (fun ls hl => ?_)
          obtain ⟨w_3, hL_77, hE⟩ := ob1 hE
          have key_77 : ∀ (k i : Nat) (v1 : Int64) (H : Heap) (locs : List Loc) (ls : Array Slot), i + k = (S 3 0 0).toNatClampNeg → lp_X10_digest_77 S w_1 w_2 k i v1 = some (w_3) → wk D A (L) ad (mK cI cO K0 ad cp ce (up3 S 40 0 0 0)) s.heap H locs → lv_has ls 7 [(0, .ref (ad 30 0)), (1, .long v1), (3, .int (nI i))] → W p l e (headSpec bw_X10_digest (rm_X10_digest)).room s m args below meth c H locs (0 + 242 + 16 + 8 * i) (0 + 1045 + 64 + 32 * i) (MQ below (kQl D A v.1 L ad (mK cI cO K0 ad cp ce v.2)) args s 600 2700 A) (F0 m 77 ls []) := by
            intro k
            induction k with
            | zero =>
              intro i v1 H locs ls hk hV hw hl
              have hV := (lz_lp_X10_digest_77 S w_1 w_2 i v1).symm.trans hV
              obtain rfl := (Option.some.inj hV).symm
              have hmx : i ≤ 20 := by have h9 := CI.n4 hI; omega
              refine W.widen (k := 0 + 242 + 16 + 160) (n := 0 + 1045 + 64 + 640) (by omega) (by omega) ?_
              refine lv_iload_n hx hb dX10_digest_77 rfl (lv_at hl 2 rfl) ?_
              refine lv_aload_n hx hb dX10_digest_78 rfl (lv_at hl 0 rfl) ?_
              refine k_get (C := RX10) (T := TX10) (N := 9) (v := .ref (ad 34 0)) hx hb hts inB_X10 hown hK hw (hR.1 30 (by decide) (by decide)) mke_30 rfl 6 (by decide) (hts _ w_f_X10_29) (fun _ h9 => h9) rfl dX10_digest_79 ?_
              refine k_ci0 hw (k_rV (f := 34) (o := 0) (As := []) (rest := [.int (nI i)]) ⟨hx, hb, hml, hown, hts⟩ hK hO hw (ct_size_3 (SM.up rfl (by decide) (SM.rf S)) hR _ (wk.hA hw hA)) (cwV 0 hts (gB_V w_ml_X10_43 w_im_Jx4a65c_size_8abf5 w_se_Jx4a65c_size_8abf5 w_in_Jx4a65c w_co_Jx4a65c_size_8abf5) rfl rfl rfl (by decide +kernel) ⟨Nat.le_of_ble_eq_true rfl, Nat.le_of_ble_eq_true rfl⟩) (hR.1 34 (by decide) (by decide)) (ce_l3 (SM.up rfl (by decide) (SM.rf S))) rfl rfl hl.1 rfl (Nat.le_of_ble_eq_true rfl) dX10_digest_82 ⟨(Nat.le_of_ble_eq_true rfl), (Nat.le_of_ble_eq_true rfl)⟩) (fun H locs hw => ?_)
              refine lv_icmp_ge (tgt := 122) hx hb dX10_digest_85 (by decide) (fun _ => ?_) (fun h => absurd (lp_o (cn_eq hI.2.2.2.1.1) hk (cn_lt _)) h)
              refine lv_aload_n hx hb dX10_digest_122 rfl (lv_at hl 0 rfl) ?_
              refine k_get (C := RX10) (T := TX10) (N := 9) (v := .ref (ad 35 0)) hx hb hts inB_X10 hown hK hw (hR.1 30 (by decide) (by decide)) mke_30 rfl 7 (by decide) (hts _ w_f_X10_32) (fun _ h9 => h9) rfl dX10_digest_123 ?_
              refine k_crn hw (k_rV (f := 35) (o := 0) (As := []) (rest := []) ⟨hx, hb, hml, hown, hts⟩ hK hO hw (ct_iter_4 (SM.up rfl (by decide) (SM.rf S)) hR (it := 70) (Or.inr (by decide)) (TL.new hT (by decide) (by decide)) _ (wk.hA hw hA)) (cwV 0 hts (gB_V w_ml_X10_146 w_im_Jx4a65c_iterator_32c93 w_se_Jx4a65c_iterator_32c93 w_in_Jx4a65c w_co_Jx4a65c_iterator_32c93) rfl rfl rfl (by decide +kernel) ⟨Nat.le_of_ble_eq_true rfl, Nat.le_of_ble_eq_true rfl⟩) (hR.1 35 (by decide) (by decide)) (ce_l4 (SM.up rfl (by decide) (SM.rf S))) rfl rfl hl.1 rfl (Nat.le_of_ble_eq_true rfl) dX10_digest_126 ⟨(Nat.le_of_ble_eq_true rfl), (Nat.le_of_ble_eq_true rfl)⟩) (fun q H locs hw => ?_)
              have hw := hw.tmp (Or.inr (by decide))
              have hRp := hR.push (i := (70, 0))
              refine lv_astore_n (lv' := [(3, .ref q), (0, .ref (ad 30 0)), (1, .long w_3)]) hx hb dX10_digest_129 rfl hl (by decide) rfl (fun ls hl => ?_)
              obtain ⟨w_4, hL_130, hE⟩ := ob1 hE
              have key_130 : ∀ (k i : Nat) (v1 : Int64) (H : Heap) (locs : List Loc) (ls : Array Slot), i + k = (S 0 0 0).toNatClampNeg → lp_X10_digest_130 S w_1 w_2 w_3 k i v1 = some (w_4) → wk D A (L ++ [(70, 0)]) (upa ad 70 0 q) (mK cI cO K0 (upa ad 70 0 q) cp (up2 ce 70 0 (itc i (S 42 4 0) (ad 35 0))) (up3 S 40 0 0 0)) s.heap H locs → lv_has ls 7 [(0, .ref (ad 30 0)), (1, .long v1), (3, .ref q)] → W p l e (headSpec bw_X10_digest (rm_X10_digest)).room s m args below meth c H locs (0 + 242 + 16 + 160 + 1 + 7 * i) (0 + 1045 + 64 + 640 + 4 + 49 * i) (MQ below (kQl D A v.1 L ad (mK cI cO K0 ad cp ce v.2)) args s 600 2700 A) (F0 m 130 ls []) := by
                intro k
                induction k with
                | zero =>
                  intro i v1 H locs ls hk hV hw hl
                  have hV := (lz_lp_X10_digest_130 S w_1 w_2 w_3 i v1).symm.trans hV
                  obtain rfl := (Option.some.inj hV).symm
                  have hmx : i ≤ 8 := by have h9 := CI.n5 hI; omega
                  refine W.widen (k := 0 + 242 + 16 + 160 + 1 + 56) (n := 0 + 1045 + 64 + 640 + 4 + 392) (by omega) (by omega) ?_
                  refine lv_aload_n hx hb dX10_digest_130 rfl (lv_at hl 2 rfl) ?_
                  refine k_cFi hw (k_rF (f := 70) (o := 0) (As := []) (rest := []) ⟨hx, hb, hml, hown, hts⟩ hK hO hw (ct_hn_4 (SM.up rfl (by decide) (SM.rf S)) hRp (it := 70) (i := i) (Or.inr (by decide)) (List.mem_append_right _ (List.mem_singleton_self _)) _ (wk.hA hw hA)) (va_cwF 0 hts (gB_F w_ml_X10_150 w_se_it_hasNext w_im_Jx35411_hasNext_aae02 w_in_Jx35411 w_co_Jx35411_hasNext_aae02) rfl rfl rfl hO.2.2.2.1.1 (by decide +kernel) ⟨by decide, by decide⟩) (List.mem_append_right _ (List.mem_singleton_self _)) ((mK_ou (Or.inr (by decide))).trans up2_eq) rfl rfl hl.1 rfl (Nat.le_of_ble_eq_true rfl) dX10_digest_131 ⟨(Nat.le_of_ble_eq_true rfl), (Nat.le_of_ble_eq_true rfl)⟩) (fun H locs hw => ?_)
                  rw [if_pos (it_z (cn_eq hI.2.2.2.2.1) hk)]
                  refine lv_if_eq (tgt := 310) hx hb dX10_digest_136 (by decide) (fun _ => ?_) (fun h => absurd (by decide) h)
                  have hw := hw.untmp (Or.inr (by decide)) (TL.new hT (by decide) (by decide))
                  refine lv_lload_n hx hb dX10_digest_310 rfl (lv_at hl 1 rfl) ?_
                  exact m_lretE hx hb hr hlocks hw hE (Nat.le_of_ble_eq_true rfl) (Nat.le_of_ble_eq_true rfl) dX10_digest_311
                | succ k ih =>
                  intro i v1 H locs ls hk hV hw hl
                  have hmy : i < 8 := by have h9 := CI.n5 hI; omega
                  have hV := (ls_lp_X10_digest_130 S w_1 w_2 w_3 k i v1).symm.trans hV
                  have hE := hV
                  refine lv_aload_n hx hb dX10_digest_130 rfl (lv_at hl 2 rfl) ?_
                  refine k_cFi hw (k_rF (f := 70) (o := 0) (As := []) (rest := []) ⟨hx, hb, hml, hown, hts⟩ hK hO hw (ct_hn_4 (SM.up rfl (by decide) (SM.rf S)) hRp (it := 70) (i := i) (Or.inr (by decide)) (List.mem_append_right _ (List.mem_singleton_self _)) _ (wk.hA hw hA)) (va_cwF 0 hts (gB_F w_ml_X10_150 w_se_it_hasNext w_im_Jx35411_hasNext_aae02 w_in_Jx35411 w_co_Jx35411_hasNext_aae02) rfl rfl rfl hO.2.2.2.1.1 (by decide +kernel) ⟨by decide, by decide⟩) (List.mem_append_right _ (List.mem_singleton_self _)) ((mK_ou (Or.inr (by decide))).trans up2_eq) rfl rfl hl.1 rfl (Nat.le_of_ble_eq_true rfl) dX10_digest_131 ⟨(show 0 + 242 + 16 + 160 + 1 + 7 * i + 0 ≤ 600 from by omega), (show 0 + 1045 + 64 + 640 + 4 + 49 * i + 0 ≤ 2700 from by omega)⟩) (fun H locs hw => ?_)
                  rw [if_neg (it_s (cn_eq hI.2.2.2.2.1) hk (cn_lt _))]
                  refine lv_if_eq (tgt := 310) hx hb dX10_digest_136 (by decide) (fun h => absurd h (by decide)) (fun _ => ?_)
                  refine lv_aload_n hx hb dX10_digest_139 rfl (lv_at hl 2 rfl) ?_
                  refine k_cFr (v := (ad 46 i)) hw (k_rF (f := 70) (o := 0) (As := []) (rest := []) ⟨hx, hb, hml, hown, hts⟩ hK hO hw (ct_nx_4 (SM.up rfl (by decide) (SM.rf S)) hRp hI (it := 70) (i := i) (Or.inr (by decide)) (List.mem_append_right _ (List.mem_singleton_self _)) (lp_l hk) _ (wk.hA hw hA)) (va_cwF 0 hts (gB_F w_ml_X10_156 w_se_it_next w_im_Jx35411_next_0502b w_in_Jx35411 w_co_Jx35411_next_0502b) rfl rfl rfl hO.2.2.2.1.2.1 (by decide +kernel) ⟨by decide, by decide⟩) (List.mem_append_right _ (List.mem_singleton_self _)) ((mK_ou (Or.inr (by decide))).trans up2_eq) rfl rfl hl.1 rfl (Nat.le_of_ble_eq_true rfl) dX10_digest_140 ⟨(show 0 + 242 + 16 + 160 + 1 + 7 * i + 0 ≤ 600 from by omega), (show 0 + 1045 + 64 + 640 + 4 + 49 * i + 0 ≤ 2700 from by omega)⟩) (fun H locs hw => ?_)
                  refine k_cast (f := 46) (o := i) hx hb hown (hts _ w_cl_X10_64) hK hw (hRp.2.2.2.2.2.2.2 46 _ (by decide) (by decide) (lp_l hk)) mke_46 rfl dX10_digest_145 ?_
                  refine lv_astore (lv' := [(4, .ref (ad 46 i)), (0, .ref (ad 30 0)), (1, .long v1), (3, .ref q)]) hx hb dX10_digest_148 hl (by decide) rfl (fun ls hl => ?_)
                  refine lv_iconst (v := 0) hx hb dX10_digest_150 (by decide) ?_
                  refine lv_istore (lv' := [(5, .int 0), (4, .ref (ad 46 i)), (0, .ref (ad 30 0)), (1, .long v1), (3, .ref q)]) hx hb dX10_digest_151 hl (by decide) rfl (fun ls hl => ?_)
                  obtain ⟨w_5, hL_153, hE⟩ := ob1 hE
                  have key_153 : ∀ (kb ib : Nat) (v1b : Int64) (H : Heap) (locs : List Loc) (ls : Array Slot), ib + kb = 7 → lp_X10_digest_153 S w_1 w_2 w_3 k i v1 kb ib v1b = some (w_5) → wk D A (L ++ [(70, 0)]) (upa ad 70 0 q) (mK cI cO K0 (upa ad 70 0 q) cp (up2 ce 70 0 (itc (i + 1) (S 42 4 0) (ad 35 0))) (up3 S 40 0 0 0)) s.heap H locs → lv_has ls 7 [(0, .ref (ad 30 0)), (1, .long v1b), (3, .ref q), (4, .ref (ad 46 i)), (5, .int (nI ib))] → W p l e (headSpec bw_X10_digest (rm_X10_digest)).room s m args below meth c H locs (0 + 242 + 16 + 160 + 1 + 7 * i + 1 * ib) (0 + 1045 + 64 + 640 + 4 + 49 * i + 7 * ib) (MQ below (kQl D A v.1 L ad (mK cI cO K0 ad cp ce v.2)) args s 600 2700 A) (F0 m 153 ls []) := by
                    intro kb
                    induction kb with
                    | zero =>
                      intro ib v1b H locs ls hkb hVb hw hl
                      have hVb := (lz_lp_X10_digest_153 S w_1 w_2 w_3 k i v1 ib v1b).symm.trans hVb
                      obtain rfl := (Option.some.inj hVb).symm
                      have hmxb : ib ≤ 7 := by omega
                      refine W.widen (k := 0 + 242 + 16 + 160 + 1 + 7 * i + 7) (n := 0 + 1045 + 64 + 640 + 4 + 49 * i + 49) (by omega) (by omega) ?_
                      refine lv_iload hx hb dX10_digest_153 (lv_at hl 4 rfl) ?_
                      refine lv_bipush (v := 7) hx hb dX10_digest_155 (by decide) ?_
                      refine lv_icmp_ge (tgt := 180) hx hb dX10_digest_157 (by decide) (fun _ => ?_) (fun h => absurd (lp_o rfl hkb (by decide)) h)
                      refine lv_lload_n hx hb dX10_digest_180 rfl (lv_at hl 1 rfl) ?_
                      refine lv_aload_n hx hb dX10_digest_181 rfl (lv_at hl 0 rfl) ?_
                      refine lv_aload hx hb dX10_digest_182 (lv_at hl 3 rfl) ?_
                      obtain ⟨x_6, hx_6, hE⟩ := ob1 hE
                      refine k_ci0 hw (k_rV (f := 30) (o := 0) (As := [.ref (ad 46 i)]) (rest := [.long w_5]) ⟨hx, hb, hml, hown, hts⟩ hK hO hw (ct_X10_nextNow (MR.sm (SM.up rfl (by decide) (SM.rf S)) hRp) (SM.ci (SM.up rfl (by decide) (SM.rf S)) hI) (by rw [SM.c4 (SM.up rfl (by decide) (SM.rf S))]; exact (lp_l hk)) hx_6 _ (wk.hA hw hA)) (cwV 1 hts (gB_V w_ml_X10_288 w_im_X10_nextNow w_se_X10_nextNow w_in_X10 w_co_X10_nextNow) rfl rfl rfl (by decide +kernel) ⟨Nat.le_of_ble_eq_true rfl, Nat.le_of_ble_eq_true rfl⟩) (hRp.1 30 (by decide) (by decide)) mke_30 rfl rfl hl.1 rfl (Nat.le_of_ble_eq_true rfl) dX10_digest_184 ⟨(show 0 + 242 + 16 + 160 + 1 + 7 * i + 7 + 0 ≤ 600 from by omega), (show 0 + 1045 + 64 + 640 + 4 + 49 * i + 49 + 0 ≤ 2700 from by omega)⟩) (fun H locs hw => ?_)
                      refine lv_i2l (v := x_6.toInt64) hx hb dX10_digest_187 rfl ?_
                      refine k_cl0 hw (k_rS (As := [.long w_5, .long x_6.toInt64]) (rest := []) ⟨hx, hb, hml, hown, hts⟩ hK hO hw (ct_X10_add w_5 x_6.toInt64 _ (wk.hA hw hA)) (va_cwS 2 hts (gB_S w_ml_X10_298 w_st_X10_add w_in_X10 w_co_X10_add) rfl rfl rfl (by decide +kernel) ⟨Nat.le_of_ble_eq_true rfl, Nat.le_of_ble_eq_true rfl⟩) rfl hl.1 rfl (Nat.le_of_ble_eq_true rfl) dX10_digest_188 ⟨(show 0 + 242 + 16 + 160 + 1 + 7 * i + 7 + 0 ≤ 600 from by omega), (show 0 + 1045 + 64 + 640 + 4 + 49 * i + 49 + 0 ≤ 2700 from by omega)⟩) (fun H locs hw => ?_)
                      refine lv_lstore_n (lv' := [(1, .long (sp_X10_add w_5 x_6.toInt64)), (0, .ref (ad 30 0)), (3, .ref q), (4, .ref (ad 46 i)), (5, .int (nI ib))]) hx hb dX10_digest_191 rfl hl (by decide) rfl (fun ls hl => ?_)
                      refine lv_iconst (v := 0) hx hb dX10_digest_192 (by decide) ?_
                      refine lv_istore (lv' := [(5, .int 0), (1, .long (sp_X10_add w_5 x_6.toInt64)), (0, .ref (ad 30 0)), (3, .ref q), (4, .ref (ad 46 i))]) hx hb dX10_digest_193 hl (by decide) rfl (fun ls hl => ?_)
                      obtain ⟨w_7, hL_195, hE⟩ := ob1 hE
                      have key_195 : ∀ (kb ib : Nat) (v1b : Int64) (H : Heap) (locs : List Loc) (ls : Array Slot), ib + kb = (S 1 0 1).toNatClampNeg → lp_X10_digest_195 S w_1 w_2 w_3 k i v1 w_5 x_6 kb ib v1b = some (w_7) → wk D A (L ++ [(70, 0)]) (upa ad 70 0 q) (mK cI cO K0 (upa ad 70 0 q) cp (up2 ce 70 0 (itc (i + 1) (S 42 4 0) (ad 35 0))) (up3 S 40 0 0 0)) s.heap H locs → lv_has ls 7 [(0, .ref (ad 30 0)), (1, .long v1b), (3, .ref q), (4, .ref (ad 46 i)), (5, .int (nI ib))] → W p l e (headSpec bw_X10_digest (rm_X10_digest)).room s m args below meth c H locs (0 + 242 + 16 + 160 + 1 + 7 * i + 7) (0 + 1045 + 64 + 640 + 4 + 49 * i + 49) (MQ below (kQl D A v.1 L ad (mK cI cO K0 ad cp ce v.2)) args s 600 2700 A) (F0 m 195 ls []) := by
                        intro kb
                        induction kb with
                        | zero =>
                          intro ib v1b H locs ls hkb hVb hw hl
                          have hVb := (lz_lp_X10_digest_195 S w_1 w_2 w_3 k i v1 w_5 x_6 ib v1b).symm.trans hVb
                          obtain rfl := (Option.some.inj hVb).symm
                          refine lv_iload hx hb dX10_digest_195 (lv_at hl 4 rfl) ?_
                          refine lv_aload_n hx hb dX10_digest_197 rfl (lv_at hl 0 rfl) ?_
                          refine k_get (C := RX10) (T := TX10) (N := 9) (v := .ref (ad 32 0)) hx hb hts inB_X10 hown hK hw (hRp.1 30 (by decide) (by decide)) mke_30 rfl 3 (by decide) (hts _ w_f_X10_20) (fun _ h9 => h9) rfl dX10_digest_198 ?_
                          refine k_ci0 hw (k_rV (f := 32) (o := 0) (As := []) (rest := [.int (nI ib)]) ⟨hx, hb, hml, hown, hts⟩ hK hO hw (ct_size_1 (SM.up rfl (by decide) (SM.rf S)) hRp _ (wk.hA hw hA)) (cwV 0 hts (gB_V w_ml_X10_43 w_im_Jx4a65c_size_8abf5 w_se_Jx4a65c_size_8abf5 w_in_Jx4a65c w_co_Jx4a65c_size_8abf5) rfl rfl rfl (by decide +kernel) ⟨Nat.le_of_ble_eq_true rfl, Nat.le_of_ble_eq_true rfl⟩) (hRp.1 32 (by decide) (by decide)) (ce_l1 (SM.up rfl (by decide) (SM.rf S))) rfl rfl hl.1 rfl (Nat.le_of_ble_eq_true rfl) dX10_digest_201 ⟨(show 0 + 242 + 16 + 160 + 1 + 7 * i + 7 + 0 ≤ 600 from by omega), (show 0 + 1045 + 64 + 640 + 4 + 49 * i + 49 + 0 ≤ 2700 from by omega)⟩) (fun H locs hw => ?_)
                          refine lv_icmp_ge (tgt := 227) hx hb dX10_digest_204 (by decide) (fun _ => ?_) (fun h => absurd (lp_o (cn_eq hI.2.1.1) hkb (cn_lt _)) h)
                          refine lv_iconst (v := 0) hx hb dX10_digest_227 (by decide) ?_
                          refine lv_istore (lv' := [(5, .int 0), (0, .ref (ad 30 0)), (1, .long w_7), (3, .ref q), (4, .ref (ad 46 i))]) hx hb dX10_digest_228 hl (by decide) rfl (fun ls hl => ?_)
                          obtain ⟨w_8, hL_230, hE⟩ := ob1 hE
                          have key_230 : ∀ (kb ib : Nat) (v1b : Int64) (H : Heap) (locs : List Loc) (ls : Array Slot), ib + kb = (S 1 0 0).toNatClampNeg → lp_X10_digest_230 S w_1 w_2 w_3 k i v1 w_5 x_6 w_7 kb ib v1b = some (w_8) → wk D A (L ++ [(70, 0)]) (upa ad 70 0 q) (mK cI cO K0 (upa ad 70 0 q) cp (up2 ce 70 0 (itc (i + 1) (S 42 4 0) (ad 35 0))) (up3 S 40 0 0 0)) s.heap H locs → lv_has ls 7 [(0, .ref (ad 30 0)), (1, .long v1b), (3, .ref q), (4, .ref (ad 46 i)), (5, .int (nI ib))] → W p l e (headSpec bw_X10_digest (rm_X10_digest)).room s m args below meth c H locs (0 + 242 + 16 + 160 + 1 + 7 * i + 7) (0 + 1045 + 64 + 640 + 4 + 49 * i + 49) (MQ below (kQl D A v.1 L ad (mK cI cO K0 ad cp ce v.2)) args s 600 2700 A) (F0 m 230 ls []) := by
                            intro kb
                            induction kb with
                            | zero =>
                              intro ib v1b H locs ls hkb hVb hw hl
                              have hVb := (lz_lp_X10_digest_230 S w_1 w_2 w_3 k i v1 w_5 x_6 w_7 ib v1b).symm.trans hVb
                              obtain rfl := (Option.some.inj hVb).symm
                              refine lv_iload hx hb dX10_digest_230 (lv_at hl 4 rfl) ?_
                              refine lv_aload_n hx hb dX10_digest_232 rfl (lv_at hl 0 rfl) ?_
                              refine k_get (C := RX10) (T := TX10) (N := 9) (v := .ref (ad 31 0)) hx hb hts inB_X10 hown hK hw (hRp.1 30 (by decide) (by decide)) mke_30 rfl 1 (by decide) (hts _ w_f_X10_10) (fun _ h9 => h9) rfl dX10_digest_233 ?_
                              refine k_ci0 hw (k_rV (f := 31) (o := 0) (As := []) (rest := [.int (nI ib)]) ⟨hx, hb, hml, hown, hts⟩ hK hO hw (ct_size_0 (SM.up rfl (by decide) (SM.rf S)) hRp _ (wk.hA hw hA)) (cwV 0 hts (gB_V w_ml_X10_43 w_im_Jx4a65c_size_8abf5 w_se_Jx4a65c_size_8abf5 w_in_Jx4a65c w_co_Jx4a65c_size_8abf5) rfl rfl rfl (by decide +kernel) ⟨Nat.le_of_ble_eq_true rfl, Nat.le_of_ble_eq_true rfl⟩) (hRp.1 31 (by decide) (by decide)) (ce_l0 (SM.up rfl (by decide) (SM.rf S))) rfl rfl hl.1 rfl (Nat.le_of_ble_eq_true rfl) dX10_digest_236 ⟨(show 0 + 242 + 16 + 160 + 1 + 7 * i + 7 + 0 ≤ 600 from by omega), (show 0 + 1045 + 64 + 640 + 4 + 49 * i + 49 + 0 ≤ 2700 from by omega)⟩) (fun H locs hw => ?_)
                              refine lv_icmp_ge (tgt := 307) hx hb dX10_digest_239 (by decide) (fun _ => ?_) (fun h => absurd (lp_o (cn_eq hI.1.1) hkb (cn_lt _)) h)
                              refine lv_goto (tgt := 130) hx hb dX10_digest_307 (by decide) ?_
                              refine W.widen (k := 0 + 242 + 16 + 160 + 1 + 7 * (i + 1)) (n := 0 + 1045 + 64 + 640 + 4 + 49 * (i + 1)) (by omega) (by omega) ?_
                              exact ih (i + 1) w_8 _ _ _ (lp_s hk) hE hw (lv_sub hl [0, 1, 2] rfl)
                            | succ kb ihb =>
                              intro ib v1b H locs ls hkb hVb hw hl
                              have hVb := (ls_lp_X10_digest_230 S w_1 w_2 w_3 k i v1 w_5 x_6 w_7 kb ib v1b).symm.trans hVb
                              have hE := hVb
                              refine lv_iload hx hb dX10_digest_230 (lv_at hl 4 rfl) ?_
                              refine lv_aload_n hx hb dX10_digest_232 rfl (lv_at hl 0 rfl) ?_
                              refine k_get (C := RX10) (T := TX10) (N := 9) (v := .ref (ad 31 0)) hx hb hts inB_X10 hown hK hw (hRp.1 30 (by decide) (by decide)) mke_30 rfl 1 (by decide) (hts _ w_f_X10_10) (fun _ h9 => h9) rfl dX10_digest_233 ?_
                              refine k_ci0 hw (k_rV (f := 31) (o := 0) (As := []) (rest := [.int (nI ib)]) ⟨hx, hb, hml, hown, hts⟩ hK hO hw (ct_size_0 (SM.up rfl (by decide) (SM.rf S)) hRp _ (wk.hA hw hA)) (cwV 0 hts (gB_V w_ml_X10_43 w_im_Jx4a65c_size_8abf5 w_se_Jx4a65c_size_8abf5 w_in_Jx4a65c w_co_Jx4a65c_size_8abf5) rfl rfl rfl (by decide +kernel) ⟨Nat.le_of_ble_eq_true rfl, Nat.le_of_ble_eq_true rfl⟩) (hRp.1 31 (by decide) (by decide)) (ce_l0 (SM.up rfl (by decide) (SM.rf S))) rfl rfl hl.1 rfl (Nat.le_of_ble_eq_true rfl) dX10_digest_236 ⟨(show 0 + 242 + 16 + 160 + 1 + 7 * i + 7 + 0 ≤ 600 from by omega), (show 0 + 1045 + 64 + 640 + 4 + 49 * i + 49 + 0 ≤ 2700 from by omega)⟩) (fun H locs hw => ?_)
                              refine lv_icmp_ge (tgt := 307) hx hb dX10_digest_239 (by decide) (fun h => absurd h (lp_i (cn_eq hI.1.1) hkb (cn_lt _))) (fun _ => ?_)
                              refine lv_aload hx hb dX10_digest_242 (lv_at hl 3 rfl) ?_
                              refine lv_iload hx hb dX10_digest_244 (lv_at hl 4 rfl) ?_
                              obtain ⟨x_9, hx_9, hE⟩ := ob1 hE
                              refine k_ci0 hw (k_rV (f := 46) (o := i) (As := [.int (nI ib)]) (rest := []) ⟨hx, hb, hml, hown, hts⟩ hK hO hw (ct_X6_has (MR.sm (SM.up rfl (by decide) (SM.rf S)) hRp) (SM.ci (SM.up rfl (by decide) (SM.rf S)) hI) (by rw [SM.c4 (SM.up rfl (by decide) (SM.rf S))]; exact (lp_l hk)) hx_9 _ (wk.hA hw hA)) (cwV 1 hts (gB_V w_ml_X10_256 w_im_X6_has w_se_X6_has w_in_X6 w_co_X6_has) rfl rfl rfl (by decide +kernel) ⟨Nat.le_of_ble_eq_true rfl, Nat.le_of_ble_eq_true rfl⟩) (hRp.2.2.2.2.2.2.2 46 _ (by decide) (by decide) (lp_l hk)) mke_46 rfl rfl hl.1 rfl (Nat.le_of_ble_eq_true rfl) dX10_digest_246 ⟨(show 0 + 242 + 16 + 160 + 1 + 7 * i + 7 + 0 ≤ 600 from by omega), (show 0 + 1045 + 64 + 640 + 4 + 49 * i + 49 + 0 ≤ 2700 from by omega)⟩) (fun H locs hw => ?_)
                              refine lv_if_ne (tgt := 255) hx hb dX10_digest_249 (by decide) (fun c_10 => ?_) (fun c_10 => ?_)
                              · have hE := (if_neg c_10).symm.trans hE
                                refine lv_iconst (v := 0) hx hb dX10_digest_255 (by decide) ?_
                                refine lv_istore (lv' := [(6, .int 0), (0, .ref (ad 30 0)), (1, .long v1b), (3, .ref q), (4, .ref (ad 46 i)), (5, .int (nI ib))]) hx hb dX10_digest_256 hl (by decide) rfl (fun ls hl => ?_)
                                obtain ⟨w_11, hL_258, hE⟩ := ob1 hE
                                have key_258 : ∀ (kc ic : Nat) (v1c : Int64) (H : Heap) (locs : List Loc) (ls : Array Slot), ic + kc = 6 → lp_X10_digest_258 S w_1 w_2 w_3 k i v1 w_5 x_6 w_7 kb ib v1b x_9 kc ic v1c = some (w_11) → wk D A (L ++ [(70, 0)]) (upa ad 70 0 q) (mK cI cO K0 (upa ad 70 0 q) cp (up2 ce 70 0 (itc (i + 1) (S 42 4 0) (ad 35 0))) (up3 S 40 0 0 0)) s.heap H locs → lv_has ls 7 [(0, .ref (ad 30 0)), (1, .long v1c), (3, .ref q), (4, .ref (ad 46 i)), (5, .int (nI ib)), (6, .int (nI ic))] → W p l e (headSpec bw_X10_digest (rm_X10_digest)).room s m args below meth c H locs (0 + 242 + 16 + 160 + 1 + 7 * i + 7) (0 + 1045 + 64 + 640 + 4 + 49 * i + 49) (MQ below (kQl D A v.1 L ad (mK cI cO K0 ad cp ce v.2)) args s 600 2700 A) (F0 m 258 ls []) := by
                                  intro kc
                                  induction kc with
                                  | zero =>
                                    intro ic v1c H locs ls hkc hVc hw hl
                                    have hVc := (lz_lp_X10_digest_258 S w_1 w_2 w_3 k i v1 w_5 x_6 w_7 kb ib v1b x_9 ic v1c).symm.trans hVc
                                    obtain rfl := (Option.some.inj hVc).symm
                                    refine lv_iload hx hb dX10_digest_258 (lv_at hl 5 rfl) ?_
                                    refine lv_bipush (v := 6) hx hb dX10_digest_260 (by decide) ?_
                                    refine lv_icmp_ge (tgt := 287) hx hb dX10_digest_262 (by decide) (fun _ => ?_) (fun h => absurd (lp_o rfl hkc (by decide)) h)
                                    refine lv_lload_n hx hb dX10_digest_287 rfl (lv_at hl 1 rfl) ?_
                                    refine lv_aload_n hx hb dX10_digest_288 rfl (lv_at hl 0 rfl) ?_
                                    refine lv_aload hx hb dX10_digest_289 (lv_at hl 3 rfl) ?_
                                    refine lv_iload hx hb dX10_digest_291 (lv_at hl 4 rfl) ?_
                                    obtain ⟨x_12, hx_12, hE⟩ := ob1 hE
                                    refine k_ci0 hw (k_rV (f := 30) (o := 0) (As := [.ref (ad 46 i), .int (nI ib)]) (rest := [.long w_11]) ⟨hx, hb, hml, hown, hts⟩ hK hO hw (ct_X10_waitForNow (MR.sm (SM.up rfl (by decide) (SM.rf S)) hRp) (SM.ci (SM.up rfl (by decide) (SM.rf S)) hI) (by rw [SM.c4 (SM.up rfl (by decide) (SM.rf S))]; exact (lp_l hk)) hx_12 _ (wk.hA hw hA)) (cwV 2 hts (gB_V w_ml_X10_291 w_im_X10_waitForNow w_se_X10_waitForNow w_in_X10 w_co_X10_waitForNow) rfl rfl rfl (by decide +kernel) ⟨Nat.le_of_ble_eq_true rfl, Nat.le_of_ble_eq_true rfl⟩) (hRp.1 30 (by decide) (by decide)) mke_30 rfl rfl hl.1 rfl (Nat.le_of_ble_eq_true rfl) dX10_digest_293 ⟨(show 0 + 242 + 16 + 160 + 1 + 7 * i + 7 + 0 ≤ 600 from by omega), (show 0 + 1045 + 64 + 640 + 4 + 49 * i + 49 + 0 ≤ 2700 from by omega)⟩) (fun H locs hw => ?_)
                                    refine lv_i2l (v := x_12.toInt64) hx hb dX10_digest_296 rfl ?_
                                    refine k_cl0 hw (k_rS (As := [.long w_11, .long x_12.toInt64]) (rest := []) ⟨hx, hb, hml, hown, hts⟩ hK hO hw (ct_X10_add w_11 x_12.toInt64 _ (wk.hA hw hA)) (va_cwS 2 hts (gB_S w_ml_X10_298 w_st_X10_add w_in_X10 w_co_X10_add) rfl rfl rfl (by decide +kernel) ⟨Nat.le_of_ble_eq_true rfl, Nat.le_of_ble_eq_true rfl⟩) rfl hl.1 rfl (Nat.le_of_ble_eq_true rfl) dX10_digest_297 ⟨(show 0 + 242 + 16 + 160 + 1 + 7 * i + 7 + 0 ≤ 600 from by omega), (show 0 + 1045 + 64 + 640 + 4 + 49 * i + 49 + 0 ≤ 2700 from by omega)⟩) (fun H locs hw => ?_)
                                    refine lv_lstore_n (lv' := [(1, .long (sp_X10_add w_11 x_12.toInt64)), (0, .ref (ad 30 0)), (3, .ref q), (4, .ref (ad 46 i)), (5, .int (nI ib)), (6, .int (nI ic))]) hx hb dX10_digest_300 rfl hl (by decide) rfl (fun ls hl => ?_)
                                    refine lv_iinc (v := (nI (ib + 1))) (lv' := [(5, .int (nI (ib + 1))), (1, .long (sp_X10_add w_11 x_12.toInt64)), (0, .ref (ad 30 0)), (3, .ref q), (4, .ref (ad 46 i)), (6, .int (nI ic))]) hx hb dX10_digest_301 hl (k := 4) rfl (nI_1 _) (by decide) rfl (fun ls hl => ?_)
                                    refine lv_goto (tgt := 230) hx hb dX10_digest_304 (by decide) ?_
                                    exact ihb (ib + 1) (sp_X10_add w_11 x_12.toInt64) _ _ _ (lp_s hkb) hE hw (lv_sub hl [2, 1, 3, 4, 0] rfl)
                                  | succ kc ihc =>
                                    intro ic v1c H locs ls hkc hVc hw hl
                                    have hVc := (ls_lp_X10_digest_258 S w_1 w_2 w_3 k i v1 w_5 x_6 w_7 kb ib v1b x_9 kc ic v1c).symm.trans hVc
                                    have hE := hVc
                                    refine lv_iload hx hb dX10_digest_258 (lv_at hl 5 rfl) ?_
                                    refine lv_bipush (v := 6) hx hb dX10_digest_260 (by decide) ?_
                                    refine lv_icmp_ge (tgt := 287) hx hb dX10_digest_262 (by decide) (fun h => absurd h (lp_i rfl hkc (by decide))) (fun _ => ?_)
                                    refine lv_lload_n hx hb dX10_digest_265 rfl (lv_at hl 1 rfl) ?_
                                    refine lv_aload_n hx hb dX10_digest_266 rfl (lv_at hl 0 rfl) ?_
                                    refine lv_aload hx hb dX10_digest_267 (lv_at hl 3 rfl) ?_
                                    refine lv_iload hx hb dX10_digest_269 (lv_at hl 4 rfl) ?_
                                    refine lv_iload hx hb dX10_digest_271 (lv_at hl 5 rfl) ?_
                                    obtain ⟨x_13, hx_13, hE⟩ := ob1 hE
                                    refine k_ci0 hw (k_rV (f := 30) (o := 0) (As := [.ref (ad 46 i), .int (nI ib), .int (nI ic)]) (rest := [.long v1c]) ⟨hx, hb, hml, hown, hts⟩ hK hO hw (ct_X10_ofStepNow (MR.sm (SM.up rfl (by decide) (SM.rf S)) hRp) (SM.ci (SM.up rfl (by decide) (SM.rf S)) hI) (by rw [SM.c4 (SM.up rfl (by decide) (SM.rf S))]; exact (lp_l hk)) hx_13 _ (wk.hA hw hA)) (cwV 3 hts (gB_V w_ml_X10_262 w_im_X10_ofStepNow w_se_X10_ofStepNow w_in_X10 w_co_X10_ofStepNow) rfl rfl rfl (by decide +kernel) ⟨Nat.le_of_ble_eq_true rfl, Nat.le_of_ble_eq_true rfl⟩) (hRp.1 30 (by decide) (by decide)) mke_30 rfl rfl hl.1 rfl (Nat.le_of_ble_eq_true rfl) dX10_digest_273 ⟨(show 0 + 242 + 16 + 160 + 1 + 7 * i + 7 + 0 ≤ 600 from by omega), (show 0 + 1045 + 64 + 640 + 4 + 49 * i + 49 + 0 ≤ 2700 from by omega)⟩) (fun H locs hw => ?_)
                                    refine lv_i2l (v := x_13.toInt64) hx hb dX10_digest_276 rfl ?_
                                    refine k_cl0 hw (k_rS (As := [.long v1c, .long x_13.toInt64]) (rest := []) ⟨hx, hb, hml, hown, hts⟩ hK hO hw (ct_X10_add v1c x_13.toInt64 _ (wk.hA hw hA)) (va_cwS 2 hts (gB_S w_ml_X10_298 w_st_X10_add w_in_X10 w_co_X10_add) rfl rfl rfl (by decide +kernel) ⟨Nat.le_of_ble_eq_true rfl, Nat.le_of_ble_eq_true rfl⟩) rfl hl.1 rfl (Nat.le_of_ble_eq_true rfl) dX10_digest_277 ⟨(show 0 + 242 + 16 + 160 + 1 + 7 * i + 7 + 0 ≤ 600 from by omega), (show 0 + 1045 + 64 + 640 + 4 + 49 * i + 49 + 0 ≤ 2700 from by omega)⟩) (fun H locs hw => ?_)
                                    refine lv_lstore_n (lv' := [(1, .long (sp_X10_add v1c x_13.toInt64)), (0, .ref (ad 30 0)), (3, .ref q), (4, .ref (ad 46 i)), (5, .int (nI ib)), (6, .int (nI ic))]) hx hb dX10_digest_280 rfl hl (by decide) rfl (fun ls hl => ?_)
                                    refine lv_iinc (v := (nI (ic + 1))) (lv' := [(6, .int (nI (ic + 1))), (1, .long (sp_X10_add v1c x_13.toInt64)), (0, .ref (ad 30 0)), (3, .ref q), (4, .ref (ad 46 i)), (5, .int (nI ib))]) hx hb dX10_digest_281 hl (k := 5) rfl (nI_1 _) (by decide) rfl (fun ls hl => ?_)
                                    refine lv_goto (tgt := 258) hx hb dX10_digest_284 (by decide) ?_
                                    exact ihc (ic + 1) (sp_X10_add v1c x_13.toInt64) _ _ _ (lp_s hkc) hE hw (lv_sub hl [2, 1, 3, 4, 5, 0] rfl)
                                exact key_258 6 0 v1b _ _ _ (Nat.zero_add _) hL_258 hw (lv_sub hl [1, 2, 3, 4, 5, 0] rfl)
                              · have hE := (if_pos c_10).symm.trans hE
                                refine lv_goto (tgt := 301) hx hb dX10_digest_252 (by decide) ?_
                                refine lv_iinc (v := (nI (ib + 1))) (lv' := [(5, .int (nI (ib + 1))), (0, .ref (ad 30 0)), (1, .long v1b), (3, .ref q), (4, .ref (ad 46 i))]) hx hb dX10_digest_301 hl (k := 4) rfl (nI_1 _) (by decide) rfl (fun ls hl => ?_)
                                refine lv_goto (tgt := 230) hx hb dX10_digest_304 (by decide) ?_
                                exact ihb (ib + 1) v1b _ _ _ (lp_s hkb) hE hw (lv_sub hl [1, 2, 3, 4, 0] rfl)
                          exact key_230 ((S 1 0 0).toNatClampNeg) 0 w_7 _ _ _ (Nat.zero_add _) hL_230 hw (lv_sub hl [1, 2, 3, 4, 0] rfl)
                        | succ kb ihb =>
                          intro ib v1b H locs ls hkb hVb hw hl
                          have hVb := (ls_lp_X10_digest_195 S w_1 w_2 w_3 k i v1 w_5 x_6 kb ib v1b).symm.trans hVb
                          have hE := hVb
                          refine lv_iload hx hb dX10_digest_195 (lv_at hl 4 rfl) ?_
                          refine lv_aload_n hx hb dX10_digest_197 rfl (lv_at hl 0 rfl) ?_
                          refine k_get (C := RX10) (T := TX10) (N := 9) (v := .ref (ad 32 0)) hx hb hts inB_X10 hown hK hw (hRp.1 30 (by decide) (by decide)) mke_30 rfl 3 (by decide) (hts _ w_f_X10_20) (fun _ h9 => h9) rfl dX10_digest_198 ?_
                          refine k_ci0 hw (k_rV (f := 32) (o := 0) (As := []) (rest := [.int (nI ib)]) ⟨hx, hb, hml, hown, hts⟩ hK hO hw (ct_size_1 (SM.up rfl (by decide) (SM.rf S)) hRp _ (wk.hA hw hA)) (cwV 0 hts (gB_V w_ml_X10_43 w_im_Jx4a65c_size_8abf5 w_se_Jx4a65c_size_8abf5 w_in_Jx4a65c w_co_Jx4a65c_size_8abf5) rfl rfl rfl (by decide +kernel) ⟨Nat.le_of_ble_eq_true rfl, Nat.le_of_ble_eq_true rfl⟩) (hRp.1 32 (by decide) (by decide)) (ce_l1 (SM.up rfl (by decide) (SM.rf S))) rfl rfl hl.1 rfl (Nat.le_of_ble_eq_true rfl) dX10_digest_201 ⟨(show 0 + 242 + 16 + 160 + 1 + 7 * i + 7 + 0 ≤ 600 from by omega), (show 0 + 1045 + 64 + 640 + 4 + 49 * i + 49 + 0 ≤ 2700 from by omega)⟩) (fun H locs hw => ?_)
                          refine lv_icmp_ge (tgt := 227) hx hb dX10_digest_204 (by decide) (fun h => absurd h (lp_i (cn_eq hI.2.1.1) hkb (cn_lt _))) (fun _ => ?_)
                          refine lv_lload_n hx hb dX10_digest_207 rfl (lv_at hl 1 rfl) ?_
                          refine lv_aload_n hx hb dX10_digest_208 rfl (lv_at hl 0 rfl) ?_
                          refine lv_aload hx hb dX10_digest_209 (lv_at hl 3 rfl) ?_
                          refine lv_iload hx hb dX10_digest_211 (lv_at hl 4 rfl) ?_
                          obtain ⟨x_14, hx_14, hE⟩ := ob1 hE
                          refine k_ci0 hw (k_rV (f := 30) (o := 0) (As := [.ref (ad 46 i), .int (nI ib)]) (rest := [.long v1b]) ⟨hx, hb, hml, hown, hts⟩ hK hO hw (ct_X10_rightOnNow (MR.sm (SM.up rfl (by decide) (SM.rf S)) hRp) (SM.ci (SM.up rfl (by decide) (SM.rf S)) hI) (by rw [SM.c4 (SM.up rfl (by decide) (SM.rf S))]; exact (lp_l hk)) hx_14 _ (wk.hA hw hA)) (cwV 2 hts (gB_V w_ml_X10_285 w_im_X10_rightOnNow w_se_X10_rightOnNow w_in_X10 w_co_X10_rightOnNow) rfl rfl rfl (by decide +kernel) ⟨Nat.le_of_ble_eq_true rfl, Nat.le_of_ble_eq_true rfl⟩) (hRp.1 30 (by decide) (by decide)) mke_30 rfl rfl hl.1 rfl (Nat.le_of_ble_eq_true rfl) dX10_digest_213 ⟨(show 0 + 242 + 16 + 160 + 1 + 7 * i + 7 + 0 ≤ 600 from by omega), (show 0 + 1045 + 64 + 640 + 4 + 49 * i + 49 + 0 ≤ 2700 from by omega)⟩) (fun H locs hw => ?_)
                          refine lv_i2l (v := x_14.toInt64) hx hb dX10_digest_216 rfl ?_
                          refine k_cl0 hw (k_rS (As := [.long v1b, .long x_14.toInt64]) (rest := []) ⟨hx, hb, hml, hown, hts⟩ hK hO hw (ct_X10_add v1b x_14.toInt64 _ (wk.hA hw hA)) (va_cwS 2 hts (gB_S w_ml_X10_298 w_st_X10_add w_in_X10 w_co_X10_add) rfl rfl rfl (by decide +kernel) ⟨Nat.le_of_ble_eq_true rfl, Nat.le_of_ble_eq_true rfl⟩) rfl hl.1 rfl (Nat.le_of_ble_eq_true rfl) dX10_digest_217 ⟨(show 0 + 242 + 16 + 160 + 1 + 7 * i + 7 + 0 ≤ 600 from by omega), (show 0 + 1045 + 64 + 640 + 4 + 49 * i + 49 + 0 ≤ 2700 from by omega)⟩) (fun H locs hw => ?_)
                          refine lv_lstore_n (lv' := [(1, .long (sp_X10_add v1b x_14.toInt64)), (0, .ref (ad 30 0)), (3, .ref q), (4, .ref (ad 46 i)), (5, .int (nI ib))]) hx hb dX10_digest_220 rfl hl (by decide) rfl (fun ls hl => ?_)
                          refine lv_iinc (v := (nI (ib + 1))) (lv' := [(5, .int (nI (ib + 1))), (1, .long (sp_X10_add v1b x_14.toInt64)), (0, .ref (ad 30 0)), (3, .ref q), (4, .ref (ad 46 i))]) hx hb dX10_digest_221 hl (k := 4) rfl (nI_1 _) (by decide) rfl (fun ls hl => ?_)
                          refine lv_goto (tgt := 195) hx hb dX10_digest_224 (by decide) ?_
                          exact ihb (ib + 1) (sp_X10_add v1b x_14.toInt64) _ _ _ (lp_s hkb) hE hw (lv_sub hl [2, 1, 3, 4, 0] rfl)
                      exact key_195 ((S 1 0 1).toNatClampNeg) 0 (sp_X10_add w_5 x_6.toInt64) _ _ _ (Nat.zero_add _) hL_195 hw (lv_sub hl [2, 1, 3, 4, 0] rfl)
                    | succ kb ihb =>
                      intro ib v1b H locs ls hkb hVb hw hl
                      have hmyb : ib < 7 := by omega
                      have hVb := (ls_lp_X10_digest_153 S w_1 w_2 w_3 k i v1 kb ib v1b).symm.trans hVb
                      have hE := hVb
                      refine lv_iload hx hb dX10_digest_153 (lv_at hl 4 rfl) ?_
                      refine lv_bipush (v := 7) hx hb dX10_digest_155 (by decide) ?_
                      refine lv_icmp_ge (tgt := 180) hx hb dX10_digest_157 (by decide) (fun h => absurd h (lp_i rfl hkb (by decide))) (fun _ => ?_)
                      refine lv_lload_n hx hb dX10_digest_160 rfl (lv_at hl 1 rfl) ?_
                      refine lv_aload_n hx hb dX10_digest_161 rfl (lv_at hl 0 rfl) ?_
                      refine lv_aload hx hb dX10_digest_162 (lv_at hl 3 rfl) ?_
                      refine lv_iload hx hb dX10_digest_164 (lv_at hl 4 rfl) ?_
                      obtain ⟨x_15, hx_15, hE⟩ := ob1 hE
                      refine k_ci hw (k_rV (f := 30) (o := 0) (As := [.ref (ad 46 i), .int (nI ib)]) (rest := [.long v1b]) ⟨hx, hb, hml, hown, hts⟩ hK hO hw (ct_X10_ofJoinerNow (MR.sm (SM.up rfl (by decide) (SM.rf S)) hRp) (SM.ci (SM.up rfl (by decide) (SM.rf S)) hI) (TL.push hT (by decide) (by decide)) (by rw [SM.c4 (SM.up rfl (by decide) (SM.rf S))]; exact (lp_l hk)) hx_15 _ (wk.hA hw hA)) (cwV 2 hts (gB_V w_ml_X10_279 w_im_X10_ofJoinerNow w_se_X10_ofJoinerNow w_in_X10 w_co_X10_ofJoinerNow) rfl rfl rfl (by decide +kernel) ⟨Nat.le_of_ble_eq_true rfl, Nat.le_of_ble_eq_true rfl⟩) (hRp.1 30 (by decide) (by decide)) mke_30 rfl rfl hl.1 rfl (Nat.le_of_ble_eq_true rfl) dX10_digest_166 ⟨(show 0 + 242 + 16 + 160 + 1 + 7 * i + 1 * ib + 1 ≤ 600 from by omega), (show 0 + 1045 + 64 + 640 + 4 + 49 * i + 7 * ib + 7 ≤ 2700 from by omega)⟩) (fun H locs hw => ?_)
                      refine lv_i2l (v := x_15.toInt64) hx hb dX10_digest_169 rfl ?_
                      refine k_cl0 hw (k_rS (As := [.long v1b, .long x_15.toInt64]) (rest := []) ⟨hx, hb, hml, hown, hts⟩ hK hO hw (ct_X10_add v1b x_15.toInt64 _ (wk.hA hw hA)) (va_cwS 2 hts (gB_S w_ml_X10_298 w_st_X10_add w_in_X10 w_co_X10_add) rfl rfl rfl (by decide +kernel) ⟨Nat.le_of_ble_eq_true rfl, Nat.le_of_ble_eq_true rfl⟩) rfl hl.1 rfl (Nat.le_of_ble_eq_true rfl) dX10_digest_170 ⟨(show 0 + 242 + 16 + 160 + 1 + 7 * i + 1 * ib + 1 + 0 ≤ 600 from by omega), (show 0 + 1045 + 64 + 640 + 4 + 49 * i + 7 * ib + 7 + 0 ≤ 2700 from by omega)⟩) (fun H locs hw => ?_)
                      refine lv_lstore_n (lv' := [(1, .long (sp_X10_add v1b x_15.toInt64)), (0, .ref (ad 30 0)), (3, .ref q), (4, .ref (ad 46 i)), (5, .int (nI ib))]) hx hb dX10_digest_173 rfl hl (by decide) rfl (fun ls hl => ?_)
                      refine lv_iinc (v := (nI (ib + 1))) (lv' := [(5, .int (nI (ib + 1))), (1, .long (sp_X10_add v1b x_15.toInt64)), (0, .ref (ad 30 0)), (3, .ref q), (4, .ref (ad 46 i))]) hx hb dX10_digest_174 hl (k := 4) rfl (nI_1 _) (by decide) rfl (fun ls hl => ?_)
                      refine lv_goto (tgt := 153) hx hb dX10_digest_177 (by decide) ?_
                      refine W.widen (k := 0 + 242 + 16 + 160 + 1 + 7 * i + 1 * (ib + 1)) (n := 0 + 1045 + 64 + 640 + 4 + 49 * i + 7 * (ib + 1)) (by omega) (by omega) ?_
                      exact ihb (ib + 1) (sp_X10_add v1b x_15.toInt64) _ _ _ (lp_s hkb) hE hw (lv_sub hl [2, 1, 3, 4, 0] rfl)
                  exact key_153 7 0 v1 _ _ _ (Nat.zero_add _) hL_153 hw (lv_sub hl [2, 3, 4, 1, 0] rfl)
              exact key_130 ((S 0 0 0).toNatClampNeg) 0 w_3 _ _ _ (Nat.zero_add _) hL_130 hw (lv_sub hl [1, 2, 0] rfl)
            | succ k ih =>
              intro i v1 H locs ls hk hV hw hl
              have hmy : i < 20 := by have h9 := CI.n4 hI; omega
              have hV := (ls_lp_X10_digest_77 S w_1 w_2 k i v1).symm.trans hV
              have hE := hV
              refine lv_iload_n hx hb dX10_digest_77 rfl (lv_at hl 2 rfl) ?_
              refine lv_aload_n hx hb dX10_digest_78 rfl (lv_at hl 0 rfl) ?_
              refine k_get (C := RX10) (T := TX10) (N := 9) (v := .ref (ad 34 0)) hx hb hts inB_X10 hown hK hw (hR.1 30 (by decide) (by decide)) mke_30 rfl 6 (by decide) (hts _ w_f_X10_29) (fun _ h9 => h9) rfl dX10_digest_79 ?_
              refine k_ci0 hw (k_rV (f := 34) (o := 0) (As := []) (rest := [.int (nI i)]) ⟨hx, hb, hml, hown, hts⟩ hK hO hw (ct_size_3 (SM.up rfl (by decide) (SM.rf S)) hR _ (wk.hA hw hA)) (cwV 0 hts (gB_V w_ml_X10_43 w_im_Jx4a65c_size_8abf5 w_se_Jx4a65c_size_8abf5 w_in_Jx4a65c w_co_Jx4a65c_size_8abf5) rfl rfl rfl (by decide +kernel) ⟨Nat.le_of_ble_eq_true rfl, Nat.le_of_ble_eq_true rfl⟩) (hR.1 34 (by decide) (by decide)) (ce_l3 (SM.up rfl (by decide) (SM.rf S))) rfl rfl hl.1 rfl (Nat.le_of_ble_eq_true rfl) dX10_digest_82 ⟨(show 0 + 242 + 16 + 8 * i + 0 ≤ 600 from by omega), (show 0 + 1045 + 64 + 32 * i + 0 ≤ 2700 from by omega)⟩) (fun H locs hw => ?_)
              refine lv_icmp_ge (tgt := 122) hx hb dX10_digest_85 (by decide) (fun h => absurd h (lp_i (cn_eq hI.2.2.2.1.1) hk (cn_lt _))) (fun _ => ?_)
              refine lv_iconst (v := 0) hx hb dX10_digest_88 (by decide) ?_
              refine lv_istore (lv' := [(4, .int 0), (0, .ref (ad 30 0)), (1, .long v1), (3, .int (nI i))]) hx hb dX10_digest_89 hl (by decide) rfl (fun ls hl => ?_)
              obtain ⟨w_16, hL_91, hE⟩ := ob1 hE
              have key_91 : ∀ (kb ib : Nat) (v1b : Int64) (H : Heap) (locs : List Loc) (ls : Array Slot), ib + kb = 4 → lp_X10_digest_91 S w_1 w_2 k i v1 kb ib v1b = some (w_16) → wk D A (L) ad (mK cI cO K0 ad cp ce (up3 S 40 0 0 0)) s.heap H locs → lv_has ls 7 [(0, .ref (ad 30 0)), (1, .long v1b), (3, .int (nI i)), (4, .int (nI ib))] → W p l e (headSpec bw_X10_digest (rm_X10_digest)).room s m args below meth c H locs (0 + 242 + 16 + 8 * i + 2 * ib) (0 + 1045 + 64 + 32 * i + 8 * ib) (MQ below (kQl D A v.1 L ad (mK cI cO K0 ad cp ce v.2)) args s 600 2700 A) (F0 m 91 ls []) := by
                intro kb
                induction kb with
                | zero =>
                  intro ib v1b H locs ls hkb hVb hw hl
                  have hVb := (lz_lp_X10_digest_91 S w_1 w_2 k i v1 ib v1b).symm.trans hVb
                  obtain rfl := (Option.some.inj hVb).symm
                  have hmxb : ib ≤ 4 := by omega
                  refine W.widen (k := 0 + 242 + 16 + 8 * i + 8) (n := 0 + 1045 + 64 + 32 * i + 32) (by omega) (by omega) ?_
                  refine lv_iload hx hb dX10_digest_91 (lv_at hl 3 rfl) ?_
                  refine lv_iconst (v := 4) hx hb dX10_digest_93 (by decide) ?_
                  refine lv_icmp_ge (tgt := 116) hx hb dX10_digest_94 (by decide) (fun _ => ?_) (fun h => absurd (lp_o rfl hkb (by decide)) h)
                  refine lv_iinc (v := (nI (i + 1))) (lv' := [(3, .int (nI (i + 1))), (0, .ref (ad 30 0)), (1, .long w_16), (4, .int (nI ib))]) hx hb dX10_digest_116 hl (k := 2) rfl (nI_1 _) (by decide) rfl (fun ls hl => ?_)
                  refine lv_goto (tgt := 77) hx hb dX10_digest_119 (by decide) ?_
                  refine W.widen (k := 0 + 242 + 16 + 8 * (i + 1)) (n := 0 + 1045 + 64 + 32 * (i + 1)) (by omega) (by omega) ?_
                  exact ih (i + 1) w_16 _ _ _ (lp_s hk) hE hw (lv_sub hl [1, 2, 0] rfl)
                | succ kb ihb =>
                  intro ib v1b H locs ls hkb hVb hw hl
                  have hmyb : ib < 4 := by omega
                  have hVb := (ls_lp_X10_digest_91 S w_1 w_2 k i v1 kb ib v1b).symm.trans hVb
                  have hE := hVb
                  refine lv_iload hx hb dX10_digest_91 (lv_at hl 3 rfl) ?_
                  refine lv_iconst (v := 4) hx hb dX10_digest_93 (by decide) ?_
                  refine lv_icmp_ge (tgt := 116) hx hb dX10_digest_94 (by decide) (fun h => absurd h (lp_i rfl hkb (by decide))) (fun _ => ?_)
                  refine lv_lload_n hx hb dX10_digest_97 rfl (lv_at hl 1 rfl) ?_
                  refine lv_aload_n hx hb dX10_digest_98 rfl (lv_at hl 0 rfl) ?_
                  refine lv_iload_n hx hb dX10_digest_99 rfl (lv_at hl 2 rfl) ?_
                  refine lv_iload hx hb dX10_digest_100 (lv_at hl 3 rfl) ?_
                  obtain ⟨x_17, hx_17, hE⟩ := ob1 hE
                  refine k_ci hw (k_rV (f := 30) (o := 0) (As := [.int (nI i), .int (nI ib)]) (rest := [.long v1b]) ⟨hx, hb, hml, hown, hts⟩ hK hO hw (ct_X10_ofSessionNow (MR.sm (SM.up rfl (by decide) (SM.rf S)) hR) (SM.ci (SM.up rfl (by decide) (SM.rf S)) hI) (TL.le hT (by decide)) hx_17 _ (wk.hA hw hA)) (cwV 2 hts (gB_V w_ml_X10_238 w_im_X10_ofSessionNow w_se_X10_ofSessionNow w_in_X10 w_co_X10_ofSessionNow) rfl rfl rfl (by decide +kernel) ⟨Nat.le_of_ble_eq_true rfl, Nat.le_of_ble_eq_true rfl⟩) (hR.1 30 (by decide) (by decide)) mke_30 rfl rfl hl.1 rfl (Nat.le_of_ble_eq_true rfl) dX10_digest_102 ⟨(show 0 + 242 + 16 + 8 * i + 2 * ib + 2 ≤ 600 from by omega), (show 0 + 1045 + 64 + 32 * i + 8 * ib + 8 ≤ 2700 from by omega)⟩) (fun H locs hw => ?_)
                  refine lv_i2l (v := x_17.toInt64) hx hb dX10_digest_105 rfl ?_
                  refine k_cl0 hw (k_rS (As := [.long v1b, .long x_17.toInt64]) (rest := []) ⟨hx, hb, hml, hown, hts⟩ hK hO hw (ct_X10_add v1b x_17.toInt64 _ (wk.hA hw hA)) (va_cwS 2 hts (gB_S w_ml_X10_298 w_st_X10_add w_in_X10 w_co_X10_add) rfl rfl rfl (by decide +kernel) ⟨Nat.le_of_ble_eq_true rfl, Nat.le_of_ble_eq_true rfl⟩) rfl hl.1 rfl (Nat.le_of_ble_eq_true rfl) dX10_digest_106 ⟨(show 0 + 242 + 16 + 8 * i + 2 * ib + 2 + 0 ≤ 600 from by omega), (show 0 + 1045 + 64 + 32 * i + 8 * ib + 8 + 0 ≤ 2700 from by omega)⟩) (fun H locs hw => ?_)
                  refine lv_lstore_n (lv' := [(1, .long (sp_X10_add v1b x_17.toInt64)), (0, .ref (ad 30 0)), (3, .int (nI i)), (4, .int (nI ib))]) hx hb dX10_digest_109 rfl hl (by decide) rfl (fun ls hl => ?_)
                  refine lv_iinc (v := (nI (ib + 1))) (lv' := [(4, .int (nI (ib + 1))), (1, .long (sp_X10_add v1b x_17.toInt64)), (0, .ref (ad 30 0)), (3, .int (nI i))]) hx hb dX10_digest_110 hl (k := 3) rfl (nI_1 _) (by decide) rfl (fun ls hl => ?_)
                  refine lv_goto (tgt := 91) hx hb dX10_digest_113 (by decide) ?_
                  refine W.widen (k := 0 + 242 + 16 + 8 * i + 2 * (ib + 1)) (n := 0 + 1045 + 64 + 32 * i + 8 * (ib + 1)) (by omega) (by omega) ?_
                  exact ihb (ib + 1) (sp_X10_add v1b x_17.toInt64) _ _ _ (lp_s hkb) hE hw (lv_sub hl [2, 1, 3, 0] rfl)
              exact key_91 4 0 v1 _ _ _ (Nat.zero_add _) hL_91 hw (lv_sub hl [1, 2, 3, 0] rfl)
          exact key_77 ((S 3 0 0).toNatClampNeg) 0 w_2 _ _ _ (Nat.zero_add _) hL_77 hw (lv_sub hl [1, 2, 0] rfl)
        | succ k ih =>
          intro i v1 H locs ls hk hV hw hl
          have hmy : i < 4 := by omega
          have hV := (ls_lp_X10_digest_36 S w_1 k i v1).symm.trans hV
          have hE := hV
          refine lv_iload_n hx hb dX10_digest_36 rfl (lv_at hl 2 rfl) ?_
          refine lv_iconst (v := 4) hx hb dX10_digest_37 (by decide) ?_
          refine lv_icmp_ge (tgt := 75) hx hb dX10_digest_38 (by decide) (fun h => absurd h (lp_i rfl hk (by decide))) (fun _ => ?_)
          refine lv_iconst (v := 0) hx hb dX10_digest_41 (by decide) ?_
          refine lv_istore (lv' := [(4, .int 0), (0, .ref (ad 30 0)), (1, .long v1), (3, .int (nI i))]) hx hb dX10_digest_42 hl (by decide) rfl (fun ls hl => ?_)
          obtain ⟨w_18, hL_44, hE⟩ := ob1 hE
          have key_44 : ∀ (kb ib : Nat) (v1b : Int64) (H : Heap) (locs : List Loc) (ls : Array Slot), ib + kb = 4 → lp_X10_digest_44 S w_1 k i v1 kb ib v1b = some (w_18) → wk D A (L) ad (mK cI cO K0 ad cp ce (up3 S 40 0 0 0)) s.heap H locs → lv_has ls 7 [(0, .ref (ad 30 0)), (1, .long v1b), (3, .int (nI i)), (4, .int (nI ib))] → W p l e (headSpec bw_X10_digest (rm_X10_digest)).room s m args below meth c H locs (0 + 242 + 4 * i + 1 * ib) (0 + 1045 + 16 * i + 4 * ib) (MQ below (kQl D A v.1 L ad (mK cI cO K0 ad cp ce v.2)) args s 600 2700 A) (F0 m 44 ls []) := by
            intro kb
            induction kb with
            | zero =>
              intro ib v1b H locs ls hkb hVb hw hl
              have hVb := (lz_lp_X10_digest_44 S w_1 k i v1 ib v1b).symm.trans hVb
              obtain rfl := (Option.some.inj hVb).symm
              have hmxb : ib ≤ 4 := by omega
              refine W.widen (k := 0 + 242 + 4 * i + 4) (n := 0 + 1045 + 16 * i + 16) (by omega) (by omega) ?_
              refine lv_iload hx hb dX10_digest_44 (lv_at hl 3 rfl) ?_
              refine lv_iconst (v := 4) hx hb dX10_digest_46 (by decide) ?_
              refine lv_icmp_ge (tgt := 69) hx hb dX10_digest_47 (by decide) (fun _ => ?_) (fun h => absurd (lp_o rfl hkb (by decide)) h)
              refine lv_iinc (v := (nI (i + 1))) (lv' := [(3, .int (nI (i + 1))), (0, .ref (ad 30 0)), (1, .long w_18), (4, .int (nI ib))]) hx hb dX10_digest_69 hl (k := 2) rfl (nI_1 _) (by decide) rfl (fun ls hl => ?_)
              refine lv_goto (tgt := 36) hx hb dX10_digest_72 (by decide) ?_
              refine W.widen (k := 0 + 242 + 4 * (i + 1)) (n := 0 + 1045 + 16 * (i + 1)) (by omega) (by omega) ?_
              exact ih (i + 1) w_18 _ _ _ (lp_s hk) hE hw (lv_sub hl [1, 2, 0] rfl)
            | succ kb ihb =>
              intro ib v1b H locs ls hkb hVb hw hl
              have hmyb : ib < 4 := by omega
              have hVb := (ls_lp_X10_digest_44 S w_1 k i v1 kb ib v1b).symm.trans hVb
              have hE := hVb
              refine lv_iload hx hb dX10_digest_44 (lv_at hl 3 rfl) ?_
              refine lv_iconst (v := 4) hx hb dX10_digest_46 (by decide) ?_
              refine lv_icmp_ge (tgt := 69) hx hb dX10_digest_47 (by decide) (fun h => absurd h (lp_i rfl hkb (by decide))) (fun _ => ?_)
              refine lv_lload_n hx hb dX10_digest_50 rfl (lv_at hl 1 rfl) ?_
              refine lv_aload_n hx hb dX10_digest_51 rfl (lv_at hl 0 rfl) ?_
              refine lv_iload_n hx hb dX10_digest_52 rfl (lv_at hl 2 rfl) ?_
              refine lv_iload hx hb dX10_digest_53 (lv_at hl 3 rfl) ?_
              obtain ⟨x_19, hx_19, hE⟩ := ob1 hE
              refine k_ci hw (k_rV (f := 30) (o := 0) (As := [.int (nI i), .int (nI ib)]) (rest := [.long v1b]) ⟨hx, hb, hml, hown, hts⟩ hK hO hw (ct_X10_ofItemNow (MR.sm (SM.up rfl (by decide) (SM.rf S)) hR) (SM.ci (SM.up rfl (by decide) (SM.rf S)) hI) (TL.le hT (by decide)) hx_19 _ (wk.hA hw hA)) (cwV 2 hts (gB_V w_ml_X10_241 w_im_X10_ofItemNow w_se_X10_ofItemNow w_in_X10 w_co_X10_ofItemNow) rfl rfl rfl (by decide +kernel) ⟨Nat.le_of_ble_eq_true rfl, Nat.le_of_ble_eq_true rfl⟩) (hR.1 30 (by decide) (by decide)) mke_30 rfl rfl hl.1 rfl (Nat.le_of_ble_eq_true rfl) dX10_digest_55 ⟨(show 0 + 242 + 4 * i + 1 * ib + 1 ≤ 600 from by omega), (show 0 + 1045 + 16 * i + 4 * ib + 4 ≤ 2700 from by omega)⟩) (fun H locs hw => ?_)
              refine lv_i2l (v := x_19.toInt64) hx hb dX10_digest_58 rfl ?_
              refine k_cl0 hw (k_rS (As := [.long v1b, .long x_19.toInt64]) (rest := []) ⟨hx, hb, hml, hown, hts⟩ hK hO hw (ct_X10_add v1b x_19.toInt64 _ (wk.hA hw hA)) (va_cwS 2 hts (gB_S w_ml_X10_298 w_st_X10_add w_in_X10 w_co_X10_add) rfl rfl rfl (by decide +kernel) ⟨Nat.le_of_ble_eq_true rfl, Nat.le_of_ble_eq_true rfl⟩) rfl hl.1 rfl (Nat.le_of_ble_eq_true rfl) dX10_digest_59 ⟨(show 0 + 242 + 4 * i + 1 * ib + 1 + 0 ≤ 600 from by omega), (show 0 + 1045 + 16 * i + 4 * ib + 4 + 0 ≤ 2700 from by omega)⟩) (fun H locs hw => ?_)
              refine lv_lstore_n (lv' := [(1, .long (sp_X10_add v1b x_19.toInt64)), (0, .ref (ad 30 0)), (3, .int (nI i)), (4, .int (nI ib))]) hx hb dX10_digest_62 rfl hl (by decide) rfl (fun ls hl => ?_)
              refine lv_iinc (v := (nI (ib + 1))) (lv' := [(4, .int (nI (ib + 1))), (1, .long (sp_X10_add v1b x_19.toInt64)), (0, .ref (ad 30 0)), (3, .int (nI i))]) hx hb dX10_digest_63 hl (k := 3) rfl (nI_1 _) (by decide) rfl (fun ls hl => ?_)
              refine lv_goto (tgt := 44) hx hb dX10_digest_66 (by decide) ?_
              refine W.widen (k := 0 + 242 + 4 * i + 1 * (ib + 1)) (n := 0 + 1045 + 16 * i + 4 * (ib + 1)) (by omega) (by omega) ?_
              exact ihb (ib + 1) (sp_X10_add v1b x_19.toInt64) _ _ _ (lp_s hkb) hE hw (lv_sub hl [2, 1, 3, 0] rfl)
          exact key_44 4 0 v1 _ _ _ (Nat.zero_add _) hL_44 hw (lv_sub hl [1, 2, 3, 0] rfl)
      exact key_36 4 0 w_1 _ _ _ (Nat.zero_add _) hL_36 hw (lv_sub hl [1, 2, 0] rfl)
    | succ k ih =>
      intro i v1 H locs ls hk hV hw hl
      have hmy : i < 11 := by omega
      have hV := (ls_lp_X10_digest_11 S k i v1).symm.trans hV
      have hE := hV
      refine lv_iload_n hx hb dX10_digest_11 rfl (lv_at hl 2 rfl) ?_
      refine lv_bipush (v := 11) hx hb dX10_digest_12 (by decide) ?_
      refine lv_icmp_ge (tgt := 34) hx hb dX10_digest_14 (by decide) (fun h => absurd h (lp_i rfl hk (by decide))) (fun _ => ?_)
      refine lv_lload_n hx hb dX10_digest_17 rfl (lv_at hl 1 rfl) ?_
      refine lv_aload_n hx hb dX10_digest_18 rfl (lv_at hl 0 rfl) ?_
      refine lv_iload_n hx hb dX10_digest_19 rfl (lv_at hl 2 rfl) ?_
      obtain ⟨x_20, hx_20, hE⟩ := ob1 hE
      refine k_ci hw (k_rV (f := 30) (o := 0) (As := [.int (nI i)]) (rest := [.long v1]) ⟨hx, hb, hml, hown, hts⟩ hK hO hw (ct_X10_count (MR.sm (SM.up rfl (by decide) (SM.rf S)) hR) (SM.ci (SM.up rfl (by decide) (SM.rf S)) hI) (TL.le hT (by decide)) hx_20 _ (wk.hA hw hA)) (cwV 1 hts (gB_V w_ml_X10_282 w_im_X10_count w_se_X10_count w_in_X10 w_co_X10_count) rfl rfl rfl (by decide +kernel) ⟨Nat.le_of_ble_eq_true rfl, Nat.le_of_ble_eq_true rfl⟩) (hR.1 30 (by decide) (by decide)) mke_30 rfl rfl hl.1 rfl (Nat.le_of_ble_eq_true rfl) dX10_digest_20 ⟨(show 0 + 22 * i + 22 ≤ 600 from by omega), (show 0 + 95 * i + 95 ≤ 2700 from by omega)⟩) (fun H locs hw => ?_)
      refine lv_i2l (v := x_20.toInt64) hx hb dX10_digest_23 rfl ?_
      refine k_cl0 hw (k_rS (As := [.long v1, .long x_20.toInt64]) (rest := []) ⟨hx, hb, hml, hown, hts⟩ hK hO hw (ct_X10_add v1 x_20.toInt64 _ (wk.hA hw hA)) (va_cwS 2 hts (gB_S w_ml_X10_298 w_st_X10_add w_in_X10 w_co_X10_add) rfl rfl rfl (by decide +kernel) ⟨Nat.le_of_ble_eq_true rfl, Nat.le_of_ble_eq_true rfl⟩) rfl hl.1 rfl (Nat.le_of_ble_eq_true rfl) dX10_digest_24 ⟨(show 0 + 22 * i + 22 + 0 ≤ 600 from by omega), (show 0 + 95 * i + 95 + 0 ≤ 2700 from by omega)⟩) (fun H locs hw => ?_)
      refine lv_lstore_n (lv' := [(1, .long (sp_X10_add v1 x_20.toInt64)), (0, .ref (ad 30 0)), (3, .int (nI i))]) hx hb dX10_digest_27 rfl hl (by decide) rfl (fun ls hl => ?_)
      refine lv_iinc (v := (nI (i + 1))) (lv' := [(3, .int (nI (i + 1))), (1, .long (sp_X10_add v1 x_20.toInt64)), (0, .ref (ad 30 0))]) hx hb dX10_digest_28 hl (k := 2) rfl (nI_1 _) (by decide) rfl (fun ls hl => ?_)
      refine lv_goto (tgt := 11) hx hb dX10_digest_31 (by decide) ?_
      refine W.widen (k := 0 + 22 * (i + 1)) (n := 0 + 95 * (i + 1)) (by omega) (by omega) ?_
      exact ih (i + 1) (sp_X10_add v1 x_20.toInt64) _ _ _ (lp_s hk) hE hw (lv_sub hl [2, 1, 0] rfl)
  exact key_11 11 0 58120 _ _ _ (Nat.zero_add _) hL_11 hw (lv_sub hl [2, 1, 0] rfl)
