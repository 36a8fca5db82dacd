abbrev bw_X10_end_ : List Cond := .code yX10_end_ cX10_end_ 7 (some .int) :: BIG
abbrev rm_X10_end_ : Room := { frames := 38, cells := 0, slots := 0, locals := 2123 }
noncomputable def lp_X10_end__6 (S : (Nat → Nat → Nat → Int32)) (j : Nat) (p2 : Int64) : Nat → Nat → Int32 → Option (Int32)
  | 0, i, v4 => some (v4)
  | k + 1, i, v4 => if lg_cmp ((p2 >>> ((nI i).toInt64 &&& 63)) &&& 1) 0 = 0 then (lp_X10_end__6 S j p2 k (i + 1) v4) else ((sp_X10_endd S j (nI i)).bind fun x_3 => (if x_3 = (-1) then (some ((-1))) else (lp_X10_end__6 S j p2 k (i + 1) (if v4 < x_3 then x_3 else v4))))
theorem lz_lp_X10_end__6 (S : (Nat → Nat → Nat → Int32)) (j : Nat) (p2 : Int64) (i : Nat) (v4 : Int32) : lp_X10_end__6 S j p2 0 i v4 = some (v4) := rfl
theorem ls_lp_X10_end__6 (S : (Nat → Nat → Nat → Int32)) (j : Nat) (p2 : Int64) (k i : Nat) (v4 : Int32) : lp_X10_end__6 S j p2 (k + 1) i v4 = if lg_cmp ((p2 >>> ((nI i).toInt64 &&& 63)) &&& 1) 0 = 0 then (lp_X10_end__6 S j p2 k (i + 1) v4) else ((sp_X10_endd S j (nI i)).bind fun x_3 => (if x_3 = (-1) then (some ((-1))) else (lp_X10_end__6 S j p2 k (i + 1) (if v4 < x_3 then x_3 else v4)))) := rfl
noncomputable def sp_X10_end_ (S : (Nat → Nat → Nat → Int32)) (j : Nat) (p2 : Int64) : Option (Int32) := lp_X10_end__6 S j p2 ((S 1 0 0).toNatClampNeg) 0 (-1)
set_option maxHeartbeats 1000000 in
set_option maxRecDepth 100000 in
theorem ct_X10_end_ {l : Launch} {D : va_G} {cI cG cJ cO : ClassId} {K0 : Nat → Nat} {A : Nat → Prop} {L : List (Nat × Nat)} {ad : Nat → Nat → Nat} {ce : Nat → Nat → va_E} {cp : Nat → Nat} {S : (Nat → Nat → Nat → Int32)} (hR : MR S L cp) (hI : CI S) {j : Nat} {p2 : Int64} (hj : j < (S 0 0 0).toNatClampNeg) {v : Int32} (hE : sp_X10_end_ S j p2 = some v) (sz : Nat) (hA : ∀ q, sz ≤ q → A q) : Met l yX10_end_ bw_X10_end_ (rm_X10_end_) (kP D (ktys cI cG cJ cO) K0 A L ad (mK cI cO K0 ad cp ce S) sz [.ref (ad 30 0), .ref (ad 46 j), .long p2]) (kQi D A v L ad (mK cI cO K0 ad cp ce S)) 0 0 A := by
  refine Met.ofW (cc := cX10_end_) (maxL := 7) (ret := (some .int)) (by decide) rfl ?_
  intro p e s m args below meth c s₁ B hml hv_
  obtain ⟨hav, hsz, hP, hD, hK, hO⟩ := hv_
  have hx := B.exec
  have hb := B.bytes
  have hr := B.returns
  have hts : ∀ w ∈ BIG, w.before args s = true := fun w h => atoms_spec (ws := bw_X10_end_) B.pre w (List.mem_cons_of_mem _ h)
  have hown : s.vm.findClass RX10 = some m.cls := findClass_of_methodNamed B.named
  have hlocks := B.notSynchronized
  subst hsz
  have hw := wk.start hP hD
  refine k_start (by rfl) hav (Nat.le_of_ble_eq_true rfl) (fun ls hl => ?_)
  have hl : lv_has ls 7 [(0, .ref (ad 30 0)), (1, .ref (ad 46 j)), (2, .long p2)] := hl
  unfold sp_X10_end_ at hE
  refine lv_iconst (v := (-1)) hx hb dX10_end__0 (by decide) ?_
  refine lv_istore (lv' := [(4, .int (-1)), (0, .ref (ad 30 0)), (1, .ref (ad 46 j)), (2, .long p2)]) hx hb dX10_end__1 hl (by decide) rfl (fun ls hl => ?_)
  refine lv_iconst (v := 0) hx hb dX10_end__3 (by decide) ?_
  refine lv_istore (lv' := [(5, .int 0), (4, .int (-1)), (0, .ref (ad 30 0)), (1, .ref (ad 46 j)), (2, .long p2)]) hx hb dX10_end__4 hl (by decide) rfl (fun ls hl => ?_)
  have key_6 : ∀ (k i : Nat) (v4 : Int32) (H : Heap) (locs : List Loc) (ls : Array Slot), i + k = (S 1 0 0).toNatClampNeg → lp_X10_end__6 S j p2 k i v4 = some v → wk D A (L) ad (mK cI cO K0 ad cp ce S) s.heap H locs → lv_has ls 7 [(0, .ref (ad 30 0)), (1, .ref (ad 46 j)), (2, .long p2), (4, .int v4), (5, .int (nI i))] → W p l e (headSpec bw_X10_end_ (rm_X10_end_)).room s m args below meth c H locs 0 0 (MQ below (kQi D A v L ad (mK cI cO K0 ad cp ce S)) args s 0 0 A) (F0 m 6 ls []) := by
    intro k
    induction k with
    | zero =>
      intro i v4 H locs ls hk hE hw hl
      have hE := (lz_lp_X10_end__6 S j p2 i v4).symm.trans hE
      refine lv_iload hx hb dX10_end__6 (lv_at hl 4 rfl) ?_
      refine lv_aload_n hx hb dX10_end__8 rfl (lv_at hl 0 rfl) ?_
      refine k_get (C := RX10) (T := TX10) (N := 9) (v := .ref (ad 31 0)) hx hb hts inB_X10 hown hK hw (hR.1 30 (by decide) (by decide)) mke_30 rfl 1 (by decide) (hts _ w_f_X10_10) (fun _ h9 => h9) rfl dX10_end__9 ?_
      refine k_ci0 hw (k_rV (f := 31) (o := 0) (As := []) (rest := [.int (nI i)]) ⟨hx, hb, hml, hown, hts⟩ hK hO hw (ct_size_0 (SM.rf S) hR _ (wk.hA hw hA)) (cwV 0 hts (gB_V w_ml_X10_43 w_im_Jx4a65c_size_8abf5 w_se_Jx4a65c_size_8abf5 w_in_Jx4a65c w_co_Jx4a65c_size_8abf5) rfl rfl rfl (by decide +kernel) ⟨Nat.le_of_ble_eq_true rfl, Nat.le_of_ble_eq_true rfl⟩) (hR.1 31 (by decide) (by decide)) (ce_l0 (SM.rf S)) rfl rfl hl.1 rfl (Nat.le_of_ble_eq_true rfl) dX10_end__12 ⟨(Nat.le_of_ble_eq_true rfl), (Nat.le_of_ble_eq_true rfl)⟩) (fun H locs hw => ?_)
      refine lv_icmp_ge (tgt := 64) hx hb dX10_end__15 (by decide) (fun _ => ?_) (fun h => absurd (lp_o (cn_eq hI.1.1) hk (cn_lt _)) h)
      refine lv_iload hx hb dX10_end__64 (lv_at hl 3 rfl) ?_
      exact m_iret hx hb hr hlocks rfl hw hE (Nat.le_of_ble_eq_true rfl) (Nat.le_of_ble_eq_true rfl) dX10_end__66
    | succ k ih =>
      intro i v4 H locs ls hk hE hw hl
      have hE := (ls_lp_X10_end__6 S j p2 k i v4).symm.trans hE
      refine lv_iload hx hb dX10_end__6 (lv_at hl 4 rfl) ?_
      refine lv_aload_n hx hb dX10_end__8 rfl (lv_at hl 0 rfl) ?_
      refine k_get (C := RX10) (T := TX10) (N := 9) (v := .ref (ad 31 0)) hx hb hts inB_X10 hown hK hw (hR.1 30 (by decide) (by decide)) mke_30 rfl 1 (by decide) (hts _ w_f_X10_10) (fun _ h9 => h9) rfl dX10_end__9 ?_
      refine k_ci0 hw (k_rV (f := 31) (o := 0) (As := []) (rest := [.int (nI i)]) ⟨hx, hb, hml, hown, hts⟩ hK hO hw (ct_size_0 (SM.rf S) hR _ (wk.hA hw hA)) (cwV 0 hts (gB_V w_ml_X10_43 w_im_Jx4a65c_size_8abf5 w_se_Jx4a65c_size_8abf5 w_in_Jx4a65c w_co_Jx4a65c_size_8abf5) rfl rfl rfl (by decide +kernel) ⟨Nat.le_of_ble_eq_true rfl, Nat.le_of_ble_eq_true rfl⟩) (hR.1 31 (by decide) (by decide)) (ce_l0 (SM.rf S)) rfl rfl hl.1 rfl (Nat.le_of_ble_eq_true rfl) dX10_end__12 ⟨(Nat.le_of_ble_eq_true rfl), (Nat.le_of_ble_eq_true rfl)⟩) (fun H locs hw => ?_)
      refine lv_icmp_ge (tgt := 64) hx hb dX10_end__15 (by decide) (fun h => absurd h (lp_i (cn_eq hI.1.1) hk (cn_lt _))) (fun _ => ?_)
      refine lv_lload_n hx hb dX10_end__18 rfl (lv_at hl 2 rfl) ?_
      refine lv_iload hx hb dX10_end__19 (lv_at hl 4 rfl) ?_
      refine lv_lshr (v := p2 >>> ((nI i).toInt64 &&& 63)) hx hb dX10_end__21 rfl ?_
      refine lv_lconst (v := 1) hx hb dX10_end__22 (by decide) ?_
      refine lv_land hx hb dX10_end__23 ?_
      refine lv_lconst (v := 0) hx hb dX10_end__24 (by decide) ?_
      refine W.lcmp hx hb dX10_end__25 ?_
      refine lv_if_ne (tgt := 32) hx hb dX10_end__26 (by decide) (fun c_2 => ?_) (fun c_2 => ?_)
      · have hE := (if_neg c_2).symm.trans hE
        refine lv_aload_n hx hb dX10_end__32 rfl (lv_at hl 0 rfl) ?_
        refine lv_aload_n hx hb dX10_end__33 rfl (lv_at hl 1 rfl) ?_
        refine lv_iload hx hb dX10_end__34 (lv_at hl 4 rfl) ?_
        obtain ⟨x_3, hx_3, hE⟩ := ob1 hE
        refine k_ci0 hw (k_rV (f := 30) (o := 0) (As := [.ref (ad 46 j), .int (nI i)]) (rest := []) ⟨hx, hb, hml, hown, hts⟩ hK hO hw (ct_X10_endd (MR.sm (SM.rf S) hR) (SM.ci (SM.rf S) hI) (by rw [SM.c4 (SM.rf S)]; exact hj) hx_3 _ (wk.hA hw hA)) (cwV 2 hts (gB_V w_ml_X10_123 w_im_X10_end w_se_X10_end w_in_X10 w_co_X10_end) rfl rfl rfl (by decide +kernel) ⟨Nat.le_of_ble_eq_true rfl, Nat.le_of_ble_eq_true rfl⟩) (hR.1 30 (by decide) (by decide)) mke_30 rfl rfl hl.1 rfl (Nat.le_of_ble_eq_true rfl) dX10_end__36 ⟨(Nat.le_of_ble_eq_true rfl), (Nat.le_of_ble_eq_true rfl)⟩) (fun H locs hw => ?_)
        refine lv_istore (lv' := [(6, .int x_3), (0, .ref (ad 30 0)), (1, .ref (ad 46 j)), (2, .long p2), (4, .int v4), (5, .int (nI i))]) hx hb dX10_end__39 hl (by decide) rfl (fun ls hl => ?_)
        refine lv_iload hx hb dX10_end__41 (lv_at hl 0 rfl) ?_
        refine lv_iconst (v := (-1)) hx hb dX10_end__43 (by decide) ?_
        refine lv_icmp_ne (tgt := 49) hx hb dX10_end__44 (by decide) (fun c_4 => ?_) (fun c_4 => ?_)
        · have hE := (if_neg c_4).symm.trans hE
          refine lv_iload hx hb dX10_end__49 (lv_at hl 4 rfl) ?_
          refine lv_iload hx hb dX10_end__51 (lv_at hl 0 rfl) ?_
          refine va_mmax hx hb (hml.trans hl.1.symm) hown (hts _ w_ml_X10_109) (hts _ w_st_max) (hts _ w_in_J9) (hts _ w_co_max) (by decide) (Nat.le_of_ble_eq_true rfl) (Nat.le_of_ble_eq_true rfl) (Nat.le_of_ble_eq_true rfl) dX10_end__53 ?_
          refine lv_istore (lv' := [(4, .int (if v4 < x_3 then x_3 else v4)), (6, .int x_3), (0, .ref (ad 30 0)), (1, .ref (ad 46 j)), (2, .long p2), (5, .int (nI i))]) hx hb dX10_end__56 hl (by decide) rfl (fun ls hl => ?_)
          refine lv_iinc (v := (nI (i + 1))) (lv' := [(5, .int (nI (i + 1))), (4, .int (if v4 < x_3 then x_3 else v4)), (6, .int x_3), (0, .ref (ad 30 0)), (1, .ref (ad 46 j)), (2, .long p2)]) hx hb dX10_end__58 hl (k := 5) rfl (nI_1 _) (by decide) rfl (fun ls hl => ?_)
          refine lv_goto (tgt := 6) hx hb dX10_end__61 (by decide) ?_
          exact ih (i + 1) (if v4 < x_3 then x_3 else v4) _ _ _ (lp_s hk) hE hw (lv_sub hl [3, 4, 5, 1, 0] rfl)
        · have hE := (if_pos c_4).symm.trans hE
          refine lv_iconst (v := (-1)) hx hb dX10_end__47 (by decide) ?_
          exact m_iret hx hb hr hlocks rfl hw hE (Nat.le_of_ble_eq_true rfl) (Nat.le_of_ble_eq_true rfl) dX10_end__48
      · have hE := (if_pos c_2).symm.trans hE
        refine lv_goto (tgt := 58) hx hb dX10_end__29 (by decide) ?_
        refine lv_iinc (v := (nI (i + 1))) (lv' := [(5, .int (nI (i + 1))), (0, .ref (ad 30 0)), (1, .ref (ad 46 j)), (2, .long p2), (4, .int v4)]) hx hb dX10_end__58 hl (k := 4) rfl (nI_1 _) (by decide) rfl (fun ls hl => ?_)
        refine lv_goto (tgt := 6) hx hb dX10_end__61 (by decide) ?_
        exact ih (i + 1) v4 _ _ _ (lp_s hk) hE hw (lv_sub hl [1, 2, 3, 4, 0] rfl)
  exact key_6 ((S 1 0 0).toNatClampNeg) 0 (-1) _ _ _ (Nat.zero_add _) hE hw (lv_sub hl [2, 3, 4, 1, 0] rfl)

abbrev bw_X10_endOf : List Cond := .code yX10_endOf cX10_endOf 2 (some .int) :: BIG
abbrev rm_X10_endOf : Room := { frames := 39, cells := 0, slots := 0, locals := 2149 }
noncomputable def sp_X10_endOf (S : (Nat → Nat → Nat → Int32)) (j : Nat) : Option (Int32) := if S 6 j 2 = 0 then ((sp_X10_end_ S j ((S 6 j 0).toInt64)).bind fun x_2 => (some (x_2))) else (some ((-1)))
set_option maxHeartbeats 1000000 in
set_option maxRecDepth 100000 in
theorem ct_X10_endOf {l : Launch} {D : va_G} {cI cG cJ cO : ClassId} {K0 : Nat → Nat} {A : Nat → Prop} {L : List (Nat × Nat)} {ad : Nat → Nat → Nat} {ce : Nat → Nat → va_E} {cp : Nat → Nat} {S : (Nat → Nat → Nat → Int32)} (hR : MR S L cp) (hI : CI S) {j : Nat} (hj : j < (S 0 0 0).toNatClampNeg) {v : Int32} (hE : sp_X10_endOf S j = some v) (sz : Nat) (hA : ∀ q, sz ≤ q → A q) : Met l yX10_endOf bw_X10_endOf (rm_X10_endOf) (kP D (ktys cI cG cJ cO) K0 A L ad (mK cI cO K0 ad cp ce S) sz [.ref (ad 30 0), .ref (ad 46 j)]) (kQi D A v L ad (mK cI cO K0 ad cp ce S)) 0 0 A := by
  refine Met.ofW (cc := cX10_endOf) (maxL := 2) (ret := (some .int)) (by decide) rfl ?_
  intro p e s m args below meth c s₁ B hml hv_
  obtain ⟨hav, hsz, hP, hD, hK, hO⟩ := hv_
  have hx := B.exec
  have hb := B.bytes
  have hr := B.returns
  have hts : ∀ w ∈ BIG, w.before args s = true := fun w h => atoms_spec (ws := bw_X10_endOf) B.pre w (List.mem_cons_of_mem _ h)
  have hown : s.vm.findClass RX10 = some m.cls := findClass_of_methodNamed B.named
  have hlocks := B.notSynchronized
  subst hsz
  have hw := wk.start hP hD
  refine k_start (by rfl) hav (Nat.le_of_ble_eq_true rfl) (fun ls hl => ?_)
  have hl : lv_has ls 2 [(0, .ref (ad 30 0)), (1, .ref (ad 46 j))] := hl
  unfold sp_X10_endOf at hE
  refine lv_aload_n hx hb dX10_endOf_0 rfl (lv_at hl 1 rfl) ?_
  refine k_get (C := RX6) (T := TX6) (N := 8) (v := .int (S 6 j 2)) hx hb hts inB_X6 hown hK hw (hR.2.2.2.2.2.2.2 46 _ (by decide) (by decide) hj) mke_46 rfl 7 (by decide) (hts _ w_f_X10_140) (fun _ h9 => h9) rfl dX10_endOf_1 ?_
  refine lv_if_eq (tgt := 11) hx hb dX10_endOf_4 (by decide) (fun c_1 => ?_) (fun c_1 => ?_)
  · have hE := (if_pos c_1).symm.trans hE
    refine lv_aload_n hx hb dX10_endOf_11 rfl (lv_at hl 0 rfl) ?_
    refine lv_aload_n hx hb dX10_endOf_12 rfl (lv_at hl 1 rfl) ?_
    refine lv_aload_n hx hb dX10_endOf_13 rfl (lv_at hl 1 rfl) ?_
    refine k_get (C := RX6) (T := TX6) (N := 8) (v := .int (S 6 j 0)) hx hb hts inB_X6 hown hK hw (hR.2.2.2.2.2.2.2 46 _ (by decide) (by decide) hj) mke_46 rfl 0 (by decide) (hts _ w_f_X10_118) (fun _ h9 => h9) rfl dX10_endOf_14 ?_
    refine lv_i2l (v := (S 6 j 0).toInt64) hx hb dX10_endOf_17 rfl ?_
    obtain ⟨x_2, hx_2, hE⟩ := ob1 hE
    refine k_ci0 hw (k_rV (f := 30) (o := 0) (As := [.ref (ad 46 j), .long ((S 6 j 0).toInt64)]) (rest := []) ⟨hx, hb, hml, hown, hts⟩ hK hO hw (ct_X10_end_ (MR.sm (SM.rf S) hR) (SM.ci (SM.rf S) hI) (by rw [SM.c4 (SM.rf S)]; exact hj) hx_2 _ (wk.hA hw hA)) (cwV 2 hts (gB_V w_ml_X10_143 w_im_X10_end_ w_se_X10_end_ w_in_X10 w_co_X10_end_) rfl rfl rfl (by decide +kernel) ⟨Nat.le_of_ble_eq_true rfl, Nat.le_of_ble_eq_true rfl⟩) (hR.1 30 (by decide) (by decide)) mke_30 rfl rfl hl.1 rfl (Nat.le_of_ble_eq_true rfl) dX10_endOf_18 ⟨(Nat.le_of_ble_eq_true rfl), (Nat.le_of_ble_eq_true rfl)⟩) (fun H locs hw => ?_)
    exact m_iret hx hb hr hlocks rfl hw hE (Nat.le_of_ble_eq_true rfl) (Nat.le_of_ble_eq_true rfl) dX10_endOf_21
  · have hE := (if_neg c_1).symm.trans hE
    refine lv_iconst (v := (-1)) hx hb dX10_endOf_7 (by decide) ?_
    refine lv_goto (tgt := 21) hx hb dX10_endOf_8 (by decide) ?_
    exact m_iret hx hb hr hlocks rfl hw hE (Nat.le_of_ble_eq_true rfl) (Nat.le_of_ble_eq_true rfl) dX10_endOf_21
