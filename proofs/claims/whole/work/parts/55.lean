abbrev bw_X10_seatsTaken : List Cond := .code yX10_seatsTaken cX10_seatsTaken 6 (some .int) :: BIG
abbrev rm_X10_seatsTaken : Room := { frames := 3, cells := 1, slots := 4, locals := 53 }
noncomputable def lp_X10_seatsTaken_33 (S : (Nat → Nat → Nat → Int32)) (p1 : Int32) (k : Nat) (i : Nat) (v2 : Int32) : Nat → Nat → Int32 → Option (Int32)
  | 0, ib, v2b => some (v2b)
  | kb + 1, ib, v2b => lp_X10_seatsTaken_33 S p1 k i v2 kb (ib + 1) (v2b + (if S 27 i ib = p1 then 1 else 0))
theorem lz_lp_X10_seatsTaken_33 (S : (Nat → Nat → Nat → Int32)) (p1 : Int32) (k : Nat) (i : Nat) (v2 : Int32) (ib : Nat) (v2b : Int32) : lp_X10_seatsTaken_33 S p1 k i v2 0 ib v2b = some (v2b) := rfl
theorem ls_lp_X10_seatsTaken_33 (S : (Nat → Nat → Nat → Int32)) (p1 : Int32) (k : Nat) (i : Nat) (v2 : Int32) (kb ib : Nat) (v2b : Int32) : lp_X10_seatsTaken_33 S p1 k i v2 (kb + 1) ib v2b = lp_X10_seatsTaken_33 S p1 k i v2 kb (ib + 1) (v2b + (if S 27 i ib = p1 then 1 else 0)) := rfl
noncomputable def lp_X10_seatsTaken_10 (S : (Nat → Nat → Nat → Int32)) (p1 : Int32) : Nat → Nat → Int32 → Option (Int32)
  | 0, i, v2 => some (v2)
  | k + 1, i, v2 => (lp_X10_seatsTaken_33 S p1 k i v2 12 0 v2).bind (fun w_2 => (lp_X10_seatsTaken_10 S p1 k (i + 1) w_2))
theorem lz_lp_X10_seatsTaken_10 (S : (Nat → Nat → Nat → Int32)) (p1 : Int32) (i : Nat) (v2 : Int32) : lp_X10_seatsTaken_10 S p1 0 i v2 = some (v2) := rfl
theorem ls_lp_X10_seatsTaken_10 (S : (Nat → Nat → Nat → Int32)) (p1 : Int32) (k i : Nat) (v2 : Int32) : lp_X10_seatsTaken_10 S p1 (k + 1) i v2 = (lp_X10_seatsTaken_33 S p1 k i v2 12 0 v2).bind (fun w_2 => (lp_X10_seatsTaken_10 S p1 k (i + 1) w_2)) := rfl
noncomputable def sp_X10_seatsTaken (S : (Nat → Nat → Nat → Int32)) (p1 : Int32) : Option (Int32) := (lp_X10_seatsTaken_10 S p1 ((S 0 0 0).toNatClampNeg) 0 0).bind (fun w_1 => (some (w_1)))
set_option maxHeartbeats 1000000 in
set_option maxRecDepth 100000 in
theorem ct_X10_seatsTaken {l : Launch} {D : va_G} {cI cG cJ cO : ClassId} {K0 : Nat → Nat} {A : Nat → Prop} {L : List (Nat × Nat)} {ad : Nat → Nat → Nat} {ce : Nat → Nat → va_E} {cp : Nat → Nat} {S : (Nat → Nat → Nat → Int32)} (hR : MR S L cp) (hI : CI S) (hT : TL 60 L) {p1 : Int32} {v : Int32} (hE : sp_X10_seatsTaken S p1 = some v) (sz : Nat) (hA : ∀ q, sz ≤ q → A q) : Met l yX10_seatsTaken bw_X10_seatsTaken (rm_X10_seatsTaken) (kP D (ktys cI cG cJ cO) K0 A L ad (mK cI cO K0 ad cp ce S) sz [.ref (ad 30 0), .int p1]) (kQi D A v L ad (mK cI cO K0 ad cp ce S)) 1 4 A := by
  refine Met.ofW (cc := cX10_seatsTaken) (maxL := 6) (ret := (some .int)) (by decide) rfl ?_
  intro p e s m args below meth c s₁ B hml hv_
  obtain ⟨hav, hsz, hP, hD, hK, hO⟩ := hv_
  have hx := B.exec
  have hb := B.bytes
  have hr := B.returns
  have hts : ∀ w ∈ BIG, w.before args s = true := fun w h => atoms_spec (ws := bw_X10_seatsTaken) B.pre w (List.mem_cons_of_mem _ h)
  have hown : s.vm.findClass RX10 = some m.cls := findClass_of_methodNamed B.named
  have hlocks := B.notSynchronized
  subst hsz
  have hw := wk.start hP hD
  refine k_start (by rfl) hav (Nat.le_of_ble_eq_true rfl) (fun ls hl => ?_)
  have hl : lv_has ls 6 [(0, .ref (ad 30 0)), (1, .int p1)] := hl
  unfold sp_X10_seatsTaken at hE
  refine lv_iconst (v := 0) hx hb dX10_seatsTaken_0 (by decide) ?_
  refine lv_istore_n (lv' := [(2, .int 0), (0, .ref (ad 30 0)), (1, .int p1)]) hx hb dX10_seatsTaken_1 rfl hl (by decide) rfl (fun ls hl => ?_)
  refine lv_aload_n hx hb dX10_seatsTaken_2 rfl (lv_at hl 1 rfl) ?_
  refine k_get (C := RX10) (T := TX10) (N := 9) (v := .ref (ad 35 0)) hx hb hts inB_X10 hown hK hw (hR.1 30 (by decide) (by decide)) mke_30 rfl 7 (by decide) (hts _ w_f_X10_32) (fun _ h9 => h9) rfl dX10_seatsTaken_3 ?_
  refine k_crn hw (k_rV (f := 35) (o := 0) (As := []) (rest := []) ⟨hx, hb, hml, hown, hts⟩ hK hO hw (ct_iter_4 (SM.rf S) hR (it := 60) (Or.inr (by decide)) (TL.new hT (by decide) (by decide)) _ (wk.hA hw hA)) (cwV 0 hts (gB_V w_ml_X10_146 w_im_Jx4a65c_iterator_32c93 w_se_Jx4a65c_iterator_32c93 w_in_Jx4a65c w_co_Jx4a65c_iterator_32c93) rfl rfl rfl (by decide +kernel) ⟨Nat.le_of_ble_eq_true rfl, Nat.le_of_ble_eq_true rfl⟩) (hR.1 35 (by decide) (by decide)) (ce_l4 (SM.rf S)) rfl rfl hl.1 rfl (Nat.le_of_ble_eq_true rfl) dX10_seatsTaken_6 ⟨(Nat.le_of_ble_eq_true rfl), (Nat.le_of_ble_eq_true rfl)⟩) (fun q H locs hw => ?_)
  have hw := hw.tmp (Or.inr (by decide))
  have hRp := hR.push (i := (60, 0))
  refine lv_astore_n (lv' := [(3, .ref q), (2, .int 0), (0, .ref (ad 30 0)), (1, .int p1)]) hx hb dX10_seatsTaken_9 rfl hl (by decide) rfl (fun ls hl => ?_)
  obtain ⟨w_1, hL_10, hE⟩ := ob1 hE
  have key_10 : ∀ (k i : Nat) (v2 : Int32) (H : Heap) (locs : List Loc) (ls : Array Slot), i + k = (S 0 0 0).toNatClampNeg → lp_X10_seatsTaken_10 S p1 k i v2 = some (w_1) → wk D A (L ++ [(60, 0)]) (upa ad 60 0 q) (mK cI cO K0 (upa ad 60 0 q) cp (up2 ce 60 0 (itc i (S 42 4 0) (ad 35 0))) S) s.heap H locs → lv_has ls 6 [(1, .int p1), (2, .int v2), (3, .ref q)] → W p l e (headSpec bw_X10_seatsTaken (rm_X10_seatsTaken)).room s m args below meth c H locs (0 + 1) (0 + 4) (MQ below (kQi D A v L ad (mK cI cO K0 ad cp ce S)) args s 1 4 A) (F0 m 10 ls []) := by
    intro k
    induction k with
    | zero =>
      intro i v2 H locs ls hk hV hw hl
      have hV := (lz_lp_X10_seatsTaken_10 S p1 i v2).symm.trans hV
      obtain rfl := (Option.some.inj hV).symm
      refine lv_aload_n hx hb dX10_seatsTaken_10 rfl (lv_at hl 2 rfl) ?_
      refine k_cFi hw (k_rF (f := 60) (o := 0) (As := []) (rest := []) ⟨hx, hb, hml, hown, hts⟩ hK hO hw (ct_hn_4 (SM.rf S) hRp (it := 60) (i := i) (Or.inr (by decide)) (List.mem_append_right _ (List.mem_singleton_self _)) _ (wk.hA hw hA)) (va_cwF 0 hts (gB_F w_ml_X10_150 w_se_it_hasNext w_im_Jx35411_hasNext_aae02 w_in_Jx35411 w_co_Jx35411_hasNext_aae02) rfl rfl rfl hO.2.2.2.1.1 (by decide +kernel) ⟨by decide, by decide⟩) (List.mem_append_right _ (List.mem_singleton_self _)) ((mK_ou (Or.inr (by decide))).trans up2_eq) rfl rfl hl.1 rfl (Nat.le_of_ble_eq_true rfl) dX10_seatsTaken_11 ⟨(Nat.le_of_ble_eq_true rfl), (Nat.le_of_ble_eq_true rfl)⟩) (fun H locs hw => ?_)
      rw [if_pos (it_z (cn_eq hI.2.2.2.2.1) hk)]
      refine lv_if_eq (tgt := 69) hx hb dX10_seatsTaken_16 (by decide) (fun _ => ?_) (fun h => absurd (by decide) h)
      have hw := hw.untmp (Or.inr (by decide)) (TL.new hT (by decide) (by decide))
      refine lv_iload_n hx hb dX10_seatsTaken_69 rfl (lv_at hl 1 rfl) ?_
      exact m_iret hx hb hr hlocks rfl hw hE (Nat.le_of_ble_eq_true rfl) (Nat.le_of_ble_eq_true rfl) dX10_seatsTaken_70
    | succ k ih =>
      intro i v2 H locs ls hk hV hw hl
      have hV := (ls_lp_X10_seatsTaken_10 S p1 k i v2).symm.trans hV
      have hE := hV
      refine lv_aload_n hx hb dX10_seatsTaken_10 rfl (lv_at hl 2 rfl) ?_
      refine k_cFi hw (k_rF (f := 60) (o := 0) (As := []) (rest := []) ⟨hx, hb, hml, hown, hts⟩ hK hO hw (ct_hn_4 (SM.rf S) hRp (it := 60) (i := i) (Or.inr (by decide)) (List.mem_append_right _ (List.mem_singleton_self _)) _ (wk.hA hw hA)) (va_cwF 0 hts (gB_F w_ml_X10_150 w_se_it_hasNext w_im_Jx35411_hasNext_aae02 w_in_Jx35411 w_co_Jx35411_hasNext_aae02) rfl rfl rfl hO.2.2.2.1.1 (by decide +kernel) ⟨by decide, by decide⟩) (List.mem_append_right _ (List.mem_singleton_self _)) ((mK_ou (Or.inr (by decide))).trans up2_eq) rfl rfl hl.1 rfl (Nat.le_of_ble_eq_true rfl) dX10_seatsTaken_11 ⟨(Nat.le_of_ble_eq_true rfl), (Nat.le_of_ble_eq_true rfl)⟩) (fun H locs hw => ?_)
      rw [if_neg (it_s (cn_eq hI.2.2.2.2.1) hk (cn_lt _))]
      refine lv_if_eq (tgt := 69) hx hb dX10_seatsTaken_16 (by decide) (fun h => absurd h (by decide)) (fun _ => ?_)
      refine lv_aload_n hx hb dX10_seatsTaken_19 rfl (lv_at hl 2 rfl) ?_
      refine k_cFr (v := (ad 46 i)) hw (k_rF (f := 60) (o := 0) (As := []) (rest := []) ⟨hx, hb, hml, hown, hts⟩ hK hO hw (ct_nx_4 (SM.rf S) hRp hI (it := 60) (i := i) (Or.inr (by decide)) (List.mem_append_right _ (List.mem_singleton_self _)) (lp_l hk) _ (wk.hA hw hA)) (va_cwF 0 hts (gB_F w_ml_X10_156 w_se_it_next w_im_Jx35411_next_0502b w_in_Jx35411 w_co_Jx35411_next_0502b) rfl rfl rfl hO.2.2.2.1.2.1 (by decide +kernel) ⟨by decide, by decide⟩) (List.mem_append_right _ (List.mem_singleton_self _)) ((mK_ou (Or.inr (by decide))).trans up2_eq) rfl rfl hl.1 rfl (Nat.le_of_ble_eq_true rfl) dX10_seatsTaken_20 ⟨(Nat.le_of_ble_eq_true rfl), (Nat.le_of_ble_eq_true rfl)⟩) (fun H locs hw => ?_)
      refine k_cast (f := 46) (o := i) hx hb hown (hts _ w_cl_X10_64) hK hw (hRp.2.2.2.2.2.2.2 46 _ (by decide) (by decide) (lp_l hk)) mke_46 rfl dX10_seatsTaken_25 ?_
      refine lv_astore (lv' := [(4, .ref (ad 46 i)), (1, .int p1), (2, .int v2), (3, .ref q)]) hx hb dX10_seatsTaken_28 hl (by decide) rfl (fun ls hl => ?_)
      refine lv_iconst (v := 0) hx hb dX10_seatsTaken_30 (by decide) ?_
      refine lv_istore (lv' := [(5, .int 0), (4, .ref (ad 46 i)), (1, .int p1), (2, .int v2), (3, .ref q)]) hx hb dX10_seatsTaken_31 hl (by decide) rfl (fun ls hl => ?_)
      obtain ⟨w_2, hL_33, hE⟩ := ob1 hE
      have key_33 : ∀ (kb ib : Nat) (v2b : Int32) (H : Heap) (locs : List Loc) (ls : Array Slot), ib + kb = 12 → lp_X10_seatsTaken_33 S p1 k i v2 kb ib v2b = some (w_2) → wk D A (L ++ [(60, 0)]) (upa ad 60 0 q) (mK cI cO K0 (upa ad 60 0 q) cp (up2 ce 60 0 (itc (i + 1) (S 42 4 0) (ad 35 0))) S) s.heap H locs → lv_has ls 6 [(1, .int p1), (2, .int v2b), (3, .ref q), (4, .ref (ad 46 i)), (5, .int (nI ib))] → W p l e (headSpec bw_X10_seatsTaken (rm_X10_seatsTaken)).room s m args below meth c H locs (0 + 1) (0 + 4) (MQ below (kQi D A v L ad (mK cI cO K0 ad cp ce S)) args s 1 4 A) (F0 m 33 ls []) := by
        intro kb
        induction kb with
        | zero =>
          intro ib v2b H locs ls hkb hVb hw hl
          have hVb := (lz_lp_X10_seatsTaken_33 S p1 k i v2 ib v2b).symm.trans hVb
          obtain rfl := (Option.some.inj hVb).symm
          refine lv_iload hx hb dX10_seatsTaken_33 (lv_at hl 4 rfl) ?_
          refine lv_bipush (v := 12) hx hb dX10_seatsTaken_35 (by decide) ?_
          refine lv_icmp_ge (tgt := 66) hx hb dX10_seatsTaken_37 (by decide) (fun _ => ?_) (fun h => absurd (lp_o rfl hkb (by decide)) h)
          refine lv_goto (tgt := 10) hx hb dX10_seatsTaken_66 (by decide) ?_
          exact ih (i + 1) w_2 _ _ _ (lp_s hk) hE hw (lv_sub hl [0, 1, 2] rfl)
        | succ kb ihb =>
          intro ib v2b H locs ls hkb hVb hw hl
          have hVb := (ls_lp_X10_seatsTaken_33 S p1 k i v2 kb ib v2b).symm.trans hVb
          have hE := hVb
          refine lv_iload hx hb dX10_seatsTaken_33 (lv_at hl 4 rfl) ?_
          refine lv_bipush (v := 12) hx hb dX10_seatsTaken_35 (by decide) ?_
          refine lv_icmp_ge (tgt := 66) hx hb dX10_seatsTaken_37 (by decide) (fun h => absurd h (lp_i rfl hkb (by decide))) (fun _ => ?_)
          refine lv_iload_n hx hb dX10_seatsTaken_40 rfl (lv_at hl 1 rfl) ?_
          refine lv_aload hx hb dX10_seatsTaken_41 (lv_at hl 3 rfl) ?_
          refine k_get (C := RX6) (T := TX6) (N := 8) (v := .ref (ad 50 i)) hx hb hts inB_X6 hown hK hw (hRp.2.2.2.2.2.2.2 46 _ (by decide) (by decide) (lp_l hk)) mke_46 rfl 5 (by decide) (hts _ w_f_X10_126) (fun _ h9 => h9) rfl dX10_seatsTaken_43 ?_
          refine lv_iload hx hb dX10_seatsTaken_46 (lv_at hl 4 rfl) ?_
          refine k_aldi hx hb hK hw (hRp.2.2.2.2.2.2.2 50 _ (by decide) (by decide) (lp_l hk)) 0 mke_50 rfl (nI_nlt (a := ib) (b := 0) (Nat.zero_le _) (Nat.lt_trans (show ib < 12 from (lp_l hkb)) (by decide))) (nI_clamp (Nat.lt_trans (show ib < 12 from (lp_l hkb)) (by decide))) (show ib < 12 from (lp_l hkb)) (v := S 27 i ib) rfl dX10_seatsTaken_48 ?_
          refine lv_iload_n hx hb dX10_seatsTaken_49 rfl (lv_at hl 0 rfl) ?_
          have hjc_3 : ∀ bc_3 : Int32, bc_3 = (if S 27 i ib = p1 then 1 else 0) → W p l e (headSpec bw_X10_seatsTaken (rm_X10_seatsTaken)).room s m args below meth c H locs (0 + 1) (0 + 4) (MQ below (kQi D A v L ad (mK cI cO K0 ad cp ce S)) args s 1 4 A) (F0 m 58 ls [.int bc_3, .int v2b]) := by
            intro bc_3 hbc_3
            subst hbc_3
            refine lv_iadd hx hb dX10_seatsTaken_58 ?_
            refine lv_istore_n (lv' := [(2, .int (v2b + (if S 27 i ib = p1 then 1 else 0))), (1, .int p1), (3, .ref q), (4, .ref (ad 46 i)), (5, .int (nI ib))]) hx hb dX10_seatsTaken_59 rfl hl (by decide) rfl (fun ls hl => ?_)
            refine lv_iinc (v := (nI (ib + 1))) (lv' := [(5, .int (nI (ib + 1))), (2, .int (v2b + (if S 27 i ib = p1 then 1 else 0))), (1, .int p1), (3, .ref q), (4, .ref (ad 46 i))]) hx hb dX10_seatsTaken_60 hl (k := 4) rfl (nI_1 _) (by decide) rfl (fun ls hl => ?_)
            refine lv_goto (tgt := 33) hx hb dX10_seatsTaken_63 (by decide) ?_
            exact ihb (ib + 1) (v2b + (if S 27 i ib = p1 then 1 else 0)) _ _ _ (lp_s hkb) hE hw (lv_sub hl [2, 1, 3, 4, 0] rfl)
          refine lv_icmp_ne (tgt := 57) hx hb dX10_seatsTaken_50 (by decide) (fun c_3 => ?_) (fun c_3 => ?_)
          · refine lv_iconst (v := 0) hx hb dX10_seatsTaken_57 (by decide) ?_
            exact hjc_3 _ (if_neg c_3).symm
          · refine lv_iconst (v := 1) hx hb dX10_seatsTaken_53 (by decide) ?_
            refine lv_goto (tgt := 58) hx hb dX10_seatsTaken_54 (by decide) ?_
            exact hjc_3 _ (if_pos c_3).symm
      exact key_33 12 0 v2 _ _ _ (Nat.zero_add _) hL_33 hw (lv_sub hl [2, 3, 4, 1, 0] rfl)
  exact key_10 ((S 0 0 0).toNatClampNeg) 0 0 _ _ _ (Nat.zero_add _) hL_10 hw (lv_sub hl [3, 1, 0] rfl)
