abbrev bw_X10_count : List Cond := .code yX10_count cX10_count 9 (some .int) :: BIG
abbrev rm_X10_count : Room := { frames := 5, cells := 22, slots := 95, locals := 109 }
noncomputable def lp_X10_count_100 (S : (Nat → Nat → Nat → Int32)) (p1 : Int32) (w_1 : Int32) (w_2 : Int32) (w_3 : Int32) (w_4 : Int32) : Nat → Nat → Int32 → Option (Int32)
  | 0, i, v6 => some (v6)
  | k + 1, i, v6 => (sp_X10_seatsTaken S (nI i)).bind fun x_7 => (lp_X10_count_100 S p1 w_1 w_2 w_3 w_4 k (i + 1) (v6 + x_7))
theorem lz_lp_X10_count_100 (S : (Nat → Nat → Nat → Int32)) (p1 : Int32) (w_1 : Int32) (w_2 : Int32) (w_3 : Int32) (w_4 : Int32) (i : Nat) (v6 : Int32) : lp_X10_count_100 S p1 w_1 w_2 w_3 w_4 0 i v6 = some (v6) := rfl
theorem ls_lp_X10_count_100 (S : (Nat → Nat → Nat → Int32)) (p1 : Int32) (w_1 : Int32) (w_2 : Int32) (w_3 : Int32) (w_4 : Int32) (k i : Nat) (v6 : Int32) : lp_X10_count_100 S p1 w_1 w_2 w_3 w_4 (k + 1) i v6 = (sp_X10_seatsTaken S (nI i)).bind fun x_7 => (lp_X10_count_100 S p1 w_1 w_2 w_3 w_4 k (i + 1) (v6 + x_7)) := rfl
noncomputable def lp_X10_count_22 (S : (Nat → Nat → Nat → Int32)) (p1 : Int32) : Nat → Nat → Int32 → Int32 → Int32 → Int32 → Option (Int32 × Int32 × Int32 × Int32)
  | 0, i, v2, v3, v4, v5 => some (v2, v3, v4, v5)
  | k + 1, i, v2, v3, v4, v5 => (sp_X6_in S i 2).bind fun x_9 => ((sp_X6_in S i 1).bind fun x_10 => ((sp_X10_rightsOf S i).bind fun x_11 => (lp_X10_count_22 S p1 k (i + 1) (v2 + (if S 6 i 2 = 0 then 0 else 1)) (v3 + x_9) (v4 + x_10) (v5 + (sp_J6_bitCount_0f7a4 x_11)))))
theorem lz_lp_X10_count_22 (S : (Nat → Nat → Nat → Int32)) (p1 : Int32) (i : Nat) (v2 : Int32) (v3 : Int32) (v4 : Int32) (v5 : Int32) : lp_X10_count_22 S p1 0 i v2 v3 v4 v5 = some (v2, v3, v4, v5) := rfl
theorem ls_lp_X10_count_22 (S : (Nat → Nat → Nat → Int32)) (p1 : Int32) (k i : Nat) (v2 : Int32) (v3 : Int32) (v4 : Int32) (v5 : Int32) : lp_X10_count_22 S p1 (k + 1) i v2 v3 v4 v5 = (sp_X6_in S i 2).bind fun x_9 => ((sp_X6_in S i 1).bind fun x_10 => ((sp_X10_rightsOf S i).bind fun x_11 => (lp_X10_count_22 S p1 k (i + 1) (v2 + (if S 6 i 2 = 0 then 0 else 1)) (v3 + x_9) (v4 + x_10) (v5 + (sp_J6_bitCount_0f7a4 x_11))))) := rfl
noncomputable def sp_X10_count (S : (Nat → Nat → Nat → Int32)) (p1 : Int32) : Option (Int32) := obi4 (lp_X10_count_22 S p1 ((S 0 0 0).toNatClampNeg) 0 0 0 0 0) (fun w_1 w_2 w_3 w_4 => ((lp_X10_count_100 S p1 w_1 w_2 w_3 w_4 ((S 3 0 0).toNatClampNeg) 0 0).bind (fun w_5 => (if p1 < 0 ∨ 11 ≤ p1.toNatClampNeg then none else (some ((upd (upd (upd (upd (upd (upd (upd (upd (upd (upd (upd (fun _ => 0) 0 (S 1 0 0)) 1 (S 1 0 1)) 2 (S 2 0 0)) 3 (S 3 0 0)) 4 (S 0 0 0)) 5 w_1) 6 w_2) 7 w_3) 8 w_4) 9 w_5) 10 (S 0 0 1)) p1.toNatClampNeg))))))
set_option maxHeartbeats 1000000 in
set_option maxRecDepth 100000 in
theorem ct_X10_count {l : Launch} {D : va_G} {cI cG cJ cO : ClassId} {K0 : Nat → Nat} {A : Nat → Prop} {L : List (Nat × Nat)} {ad : Nat → Nat → Nat} {ce : Nat → Nat → va_E} {cp : Nat → Nat} {S : (Nat → Nat → Nat → Int32)} (hR : MR S L cp) (hI : CI S) (hT : TL 67 L) {p1 : Int32} {v : Int32} (hE : sp_X10_count S p1 = some v) (sz : Nat) (hA : ∀ q, sz ≤ q → A q) : Met l yX10_count bw_X10_count (rm_X10_count) (kP D (ktys cI cG cJ cO) K0 A L ad (mK cI cO K0 ad cp ce S) sz [.ref (ad 30 0), .int p1]) (kQi D A v L ad (mK cI cO K0 ad cp ce S)) 22 95 A := by
  refine Met.ofW (cc := cX10_count) (maxL := 9) (ret := (some .int)) (by decide) rfl ?_
  intro p e s m args below meth c s₁ B hml hv_
  obtain ⟨hav, hsz, hP, hD, hK, hO⟩ := hv_
  have hx := B.exec
  have hb := B.bytes
  have hr := B.returns
  have hts : ∀ w ∈ BIG, w.before args s = true := fun w h => atoms_spec (ws := bw_X10_count) B.pre w (List.mem_cons_of_mem _ h)
  have hown : s.vm.findClass RX10 = some m.cls := findClass_of_methodNamed B.named
  have hlocks := B.notSynchronized
  subst hsz
  have hw := wk.start hP hD
  refine k_start (by rfl) hav (Nat.le_of_ble_eq_true rfl) (fun ls hl => ?_)
  have hl : lv_has ls 9 [(0, .ref (ad 30 0)), (1, .int p1)] := hl
  unfold sp_X10_count at hE
  refine lv_iconst (v := 0) hx hb dX10_count_0 (by decide) ?_
  refine lv_istore_n (lv' := [(2, .int 0), (0, .ref (ad 30 0)), (1, .int p1)]) hx hb dX10_count_1 rfl hl (by decide) rfl (fun ls hl => ?_)
  refine lv_iconst (v := 0) hx hb dX10_count_2 (by decide) ?_
  refine lv_istore_n (lv' := [(3, .int 0), (2, .int 0), (0, .ref (ad 30 0)), (1, .int p1)]) hx hb dX10_count_3 rfl hl (by decide) rfl (fun ls hl => ?_)
  refine lv_iconst (v := 0) hx hb dX10_count_4 (by decide) ?_
  refine lv_istore (lv' := [(4, .int 0), (3, .int 0), (2, .int 0), (0, .ref (ad 30 0)), (1, .int p1)]) hx hb dX10_count_5 hl (by decide) rfl (fun ls hl => ?_)
  refine lv_iconst (v := 0) hx hb dX10_count_7 (by decide) ?_
  refine lv_istore (lv' := [(5, .int 0), (4, .int 0), (3, .int 0), (2, .int 0), (0, .ref (ad 30 0)), (1, .int p1)]) hx hb dX10_count_8 hl (by decide) rfl (fun ls hl => ?_)
  refine lv_iconst (v := 0) hx hb dX10_count_10 (by decide) ?_
  refine lv_istore (lv' := [(6, .int 0), (5, .int 0), (4, .int 0), (3, .int 0), (2, .int 0), (0, .ref (ad 30 0)), (1, .int p1)]) hx hb dX10_count_11 hl (by decide) rfl (fun ls hl => ?_)
  refine lv_aload_n hx hb dX10_count_13 rfl (lv_at hl 5 rfl) ?_
  refine k_get (C := RX10) (T := TX10) (N := 9) (v := .ref (ad 35 0)) hx hb hts inB_X10 hown hK hw (hR.1 30 (by decide) (by decide)) mke_30 rfl 7 (by decide) (hts _ w_f_X10_32) (fun _ h9 => h9) rfl dX10_count_14 ?_
  refine k_crn hw (k_rV (f := 35) (o := 0) (As := []) (rest := []) ⟨hx, hb, hml, hown, hts⟩ hK hO hw (ct_iter_4 (SM.rf S) hR (it := 66) (Or.inr (by decide)) (TL.new hT (by decide) (by decide)) _ (wk.hA hw hA)) (cwV 0 hts (gB_V w_ml_X10_146 w_im_Jx4a65c_iterator_32c93 w_se_Jx4a65c_iterator_32c93 w_in_Jx4a65c w_co_Jx4a65c_iterator_32c93) rfl rfl rfl (by decide +kernel) ⟨Nat.le_of_ble_eq_true rfl, Nat.le_of_ble_eq_true rfl⟩) (hR.1 35 (by decide) (by decide)) (ce_l4 (SM.rf S)) rfl rfl hl.1 rfl (Nat.le_of_ble_eq_true rfl) dX10_count_17 ⟨(Nat.le_of_ble_eq_true rfl), (Nat.le_of_ble_eq_true rfl)⟩) (fun q H locs hw => ?_)
  have hw := hw.tmp (Or.inr (by decide))
  have hRp := hR.push (i := (66, 0))
  refine lv_astore (lv' := [(7, .ref q), (6, .int 0), (5, .int 0), (4, .int 0), (3, .int 0), (2, .int 0), (0, .ref (ad 30 0)), (1, .int p1)]) hx hb dX10_count_20 hl (by decide) rfl (fun ls hl => ?_)
  obtain ⟨w_1, w_2, w_3, w_4, hL_22, hE⟩ := ob4 hE
  have key_22 : ∀ (k i : Nat) (v2 : Int32) (v3 : Int32) (v4 : Int32) (v5 : Int32) (H : Heap) (locs : List Loc) (ls : Array Slot), i + k = (S 0 0 0).toNatClampNeg → lp_X10_count_22 S p1 k i v2 v3 v4 v5 = some (w_1, w_2, w_3, w_4) → wk D A (L ++ [(66, 0)]) (upa ad 66 0 q) (mK cI cO K0 (upa ad 66 0 q) cp (up2 ce 66 0 (itc i (S 42 4 0) (ad 35 0))) S) s.heap H locs → lv_has ls 9 [(0, .ref (ad 30 0)), (1, .int p1), (2, .int v2), (3, .int v3), (4, .int v4), (5, .int v5), (6, .int 0), (7, .ref q)] → W p l e (headSpec bw_X10_count (rm_X10_count)).room s m args below meth c H locs (0 + 1) (0 + 4) (MQ below (kQi D A v L ad (mK cI cO K0 ad cp ce S)) args s 22 95 A) (F0 m 22 ls []) := by
    intro k
    induction k with
    | zero =>
      intro i v2 v3 v4 v5 H locs ls hk hV hw hl
      have hV := (lz_lp_X10_count_22 S p1 i v2 v3 v4 v5).symm.trans hV
      obtain ⟨rfl, rfl, rfl, rfl⟩ := sj4 hV
      refine lv_aload hx hb dX10_count_22 (lv_at hl 7 rfl) ?_
      refine k_cFi hw (k_rF (f := 66) (o := 0) (As := []) (rest := []) ⟨hx, hb, hml, hown, hts⟩ hK hO hw (ct_hn_4 (SM.rf S) hRp (it := 66) (i := i) (Or.inr (by decide)) (List.mem_append_right _ (List.mem_singleton_self _)) _ (wk.hA hw hA)) (va_cwF 0 hts (gB_F w_ml_X10_150 w_se_it_hasNext w_im_Jx35411_hasNext_aae02 w_in_Jx35411 w_co_Jx35411_hasNext_aae02) rfl rfl rfl hO.2.2.2.1.1 (by decide +kernel) ⟨by decide, by decide⟩) (List.mem_append_right _ (List.mem_singleton_self _)) ((mK_ou (Or.inr (by decide))).trans up2_eq) rfl rfl hl.1 rfl (Nat.le_of_ble_eq_true rfl) dX10_count_24 ⟨(Nat.le_of_ble_eq_true rfl), (Nat.le_of_ble_eq_true rfl)⟩) (fun H locs hw => ?_)
      rw [if_pos (it_z (cn_eq hI.2.2.2.2.1) hk)]
      refine lv_if_eq (tgt := 97) hx hb dX10_count_29 (by decide) (fun _ => ?_) (fun h => absurd (by decide) h)
      have hw := hw.untmp (Or.inr (by decide)) (TL.new hT (by decide) (by decide))
      refine lv_iconst (v := 0) hx hb dX10_count_97 (by decide) ?_
      refine lv_istore (lv' := [(7, .int 0), (0, .ref (ad 30 0)), (1, .int p1), (2, .int w_1), (3, .int w_2), (4, .int w_3), (5, .int w_4), (6, .int 0)]) hx hb dX10_count_98 hl (by decide) rfl (fun ls hl => ?_)
      obtain ⟨w_5, hL_100, hE⟩ := ob1 hE
      have key_100 : ∀ (k i : Nat) (v6 : Int32) (H : Heap) (locs : List Loc) (ls : Array Slot), i + k = (S 3 0 0).toNatClampNeg → lp_X10_count_100 S p1 w_1 w_2 w_3 w_4 k i v6 = some (w_5) → wk D A (L) ad (mK cI cO K0 ad cp ce S) s.heap H locs → lv_has ls 9 [(0, .ref (ad 30 0)), (1, .int p1), (2, .int w_1), (3, .int w_2), (4, .int w_3), (5, .int w_4), (6, .int v6), (7, .int (nI i))] → W p l e (headSpec bw_X10_count (rm_X10_count)).room s m args below meth c H locs (0 + 1 + 1 * i) (0 + 4 + 4 * i) (MQ below (kQi D A v L ad (mK cI cO K0 ad cp ce S)) args s 22 95 A) (F0 m 100 ls []) := by
        intro k
        induction k with
        | zero =>
          intro i v6 H locs ls hk hV hw hl
          have hV := (lz_lp_X10_count_100 S p1 w_1 w_2 w_3 w_4 i v6).symm.trans hV
          obtain rfl := (Option.some.inj hV).symm
          have hmx : i ≤ 20 := by have h9 := CI.n4 hI; omega
          refine W.widen (k := 0 + 1 + 20) (n := 0 + 4 + 80) (by omega) (by omega) ?_
          refine lv_iload hx hb dX10_count_100 (lv_at hl 7 rfl) ?_
          refine lv_aload_n hx hb dX10_count_102 rfl (lv_at hl 0 rfl) ?_
          refine k_get (C := RX10) (T := TX10) (N := 9) (v := .ref (ad 34 0)) hx hb hts inB_X10 hown hK hw (hR.1 30 (by decide) (by decide)) mke_30 rfl 6 (by decide) (hts _ w_f_X10_29) (fun _ h9 => h9) rfl dX10_count_103 ?_
          refine k_ci0 hw (k_rV (f := 34) (o := 0) (As := []) (rest := [.int (nI i)]) ⟨hx, hb, hml, hown, hts⟩ hK hO hw (ct_size_3 (SM.rf S) hR _ (wk.hA hw hA)) (cwV 0 hts (gB_V w_ml_X10_43 w_im_Jx4a65c_size_8abf5 w_se_Jx4a65c_size_8abf5 w_in_Jx4a65c w_co_Jx4a65c_size_8abf5) rfl rfl rfl (by decide +kernel) ⟨Nat.le_of_ble_eq_true rfl, Nat.le_of_ble_eq_true rfl⟩) (hR.1 34 (by decide) (by decide)) (ce_l3 (SM.rf S)) rfl rfl hl.1 rfl (Nat.le_of_ble_eq_true rfl) dX10_count_106 ⟨(Nat.le_of_ble_eq_true rfl), (Nat.le_of_ble_eq_true rfl)⟩) (fun H locs hw => ?_)
          refine lv_icmp_ge (tgt := 129) hx hb dX10_count_109 (by decide) (fun _ => ?_) (fun h => absurd (lp_o (cn_eq hI.2.2.2.1.1) hk (cn_lt _)) h)
          refine lv_bipush (v := 11) hx hb dX10_count_129 (by decide) ?_
          refine k_newi hx hb (hts _ w_ac_int) hK hw hA (n := 11) (N' := 11) (by decide) (by decide) (Nat.le_of_ble_eq_true rfl) (Nat.le_of_ble_eq_true rfl) (Nat.le_of_ble_eq_true rfl) 67 0 (TL.new hT (by decide) (by decide)) dX10_count_131 (fun q H hw => ?_)
          have hw := hw.tmp (Or.inr (by decide))
          have hRp := hR.push (i := (67, 0))
          show W p l e (headSpec bw_X10_count (rm_X10_count)).room s m args below meth c _ _ (0 + 1 + 20 + 1) (0 + 4 + 80 + 11) (MQ below (kQi D A v L ad (mK cI cO K0 ad cp ce S)) args s 22 95 A) (F0 m 133 ls [.ref q])
          refine lv_dup hx hb dX10_count_133 rfl ?_
          refine lv_iconst (v := 0) hx hb dX10_count_134 (by decide) ?_
          refine lv_aload_n hx hb dX10_count_135 rfl (lv_at hl 0 rfl) ?_
          refine k_get (C := RX10) (T := TX10) (N := 9) (v := .ref (ad 31 0)) hx hb hts inB_X10 hown hK hw (hRp.1 30 (by decide) (by decide)) mke_30 rfl 1 (by decide) (hts _ w_f_X10_10) (fun _ h9 => h9) rfl dX10_count_136 ?_
          refine k_ci0 hw (k_rV (f := 31) (o := 0) (As := []) (rest := [.int 0, .ref q, .ref q]) ⟨hx, hb, hml, hown, hts⟩ hK hO hw (ct_size_0 (SM.rf S) hRp _ (wk.hA hw hA)) (cwV 0 hts (gB_V w_ml_X10_43 w_im_Jx4a65c_size_8abf5 w_se_Jx4a65c_size_8abf5 w_in_Jx4a65c w_co_Jx4a65c_size_8abf5) rfl rfl rfl (by decide +kernel) ⟨Nat.le_of_ble_eq_true rfl, Nat.le_of_ble_eq_true rfl⟩) (hRp.1 31 (by decide) (by decide)) (ce_l0 (SM.rf S)) rfl rfl hl.1 rfl (Nat.le_of_ble_eq_true rfl) dX10_count_139 ⟨(Nat.le_of_ble_eq_true rfl), (Nat.le_of_ble_eq_true rfl)⟩) (fun H locs hw => ?_)
          refine k_asti hx hb hK hw (List.mem_append_right _ (List.mem_singleton_self _)) 0 ((mK_ou (Or.inr (by decide))).trans up2_eq) rfl (by decide) rfl (by decide) (mK_itp (Or.inr (by decide))) dX10_count_142 (fun H locs hw => ?_)
          refine lv_dup hx hb dX10_count_143 rfl ?_
          refine lv_iconst (v := 1) hx hb dX10_count_144 (by decide) ?_
          refine lv_aload_n hx hb dX10_count_145 rfl (lv_at hl 0 rfl) ?_
          refine k_get (C := RX10) (T := TX10) (N := 9) (v := .ref (ad 32 0)) hx hb hts inB_X10 hown hK hw (hRp.1 30 (by decide) (by decide)) mke_30 rfl 3 (by decide) (hts _ w_f_X10_20) (fun _ h9 => h9) rfl dX10_count_146 ?_
          refine k_ci0 hw (k_rV (f := 32) (o := 0) (As := []) (rest := [.int 1, .ref q, .ref q]) ⟨hx, hb, hml, hown, hts⟩ hK hO hw (ct_size_1 (SM.rf S) hRp _ (wk.hA hw hA)) (cwV 0 hts (gB_V w_ml_X10_43 w_im_Jx4a65c_size_8abf5 w_se_Jx4a65c_size_8abf5 w_in_Jx4a65c w_co_Jx4a65c_size_8abf5) rfl rfl rfl (by decide +kernel) ⟨Nat.le_of_ble_eq_true rfl, Nat.le_of_ble_eq_true rfl⟩) (hRp.1 32 (by decide) (by decide)) (ce_l1 (SM.rf S)) rfl rfl hl.1 rfl (Nat.le_of_ble_eq_true rfl) dX10_count_149 ⟨(Nat.le_of_ble_eq_true rfl), (Nat.le_of_ble_eq_true rfl)⟩) (fun H locs hw => ?_)
          refine k_asti hx hb hK hw (List.mem_append_right _ (List.mem_singleton_self _)) 0 ((mK_ou (Or.inr (by decide))).trans up2_eq) rfl (by decide) rfl (by decide) (mK_itp (Or.inr (by decide))) dX10_count_152 (fun H locs hw => ?_)
          refine lv_dup hx hb dX10_count_153 rfl ?_
          refine lv_iconst (v := 2) hx hb dX10_count_154 (by decide) ?_
          refine lv_aload_n hx hb dX10_count_155 rfl (lv_at hl 0 rfl) ?_
          refine k_get (C := RX10) (T := TX10) (N := 9) (v := .ref (ad 33 0)) hx hb hts inB_X10 hown hK hw (hRp.1 30 (by decide) (by decide)) mke_30 rfl 5 (by decide) (hts _ w_f_X10_26) (fun _ h9 => h9) rfl dX10_count_156 ?_
          refine k_ci0 hw (k_rV (f := 33) (o := 0) (As := []) (rest := [.int 2, .ref q, .ref q]) ⟨hx, hb, hml, hown, hts⟩ hK hO hw (ct_size_2 (SM.rf S) hRp _ (wk.hA hw hA)) (cwV 0 hts (gB_V w_ml_X10_43 w_im_Jx4a65c_size_8abf5 w_se_Jx4a65c_size_8abf5 w_in_Jx4a65c w_co_Jx4a65c_size_8abf5) rfl rfl rfl (by decide +kernel) ⟨Nat.le_of_ble_eq_true rfl, Nat.le_of_ble_eq_true rfl⟩) (hRp.1 33 (by decide) (by decide)) (ce_l2 (SM.rf S)) rfl rfl hl.1 rfl (Nat.le_of_ble_eq_true rfl) dX10_count_159 ⟨(Nat.le_of_ble_eq_true rfl), (Nat.le_of_ble_eq_true rfl)⟩) (fun H locs hw => ?_)
          refine k_asti hx hb hK hw (List.mem_append_right _ (List.mem_singleton_self _)) 0 ((mK_ou (Or.inr (by decide))).trans up2_eq) rfl (by decide) rfl (by decide) (mK_itp (Or.inr (by decide))) dX10_count_162 (fun H locs hw => ?_)
          refine lv_dup hx hb dX10_count_163 rfl ?_
          refine lv_iconst (v := 3) hx hb dX10_count_164 (by decide) ?_
          refine lv_aload_n hx hb dX10_count_165 rfl (lv_at hl 0 rfl) ?_
          refine k_get (C := RX10) (T := TX10) (N := 9) (v := .ref (ad 34 0)) hx hb hts inB_X10 hown hK hw (hRp.1 30 (by decide) (by decide)) mke_30 rfl 6 (by decide) (hts _ w_f_X10_29) (fun _ h9 => h9) rfl dX10_count_166 ?_
          refine k_ci0 hw (k_rV (f := 34) (o := 0) (As := []) (rest := [.int 3, .ref q, .ref q]) ⟨hx, hb, hml, hown, hts⟩ hK hO hw (ct_size_3 (SM.rf S) hRp _ (wk.hA hw hA)) (cwV 0 hts (gB_V w_ml_X10_43 w_im_Jx4a65c_size_8abf5 w_se_Jx4a65c_size_8abf5 w_in_Jx4a65c w_co_Jx4a65c_size_8abf5) rfl rfl rfl (by decide +kernel) ⟨Nat.le_of_ble_eq_true rfl, Nat.le_of_ble_eq_true rfl⟩) (hRp.1 34 (by decide) (by decide)) (ce_l3 (SM.rf S)) rfl rfl hl.1 rfl (Nat.le_of_ble_eq_true rfl) dX10_count_169 ⟨(Nat.le_of_ble_eq_true rfl), (Nat.le_of_ble_eq_true rfl)⟩) (fun H locs hw => ?_)
          refine k_asti hx hb hK hw (List.mem_append_right _ (List.mem_singleton_self _)) 0 ((mK_ou (Or.inr (by decide))).trans up2_eq) rfl (by decide) rfl (by decide) (mK_itp (Or.inr (by decide))) dX10_count_172 (fun H locs hw => ?_)
          refine lv_dup hx hb dX10_count_173 rfl ?_
          refine lv_iconst (v := 4) hx hb dX10_count_174 (by decide) ?_
          refine lv_aload_n hx hb dX10_count_175 rfl (lv_at hl 0 rfl) ?_
          refine k_get (C := RX10) (T := TX10) (N := 9) (v := .ref (ad 35 0)) hx hb hts inB_X10 hown hK hw (hRp.1 30 (by decide) (by decide)) mke_30 rfl 7 (by decide) (hts _ w_f_X10_32) (fun _ h9 => h9) rfl dX10_count_176 ?_
          refine k_ci0 hw (k_rV (f := 35) (o := 0) (As := []) (rest := [.int 4, .ref q, .ref q]) ⟨hx, hb, hml, hown, hts⟩ hK hO hw (ct_size_4 (SM.rf S) hRp _ (wk.hA hw hA)) (cwV 0 hts (gB_V w_ml_X10_43 w_im_Jx4a65c_size_8abf5 w_se_Jx4a65c_size_8abf5 w_in_Jx4a65c w_co_Jx4a65c_size_8abf5) rfl rfl rfl (by decide +kernel) ⟨Nat.le_of_ble_eq_true rfl, Nat.le_of_ble_eq_true rfl⟩) (hRp.1 35 (by decide) (by decide)) (ce_l4 (SM.rf S)) rfl rfl hl.1 rfl (Nat.le_of_ble_eq_true rfl) dX10_count_179 ⟨(Nat.le_of_ble_eq_true rfl), (Nat.le_of_ble_eq_true rfl)⟩) (fun H locs hw => ?_)
          refine k_asti hx hb hK hw (List.mem_append_right _ (List.mem_singleton_self _)) 0 ((mK_ou (Or.inr (by decide))).trans up2_eq) rfl (by decide) rfl (by decide) (mK_itp (Or.inr (by decide))) dX10_count_182 (fun H locs hw => ?_)
          refine lv_dup hx hb dX10_count_183 rfl ?_
          refine lv_iconst (v := 5) hx hb dX10_count_184 (by decide) ?_
          refine lv_iload_n hx hb dX10_count_185 rfl (lv_at hl 2 rfl) ?_
          refine k_asti hx hb hK hw (List.mem_append_right _ (List.mem_singleton_self _)) 0 ((mK_ou (Or.inr (by decide))).trans up2_eq) rfl (by decide) rfl (by decide) (mK_itp (Or.inr (by decide))) dX10_count_186 (fun H locs hw => ?_)
          refine lv_dup hx hb dX10_count_187 rfl ?_
          refine lv_bipush (v := 6) hx hb dX10_count_188 (by decide) ?_
          refine lv_iload_n hx hb dX10_count_190 rfl (lv_at hl 3 rfl) ?_
          refine k_asti hx hb hK hw (List.mem_append_right _ (List.mem_singleton_self _)) 0 ((mK_ou (Or.inr (by decide))).trans up2_eq) rfl (by decide) rfl (by decide) (mK_itp (Or.inr (by decide))) dX10_count_191 (fun H locs hw => ?_)
          refine lv_dup hx hb dX10_count_192 rfl ?_
          refine lv_bipush (v := 7) hx hb dX10_count_193 (by decide) ?_
          refine lv_iload hx hb dX10_count_195 (lv_at hl 4 rfl) ?_
          refine k_asti hx hb hK hw (List.mem_append_right _ (List.mem_singleton_self _)) 0 ((mK_ou (Or.inr (by decide))).trans up2_eq) rfl (by decide) rfl (by decide) (mK_itp (Or.inr (by decide))) dX10_count_197 (fun H locs hw => ?_)
          refine lv_dup hx hb dX10_count_198 rfl ?_
          refine lv_bipush (v := 8) hx hb dX10_count_199 (by decide) ?_
          refine lv_iload hx hb dX10_count_201 (lv_at hl 5 rfl) ?_
          refine k_asti hx hb hK hw (List.mem_append_right _ (List.mem_singleton_self _)) 0 ((mK_ou (Or.inr (by decide))).trans up2_eq) rfl (by decide) rfl (by decide) (mK_itp (Or.inr (by decide))) dX10_count_203 (fun H locs hw => ?_)
          refine lv_dup hx hb dX10_count_204 rfl ?_
          refine lv_bipush (v := 9) hx hb dX10_count_205 (by decide) ?_
          refine lv_iload hx hb dX10_count_207 (lv_at hl 6 rfl) ?_
          refine k_asti hx hb hK hw (List.mem_append_right _ (List.mem_singleton_self _)) 0 ((mK_ou (Or.inr (by decide))).trans up2_eq) rfl (by decide) rfl (by decide) (mK_itp (Or.inr (by decide))) dX10_count_209 (fun H locs hw => ?_)
          refine lv_dup hx hb dX10_count_210 rfl ?_
          refine lv_bipush (v := 10) hx hb dX10_count_211 (by decide) ?_
          refine lv_aload_n hx hb dX10_count_213 rfl (lv_at hl 0 rfl) ?_
          refine k_get (C := RX10) (T := TX10) (N := 9) (v := .int (S 0 0 1)) hx hb hts inB_X10 hown hK hw (hRp.1 30 (by decide) (by decide)) mke_30 rfl 8 (by decide) (hts _ w_f_X10_103) (fun _ h9 => h9) rfl dX10_count_214 ?_
          refine k_asti hx hb hK hw (List.mem_append_right _ (List.mem_singleton_self _)) 0 ((mK_ou (Or.inr (by decide))).trans up2_eq) rfl (by decide) rfl (by decide) (mK_itp (Or.inr (by decide))) dX10_count_217 (fun H locs hw => ?_)
          refine lv_astore (lv' := [(7, .ref q), (0, .ref (ad 30 0)), (1, .int p1), (2, .int w_1), (3, .int w_2), (4, .int w_3), (5, .int w_4), (6, .int w_5)]) hx hb dX10_count_218 hl (by decide) rfl (fun ls hl => ?_)
          refine lv_aload hx hb dX10_count_220 (lv_at hl 0 rfl) ?_
          refine lv_iload_n hx hb dX10_count_222 rfl (lv_at hl 2 rfl) ?_
          by_cases c_6 : p1 < 0 ∨ 11 ≤ p1.toNatClampNeg
          · exact nomatch (if_pos c_6).symm.trans hE
          have hE := (if_neg c_6).symm.trans hE
          refine k_aldi hx hb hK hw (List.mem_append_right _ (List.mem_singleton_self _)) 0 ((mK_ou (Or.inr (by decide))).trans up2_eq) rfl (fun z => c_6 (Or.inl z)) rfl (Nat.not_le.mp fun z => c_6 (Or.inr z)) (v := (upd (upd (upd (upd (upd (upd (upd (upd (upd (upd (upd (fun _ => 0) 0 (S 1 0 0)) 1 (S 1 0 1)) 2 (S 2 0 0)) 3 (S 3 0 0)) 4 (S 0 0 0)) 5 w_1) 6 w_2) 7 w_3) 8 w_4) 9 w_5) 10 (S 0 0 1)) p1.toNatClampNeg) rfl dX10_count_223 ?_
          have hw := hw.untmp (Or.inr (by decide)) (TL.new hT (by decide) (by decide))
          exact m_iret hx hb hr hlocks rfl hw hE (Nat.le_of_ble_eq_true rfl) (Nat.le_of_ble_eq_true rfl) dX10_count_224
        | succ k ih =>
          intro i v6 H locs ls hk hV hw hl
          have hmy : i < 20 := by have h9 := CI.n4 hI; omega
          have hV := (ls_lp_X10_count_100 S p1 w_1 w_2 w_3 w_4 k i v6).symm.trans hV
          have hE := hV
          refine lv_iload hx hb dX10_count_100 (lv_at hl 7 rfl) ?_
          refine lv_aload_n hx hb dX10_count_102 rfl (lv_at hl 0 rfl) ?_
          refine k_get (C := RX10) (T := TX10) (N := 9) (v := .ref (ad 34 0)) hx hb hts inB_X10 hown hK hw (hR.1 30 (by decide) (by decide)) mke_30 rfl 6 (by decide) (hts _ w_f_X10_29) (fun _ h9 => h9) rfl dX10_count_103 ?_
          refine k_ci0 hw (k_rV (f := 34) (o := 0) (As := []) (rest := [.int (nI i)]) ⟨hx, hb, hml, hown, hts⟩ hK hO hw (ct_size_3 (SM.rf S) hR _ (wk.hA hw hA)) (cwV 0 hts (gB_V w_ml_X10_43 w_im_Jx4a65c_size_8abf5 w_se_Jx4a65c_size_8abf5 w_in_Jx4a65c w_co_Jx4a65c_size_8abf5) rfl rfl rfl (by decide +kernel) ⟨Nat.le_of_ble_eq_true rfl, Nat.le_of_ble_eq_true rfl⟩) (hR.1 34 (by decide) (by decide)) (ce_l3 (SM.rf S)) rfl rfl hl.1 rfl (Nat.le_of_ble_eq_true rfl) dX10_count_106 ⟨(show 0 + 1 + 1 * i + 0 ≤ 22 from by omega), (show 0 + 4 + 4 * i + 0 ≤ 95 from by omega)⟩) (fun H locs hw => ?_)
          refine lv_icmp_ge (tgt := 129) hx hb dX10_count_109 (by decide) (fun h => absurd h (lp_i (cn_eq hI.2.2.2.1.1) hk (cn_lt _))) (fun _ => ?_)
          refine lv_iload hx hb dX10_count_112 (lv_at hl 6 rfl) ?_
          refine lv_aload_n hx hb dX10_count_114 rfl (lv_at hl 0 rfl) ?_
          refine lv_iload hx hb dX10_count_115 (lv_at hl 7 rfl) ?_
          obtain ⟨x_7, hx_7, hE⟩ := ob1 hE
          refine k_ci hw (k_rV (f := 30) (o := 0) (As := [.int (nI i)]) (rest := [.int v6]) ⟨hx, hb, hml, hown, hts⟩ hK hO hw (ct_X10_seatsTaken (MR.sm (SM.rf S) hR) (SM.ci (SM.rf S) hI) (TL.le hT (by decide)) hx_7 _ (wk.hA hw hA)) (cwV 1 hts (gB_V w_ml_X10_163 w_im_X10_seatsTaken w_se_X10_seatsTaken w_in_X10 w_co_X10_seatsTaken) rfl rfl rfl (by decide +kernel) ⟨Nat.le_of_ble_eq_true rfl, Nat.le_of_ble_eq_true rfl⟩) (hR.1 30 (by decide) (by decide)) mke_30 rfl rfl hl.1 rfl (Nat.le_of_ble_eq_true rfl) dX10_count_117 ⟨(show 0 + 1 + 1 * i + 1 ≤ 22 from by omega), (show 0 + 4 + 4 * i + 4 ≤ 95 from by omega)⟩) (fun H locs hw => ?_)
          refine lv_iadd hx hb dX10_count_120 ?_
          refine lv_istore (lv' := [(6, .int (v6 + x_7)), (0, .ref (ad 30 0)), (1, .int p1), (2, .int w_1), (3, .int w_2), (4, .int w_3), (5, .int w_4), (7, .int (nI i))]) hx hb dX10_count_121 hl (by decide) rfl (fun ls hl => ?_)
          refine lv_iinc (v := (nI (i + 1))) (lv' := [(7, .int (nI (i + 1))), (6, .int (v6 + x_7)), (0, .ref (ad 30 0)), (1, .int p1), (2, .int w_1), (3, .int w_2), (4, .int w_3), (5, .int w_4)]) hx hb dX10_count_123 hl (k := 7) rfl (nI_1 _) (by decide) rfl (fun ls hl => ?_)
          refine lv_goto (tgt := 100) hx hb dX10_count_126 (by decide) ?_
          refine W.widen (k := 0 + 1 + 1 * (i + 1)) (n := 0 + 4 + 4 * (i + 1)) (by omega) (by omega) ?_
          exact ih (i + 1) (v6 + x_7) _ _ _ (lp_s hk) hE hw (lv_sub hl [2, 3, 4, 5, 6, 7, 1, 0] rfl)
      exact key_100 ((S 3 0 0).toNatClampNeg) 0 0 _ _ _ (Nat.zero_add _) hL_100 hw (lv_sub hl [1, 2, 3, 4, 5, 6, 7, 0] rfl)
    | succ k ih =>
      intro i v2 v3 v4 v5 H locs ls hk hV hw hl
      have hV := (ls_lp_X10_count_22 S p1 k i v2 v3 v4 v5).symm.trans hV
      have hE := hV
      refine lv_aload hx hb dX10_count_22 (lv_at hl 7 rfl) ?_
      refine k_cFi hw (k_rF (f := 66) (o := 0) (As := []) (rest := []) ⟨hx, hb, hml, hown, hts⟩ hK hO hw (ct_hn_4 (SM.rf S) hRp (it := 66) (i := i) (Or.inr (by decide)) (List.mem_append_right _ (List.mem_singleton_self _)) _ (wk.hA hw hA)) (va_cwF 0 hts (gB_F w_ml_X10_150 w_se_it_hasNext w_im_Jx35411_hasNext_aae02 w_in_Jx35411 w_co_Jx35411_hasNext_aae02) rfl rfl rfl hO.2.2.2.1.1 (by decide +kernel) ⟨by decide, by decide⟩) (List.mem_append_right _ (List.mem_singleton_self _)) ((mK_ou (Or.inr (by decide))).trans up2_eq) rfl rfl hl.1 rfl (Nat.le_of_ble_eq_true rfl) dX10_count_24 ⟨(Nat.le_of_ble_eq_true rfl), (Nat.le_of_ble_eq_true rfl)⟩) (fun H locs hw => ?_)
      rw [if_neg (it_s (cn_eq hI.2.2.2.2.1) hk (cn_lt _))]
      refine lv_if_eq (tgt := 97) hx hb dX10_count_29 (by decide) (fun h => absurd h (by decide)) (fun _ => ?_)
      refine lv_aload hx hb dX10_count_32 (lv_at hl 7 rfl) ?_
      refine k_cFr (v := (ad 46 i)) hw (k_rF (f := 66) (o := 0) (As := []) (rest := []) ⟨hx, hb, hml, hown, hts⟩ hK hO hw (ct_nx_4 (SM.rf S) hRp hI (it := 66) (i := i) (Or.inr (by decide)) (List.mem_append_right _ (List.mem_singleton_self _)) (lp_l hk) _ (wk.hA hw hA)) (va_cwF 0 hts (gB_F w_ml_X10_156 w_se_it_next w_im_Jx35411_next_0502b w_in_Jx35411 w_co_Jx35411_next_0502b) rfl rfl rfl hO.2.2.2.1.2.1 (by decide +kernel) ⟨by decide, by decide⟩) (List.mem_append_right _ (List.mem_singleton_self _)) ((mK_ou (Or.inr (by decide))).trans up2_eq) rfl rfl hl.1 rfl (Nat.le_of_ble_eq_true rfl) dX10_count_34 ⟨(Nat.le_of_ble_eq_true rfl), (Nat.le_of_ble_eq_true rfl)⟩) (fun H locs hw => ?_)
      refine k_cast (f := 46) (o := i) hx hb hown (hts _ w_cl_X10_64) hK hw (hRp.2.2.2.2.2.2.2 46 _ (by decide) (by decide) (lp_l hk)) mke_46 rfl dX10_count_39 ?_
      refine lv_astore (lv' := [(8, .ref (ad 46 i)), (0, .ref (ad 30 0)), (1, .int p1), (2, .int v2), (3, .int v3), (4, .int v4), (5, .int v5), (6, .int 0), (7, .ref q)]) hx hb dX10_count_42 hl (by decide) rfl (fun ls hl => ?_)
      refine lv_iload_n hx hb dX10_count_44 rfl (lv_at hl 3 rfl) ?_
      refine lv_aload hx hb dX10_count_45 (lv_at hl 0 rfl) ?_
      refine k_get (C := RX6) (T := TX6) (N := 8) (v := .int (S 6 i 2)) hx hb hts inB_X6 hown hK hw (hRp.2.2.2.2.2.2.2 46 _ (by decide) (by decide) (lp_l hk)) mke_46 rfl 7 (by decide) (hts _ w_f_X10_140) (fun _ h9 => h9) rfl dX10_count_47 ?_
      have hjc_8 : ∀ bc_8 : Int32, bc_8 = (if S 6 i 2 = 0 then 0 else 1) → W p l e (headSpec bw_X10_count (rm_X10_count)).room s m args below meth c H locs (0 + 1) (0 + 4) (MQ below (kQi D A v L ad (mK cI cO K0 ad cp ce S)) args s 22 95 A) (F0 m 58 ls [.int bc_8, .int v2]) := by
        intro bc_8 hbc_8
        subst hbc_8
        refine lv_iadd hx hb dX10_count_58 ?_
        refine lv_istore_n (lv' := [(2, .int (v2 + (if S 6 i 2 = 0 then 0 else 1))), (8, .ref (ad 46 i)), (0, .ref (ad 30 0)), (1, .int p1), (3, .int v3), (4, .int v4), (5, .int v5), (6, .int 0), (7, .ref q)]) hx hb dX10_count_59 rfl hl (by decide) rfl (fun ls hl => ?_)
        refine lv_iload_n hx hb dX10_count_60 rfl (lv_at hl 4 rfl) ?_
        refine lv_aload hx hb dX10_count_61 (lv_at hl 1 rfl) ?_
        refine lv_iconst (v := 2) hx hb dX10_count_63 (by decide) ?_
        obtain ⟨x_9, hx_9, hE⟩ := ob1 hE
        refine k_ci0 hw (k_rV (f := 46) (o := i) (As := [.int 2]) (rest := [.int v3]) ⟨hx, hb, hml, hown, hts⟩ hK hO hw (ct_X6_in (MR.sm (SM.rf S) hRp) (SM.ci (SM.rf S) hI) (by rw [SM.c4 (SM.rf S)]; exact (lp_l hk)) hx_9 _ (wk.hA hw hA)) (cwV 1 hts (gB_V w_ml_X10_253 w_im_X6_in w_se_X6_in w_in_X6 w_co_X6_in) rfl rfl rfl (by decide +kernel) ⟨Nat.le_of_ble_eq_true rfl, Nat.le_of_ble_eq_true rfl⟩) (hRp.2.2.2.2.2.2.2 46 _ (by decide) (by decide) (lp_l hk)) mke_46 rfl rfl hl.1 rfl (Nat.le_of_ble_eq_true rfl) dX10_count_64 ⟨(Nat.le_of_ble_eq_true rfl), (Nat.le_of_ble_eq_true rfl)⟩) (fun H locs hw => ?_)
        refine lv_iadd hx hb dX10_count_67 ?_
        refine lv_istore_n (lv' := [(3, .int (v3 + x_9)), (2, .int (v2 + (if S 6 i 2 = 0 then 0 else 1))), (8, .ref (ad 46 i)), (0, .ref (ad 30 0)), (1, .int p1), (4, .int v4), (5, .int v5), (6, .int 0), (7, .ref q)]) hx hb dX10_count_68 rfl hl (by decide) rfl (fun ls hl => ?_)
        refine lv_iload hx hb dX10_count_69 (lv_at hl 5 rfl) ?_
        refine lv_aload hx hb dX10_count_71 (lv_at hl 2 rfl) ?_
        refine lv_iconst (v := 1) hx hb dX10_count_73 (by decide) ?_
        obtain ⟨x_10, hx_10, hE⟩ := ob1 hE
        refine k_ci0 hw (k_rV (f := 46) (o := i) (As := [.int 1]) (rest := [.int v4]) ⟨hx, hb, hml, hown, hts⟩ hK hO hw (ct_X6_in (MR.sm (SM.rf S) hRp) (SM.ci (SM.rf S) hI) (by rw [SM.c4 (SM.rf S)]; exact (lp_l hk)) hx_10 _ (wk.hA hw hA)) (cwV 1 hts (gB_V w_ml_X10_253 w_im_X6_in w_se_X6_in w_in_X6 w_co_X6_in) rfl rfl rfl (by decide +kernel) ⟨Nat.le_of_ble_eq_true rfl, Nat.le_of_ble_eq_true rfl⟩) (hRp.2.2.2.2.2.2.2 46 _ (by decide) (by decide) (lp_l hk)) mke_46 rfl rfl hl.1 rfl (Nat.le_of_ble_eq_true rfl) dX10_count_74 ⟨(Nat.le_of_ble_eq_true rfl), (Nat.le_of_ble_eq_true rfl)⟩) (fun H locs hw => ?_)
        refine lv_iadd hx hb dX10_count_77 ?_
        refine lv_istore (lv' := [(4, .int (v4 + x_10)), (3, .int (v3 + x_9)), (2, .int (v2 + (if S 6 i 2 = 0 then 0 else 1))), (8, .ref (ad 46 i)), (0, .ref (ad 30 0)), (1, .int p1), (5, .int v5), (6, .int 0), (7, .ref q)]) hx hb dX10_count_78 hl (by decide) rfl (fun ls hl => ?_)
        refine lv_iload hx hb dX10_count_80 (lv_at hl 6 rfl) ?_
        refine lv_aload_n hx hb dX10_count_82 rfl (lv_at hl 4 rfl) ?_
        refine lv_aload hx hb dX10_count_83 (lv_at hl 3 rfl) ?_
        obtain ⟨x_11, hx_11, hE⟩ := ob1 hE
        refine k_ci0 hw (k_rV (f := 30) (o := 0) (As := [.ref (ad 46 i)]) (rest := [.int v5]) ⟨hx, hb, hml, hown, hts⟩ hK hO hw (ct_X10_rightsOf (MR.sm (SM.rf S) hRp) (SM.ci (SM.rf S) hI) (by rw [SM.c4 (SM.rf S)]; exact (lp_l hk)) hx_11 _ (wk.hA hw hA)) (cwV 1 hts (gB_V w_ml_X10_272 w_im_X10_rightsOf w_se_X10_rightsOf w_in_X10 w_co_X10_rightsOf) rfl rfl rfl (by decide +kernel) ⟨Nat.le_of_ble_eq_true rfl, Nat.le_of_ble_eq_true rfl⟩) (hRp.1 30 (by decide) (by decide)) mke_30 rfl rfl hl.1 rfl (Nat.le_of_ble_eq_true rfl) dX10_count_85 ⟨(Nat.le_of_ble_eq_true rfl), (Nat.le_of_ble_eq_true rfl)⟩) (fun H locs hw => ?_)
        refine k_ci0 hw (k_rS (As := [.int x_11]) (rest := [.int v5]) ⟨hx, hb, hml, hown, hts⟩ hK hO hw (ct_J6_bitCount_0f7a4 x_11 _ (wk.hA hw hA)) (va_cwS 1 hts (gB_S w_ml_X10_69 w_st_J6_bitCount_0f7a4 w_in_J6 w_co_J6_bitCount_0f7a4) rfl rfl rfl (by decide +kernel) ⟨Nat.le_of_ble_eq_true rfl, Nat.le_of_ble_eq_true rfl⟩) rfl hl.1 rfl (Nat.le_of_ble_eq_true rfl) dX10_count_88 ⟨(Nat.le_of_ble_eq_true rfl), (Nat.le_of_ble_eq_true rfl)⟩) (fun H locs hw => ?_)
        refine lv_iadd hx hb dX10_count_91 ?_
        refine lv_istore (lv' := [(5, .int (v5 + (sp_J6_bitCount_0f7a4 x_11))), (4, .int (v4 + x_10)), (3, .int (v3 + x_9)), (2, .int (v2 + (if S 6 i 2 = 0 then 0 else 1))), (8, .ref (ad 46 i)), (0, .ref (ad 30 0)), (1, .int p1), (6, .int 0), (7, .ref q)]) hx hb dX10_count_92 hl (by decide) rfl (fun ls hl => ?_)
        refine lv_goto (tgt := 22) hx hb dX10_count_94 (by decide) ?_
        exact ih (i + 1) (v2 + (if S 6 i 2 = 0 then 0 else 1)) (v3 + x_9) (v4 + x_10) (v5 + (sp_J6_bitCount_0f7a4 x_11)) _ _ _ (lp_s hk) hE hw (lv_sub hl [5, 6, 3, 2, 1, 0, 7, 8] rfl)
      refine lv_if_eq (tgt := 57) hx hb dX10_count_50 (by decide) (fun c_8 => ?_) (fun c_8 => ?_)
      · refine lv_iconst (v := 0) hx hb dX10_count_57 (by decide) ?_
        exact hjc_8 _ (if_pos c_8).symm
      · refine lv_iconst (v := 1) hx hb dX10_count_53 (by decide) ?_
        refine lv_goto (tgt := 58) hx hb dX10_count_54 (by decide) ?_
        exact hjc_8 _ (if_neg c_8).symm
  exact key_22 ((S 0 0 0).toNatClampNeg) 0 0 0 0 0 _ _ _ (Nat.zero_add _) hL_22 hw (lv_sub hl [6, 7, 5, 4, 3, 2, 1, 0] rfl)

abbrev bw_X10_many : List Cond := .code yX10_many cX10_many 2 (some .int) :: BIG
abbrev rm_X10_many : Room := { frames := 6, cells := 22, slots := 95, locals := 137 }
noncomputable def sp_X10_many (S : (Nat → Nat → Nat → Int32)) (p1 : Int32) : Option (Int32 × (Nat → Nat → Nat → Int32)) := (sp_X10_start S (if (sp_X10_isFrom p1 0 10) = 0 then 1 else 0) 1).bind fun x_2 => (if x_2.1 = 0 then ((sp_X10_count x_2.2 p1).bind fun x_4 => (some ((x_4, x_2.2)))) else (some ((0, x_2.2))))
theorem sf_X10_many {S : (Nat → Nat → Nat → Int32)} {p1 : Int32} {v : Int32 × (Nat → Nat → Nat → Int32)} (h : sp_X10_many S p1 = some v) : SM S v.2 := by
  unfold sp_X10_many at h
  obtain ⟨x_2, hx_2, h⟩ := ob1 h
  by_cases q_5 : x_2.1 = 0
  · have h := (if_pos q_5).symm.trans h
    obtain ⟨x_4, hx_4, h⟩ := ob1 h
    have hz : SM S x_2.2 := (SM.tr (SM.rf S) (sf_X10_start hx_2)); cases h; exact hz
  · have h := (if_neg q_5).symm.trans h
    have hz : SM S x_2.2 := (SM.tr (SM.rf S) (sf_X10_start hx_2)); cases h; exact hz

set_option maxHeartbeats 1000000 in
set_option maxRecDepth 100000 in
theorem ct_X10_many {l : Launch} {D : va_G} {cI cG cJ cO : ClassId} {K0 : Nat → Nat} {A : Nat → Prop} {L : List (Nat × Nat)} {ad : Nat → Nat → Nat} {ce : Nat → Nat → va_E} {cp : Nat → Nat} {S : (Nat → Nat → Nat → Int32)} (hR : MR S L cp) (hI : CI S) (hT : TL 67 L) {p1 : Int32} {v : Int32 × (Nat → Nat → Nat → Int32)} (hE : sp_X10_many S p1 = some v) (sz : Nat) (hA : ∀ q, sz ≤ q → A q) : Met l yX10_many bw_X10_many (rm_X10_many) (kP D (ktys cI cG cJ cO) K0 A L ad (mK cI cO K0 ad cp ce S) sz [.ref (ad 30 0), .int p1]) (kQi D A v.1 L ad (mK cI cO K0 ad cp ce v.2)) 22 95 A := by
  refine Met.ofW (cc := cX10_many) (maxL := 2) (ret := (some .int)) (by decide) rfl ?_
  intro p e s m args below meth c s₁ B hml hv_
  obtain ⟨hav, hsz, hP, hD, hK, hO⟩ := hv_
  have hx := B.exec
  have hb := B.bytes
  have hr := B.returns
  have hts : ∀ w ∈ BIG, w.before args s = true := fun w h => atoms_spec (ws := bw_X10_many) B.pre w (List.mem_cons_of_mem _ h)
  have hown : s.vm.findClass RX10 = some m.cls := findClass_of_methodNamed B.named
  have hlocks := B.notSynchronized
  subst hsz
  have hw := wk.start hP hD
  refine k_start (by rfl) hav (Nat.le_of_ble_eq_true rfl) (fun ls hl => ?_)
  have hl : lv_has ls 2 [(0, .ref (ad 30 0)), (1, .int p1)] := hl
  unfold sp_X10_many at hE
  refine lv_aload_n hx hb dX10_many_0 rfl (lv_at hl 0 rfl) ?_
  refine lv_iload_n hx hb dX10_many_1 rfl (lv_at hl 1 rfl) ?_
  refine lv_iconst (v := 0) hx hb dX10_many_2 (by decide) ?_
  refine lv_bipush (v := 10) hx hb dX10_many_3 (by decide) ?_
  refine k_ci0 hw (k_rS (As := [.int p1, .int 0, .int 10]) (rest := [.ref (ad 30 0)]) ⟨hx, hb, hml, hown, hts⟩ hK hO hw (ct_X10_isFrom p1 0 10 _ (wk.hA hw hA)) (va_cwS 3 hts (gB_S w_ml_X10_47 w_st_X10_isFrom w_in_X10 w_co_X10_isFrom) rfl rfl rfl (by decide +kernel) ⟨Nat.le_of_ble_eq_true rfl, Nat.le_of_ble_eq_true rfl⟩) rfl hl.1 rfl (Nat.le_of_ble_eq_true rfl) dX10_many_5 ⟨(Nat.le_of_ble_eq_true rfl), (Nat.le_of_ble_eq_true rfl)⟩) (fun H locs hw => ?_)
  have hjc_1 : ∀ bc_1 : Int32, bc_1 = (if (sp_X10_isFrom p1 0 10) = 0 then 1 else 0) → W p l e (headSpec bw_X10_many (rm_X10_many)).room s m args below meth c H locs 0 0 (MQ below (kQi D A v.1 L ad (mK cI cO K0 ad cp ce v.2)) args s 22 95 A) (F0 m 16 ls [.int bc_1, .ref (ad 30 0)]) := by
    intro bc_1 hbc_1
    subst hbc_1
    refine lv_iconst (v := 1) hx hb dX10_many_16 (by decide) ?_
    obtain ⟨x_2, hx_2, hE⟩ := ob1 hE
    refine k_ci0 hw (k_rV (f := 30) (o := 0) (As := [.int (if (sp_X10_isFrom p1 0 10) = 0 then 1 else 0), .int 1]) (rest := []) ⟨hx, hb, hml, hown, hts⟩ hK hO hw (ct_X10_start (MR.sm (SM.rf S) hR) (SM.ci (SM.rf S) hI) hx_2 _ (wk.hA hw hA)) (cwV 2 hts (gB_V w_ml_X10_186 w_im_X10_start w_se_X10_start w_in_X10 w_co_X10_start) rfl rfl rfl (by decide +kernel) ⟨Nat.le_of_ble_eq_true rfl, Nat.le_of_ble_eq_true rfl⟩) (hR.1 30 (by decide) (by decide)) mke_30 rfl rfl hl.1 rfl (Nat.le_of_ble_eq_true rfl) dX10_many_17 ⟨(Nat.le_of_ble_eq_true rfl), (Nat.le_of_ble_eq_true rfl)⟩) (fun H locs hw => ?_)
    refine lv_if_eq (tgt := 27) hx hb dX10_many_20 (by decide) (fun c_3 => ?_) (fun c_3 => ?_)
    · have hE := (if_pos c_3).symm.trans hE
      refine lv_aload_n hx hb dX10_many_27 rfl (lv_at hl 0 rfl) ?_
      refine lv_iload_n hx hb dX10_many_28 rfl (lv_at hl 1 rfl) ?_
      obtain ⟨x_4, hx_4, hE⟩ := ob1 hE
      refine k_ci hw (k_rV (f := 30) (o := 0) (As := [.int p1]) (rest := []) ⟨hx, hb, hml, hown, hts⟩ hK hO hw (ct_X10_count (MR.sm (SM.tr (SM.rf S) (sf_X10_start hx_2)) hR) (SM.ci (SM.tr (SM.rf S) (sf_X10_start hx_2)) hI) (TL.le hT (by decide)) hx_4 _ (wk.hA hw hA)) (cwV 1 hts (gB_V w_ml_X10_282 w_im_X10_count w_se_X10_count w_in_X10 w_co_X10_count) rfl rfl rfl (by decide +kernel) ⟨Nat.le_of_ble_eq_true rfl, Nat.le_of_ble_eq_true rfl⟩) (hR.1 30 (by decide) (by decide)) mke_30 rfl rfl hl.1 rfl (Nat.le_of_ble_eq_true rfl) dX10_many_29 ⟨(Nat.le_of_ble_eq_true rfl), (Nat.le_of_ble_eq_true rfl)⟩) (fun H locs hw => ?_)
      exact m_iretE hx hb hr hlocks rfl hw hE (Nat.le_of_ble_eq_true rfl) (Nat.le_of_ble_eq_true rfl) dX10_many_32
    · have hE := (if_neg c_3).symm.trans hE
      refine lv_iconst (v := 0) hx hb dX10_many_23 (by decide) ?_
      refine lv_goto (tgt := 32) hx hb dX10_many_24 (by decide) ?_
      exact m_iretE hx hb hr hlocks rfl hw hE (Nat.le_of_ble_eq_true rfl) (Nat.le_of_ble_eq_true rfl) dX10_many_32
  refine lv_if_ne (tgt := 15) hx hb dX10_many_8 (by decide) (fun c_1 => ?_) (fun c_1 => ?_)
  · refine lv_iconst (v := 0) hx hb dX10_many_15 (by decide) ?_
    exact hjc_1 _ (if_neg c_1).symm
  · refine lv_iconst (v := 1) hx hb dX10_many_11 (by decide) ?_
    refine lv_goto (tgt := 16) hx hb dX10_many_12 (by decide) ?_
    exact hjc_1 _ (if_pos c_1).symm

abbrev bw_X10_meanDays : List Cond := .code yX10_meanDays cX10_meanDays 6 (some .double) :: BIG
abbrev rm_X10_meanDays : Room := { frames := 40, cells := 1, slots := 4, locals := 2170 }
noncomputable def lp_X10_meanDays_17 (S : (Nat → Nat → Nat → Int32)) : Nat → Nat → Int32 → Int32 → Option (Int32 × Int32)
  | 0, i, v1, v2 => some (v1, v2)
  | k + 1, i, v1, v2 => (sp_X10_endOf (up3 S 40 0 0 0) i).bind fun x_4 => (if x_4 = (-1) then (lp_X10_meanDays_17 S k (i + 1) v1 v2) else (lp_X10_meanDays_17 S k (i + 1) (v1 + 1) (v2 + (x_4 - (S 6 i 1)))))
theorem lz_lp_X10_meanDays_17 (S : (Nat → Nat → Nat → Int32)) (i : Nat) (v1 : Int32) (v2 : Int32) : lp_X10_meanDays_17 S 0 i v1 v2 = some (v1, v2) := rfl
theorem ls_lp_X10_meanDays_17 (S : (Nat → Nat → Nat → Int32)) (k i : Nat) (v1 : Int32) (v2 : Int32) : lp_X10_meanDays_17 S (k + 1) i v1 v2 = (sp_X10_endOf (up3 S 40 0 0 0) i).bind fun x_4 => (if x_4 = (-1) then (lp_X10_meanDays_17 S k (i + 1) v1 v2) else (lp_X10_meanDays_17 S k (i + 1) (v1 + 1) (v2 + (x_4 - (S 6 i 1))))) := rfl
noncomputable def sp_X10_meanDays (S : (Nat → Nat → Nat → Int32)) : Option (UInt64 × (Nat → Nat → Nat → Int32)) := obi2 (lp_X10_meanDays_17 S ((S 0 0 0).toNatClampNeg) 0 0 0) (fun w_1 w_2 => (if w_1 = 0 then (some ((FP.dconst0, (up3 S 40 0 0 0)))) else (some ((FP.ddiv (FP.i2d w_2) (FP.i2d w_1), (up3 S 40 0 0 0))))))
theorem sf_X10_meanDays {S : (Nat → Nat → Nat → Int32)} {v : UInt64 × (Nat → Nat → Nat → Int32)} (h : sp_X10_meanDays S = some v) : SM S v.2 := by
  unfold sp_X10_meanDays at h
  obtain ⟨w_1, w_2, hL_17, h⟩ := ob2 h
  by_cases q_6 : w_1 = 0
  · have h := (if_pos q_6).symm.trans h
    have hz : SM S (up3 S 40 0 0 0) := (SM.up rfl (by decide) (SM.rf S)); cases h; exact hz
  · have h := (if_neg q_6).symm.trans h
    have hz : SM S (up3 S 40 0 0 0) := (SM.up rfl (by decide) (SM.rf S)); cases h; exact hz

set_option maxHeartbeats 1000000 in
set_option maxRecDepth 100000 in
theorem ct_X10_meanDays {l : Launch} {D : va_G} {cI cG cJ cO : ClassId} {K0 : Nat → Nat} {A : Nat → Prop} {L : List (Nat × Nat)} {ad : Nat → Nat → Nat} {ce : Nat → Nat → va_E} {cp : Nat → Nat} {S : (Nat → Nat → Nat → Int32)} (hR : MR S L cp) (hI : CI S) (hT : TL 68 L) {v : UInt64 × (Nat → Nat → Nat → Int32)} (hE : sp_X10_meanDays S = some v) (sz : Nat) (hA : ∀ q, sz ≤ q → A q) : MetD lw_cs l yX10_meanDays bw_X10_meanDays (rm_X10_meanDays) (kP D (ktys cI cG cJ cO) K0 A L ad (mK cI cO K0 ad cp ce S) sz [.ref (ad 30 0)]) (va_Qd (fun (r : UInt64) (_ : Unit) => alike64 r v.1 = true) (fun _ t => WE D A L ad (mK cI cO K0 ad cp ce v.2) t) A) 1 4 A := by
  refine MetD.ofW (cc := cX10_meanDays) (maxL := 6) (ret := (some .double)) (by decide) rfl ?_
  intro p e s m args below meth c s₁ B hml hv hd0
  refine W.unbase ?_
  obtain ⟨hav, hsz, hP, hD, hK, hO⟩ := hv
  have hx := B.exec
  have hb := B.bytes
  have hr := B.returns
  have hts : ∀ w ∈ BIG, w.before args s = true := fun w h => atoms_spec (ws := bw_X10_meanDays) B.pre w (List.mem_cons_of_mem _ h)
  have hown : s.vm.findClass RX10 = some m.cls := findClass_of_methodNamed B.named
  have hlocks := B.notSynchronized
  subst hsz
  have hw := wk.start hP hD
  refine k_start (by rfl) hav (Nat.le_of_ble_eq_true rfl) (fun ls hl => ?_)
  have hl : lv_has ls 6 [(0, .ref (ad 30 0))] := hl
  unfold sp_X10_meanDays at hE
  refine lv_aload_n hx hb dX10_meanDays_0 rfl (lv_at hl 0 rfl) ?_
  refine lv_iconst (v := 0) hx hb dX10_meanDays_1 (by decide) ?_
  refine k_put (C := RX10) (T := TX10) (N := 9) (v := .int 0) (ty := .int) hx hb hts inB_X10 tyX10 tyX10_ok nmX10 hown hK hw (hR.1 30 (by decide) (by decide)) mke_30 rfl 0 (by decide) (hts _ w_f_X10_35) (fun _ h9 => h9) rfl (by decide +kernel) rfl rfl (Nat.le_of_ble_eq_true rfl) (mK_thrown (v := 0) rfl) dX10_meanDays_2 (fun H locs hw => ?_)
  refine lv_iconst (v := 0) hx hb dX10_meanDays_5 (by decide) ?_
  refine lv_istore_n (lv' := [(1, .int 0), (0, .ref (ad 30 0))]) hx hb dX10_meanDays_6 rfl hl (by decide) rfl (fun ls hl => ?_)
  refine lv_iconst (v := 0) hx hb dX10_meanDays_7 (by decide) ?_
  refine lv_istore_n (lv' := [(2, .int 0), (1, .int 0), (0, .ref (ad 30 0))]) hx hb dX10_meanDays_8 rfl hl (by decide) rfl (fun ls hl => ?_)
  refine lv_aload_n hx hb dX10_meanDays_9 rfl (lv_at hl 2 rfl) ?_
  refine k_get (C := RX10) (T := TX10) (N := 9) (v := .ref (ad 35 0)) hx hb hts inB_X10 hown hK hw (hR.1 30 (by decide) (by decide)) mke_30 rfl 7 (by decide) (hts _ w_f_X10_32) (fun _ h9 => h9) rfl dX10_meanDays_10 ?_
  refine k_crn hw (k_rV (f := 35) (o := 0) (As := []) (rest := []) ⟨hx, hb, hml, hown, hts⟩ hK hO hw (ct_iter_4 (SM.up rfl (by decide) (SM.rf S)) hR (it := 68) (Or.inr (by decide)) (TL.new hT (by decide) (by decide)) _ (wk.hA hw hA)) (cwV 0 hts (gB_V w_ml_X10_146 w_im_Jx4a65c_iterator_32c93 w_se_Jx4a65c_iterator_32c93 w_in_Jx4a65c w_co_Jx4a65c_iterator_32c93) rfl rfl rfl (by decide +kernel) ⟨Nat.le_of_ble_eq_true rfl, Nat.le_of_ble_eq_true rfl⟩) (hR.1 35 (by decide) (by decide)) (ce_l4 (SM.up rfl (by decide) (SM.rf S))) rfl rfl hl.1 rfl (Nat.le_of_ble_eq_true rfl) dX10_meanDays_13 ⟨(Nat.le_of_ble_eq_true rfl), (Nat.le_of_ble_eq_true rfl)⟩) (fun q H locs hw => ?_)
  have hw := hw.tmp (Or.inr (by decide))
  have hRp := hR.push (i := (68, 0))
  refine lv_astore_n (lv' := [(3, .ref q), (2, .int 0), (1, .int 0), (0, .ref (ad 30 0))]) hx hb dX10_meanDays_16 rfl hl (by decide) rfl (fun ls hl => ?_)
  obtain ⟨w_1, w_2, hL_17, hE⟩ := ob2 hE
  have key_17 : ∀ (k i : Nat) (v1 : Int32) (v2 : Int32) (H : Heap) (locs : List Loc) (ls : Array Slot), i + k = (S 0 0 0).toNatClampNeg → lp_X10_meanDays_17 S k i v1 v2 = some (w_1, w_2) → wk D A (L ++ [(68, 0)]) (upa ad 68 0 q) (mK cI cO K0 (upa ad 68 0 q) cp (up2 ce 68 0 (itc i (S 42 4 0) (ad 35 0))) (up3 S 40 0 0 0)) s.heap H locs → lv_has ls 6 [(0, .ref (ad 30 0)), (1, .int v1), (2, .int v2), (3, .ref q)] → W p l e (headSpec bw_X10_meanDays (rm_X10_meanDays)).room s m args below meth c H locs (0 + 1) (0 + 4) (MQD lw_cs below (va_Qd (fun (r : UInt64) (_ : Unit) => alike64 r v.1 = true) (fun _ t => WE D A L ad (mK cI cO K0 ad cp ce v.2) t) A) args s 1 4 A) (F0 m 17 ls []) := by
    intro k
    induction k with
    | zero =>
      intro i v1 v2 H locs ls hk hV hw hl
      have hV := (lz_lp_X10_meanDays_17 S i v1 v2).symm.trans hV
      obtain ⟨rfl, rfl⟩ := sj2 hV
      refine lv_aload_n hx hb dX10_meanDays_17 rfl (lv_at hl 3 rfl) ?_
      refine k_cFi hw (k_rF (f := 68) (o := 0) (As := []) (rest := []) ⟨hx, hb, hml, hown, hts⟩ hK hO hw (ct_hn_4 (SM.up rfl (by decide) (SM.rf S)) hRp (it := 68) (i := i) (Or.inr (by decide)) (List.mem_append_right _ (List.mem_singleton_self _)) _ (wk.hA hw hA)) (va_cwF 0 hts (gB_F w_ml_X10_150 w_se_it_hasNext w_im_Jx35411_hasNext_aae02 w_in_Jx35411 w_co_Jx35411_hasNext_aae02) rfl rfl rfl hO.2.2.2.1.1 (by decide +kernel) ⟨by decide, by decide⟩) (List.mem_append_right _ (List.mem_singleton_self _)) ((mK_ou (Or.inr (by decide))).trans up2_eq) rfl rfl hl.1 rfl (Nat.le_of_ble_eq_true rfl) dX10_meanDays_18 ⟨(Nat.le_of_ble_eq_true rfl), (Nat.le_of_ble_eq_true rfl)⟩) (fun H locs hw => ?_)
      rw [if_pos (it_z (cn_eq hI.2.2.2.2.1) hk)]
      refine lv_if_eq (tgt := 71) hx hb dX10_meanDays_23 (by decide) (fun _ => ?_) (fun h => absurd (by decide) h)
      have hw := hw.untmp (Or.inr (by decide)) (TL.new hT (by decide) (by decide))
      refine lv_iload_n hx hb dX10_meanDays_71 rfl (lv_at hl 1 rfl) ?_
      refine lv_if_ne (tgt := 79) hx hb dX10_meanDays_72 (by decide) (fun c_3 => ?_) (fun c_3 => ?_)
      · have hE := (if_neg c_3).symm.trans hE
        refine lv_iload_n hx hb dX10_meanDays_79 rfl (lv_at hl 2 rfl) ?_
        refine lv_i2d hx hb dX10_meanDays_80 ?_
        refine lv_iload_n hx hb dX10_meanDays_81 rfl (lv_at hl 1 rfl) ?_
        refine lv_i2d hx hb dX10_meanDays_82 ?_
        refine W.base ?_
        refine lv_ddiv_any hd0 lw_bits hx hb dX10_meanDays_83 (fun rr d1 hal hd1 => ?_)
        exact m_dretE hd1 hx hb hr hlocks hw hE hal (Nat.le_of_ble_eq_true rfl) (Nat.le_of_ble_eq_true rfl) dX10_meanDays_84
      · have hE := (if_pos c_3).symm.trans hE
        refine lv_dconst0 hx hb dX10_meanDays_75 ?_
        refine lv_goto (tgt := 84) hx hb dX10_meanDays_76 (by decide) ?_
        refine W.base ?_
        exact m_dretE hd0 hx hb hr hlocks hw hE (alike64_refl _) (Nat.le_of_ble_eq_true rfl) (Nat.le_of_ble_eq_true rfl) dX10_meanDays_84
    | succ k ih =>
      intro i v1 v2 H locs ls hk hV hw hl
      have hV := (ls_lp_X10_meanDays_17 S k i v1 v2).symm.trans hV
      have hE := hV
      refine lv_aload_n hx hb dX10_meanDays_17 rfl (lv_at hl 3 rfl) ?_
      refine k_cFi hw (k_rF (f := 68) (o := 0) (As := []) (rest := []) ⟨hx, hb, hml, hown, hts⟩ hK hO hw (ct_hn_4 (SM.up rfl (by decide) (SM.rf S)) hRp (it := 68) (i := i) (Or.inr (by decide)) (List.mem_append_right _ (List.mem_singleton_self _)) _ (wk.hA hw hA)) (va_cwF 0 hts (gB_F w_ml_X10_150 w_se_it_hasNext w_im_Jx35411_hasNext_aae02 w_in_Jx35411 w_co_Jx35411_hasNext_aae02) rfl rfl rfl hO.2.2.2.1.1 (by decide +kernel) ⟨by decide, by decide⟩) (List.mem_append_right _ (List.mem_singleton_self _)) ((mK_ou (Or.inr (by decide))).trans up2_eq) rfl rfl hl.1 rfl (Nat.le_of_ble_eq_true rfl) dX10_meanDays_18 ⟨(Nat.le_of_ble_eq_true rfl), (Nat.le_of_ble_eq_true rfl)⟩) (fun H locs hw => ?_)
      rw [if_neg (it_s (cn_eq hI.2.2.2.2.1) hk (cn_lt _))]
      refine lv_if_eq (tgt := 71) hx hb dX10_meanDays_23 (by decide) (fun h => absurd h (by decide)) (fun _ => ?_)
      refine lv_aload_n hx hb dX10_meanDays_26 rfl (lv_at hl 3 rfl) ?_
      refine k_cFr (v := (ad 46 i)) hw (k_rF (f := 68) (o := 0) (As := []) (rest := []) ⟨hx, hb, hml, hown, hts⟩ hK hO hw (ct_nx_4 (SM.up rfl (by decide) (SM.rf S)) hRp hI (it := 68) (i := i) (Or.inr (by decide)) (List.mem_append_right _ (List.mem_singleton_self _)) (lp_l hk) _ (wk.hA hw hA)) (va_cwF 0 hts (gB_F w_ml_X10_156 w_se_it_next w_im_Jx35411_next_0502b w_in_Jx35411 w_co_Jx35411_next_0502b) rfl rfl rfl hO.2.2.2.1.2.1 (by decide +kernel) ⟨by decide, by decide⟩) (List.mem_append_right _ (List.mem_singleton_self _)) ((mK_ou (Or.inr (by decide))).trans up2_eq) rfl rfl hl.1 rfl (Nat.le_of_ble_eq_true rfl) dX10_meanDays_27 ⟨(Nat.le_of_ble_eq_true rfl), (Nat.le_of_ble_eq_true rfl)⟩) (fun H locs hw => ?_)
      refine k_cast (f := 46) (o := i) hx hb hown (hts _ w_cl_X10_64) hK hw (hRp.2.2.2.2.2.2.2 46 _ (by decide) (by decide) (lp_l hk)) mke_46 rfl dX10_meanDays_32 ?_
      refine lv_astore (lv' := [(4, .ref (ad 46 i)), (0, .ref (ad 30 0)), (1, .int v1), (2, .int v2), (3, .ref q)]) hx hb dX10_meanDays_35 hl (by decide) rfl (fun ls hl => ?_)
      refine lv_aload_n hx hb dX10_meanDays_37 rfl (lv_at hl 1 rfl) ?_
      refine lv_aload hx hb dX10_meanDays_38 (lv_at hl 0 rfl) ?_
      obtain ⟨x_4, hx_4, hE⟩ := ob1 hE
      refine k_ci0 hw (k_rV (f := 30) (o := 0) (As := [.ref (ad 46 i)]) (rest := []) ⟨hx, hb, hml, hown, hts⟩ hK hO hw (ct_X10_endOf (MR.sm (SM.up rfl (by decide) (SM.rf S)) hRp) (SM.ci (SM.up rfl (by decide) (SM.rf S)) hI) (by rw [SM.c4 (SM.up rfl (by decide) (SM.rf S))]; exact (lp_l hk)) hx_4 _ (wk.hA hw hA)) (cwV 1 hts (gB_V w_ml_X10_276 w_im_X10_endOf w_se_X10_endOf w_in_X10 w_co_X10_endOf) rfl rfl rfl (by decide +kernel) ⟨Nat.le_of_ble_eq_true rfl, Nat.le_of_ble_eq_true rfl⟩) (hRp.1 30 (by decide) (by decide)) mke_30 rfl rfl hl.1 rfl (Nat.le_of_ble_eq_true rfl) dX10_meanDays_40 ⟨(Nat.le_of_ble_eq_true rfl), (Nat.le_of_ble_eq_true rfl)⟩) (fun H locs hw => ?_)
      refine lv_istore (lv' := [(5, .int x_4), (4, .ref (ad 46 i)), (0, .ref (ad 30 0)), (1, .int v1), (2, .int v2), (3, .ref q)]) hx hb dX10_meanDays_43 hl (by decide) rfl (fun ls hl => ?_)
      refine lv_iload hx hb dX10_meanDays_45 (lv_at hl 0 rfl) ?_
      refine lv_iconst (v := (-1)) hx hb dX10_meanDays_47 (by decide) ?_
      refine lv_icmp_ne (tgt := 54) hx hb dX10_meanDays_48 (by decide) (fun c_5 => ?_) (fun c_5 => ?_)
      · have hE := (if_neg c_5).symm.trans hE
        refine lv_iinc (v := (v1 + 1)) (lv' := [(1, .int (v1 + 1)), (5, .int x_4), (4, .ref (ad 46 i)), (0, .ref (ad 30 0)), (2, .int v2), (3, .ref q)]) hx hb dX10_meanDays_54 hl (k := 3) rfl rfl (by decide) rfl (fun ls hl => ?_)
        refine lv_iload_n hx hb dX10_meanDays_57 rfl (lv_at hl 4 rfl) ?_
        refine lv_iload hx hb dX10_meanDays_58 (lv_at hl 1 rfl) ?_
        refine lv_aload hx hb dX10_meanDays_60 (lv_at hl 2 rfl) ?_
        refine k_get (C := RX6) (T := TX6) (N := 8) (v := .int (S 6 i 1)) hx hb hts inB_X6 hown hK hw (hRp.2.2.2.2.2.2.2 46 _ (by decide) (by decide) (lp_l hk)) mke_46 rfl 1 (by decide) (hts _ w_f_X10_106) (fun _ h9 => h9) rfl dX10_meanDays_62 ?_
        refine lv_isub hx hb dX10_meanDays_65 ?_
        refine lv_iadd hx hb dX10_meanDays_66 ?_
        refine lv_istore_n (lv' := [(2, .int (v2 + (x_4 - (S 6 i 1)))), (1, .int (v1 + 1)), (5, .int x_4), (4, .ref (ad 46 i)), (0, .ref (ad 30 0)), (3, .ref q)]) hx hb dX10_meanDays_67 rfl hl (by decide) rfl (fun ls hl => ?_)
        refine lv_goto (tgt := 17) hx hb dX10_meanDays_68 (by decide) ?_
        exact ih (i + 1) (v1 + 1) (v2 + (x_4 - (S 6 i 1))) _ _ _ (lp_s hk) hE hw (lv_sub hl [4, 1, 0, 5] rfl)
      · have hE := (if_pos c_5).symm.trans hE
        refine lv_goto (tgt := 17) hx hb dX10_meanDays_51 (by decide) ?_
        exact ih (i + 1) v1 v2 _ _ _ (lp_s hk) hE hw (lv_sub hl [2, 3, 4, 5] rfl)
  exact key_17 ((S 0 0 0).toNatClampNeg) 0 0 0 _ _ _ (Nat.zero_add _) hL_17 hw (lv_sub hl [3, 2, 1, 0] rfl)
