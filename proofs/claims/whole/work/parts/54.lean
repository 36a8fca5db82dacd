abbrev bw_X10_fresh : List Cond := .code yX10_fresh cX10_fresh 5 (some .int) :: BIG
abbrev rm_X10_fresh : Room := { frames := 3, cells := 0, slots := 0, locals := 64 }
noncomputable def lp_X10_fresh_18 (S : (Nat → Nat → Nat → Int32)) (j : Nat) (p2 : Int32) : Nat → Nat → Int32 → Option (Int32)
  | 0, i, v3 => some (v3)
  | k + 1, i, v3 => if nI i = p2 then (lp_X10_fresh_18 S j p2 k (i + 1) v3) else (if S 7 0 i = 0 then ((sp_X6_is S j (nI i) 2).bind fun x_5 => (if x_5 = 0 then (lp_X10_fresh_18 S j p2 k (i + 1) v3) else (lp_X10_fresh_18 S j p2 k (i + 1) (v3 &&& ((S 10 0 i) ^^^ (-1)))))) else (lp_X10_fresh_18 S j p2 k (i + 1) v3))
theorem lz_lp_X10_fresh_18 (S : (Nat → Nat → Nat → Int32)) (j : Nat) (p2 : Int32) (i : Nat) (v3 : Int32) : lp_X10_fresh_18 S j p2 0 i v3 = some (v3) := rfl
theorem ls_lp_X10_fresh_18 (S : (Nat → Nat → Nat → Int32)) (j : Nat) (p2 : Int32) (k i : Nat) (v3 : Int32) : lp_X10_fresh_18 S j p2 (k + 1) i v3 = if nI i = p2 then (lp_X10_fresh_18 S j p2 k (i + 1) v3) else (if S 7 0 i = 0 then ((sp_X6_is S j (nI i) 2).bind fun x_5 => (if x_5 = 0 then (lp_X10_fresh_18 S j p2 k (i + 1) v3) else (lp_X10_fresh_18 S j p2 k (i + 1) (v3 &&& ((S 10 0 i) ^^^ (-1)))))) else (lp_X10_fresh_18 S j p2 k (i + 1) v3)) := rfl
noncomputable def sp_X10_fresh (S : (Nat → Nat → Nat → Int32)) (j : Nat) (p2 : Int32) : Option (Int32) := if p2 < 0 ∨ (S 1 0 0).toNatClampNeg ≤ p2.toNatClampNeg then none else ((lp_X10_fresh_18 S j p2 ((S 1 0 0).toNatClampNeg) 0 (S 10 0 p2.toNatClampNeg)).bind (fun w_2 => (some ((sp_J6_bitCount_0f7a4 w_2)))))
set_option maxHeartbeats 1000000 in
set_option maxRecDepth 100000 in
theorem ct_X10_fresh {l : Launch} {D : va_G} {cI cG cJ cO : ClassId} {K0 : Nat → Nat} {A : Nat → Prop} {L : List (Nat × Nat)} {ad : Nat → Nat → Nat} {ce : Nat → Nat → va_E} {cp : Nat → Nat} {S : (Nat → Nat → Nat → Int32)} (hR : MR S L cp) (hI : CI S) {j : Nat} {p2 : Int32} (hj : j < (S 0 0 0).toNatClampNeg) {v : Int32} (hE : sp_X10_fresh S j p2 = some v) (sz : Nat) (hA : ∀ q, sz ≤ q → A q) : Met l yX10_fresh bw_X10_fresh (rm_X10_fresh) (kP D (ktys cI cG cJ cO) K0 A L ad (mK cI cO K0 ad cp ce S) sz [.ref (ad 30 0), .ref (ad 46 j), .int p2]) (kQi D A v L ad (mK cI cO K0 ad cp ce S)) 0 0 A := by
  refine Met.ofW (cc := cX10_fresh) (maxL := 5) (ret := (some .int)) (by decide) rfl ?_
  intro p e s m args below meth c s₁ B hml hv_
  obtain ⟨hav, hsz, hP, hD, hK, hO⟩ := hv_
  have hx := B.exec
  have hb := B.bytes
  have hr := B.returns
  have hts : ∀ w ∈ BIG, w.before args s = true := fun w h => atoms_spec (ws := bw_X10_fresh) B.pre w (List.mem_cons_of_mem _ h)
  have hown : s.vm.findClass RX10 = some m.cls := findClass_of_methodNamed B.named
  have hlocks := B.notSynchronized
  subst hsz
  have hw := wk.start hP hD
  refine k_start (by rfl) hav (Nat.le_of_ble_eq_true rfl) (fun ls hl => ?_)
  have hl : lv_has ls 5 [(0, .ref (ad 30 0)), (1, .ref (ad 46 j)), (2, .int p2)] := hl
  unfold sp_X10_fresh at hE
  refine lv_aload_n hx hb dX10_fresh_0 rfl (lv_at hl 0 rfl) ?_
  refine k_get (C := RX10) (T := TX10) (N := 9) (v := .ref (ad 31 0)) hx hb hts inB_X10 hown hK hw (hR.1 30 (by decide) (by decide)) mke_30 rfl 1 (by decide) (hts _ w_f_X10_10) (fun _ h9 => h9) rfl dX10_fresh_1 ?_
  refine lv_iload_n hx hb dX10_fresh_4 rfl (lv_at hl 2 rfl) ?_
  by_cases c_1 : p2 < 0 ∨ (S 1 0 0).toNatClampNeg ≤ p2.toNatClampNeg
  · exact nomatch (if_pos c_1).symm.trans hE
  have hE := (if_neg c_1).symm.trans hE
  refine k_cr0 (v := (ad 43 p2.toNatClampNeg)) hw (k_rV (f := 31) (o := 0) (As := [.int p2]) (rest := []) ⟨hx, hb, hml, hown, hts⟩ hK hO hw (ct_get_0 (SM.rf S) hR (i := p2.toNatClampNeg) (fun z => c_1 (Or.inl z)) rfl (Nat.not_le.mp fun z => c_1 (Or.inr z)) _ (wk.hA hw hA)) (cwV 1 hts (gB_V w_ml_X10_51 w_im_Jx4a65c_get_915e3 w_se_Jx4a65c_get_915e3 w_in_Jx4a65c w_co_Jx4a65c_get_915e3) rfl rfl rfl (by decide +kernel) ⟨Nat.le_of_ble_eq_true rfl, Nat.le_of_ble_eq_true rfl⟩) (hR.1 31 (by decide) (by decide)) (ce_l0 (SM.rf S)) rfl rfl hl.1 rfl (Nat.le_of_ble_eq_true rfl) dX10_fresh_5 ⟨(Nat.le_of_ble_eq_true rfl), (Nat.le_of_ble_eq_true rfl)⟩) (fun H locs hw => ?_)
  refine k_cast (f := 43) (o := p2.toNatClampNeg) hx hb hown (hts _ w_cl_X10_55) hK hw (hR.2.2.2.1 _ (Nat.not_le.mp fun z => c_1 (Or.inr z))) mke_43 rfl dX10_fresh_8 ?_
  refine k_get (C := RX9) (T := TX9) (N := 4) (v := .int (S 10 0 p2.toNatClampNeg)) hx hb hts inB_X9 hown hK hw (hR.2.2.2.1 _ (Nat.not_le.mp fun z => c_1 (Or.inr z))) mke_43 rfl 3 (by decide) (hts _ w_f_X10_57) (fun _ h9 => h9) rfl dX10_fresh_11 ?_
  refine lv_istore_n (lv' := [(3, .int (S 10 0 p2.toNatClampNeg)), (0, .ref (ad 30 0)), (1, .ref (ad 46 j)), (2, .int p2)]) hx hb dX10_fresh_14 rfl hl (by decide) rfl (fun ls hl => ?_)
  refine lv_iconst (v := 0) hx hb dX10_fresh_15 (by decide) ?_
  refine lv_istore (lv' := [(4, .int 0), (3, .int (S 10 0 p2.toNatClampNeg)), (0, .ref (ad 30 0)), (1, .ref (ad 46 j)), (2, .int p2)]) hx hb dX10_fresh_16 hl (by decide) rfl (fun ls hl => ?_)
  obtain ⟨w_2, hL_18, hE⟩ := ob1 hE
  have key_18 : ∀ (k i : Nat) (v3 : Int32) (H : Heap) (locs : List Loc) (ls : Array Slot), i + k = (S 1 0 0).toNatClampNeg → lp_X10_fresh_18 S j p2 k i v3 = some (w_2) → wk D A (L) ad (mK cI cO K0 ad cp ce S) s.heap H locs → lv_has ls 5 [(0, .ref (ad 30 0)), (1, .ref (ad 46 j)), (2, .int p2), (3, .int v3), (4, .int (nI i))] → W p l e (headSpec bw_X10_fresh (rm_X10_fresh)).room s m args below meth c H locs 0 0 (MQ below (kQi D A v L ad (mK cI cO K0 ad cp ce S)) args s 0 0 A) (F0 m 18 ls []) := by
    intro k
    induction k with
    | zero =>
      intro i v3 H locs ls hk hV hw hl
      have hV := (lz_lp_X10_fresh_18 S j p2 i v3).symm.trans hV
      obtain rfl := (Option.some.inj hV).symm
      refine lv_iload hx hb dX10_fresh_18 (lv_at hl 4 rfl) ?_
      refine lv_aload_n hx hb dX10_fresh_20 rfl (lv_at hl 0 rfl) ?_
      refine k_get (C := RX10) (T := TX10) (N := 9) (v := .ref (ad 31 0)) hx hb hts inB_X10 hown hK hw (hR.1 30 (by decide) (by decide)) mke_30 rfl 1 (by decide) (hts _ w_f_X10_10) (fun _ h9 => h9) rfl dX10_fresh_21 ?_
      refine k_ci0 hw (k_rV (f := 31) (o := 0) (As := []) (rest := [.int (nI i)]) ⟨hx, hb, hml, hown, hts⟩ hK hO hw (ct_size_0 (SM.rf S) hR _ (wk.hA hw hA)) (cwV 0 hts (gB_V w_ml_X10_43 w_im_Jx4a65c_size_8abf5 w_se_Jx4a65c_size_8abf5 w_in_Jx4a65c w_co_Jx4a65c_size_8abf5) rfl rfl rfl (by decide +kernel) ⟨Nat.le_of_ble_eq_true rfl, Nat.le_of_ble_eq_true rfl⟩) (hR.1 31 (by decide) (by decide)) (ce_l0 (SM.rf S)) rfl rfl hl.1 rfl (Nat.le_of_ble_eq_true rfl) dX10_fresh_24 ⟨(Nat.le_of_ble_eq_true rfl), (Nat.le_of_ble_eq_true rfl)⟩) (fun H locs hw => ?_)
      refine lv_icmp_ge (tgt := 90) hx hb dX10_fresh_27 (by decide) (fun _ => ?_) (fun h => absurd (lp_o (cn_eq hI.1.1) hk (cn_lt _)) h)
      refine lv_iload_n hx hb dX10_fresh_90 rfl (lv_at hl 3 rfl) ?_
      refine k_ci0 hw (k_rS (As := [.int w_2]) (rest := []) ⟨hx, hb, hml, hown, hts⟩ hK hO hw (ct_J6_bitCount_0f7a4 w_2 _ (wk.hA hw hA)) (va_cwS 1 hts (gB_S w_ml_X10_69 w_st_J6_bitCount_0f7a4 w_in_J6 w_co_J6_bitCount_0f7a4) rfl rfl rfl (by decide +kernel) ⟨Nat.le_of_ble_eq_true rfl, Nat.le_of_ble_eq_true rfl⟩) rfl hl.1 rfl (Nat.le_of_ble_eq_true rfl) dX10_fresh_91 ⟨(Nat.le_of_ble_eq_true rfl), (Nat.le_of_ble_eq_true rfl)⟩) (fun H locs hw => ?_)
      exact m_iret hx hb hr hlocks rfl hw hE (Nat.le_of_ble_eq_true rfl) (Nat.le_of_ble_eq_true rfl) dX10_fresh_94
    | succ k ih =>
      intro i v3 H locs ls hk hV hw hl
      have hV := (ls_lp_X10_fresh_18 S j p2 k i v3).symm.trans hV
      have hE := hV
      refine lv_iload hx hb dX10_fresh_18 (lv_at hl 4 rfl) ?_
      refine lv_aload_n hx hb dX10_fresh_20 rfl (lv_at hl 0 rfl) ?_
      refine k_get (C := RX10) (T := TX10) (N := 9) (v := .ref (ad 31 0)) hx hb hts inB_X10 hown hK hw (hR.1 30 (by decide) (by decide)) mke_30 rfl 1 (by decide) (hts _ w_f_X10_10) (fun _ h9 => h9) rfl dX10_fresh_21 ?_
      refine k_ci0 hw (k_rV (f := 31) (o := 0) (As := []) (rest := [.int (nI i)]) ⟨hx, hb, hml, hown, hts⟩ hK hO hw (ct_size_0 (SM.rf S) hR _ (wk.hA hw hA)) (cwV 0 hts (gB_V w_ml_X10_43 w_im_Jx4a65c_size_8abf5 w_se_Jx4a65c_size_8abf5 w_in_Jx4a65c w_co_Jx4a65c_size_8abf5) rfl rfl rfl (by decide +kernel) ⟨Nat.le_of_ble_eq_true rfl, Nat.le_of_ble_eq_true rfl⟩) (hR.1 31 (by decide) (by decide)) (ce_l0 (SM.rf S)) rfl rfl hl.1 rfl (Nat.le_of_ble_eq_true rfl) dX10_fresh_24 ⟨(Nat.le_of_ble_eq_true rfl), (Nat.le_of_ble_eq_true rfl)⟩) (fun H locs hw => ?_)
      refine lv_icmp_ge (tgt := 90) hx hb dX10_fresh_27 (by decide) (fun h => absurd h (lp_i (cn_eq hI.1.1) hk (cn_lt _))) (fun _ => ?_)
      refine lv_iload hx hb dX10_fresh_30 (lv_at hl 4 rfl) ?_
      refine lv_iload_n hx hb dX10_fresh_32 rfl (lv_at hl 2 rfl) ?_
      refine lv_icmp_eq (tgt := 84) hx hb dX10_fresh_33 (by decide) (fun c_3 => ?_) (fun c_3 => ?_)
      · have hE := (if_pos c_3).symm.trans hE
        refine lv_iinc (v := (nI (i + 1))) (lv' := [(4, .int (nI (i + 1))), (0, .ref (ad 30 0)), (1, .ref (ad 46 j)), (2, .int p2), (3, .int v3)]) hx hb dX10_fresh_84 hl (k := 4) rfl (nI_1 _) (by decide) rfl (fun ls hl => ?_)
        refine lv_goto (tgt := 18) hx hb dX10_fresh_87 (by decide) ?_
        exact ih (i + 1) v3 _ _ _ (lp_s hk) hE hw (lv_sub hl [1, 2, 3, 4, 0] rfl)
      · have hE := (if_neg c_3).symm.trans hE
        refine lv_aload_n hx hb dX10_fresh_36 rfl (lv_at hl 0 rfl) ?_
        refine k_get (C := RX10) (T := TX10) (N := 9) (v := .ref (ad 31 0)) hx hb hts inB_X10 hown hK hw (hR.1 30 (by decide) (by decide)) mke_30 rfl 1 (by decide) (hts _ w_f_X10_10) (fun _ h9 => h9) rfl dX10_fresh_37 ?_
        refine lv_iload hx hb dX10_fresh_40 (lv_at hl 4 rfl) ?_
        refine k_cr0 (v := (ad 43 i)) hw (k_rV (f := 31) (o := 0) (As := [.int (nI i)]) (rest := []) ⟨hx, hb, hml, hown, hts⟩ hK hO hw (ct_get_0 (SM.rf S) hR (i := i) (nI_nlt (a := i) (b := 0) (Nat.zero_le _) (Nat.lt_trans (show i < (S 1 0 0).toNatClampNeg from (lp_l hk)) (cn_lt _))) (nI_clamp (Nat.lt_trans (show i < (S 1 0 0).toNatClampNeg from (lp_l hk)) (cn_lt _))) (show i < (S 1 0 0).toNatClampNeg from (lp_l hk)) _ (wk.hA hw hA)) (cwV 1 hts (gB_V w_ml_X10_51 w_im_Jx4a65c_get_915e3 w_se_Jx4a65c_get_915e3 w_in_Jx4a65c w_co_Jx4a65c_get_915e3) rfl rfl rfl (by decide +kernel) ⟨Nat.le_of_ble_eq_true rfl, Nat.le_of_ble_eq_true rfl⟩) (hR.1 31 (by decide) (by decide)) (ce_l0 (SM.rf S)) rfl rfl hl.1 rfl (Nat.le_of_ble_eq_true rfl) dX10_fresh_42 ⟨(Nat.le_of_ble_eq_true rfl), (Nat.le_of_ble_eq_true rfl)⟩) (fun H locs hw => ?_)
        refine k_cast (f := 43) (o := i) hx hb hown (hts _ w_cl_X10_55) hK hw (hR.2.2.2.1 _ (show i < (S 1 0 0).toNatClampNeg from (lp_l hk))) mke_43 rfl dX10_fresh_45 ?_
        refine k_get (C := RX9) (T := TX9) (N := 4) (v := .int (S 7 0 i)) hx hb hts inB_X9 hown hK hw (hR.2.2.2.1 _ (show i < (S 1 0 0).toNatClampNeg from (lp_l hk))) mke_43 rfl 0 (by decide) (hts _ w_f_X10_60) (fun _ h9 => h9) rfl dX10_fresh_48 ?_
        refine lv_if_ne (tgt := 84) hx hb dX10_fresh_51 (by decide) (fun c_4 => ?_) (fun c_4 => ?_)
        · have hE := (if_neg c_4).symm.trans hE
          refine lv_iinc (v := (nI (i + 1))) (lv' := [(4, .int (nI (i + 1))), (0, .ref (ad 30 0)), (1, .ref (ad 46 j)), (2, .int p2), (3, .int v3)]) hx hb dX10_fresh_84 hl (k := 4) rfl (nI_1 _) (by decide) rfl (fun ls hl => ?_)
          refine lv_goto (tgt := 18) hx hb dX10_fresh_87 (by decide) ?_
          exact ih (i + 1) v3 _ _ _ (lp_s hk) hE hw (lv_sub hl [1, 2, 3, 4, 0] rfl)
        · have hE := (if_pos c_4).symm.trans hE
          refine lv_aload_n hx hb dX10_fresh_54 rfl (lv_at hl 1 rfl) ?_
          refine lv_iload hx hb dX10_fresh_55 (lv_at hl 4 rfl) ?_
          refine lv_iconst (v := 2) hx hb dX10_fresh_57 (by decide) ?_
          obtain ⟨x_5, hx_5, hE⟩ := ob1 hE
          refine k_ci0 hw (k_rV (f := 46) (o := j) (As := [.int (nI i), .int 2]) (rest := []) ⟨hx, hb, hml, hown, hts⟩ hK hO hw (ct_X6_is (MR.sm (SM.rf S) hR) (SM.ci (SM.rf S) hI) (by rw [SM.c4 (SM.rf S)]; exact hj) hx_5 _ (wk.hA hw hA)) (cwV 2 hts (gB_V w_ml_X10_63 w_im_X6_is w_se_X6_is w_in_X6 w_co_X6_is) rfl rfl rfl (by decide +kernel) ⟨Nat.le_of_ble_eq_true rfl, Nat.le_of_ble_eq_true rfl⟩) (hR.2.2.2.2.2.2.2 46 _ (by decide) (by decide) hj) mke_46 rfl rfl hl.1 rfl (Nat.le_of_ble_eq_true rfl) dX10_fresh_58 ⟨(Nat.le_of_ble_eq_true rfl), (Nat.le_of_ble_eq_true rfl)⟩) (fun H locs hw => ?_)
          refine lv_if_eq (tgt := 84) hx hb dX10_fresh_61 (by decide) (fun c_6 => ?_) (fun c_6 => ?_)
          · have hE := (if_pos c_6).symm.trans hE
            refine lv_iinc (v := (nI (i + 1))) (lv' := [(4, .int (nI (i + 1))), (0, .ref (ad 30 0)), (1, .ref (ad 46 j)), (2, .int p2), (3, .int v3)]) hx hb dX10_fresh_84 hl (k := 4) rfl (nI_1 _) (by decide) rfl (fun ls hl => ?_)
            refine lv_goto (tgt := 18) hx hb dX10_fresh_87 (by decide) ?_
            exact ih (i + 1) v3 _ _ _ (lp_s hk) hE hw (lv_sub hl [1, 2, 3, 4, 0] rfl)
          · have hE := (if_neg c_6).symm.trans hE
            refine lv_iload_n hx hb dX10_fresh_64 rfl (lv_at hl 3 rfl) ?_
            refine lv_aload_n hx hb dX10_fresh_65 rfl (lv_at hl 0 rfl) ?_
            refine k_get (C := RX10) (T := TX10) (N := 9) (v := .ref (ad 31 0)) hx hb hts inB_X10 hown hK hw (hR.1 30 (by decide) (by decide)) mke_30 rfl 1 (by decide) (hts _ w_f_X10_10) (fun _ h9 => h9) rfl dX10_fresh_66 ?_
            refine lv_iload hx hb dX10_fresh_69 (lv_at hl 4 rfl) ?_
            refine k_cr0 (v := (ad 43 i)) hw (k_rV (f := 31) (o := 0) (As := [.int (nI i)]) (rest := [.int v3]) ⟨hx, hb, hml, hown, hts⟩ hK hO hw (ct_get_0 (SM.rf S) hR (i := i) (nI_nlt (a := i) (b := 0) (Nat.zero_le _) (Nat.lt_trans (show i < (S 1 0 0).toNatClampNeg from (lp_l hk)) (cn_lt _))) (nI_clamp (Nat.lt_trans (show i < (S 1 0 0).toNatClampNeg from (lp_l hk)) (cn_lt _))) (show i < (S 1 0 0).toNatClampNeg from (lp_l hk)) _ (wk.hA hw hA)) (cwV 1 hts (gB_V w_ml_X10_51 w_im_Jx4a65c_get_915e3 w_se_Jx4a65c_get_915e3 w_in_Jx4a65c w_co_Jx4a65c_get_915e3) rfl rfl rfl (by decide +kernel) ⟨Nat.le_of_ble_eq_true rfl, Nat.le_of_ble_eq_true rfl⟩) (hR.1 31 (by decide) (by decide)) (ce_l0 (SM.rf S)) rfl rfl hl.1 rfl (Nat.le_of_ble_eq_true rfl) dX10_fresh_71 ⟨(Nat.le_of_ble_eq_true rfl), (Nat.le_of_ble_eq_true rfl)⟩) (fun H locs hw => ?_)
            refine k_cast (f := 43) (o := i) hx hb hown (hts _ w_cl_X10_55) hK hw (hR.2.2.2.1 _ (show i < (S 1 0 0).toNatClampNeg from (lp_l hk))) mke_43 rfl dX10_fresh_74 ?_
            refine k_get (C := RX9) (T := TX9) (N := 4) (v := .int (S 10 0 i)) hx hb hts inB_X9 hown hK hw (hR.2.2.2.1 _ (show i < (S 1 0 0).toNatClampNeg from (lp_l hk))) mke_43 rfl 3 (by decide) (hts _ w_f_X10_57) (fun _ h9 => h9) rfl dX10_fresh_77 ?_
            refine lv_iconst (v := (-1)) hx hb dX10_fresh_80 (by decide) ?_
            refine lv_ixor hx hb dX10_fresh_81 ?_
            refine lv_iand hx hb dX10_fresh_82 ?_
            refine lv_istore_n (lv' := [(3, .int (v3 &&& ((S 10 0 i) ^^^ (-1)))), (0, .ref (ad 30 0)), (1, .ref (ad 46 j)), (2, .int p2), (4, .int (nI i))]) hx hb dX10_fresh_83 rfl hl (by decide) rfl (fun ls hl => ?_)
            refine lv_iinc (v := (nI (i + 1))) (lv' := [(4, .int (nI (i + 1))), (3, .int (v3 &&& ((S 10 0 i) ^^^ (-1)))), (0, .ref (ad 30 0)), (1, .ref (ad 46 j)), (2, .int p2)]) hx hb dX10_fresh_84 hl (k := 4) rfl (nI_1 _) (by decide) rfl (fun ls hl => ?_)
            refine lv_goto (tgt := 18) hx hb dX10_fresh_87 (by decide) ?_
            exact ih (i + 1) (v3 &&& ((S 10 0 i) ^^^ (-1))) _ _ _ (lp_s hk) hE hw (lv_sub hl [2, 3, 4, 1, 0] rfl)
  exact key_18 ((S 1 0 0).toNatClampNeg) 0 (S 10 0 p2.toNatClampNeg) _ _ _ (Nat.zero_add _) hL_18 hw (lv_sub hl [2, 3, 4, 1, 0] rfl)

abbrev bw_X10_length : List Cond := .code yX10_length cX10_length 4 (some .int) :: BIG
abbrev rm_X10_length : Room := { frames := 4, cells := 0, slots := 0, locals := 88 }
noncomputable def sp_X10_length (S : (Nat → Nat → Nat → Int32)) (j : Nat) (p2 : Int32) : Option (Int32) := if p2 < 0 ∨ 12 ≤ p2.toNatClampNeg then none else (if S 24 j p2.toNatClampNeg = 0 then (if p2 < 0 ∨ (S 1 0 0).toNatClampNeg ≤ p2.toNatClampNeg then none else (if S 7 0 p2.toNatClampNeg = 0 then ((sp_X10_fresh S j p2).bind fun x_5 => (some ((S 8 0 p2.toNatClampNeg) + ((x_5 + 1) / 2)))) else (some ((S 8 0 p2.toNatClampNeg) + 0)))) else (some (S 26 j p2.toNatClampNeg)))
set_option maxHeartbeats 1000000 in
set_option maxRecDepth 100000 in
theorem ct_X10_length {l : Launch} {D : va_G} {cI cG cJ cO : ClassId} {K0 : Nat → Nat} {A : Nat → Prop} {L : List (Nat × Nat)} {ad : Nat → Nat → Nat} {ce : Nat → Nat → va_E} {cp : Nat → Nat} {S : (Nat → Nat → Nat → Int32)} (hR : MR S L cp) (hI : CI S) {j : Nat} {p2 : Int32} (hj : j < (S 0 0 0).toNatClampNeg) {v : Int32} (hE : sp_X10_length S j p2 = some v) (sz : Nat) (hA : ∀ q, sz ≤ q → A q) : Met l yX10_length bw_X10_length (rm_X10_length) (kP D (ktys cI cG cJ cO) K0 A L ad (mK cI cO K0 ad cp ce S) sz [.ref (ad 30 0), .ref (ad 46 j), .int p2]) (kQi D A v L ad (mK cI cO K0 ad cp ce S)) 0 0 A := by
  refine Met.ofW (cc := cX10_length) (maxL := 4) (ret := (some .int)) (by decide) rfl ?_
  intro p e s m args below meth c s₁ B hml hv_
  obtain ⟨hav, hsz, hP, hD, hK, hO⟩ := hv_
  have hx := B.exec
  have hb := B.bytes
  have hr := B.returns
  have hts : ∀ w ∈ BIG, w.before args s = true := fun w h => atoms_spec (ws := bw_X10_length) B.pre w (List.mem_cons_of_mem _ h)
  have hown : s.vm.findClass RX10 = some m.cls := findClass_of_methodNamed B.named
  have hlocks := B.notSynchronized
  subst hsz
  have hw := wk.start hP hD
  refine k_start (by rfl) hav (Nat.le_of_ble_eq_true rfl) (fun ls hl => ?_)
  have hl : lv_has ls 4 [(0, .ref (ad 30 0)), (1, .ref (ad 46 j)), (2, .int p2)] := hl
  unfold sp_X10_length at hE
  refine lv_aload_n hx hb dX10_length_0 rfl (lv_at hl 1 rfl) ?_
  refine k_get (C := RX6) (T := TX6) (N := 8) (v := .ref (ad 47 j)) hx hb hts inB_X6 hown hK hw (hR.2.2.2.2.2.2.2 46 _ (by decide) (by decide) hj) mke_46 rfl 2 (by decide) (hts _ w_f_X10_75) (fun _ h9 => h9) rfl dX10_length_1 ?_
  refine lv_iload_n hx hb dX10_length_4 rfl (lv_at hl 2 rfl) ?_
  by_cases c_1 : p2 < 0 ∨ 12 ≤ p2.toNatClampNeg
  · exact nomatch (if_pos c_1).symm.trans hE
  have hE := (if_neg c_1).symm.trans hE
  refine k_aldi hx hb hK hw (hR.2.2.2.2.2.2.2 47 _ (by decide) (by decide) hj) 0 mke_47 rfl (fun z => c_1 (Or.inl z)) rfl (Nat.not_le.mp fun z => c_1 (Or.inr z)) (v := S 24 j p2.toNatClampNeg) rfl dX10_length_5 ?_
  refine lv_if_eq (tgt := 16) hx hb dX10_length_6 (by decide) (fun c_2 => ?_) (fun c_2 => ?_)
  · have hE := (if_pos c_2).symm.trans hE
    refine lv_aload_n hx hb dX10_length_16 rfl (lv_at hl 0 rfl) ?_
    refine k_get (C := RX10) (T := TX10) (N := 9) (v := .ref (ad 31 0)) hx hb hts inB_X10 hown hK hw (hR.1 30 (by decide) (by decide)) mke_30 rfl 1 (by decide) (hts _ w_f_X10_10) (fun _ h9 => h9) rfl dX10_length_17 ?_
    refine lv_iload_n hx hb dX10_length_20 rfl (lv_at hl 2 rfl) ?_
    by_cases c_3 : p2 < 0 ∨ (S 1 0 0).toNatClampNeg ≤ p2.toNatClampNeg
    · exact nomatch (if_pos c_3).symm.trans hE
    have hE := (if_neg c_3).symm.trans hE
    refine k_cr0 (v := (ad 43 p2.toNatClampNeg)) hw (k_rV (f := 31) (o := 0) (As := [.int p2]) (rest := []) ⟨hx, hb, hml, hown, hts⟩ hK hO hw (ct_get_0 (SM.rf S) hR (i := p2.toNatClampNeg) (fun z => c_3 (Or.inl z)) rfl (Nat.not_le.mp fun z => c_3 (Or.inr z)) _ (wk.hA hw hA)) (cwV 1 hts (gB_V w_ml_X10_51 w_im_Jx4a65c_get_915e3 w_se_Jx4a65c_get_915e3 w_in_Jx4a65c w_co_Jx4a65c_get_915e3) rfl rfl rfl (by decide +kernel) ⟨Nat.le_of_ble_eq_true rfl, Nat.le_of_ble_eq_true rfl⟩) (hR.1 31 (by decide) (by decide)) (ce_l0 (SM.rf S)) rfl rfl hl.1 rfl (Nat.le_of_ble_eq_true rfl) dX10_length_21 ⟨(Nat.le_of_ble_eq_true rfl), (Nat.le_of_ble_eq_true rfl)⟩) (fun H locs hw => ?_)
    refine k_cast (f := 43) (o := p2.toNatClampNeg) hx hb hown (hts _ w_cl_X10_55) hK hw (hR.2.2.2.1 _ (Nat.not_le.mp fun z => c_3 (Or.inr z))) mke_43 rfl dX10_length_24 ?_
    refine k_get (C := RX9) (T := TX9) (N := 4) (v := .int (S 7 0 p2.toNatClampNeg)) hx hb hts inB_X9 hown hK hw (hR.2.2.2.1 _ (Nat.not_le.mp fun z => c_3 (Or.inr z))) mke_43 rfl 0 (by decide) (hts _ w_f_X10_60) (fun _ h9 => h9) rfl dX10_length_27 ?_
    refine lv_if_ne (tgt := 46) hx hb dX10_length_30 (by decide) (fun c_4 => ?_) (fun c_4 => ?_)
    · have hE := (if_neg c_4).symm.trans hE
      refine lv_iconst (v := 0) hx hb dX10_length_46 (by decide) ?_
      refine lv_istore_n (lv' := [(3, .int 0), (0, .ref (ad 30 0)), (1, .ref (ad 46 j)), (2, .int p2)]) hx hb dX10_length_47 rfl hl (by decide) rfl (fun ls hl => ?_)
      refine lv_aload_n hx hb dX10_length_48 rfl (lv_at hl 1 rfl) ?_
      refine k_get (C := RX10) (T := TX10) (N := 9) (v := .ref (ad 31 0)) hx hb hts inB_X10 hown hK hw (hR.1 30 (by decide) (by decide)) mke_30 rfl 1 (by decide) (hts _ w_f_X10_10) (fun _ h9 => h9) rfl dX10_length_49 ?_
      refine lv_iload_n hx hb dX10_length_52 rfl (lv_at hl 3 rfl) ?_
      refine k_cr0 (v := (ad 43 p2.toNatClampNeg)) hw (k_rV (f := 31) (o := 0) (As := [.int p2]) (rest := []) ⟨hx, hb, hml, hown, hts⟩ hK hO hw (ct_get_0 (SM.rf S) hR (i := p2.toNatClampNeg) (fun z => c_3 (Or.inl z)) rfl (Nat.not_le.mp fun z => c_3 (Or.inr z)) _ (wk.hA hw hA)) (cwV 1 hts (gB_V w_ml_X10_51 w_im_Jx4a65c_get_915e3 w_se_Jx4a65c_get_915e3 w_in_Jx4a65c w_co_Jx4a65c_get_915e3) rfl rfl rfl (by decide +kernel) ⟨Nat.le_of_ble_eq_true rfl, Nat.le_of_ble_eq_true rfl⟩) (hR.1 31 (by decide) (by decide)) (ce_l0 (SM.rf S)) rfl rfl hl.1 rfl (Nat.le_of_ble_eq_true rfl) dX10_length_53 ⟨(Nat.le_of_ble_eq_true rfl), (Nat.le_of_ble_eq_true rfl)⟩) (fun H locs hw => ?_)
      refine k_cast (f := 43) (o := p2.toNatClampNeg) hx hb hown (hts _ w_cl_X10_55) hK hw (hR.2.2.2.1 _ (Nat.not_le.mp fun z => c_3 (Or.inr z))) mke_43 rfl dX10_length_56 ?_
      refine k_get (C := RX9) (T := TX9) (N := 4) (v := .int (S 8 0 p2.toNatClampNeg)) hx hb hts inB_X9 hown hK hw (hR.2.2.2.1 _ (Nat.not_le.mp fun z => c_3 (Or.inr z))) mke_43 rfl 1 (by decide) (hts _ w_f_X10_85) (fun _ h9 => h9) rfl dX10_length_59 ?_
      refine lv_iload_n hx hb dX10_length_62 rfl (lv_at hl 0 rfl) ?_
      refine lv_iadd hx hb dX10_length_63 ?_
      exact m_iret hx hb hr hlocks rfl hw hE (Nat.le_of_ble_eq_true rfl) (Nat.le_of_ble_eq_true rfl) dX10_length_64
    · have hE := (if_pos c_4).symm.trans hE
      refine lv_aload_n hx hb dX10_length_33 rfl (lv_at hl 0 rfl) ?_
      refine lv_aload_n hx hb dX10_length_34 rfl (lv_at hl 1 rfl) ?_
      refine lv_iload_n hx hb dX10_length_35 rfl (lv_at hl 2 rfl) ?_
      obtain ⟨x_5, hx_5, hE⟩ := ob1 hE
      refine k_ci0 hw (k_rV (f := 30) (o := 0) (As := [.ref (ad 46 j), .int p2]) (rest := []) ⟨hx, hb, hml, hown, hts⟩ hK hO hw (ct_X10_fresh (MR.sm (SM.rf S) hR) (SM.ci (SM.rf S) hI) (by rw [SM.c4 (SM.rf S)]; exact hj) hx_5 _ (wk.hA hw hA)) (cwV 2 hts (gB_V w_ml_X10_81 w_im_X10_fresh w_se_X10_fresh w_in_X10 w_co_X10_fresh) rfl rfl rfl (by decide +kernel) ⟨Nat.le_of_ble_eq_true rfl, Nat.le_of_ble_eq_true rfl⟩) (hR.1 30 (by decide) (by decide)) mke_30 rfl rfl hl.1 rfl (Nat.le_of_ble_eq_true rfl) dX10_length_36 ⟨(Nat.le_of_ble_eq_true rfl), (Nat.le_of_ble_eq_true rfl)⟩) (fun H locs hw => ?_)
      refine lv_iconst (v := 1) hx hb dX10_length_39 (by decide) ?_
      refine lv_iadd hx hb dX10_length_40 ?_
      refine lv_iconst (v := 2) hx hb dX10_length_41 (by decide) ?_
      refine lv_idiv hx hb dX10_length_42 (by decide) ?_
      refine lv_goto (tgt := 47) hx hb dX10_length_43 (by decide) ?_
      refine lv_istore_n (lv' := [(3, .int ((x_5 + 1) / 2)), (0, .ref (ad 30 0)), (1, .ref (ad 46 j)), (2, .int p2)]) hx hb dX10_length_47 rfl hl (by decide) rfl (fun ls hl => ?_)
      refine lv_aload_n hx hb dX10_length_48 rfl (lv_at hl 1 rfl) ?_
      refine k_get (C := RX10) (T := TX10) (N := 9) (v := .ref (ad 31 0)) hx hb hts inB_X10 hown hK hw (hR.1 30 (by decide) (by decide)) mke_30 rfl 1 (by decide) (hts _ w_f_X10_10) (fun _ h9 => h9) rfl dX10_length_49 ?_
      refine lv_iload_n hx hb dX10_length_52 rfl (lv_at hl 3 rfl) ?_
      refine k_cr0 (v := (ad 43 p2.toNatClampNeg)) hw (k_rV (f := 31) (o := 0) (As := [.int p2]) (rest := []) ⟨hx, hb, hml, hown, hts⟩ hK hO hw (ct_get_0 (SM.rf S) hR (i := p2.toNatClampNeg) (fun z => c_3 (Or.inl z)) rfl (Nat.not_le.mp fun z => c_3 (Or.inr z)) _ (wk.hA hw hA)) (cwV 1 hts (gB_V w_ml_X10_51 w_im_Jx4a65c_get_915e3 w_se_Jx4a65c_get_915e3 w_in_Jx4a65c w_co_Jx4a65c_get_915e3) rfl rfl rfl (by decide +kernel) ⟨Nat.le_of_ble_eq_true rfl, Nat.le_of_ble_eq_true rfl⟩) (hR.1 31 (by decide) (by decide)) (ce_l0 (SM.rf S)) rfl rfl hl.1 rfl (Nat.le_of_ble_eq_true rfl) dX10_length_53 ⟨(Nat.le_of_ble_eq_true rfl), (Nat.le_of_ble_eq_true rfl)⟩) (fun H locs hw => ?_)
      refine k_cast (f := 43) (o := p2.toNatClampNeg) hx hb hown (hts _ w_cl_X10_55) hK hw (hR.2.2.2.1 _ (Nat.not_le.mp fun z => c_3 (Or.inr z))) mke_43 rfl dX10_length_56 ?_
      refine k_get (C := RX9) (T := TX9) (N := 4) (v := .int (S 8 0 p2.toNatClampNeg)) hx hb hts inB_X9 hown hK hw (hR.2.2.2.1 _ (Nat.not_le.mp fun z => c_3 (Or.inr z))) mke_43 rfl 1 (by decide) (hts _ w_f_X10_85) (fun _ h9 => h9) rfl dX10_length_59 ?_
      refine lv_iload_n hx hb dX10_length_62 rfl (lv_at hl 0 rfl) ?_
      refine lv_iadd hx hb dX10_length_63 ?_
      exact m_iret hx hb hr hlocks rfl hw hE (Nat.le_of_ble_eq_true rfl) (Nat.le_of_ble_eq_true rfl) dX10_length_64
  · have hE := (if_neg c_2).symm.trans hE
    refine lv_aload_n hx hb dX10_length_9 rfl (lv_at hl 1 rfl) ?_
    refine k_get (C := RX6) (T := TX6) (N := 8) (v := .ref (ad 49 j)) hx hb hts inB_X6 hown hK hw (hR.2.2.2.2.2.2.2 46 _ (by decide) (by decide) hj) mke_46 rfl 4 (by decide) (hts _ w_f_X10_78) (fun _ h9 => h9) rfl dX10_length_10 ?_
    refine lv_iload_n hx hb dX10_length_13 rfl (lv_at hl 2 rfl) ?_
    refine k_aldi hx hb hK hw (hR.2.2.2.2.2.2.2 49 _ (by decide) (by decide) hj) 0 mke_49 rfl (fun z => c_1 (Or.inl z)) rfl (Nat.not_le.mp fun z => c_1 (Or.inr z)) (v := S 26 j p2.toNatClampNeg) rfl dX10_length_14 ?_
    exact m_iret hx hb hr hlocks rfl hw hE (Nat.le_of_ble_eq_true rfl) (Nat.le_of_ble_eq_true rfl) dX10_length_15

abbrev bw_X10_comes : List Cond := .code yX10_comes cX10_comes 5 (some .int) :: BIG
abbrev rm_X10_comes : Room := { frames := 3, cells := 0, slots := 0, locals := 64 }
noncomputable def lp_X10_comes_4 (S : (Nat → Nat → Nat → Int32)) (p1 : Int32) : Nat → Nat → Int32 → Option (Int32)
  | 0, i, v2 => some (v2)
  | k + 1, i, v2 => if S 14 0 i = p1 then (if S 41 0 i = 0 then (if v2 = (-1) then (lp_X10_comes_4 S p1 k (i + 1) (S 16 0 i)) else (if v2 ≤ S 16 0 i then (lp_X10_comes_4 S p1 k (i + 1) v2) else (lp_X10_comes_4 S p1 k (i + 1) (S 16 0 i)))) else (lp_X10_comes_4 S p1 k (i + 1) v2)) else (lp_X10_comes_4 S p1 k (i + 1) v2)
theorem lz_lp_X10_comes_4 (S : (Nat → Nat → Nat → Int32)) (p1 : Int32) (i : Nat) (v2 : Int32) : lp_X10_comes_4 S p1 0 i v2 = some (v2) := rfl
theorem ls_lp_X10_comes_4 (S : (Nat → Nat → Nat → Int32)) (p1 : Int32) (k i : Nat) (v2 : Int32) : lp_X10_comes_4 S p1 (k + 1) i v2 = if S 14 0 i = p1 then (if S 41 0 i = 0 then (if v2 = (-1) then (lp_X10_comes_4 S p1 k (i + 1) (S 16 0 i)) else (if v2 ≤ S 16 0 i then (lp_X10_comes_4 S p1 k (i + 1) v2) else (lp_X10_comes_4 S p1 k (i + 1) (S 16 0 i)))) else (lp_X10_comes_4 S p1 k (i + 1) v2)) else (lp_X10_comes_4 S p1 k (i + 1) v2) := rfl
noncomputable def sp_X10_comes (S : (Nat → Nat → Nat → Int32)) (p1 : Int32) : Option (Int32) := (lp_X10_comes_4 S p1 ((S 2 0 0).toNatClampNeg) 0 (-1)).bind (fun w_1 => (some (w_1)))
set_option maxHeartbeats 1000000 in
set_option maxRecDepth 100000 in
theorem ct_X10_comes {l : Launch} {D : va_G} {cI cG cJ cO : ClassId} {K0 : Nat → Nat} {A : Nat → Prop} {L : List (Nat × Nat)} {ad : Nat → Nat → Nat} {ce : Nat → Nat → va_E} {cp : Nat → Nat} {S : (Nat → Nat → Nat → Int32)} (hR : MR S L cp) (hI : CI S) {p1 : Int32} {v : Int32} (hE : sp_X10_comes S p1 = some v) (sz : Nat) (hA : ∀ q, sz ≤ q → A q) : Met l yX10_comes bw_X10_comes (rm_X10_comes) (kP D (ktys cI cG cJ cO) K0 A L ad (mK cI cO K0 ad cp ce S) sz [.ref (ad 30 0), .int p1]) (kQi D A v L ad (mK cI cO K0 ad cp ce S)) 0 0 A := by
  refine Met.ofW (cc := cX10_comes) (maxL := 5) (ret := (some .int)) (by decide) rfl ?_
  intro p e s m args below meth c s₁ B hml hv_
  obtain ⟨hav, hsz, hP, hD, hK, hO⟩ := hv_
  have hx := B.exec
  have hb := B.bytes
  have hr := B.returns
  have hts : ∀ w ∈ BIG, w.before args s = true := fun w h => atoms_spec (ws := bw_X10_comes) B.pre w (List.mem_cons_of_mem _ h)
  have hown : s.vm.findClass RX10 = some m.cls := findClass_of_methodNamed B.named
  have hlocks := B.notSynchronized
  subst hsz
  have hw := wk.start hP hD
  refine k_start (by rfl) hav (Nat.le_of_ble_eq_true rfl) (fun ls hl => ?_)
  have hl : lv_has ls 5 [(0, .ref (ad 30 0)), (1, .int p1)] := hl
  unfold sp_X10_comes at hE
  refine lv_iconst (v := (-1)) hx hb dX10_comes_0 (by decide) ?_
  refine lv_istore_n (lv' := [(2, .int (-1)), (0, .ref (ad 30 0)), (1, .int p1)]) hx hb dX10_comes_1 rfl hl (by decide) rfl (fun ls hl => ?_)
  refine lv_iconst (v := 0) hx hb dX10_comes_2 (by decide) ?_
  refine lv_istore_n (lv' := [(3, .int 0), (2, .int (-1)), (0, .ref (ad 30 0)), (1, .int p1)]) hx hb dX10_comes_3 rfl hl (by decide) rfl (fun ls hl => ?_)
  obtain ⟨w_1, hL_4, hE⟩ := ob1 hE
  have key_4 : ∀ (k i : Nat) (v2 : Int32) (H : Heap) (locs : List Loc) (ls : Array Slot), i + k = (S 2 0 0).toNatClampNeg → lp_X10_comes_4 S p1 k i v2 = some (w_1) → wk D A (L) ad (mK cI cO K0 ad cp ce S) s.heap H locs → lv_has ls 5 [(0, .ref (ad 30 0)), (1, .int p1), (2, .int v2), (3, .int (nI i))] → W p l e (headSpec bw_X10_comes (rm_X10_comes)).room s m args below meth c H locs 0 0 (MQ below (kQi D A v L ad (mK cI cO K0 ad cp ce S)) args s 0 0 A) (F0 m 4 ls []) := by
    intro k
    induction k with
    | zero =>
      intro i v2 H locs ls hk hV hw hl
      have hV := (lz_lp_X10_comes_4 S p1 i v2).symm.trans hV
      obtain rfl := (Option.some.inj hV).symm
      refine lv_iload_n hx hb dX10_comes_4 rfl (lv_at hl 3 rfl) ?_
      refine lv_aload_n hx hb dX10_comes_5 rfl (lv_at hl 0 rfl) ?_
      refine k_get (C := RX10) (T := TX10) (N := 9) (v := .ref (ad 33 0)) hx hb hts inB_X10 hown hK hw (hR.1 30 (by decide) (by decide)) mke_30 rfl 5 (by decide) (hts _ w_f_X10_26) (fun _ h9 => h9) rfl dX10_comes_6 ?_
      refine k_ci0 hw (k_rV (f := 33) (o := 0) (As := []) (rest := [.int (nI i)]) ⟨hx, hb, hml, hown, hts⟩ hK hO hw (ct_size_2 (SM.rf S) hR _ (wk.hA hw hA)) (cwV 0 hts (gB_V w_ml_X10_43 w_im_Jx4a65c_size_8abf5 w_se_Jx4a65c_size_8abf5 w_in_Jx4a65c w_co_Jx4a65c_size_8abf5) rfl rfl rfl (by decide +kernel) ⟨Nat.le_of_ble_eq_true rfl, Nat.le_of_ble_eq_true rfl⟩) (hR.1 33 (by decide) (by decide)) (ce_l2 (SM.rf S)) rfl rfl hl.1 rfl (Nat.le_of_ble_eq_true rfl) dX10_comes_9 ⟨(Nat.le_of_ble_eq_true rfl), (Nat.le_of_ble_eq_true rfl)⟩) (fun H locs hw => ?_)
      refine lv_icmp_ge (tgt := 71) hx hb dX10_comes_12 (by decide) (fun _ => ?_) (fun h => absurd (lp_o (cn_eq hI.2.2.1.1) hk (cn_lt _)) h)
      refine lv_iload_n hx hb dX10_comes_71 rfl (lv_at hl 2 rfl) ?_
      exact m_iret hx hb hr hlocks rfl hw hE (Nat.le_of_ble_eq_true rfl) (Nat.le_of_ble_eq_true rfl) dX10_comes_72
    | succ k ih =>
      intro i v2 H locs ls hk hV hw hl
      have hV := (ls_lp_X10_comes_4 S p1 k i v2).symm.trans hV
      have hE := hV
      refine lv_iload_n hx hb dX10_comes_4 rfl (lv_at hl 3 rfl) ?_
      refine lv_aload_n hx hb dX10_comes_5 rfl (lv_at hl 0 rfl) ?_
      refine k_get (C := RX10) (T := TX10) (N := 9) (v := .ref (ad 33 0)) hx hb hts inB_X10 hown hK hw (hR.1 30 (by decide) (by decide)) mke_30 rfl 5 (by decide) (hts _ w_f_X10_26) (fun _ h9 => h9) rfl dX10_comes_6 ?_
      refine k_ci0 hw (k_rV (f := 33) (o := 0) (As := []) (rest := [.int (nI i)]) ⟨hx, hb, hml, hown, hts⟩ hK hO hw (ct_size_2 (SM.rf S) hR _ (wk.hA hw hA)) (cwV 0 hts (gB_V w_ml_X10_43 w_im_Jx4a65c_size_8abf5 w_se_Jx4a65c_size_8abf5 w_in_Jx4a65c w_co_Jx4a65c_size_8abf5) rfl rfl rfl (by decide +kernel) ⟨Nat.le_of_ble_eq_true rfl, Nat.le_of_ble_eq_true rfl⟩) (hR.1 33 (by decide) (by decide)) (ce_l2 (SM.rf S)) rfl rfl hl.1 rfl (Nat.le_of_ble_eq_true rfl) dX10_comes_9 ⟨(Nat.le_of_ble_eq_true rfl), (Nat.le_of_ble_eq_true rfl)⟩) (fun H locs hw => ?_)
      refine lv_icmp_ge (tgt := 71) hx hb dX10_comes_12 (by decide) (fun h => absurd h (lp_i (cn_eq hI.2.2.1.1) hk (cn_lt _))) (fun _ => ?_)
      refine lv_aload_n hx hb dX10_comes_15 rfl (lv_at hl 0 rfl) ?_
      refine k_get (C := RX10) (T := TX10) (N := 9) (v := .ref (ad 33 0)) hx hb hts inB_X10 hown hK hw (hR.1 30 (by decide) (by decide)) mke_30 rfl 5 (by decide) (hts _ w_f_X10_26) (fun _ h9 => h9) rfl dX10_comes_16 ?_
      refine lv_iload_n hx hb dX10_comes_19 rfl (lv_at hl 3 rfl) ?_
      refine k_cr0 (v := (ad 44 i)) hw (k_rV (f := 33) (o := 0) (As := [.int (nI i)]) (rest := []) ⟨hx, hb, hml, hown, hts⟩ hK hO hw (ct_get_2 (SM.rf S) hR (i := i) (nI_nlt (a := i) (b := 0) (Nat.zero_le _) (Nat.lt_trans (show i < (S 2 0 0).toNatClampNeg from (lp_l hk)) (cn_lt _))) (nI_clamp (Nat.lt_trans (show i < (S 2 0 0).toNatClampNeg from (lp_l hk)) (cn_lt _))) (show i < (S 2 0 0).toNatClampNeg from (lp_l hk)) _ (wk.hA hw hA)) (cwV 1 hts (gB_V w_ml_X10_51 w_im_Jx4a65c_get_915e3 w_se_Jx4a65c_get_915e3 w_in_Jx4a65c w_co_Jx4a65c_get_915e3) rfl rfl rfl (by decide +kernel) ⟨Nat.le_of_ble_eq_true rfl, Nat.le_of_ble_eq_true rfl⟩) (hR.1 33 (by decide) (by decide)) (ce_l2 (SM.rf S)) rfl rfl hl.1 rfl (Nat.le_of_ble_eq_true rfl) dX10_comes_20 ⟨(Nat.le_of_ble_eq_true rfl), (Nat.le_of_ble_eq_true rfl)⟩) (fun H locs hw => ?_)
      refine k_cast (f := 44) (o := i) hx hb hown (hts _ w_cl_X10_88) hK hw (hR.2.2.2.2.2.1 _ (show i < (S 2 0 0).toNatClampNeg from (lp_l hk))) mke_44 rfl dX10_comes_23 ?_
      refine lv_astore (lv' := [(4, .ref (ad 44 i)), (0, .ref (ad 30 0)), (1, .int p1), (2, .int v2), (3, .int (nI i))]) hx hb dX10_comes_26 hl (by decide) rfl (fun ls hl => ?_)
      refine lv_aload hx hb dX10_comes_28 (lv_at hl 0 rfl) ?_
      refine k_get (C := RX7) (T := TX7) (N := 4) (v := .int (S 14 0 i)) hx hb hts inB_X7 hown hK hw (hR.2.2.2.2.2.1 _ (show i < (S 2 0 0).toNatClampNeg from (lp_l hk))) mke_44 rfl 0 (by decide) (hts _ w_f_X10_90) (fun _ h9 => h9) rfl dX10_comes_30 ?_
      refine lv_iload_n hx hb dX10_comes_33 rfl (lv_at hl 2 rfl) ?_
      refine lv_icmp_ne (tgt := 65) hx hb dX10_comes_34 (by decide) (fun c_2 => ?_) (fun c_2 => ?_)
      · have hE := (if_neg c_2).symm.trans hE
        refine lv_iinc (v := (nI (i + 1))) (lv' := [(3, .int (nI (i + 1))), (4, .ref (ad 44 i)), (0, .ref (ad 30 0)), (1, .int p1), (2, .int v2)]) hx hb dX10_comes_65 hl (k := 4) rfl (nI_1 _) (by decide) rfl (fun ls hl => ?_)
        refine lv_goto (tgt := 4) hx hb dX10_comes_68 (by decide) ?_
        exact ih (i + 1) v2 _ _ _ (lp_s hk) hE hw (lv_sub hl [2, 3, 4, 0] rfl)
      · have hE := (if_pos c_2).symm.trans hE
        refine lv_aload hx hb dX10_comes_37 (lv_at hl 0 rfl) ?_
        refine k_get (C := RX7) (T := TX7) (N := 4) (v := .int (S 41 0 i)) hx hb hts inB_X7 hown hK hw (hR.2.2.2.2.2.1 _ (show i < (S 2 0 0).toNatClampNeg from (lp_l hk))) mke_44 rfl 3 (by decide) (hts _ w_f_X10_93) (fun _ h9 => h9) rfl dX10_comes_39 ?_
        refine lv_if_ne (tgt := 65) hx hb dX10_comes_42 (by decide) (fun c_3 => ?_) (fun c_3 => ?_)
        · have hE := (if_neg c_3).symm.trans hE
          refine lv_iinc (v := (nI (i + 1))) (lv' := [(3, .int (nI (i + 1))), (4, .ref (ad 44 i)), (0, .ref (ad 30 0)), (1, .int p1), (2, .int v2)]) hx hb dX10_comes_65 hl (k := 4) rfl (nI_1 _) (by decide) rfl (fun ls hl => ?_)
          refine lv_goto (tgt := 4) hx hb dX10_comes_68 (by decide) ?_
          exact ih (i + 1) v2 _ _ _ (lp_s hk) hE hw (lv_sub hl [2, 3, 4, 0] rfl)
        · have hE := (if_pos c_3).symm.trans hE
          refine lv_iload_n hx hb dX10_comes_45 rfl (lv_at hl 3 rfl) ?_
          refine lv_iconst (v := (-1)) hx hb dX10_comes_46 (by decide) ?_
          refine lv_icmp_eq (tgt := 59) hx hb dX10_comes_47 (by decide) (fun c_4 => ?_) (fun c_4 => ?_)
          · have hE := (if_pos c_4).symm.trans hE
            refine lv_aload hx hb dX10_comes_59 (lv_at hl 0 rfl) ?_
            refine k_get (C := RX7) (T := TX7) (N := 4) (v := .int (S 16 0 i)) hx hb hts inB_X7 hown hK hw (hR.2.2.2.2.2.1 _ (show i < (S 2 0 0).toNatClampNeg from (lp_l hk))) mke_44 rfl 2 (by decide) (hts _ w_f_X10_97) (fun _ h9 => h9) rfl dX10_comes_61 ?_
            refine lv_istore_n (lv' := [(2, .int (S 16 0 i)), (4, .ref (ad 44 i)), (0, .ref (ad 30 0)), (1, .int p1), (3, .int (nI i))]) hx hb dX10_comes_64 rfl hl (by decide) rfl (fun ls hl => ?_)
            refine lv_iinc (v := (nI (i + 1))) (lv' := [(3, .int (nI (i + 1))), (2, .int (S 16 0 i)), (4, .ref (ad 44 i)), (0, .ref (ad 30 0)), (1, .int p1)]) hx hb dX10_comes_65 hl (k := 4) rfl (nI_1 _) (by decide) rfl (fun ls hl => ?_)
            refine lv_goto (tgt := 4) hx hb dX10_comes_68 (by decide) ?_
            exact ih (i + 1) (S 16 0 i) _ _ _ (lp_s hk) hE hw (lv_sub hl [3, 4, 1, 0] rfl)
          · have hE := (if_neg c_4).symm.trans hE
            refine lv_aload hx hb dX10_comes_50 (lv_at hl 0 rfl) ?_
            refine k_get (C := RX7) (T := TX7) (N := 4) (v := .int (S 16 0 i)) hx hb hts inB_X7 hown hK hw (hR.2.2.2.2.2.1 _ (show i < (S 2 0 0).toNatClampNeg from (lp_l hk))) mke_44 rfl 2 (by decide) (hts _ w_f_X10_97) (fun _ h9 => h9) rfl dX10_comes_52 ?_
            refine lv_iload_n hx hb dX10_comes_55 rfl (lv_at hl 3 rfl) ?_
            refine lv_icmp_ge (tgt := 65) hx hb dX10_comes_56 (by decide) (fun c_5 => ?_) (fun c_5 => ?_)
            · have hE := (if_pos c_5).symm.trans hE
              refine lv_iinc (v := (nI (i + 1))) (lv' := [(3, .int (nI (i + 1))), (4, .ref (ad 44 i)), (0, .ref (ad 30 0)), (1, .int p1), (2, .int v2)]) hx hb dX10_comes_65 hl (k := 4) rfl (nI_1 _) (by decide) rfl (fun ls hl => ?_)
              refine lv_goto (tgt := 4) hx hb dX10_comes_68 (by decide) ?_
              exact ih (i + 1) v2 _ _ _ (lp_s hk) hE hw (lv_sub hl [2, 3, 4, 0] rfl)
            · have hE := (if_neg c_5).symm.trans hE
              refine lv_aload hx hb dX10_comes_59 (lv_at hl 0 rfl) ?_
              refine k_get (C := RX7) (T := TX7) (N := 4) (v := .int (S 16 0 i)) hx hb hts inB_X7 hown hK hw (hR.2.2.2.2.2.1 _ (show i < (S 2 0 0).toNatClampNeg from (lp_l hk))) mke_44 rfl 2 (by decide) (hts _ w_f_X10_97) (fun _ h9 => h9) rfl dX10_comes_61 ?_
              refine lv_istore_n (lv' := [(2, .int (S 16 0 i)), (4, .ref (ad 44 i)), (0, .ref (ad 30 0)), (1, .int p1), (3, .int (nI i))]) hx hb dX10_comes_64 rfl hl (by decide) rfl (fun ls hl => ?_)
              refine lv_iinc (v := (nI (i + 1))) (lv' := [(3, .int (nI (i + 1))), (2, .int (S 16 0 i)), (4, .ref (ad 44 i)), (0, .ref (ad 30 0)), (1, .int p1)]) hx hb dX10_comes_65 hl (k := 4) rfl (nI_1 _) (by decide) rfl (fun ls hl => ?_)
              refine lv_goto (tgt := 4) hx hb dX10_comes_68 (by decide) ?_
              exact ih (i + 1) (S 16 0 i) _ _ _ (lp_s hk) hE hw (lv_sub hl [3, 4, 1, 0] rfl)
  exact key_4 ((S 2 0 0).toNatClampNeg) 0 (-1) _ _ _ (Nat.zero_add _) hL_4 hw (lv_sub hl [2, 3, 1, 0] rfl)

abbrev bw_X10_rightsOf : List Cond := .code yX10_rightsOf cX10_rightsOf 4 (some .int) :: BIG
abbrev rm_X10_rightsOf : Room := { frames := 4, cells := 0, slots := 0, locals := 86 }
noncomputable def lp_X10_rightsOf_4 (S : (Nat → Nat → Nat → Int32)) (j : Nat) : Nat → Nat → Int32 → Option (Int32)
  | 0, i, v2 => some (v2)
  | k + 1, i, v2 => (sp_X6_hasAll S j (S 12 0 i)).bind fun x_2 => (if x_2 = 0 then (lp_X10_rightsOf_4 S j k (i + 1) (v2 ||| 0)) else (lp_X10_rightsOf_4 S j k (i + 1) (v2 ||| ((1 : Int32) <<< ((nI i) &&& 31)))))
theorem lz_lp_X10_rightsOf_4 (S : (Nat → Nat → Nat → Int32)) (j : Nat) (i : Nat) (v2 : Int32) : lp_X10_rightsOf_4 S j 0 i v2 = some (v2) := rfl
theorem ls_lp_X10_rightsOf_4 (S : (Nat → Nat → Nat → Int32)) (j : Nat) (k i : Nat) (v2 : Int32) : lp_X10_rightsOf_4 S j (k + 1) i v2 = (sp_X6_hasAll S j (S 12 0 i)).bind fun x_2 => (if x_2 = 0 then (lp_X10_rightsOf_4 S j k (i + 1) (v2 ||| 0)) else (lp_X10_rightsOf_4 S j k (i + 1) (v2 ||| ((1 : Int32) <<< ((nI i) &&& 31))))) := rfl
noncomputable def sp_X10_rightsOf (S : (Nat → Nat → Nat → Int32)) (j : Nat) : Option (Int32) := (lp_X10_rightsOf_4 S j ((S 1 0 1).toNatClampNeg) 0 0).bind (fun w_1 => (some (w_1)))
set_option maxHeartbeats 1000000 in
set_option maxRecDepth 100000 in
theorem ct_X10_rightsOf {l : Launch} {D : va_G} {cI cG cJ cO : ClassId} {K0 : Nat → Nat} {A : Nat → Prop} {L : List (Nat × Nat)} {ad : Nat → Nat → Nat} {ce : Nat → Nat → va_E} {cp : Nat → Nat} {S : (Nat → Nat → Nat → Int32)} (hR : MR S L cp) (hI : CI S) {j : Nat} (hj : j < (S 0 0 0).toNatClampNeg) {v : Int32} (hE : sp_X10_rightsOf S j = some v) (sz : Nat) (hA : ∀ q, sz ≤ q → A q) : Met l yX10_rightsOf bw_X10_rightsOf (rm_X10_rightsOf) (kP D (ktys cI cG cJ cO) K0 A L ad (mK cI cO K0 ad cp ce S) sz [.ref (ad 30 0), .ref (ad 46 j)]) (kQi D A v L ad (mK cI cO K0 ad cp ce S)) 0 0 A := by
  refine Met.ofW (cc := cX10_rightsOf) (maxL := 4) (ret := (some .int)) (by decide) rfl ?_
  intro p e s m args below meth c s₁ B hml hv_
  obtain ⟨hav, hsz, hP, hD, hK, hO⟩ := hv_
  have hx := B.exec
  have hb := B.bytes
  have hr := B.returns
  have hts : ∀ w ∈ BIG, w.before args s = true := fun w h => atoms_spec (ws := bw_X10_rightsOf) B.pre w (List.mem_cons_of_mem _ h)
  have hown : s.vm.findClass RX10 = some m.cls := findClass_of_methodNamed B.named
  have hlocks := B.notSynchronized
  subst hsz
  have hw := wk.start hP hD
  refine k_start (by rfl) hav (Nat.le_of_ble_eq_true rfl) (fun ls hl => ?_)
  have hl : lv_has ls 4 [(0, .ref (ad 30 0)), (1, .ref (ad 46 j))] := hl
  unfold sp_X10_rightsOf at hE
  refine lv_iconst (v := 0) hx hb dX10_rightsOf_0 (by decide) ?_
  refine lv_istore_n (lv' := [(2, .int 0), (0, .ref (ad 30 0)), (1, .ref (ad 46 j))]) hx hb dX10_rightsOf_1 rfl hl (by decide) rfl (fun ls hl => ?_)
  refine lv_iconst (v := 0) hx hb dX10_rightsOf_2 (by decide) ?_
  refine lv_istore_n (lv' := [(3, .int 0), (2, .int 0), (0, .ref (ad 30 0)), (1, .ref (ad 46 j))]) hx hb dX10_rightsOf_3 rfl hl (by decide) rfl (fun ls hl => ?_)
  obtain ⟨w_1, hL_4, hE⟩ := ob1 hE
  have key_4 : ∀ (k i : Nat) (v2 : Int32) (H : Heap) (locs : List Loc) (ls : Array Slot), i + k = (S 1 0 1).toNatClampNeg → lp_X10_rightsOf_4 S j k i v2 = some (w_1) → wk D A (L) ad (mK cI cO K0 ad cp ce S) s.heap H locs → lv_has ls 4 [(0, .ref (ad 30 0)), (1, .ref (ad 46 j)), (2, .int v2), (3, .int (nI i))] → W p l e (headSpec bw_X10_rightsOf (rm_X10_rightsOf)).room s m args below meth c H locs 0 0 (MQ below (kQi D A v L ad (mK cI cO K0 ad cp ce S)) args s 0 0 A) (F0 m 4 ls []) := by
    intro k
    induction k with
    | zero =>
      intro i v2 H locs ls hk hV hw hl
      have hV := (lz_lp_X10_rightsOf_4 S j i v2).symm.trans hV
      obtain rfl := (Option.some.inj hV).symm
      refine lv_iload_n hx hb dX10_rightsOf_4 rfl (lv_at hl 3 rfl) ?_
      refine lv_aload_n hx hb dX10_rightsOf_5 rfl (lv_at hl 0 rfl) ?_
      refine k_get (C := RX10) (T := TX10) (N := 9) (v := .ref (ad 32 0)) hx hb hts inB_X10 hown hK hw (hR.1 30 (by decide) (by decide)) mke_30 rfl 3 (by decide) (hts _ w_f_X10_20) (fun _ h9 => h9) rfl dX10_rightsOf_6 ?_
      refine k_ci0 hw (k_rV (f := 32) (o := 0) (As := []) (rest := [.int (nI i)]) ⟨hx, hb, hml, hown, hts⟩ hK hO hw (ct_size_1 (SM.rf S) hR _ (wk.hA hw hA)) (cwV 0 hts (gB_V w_ml_X10_43 w_im_Jx4a65c_size_8abf5 w_se_Jx4a65c_size_8abf5 w_in_Jx4a65c w_co_Jx4a65c_size_8abf5) rfl rfl rfl (by decide +kernel) ⟨Nat.le_of_ble_eq_true rfl, Nat.le_of_ble_eq_true rfl⟩) (hR.1 32 (by decide) (by decide)) (ce_l1 (SM.rf S)) rfl rfl hl.1 rfl (Nat.le_of_ble_eq_true rfl) dX10_rightsOf_9 ⟨(Nat.le_of_ble_eq_true rfl), (Nat.le_of_ble_eq_true rfl)⟩) (fun H locs hw => ?_)
      refine lv_icmp_ge (tgt := 52) hx hb dX10_rightsOf_12 (by decide) (fun _ => ?_) (fun h => absurd (lp_o (cn_eq hI.2.1.1) hk (cn_lt _)) h)
      refine lv_iload_n hx hb dX10_rightsOf_52 rfl (lv_at hl 2 rfl) ?_
      exact m_iret hx hb hr hlocks rfl hw hE (Nat.le_of_ble_eq_true rfl) (Nat.le_of_ble_eq_true rfl) dX10_rightsOf_53
    | succ k ih =>
      intro i v2 H locs ls hk hV hw hl
      have hV := (ls_lp_X10_rightsOf_4 S j k i v2).symm.trans hV
      have hE := hV
      refine lv_iload_n hx hb dX10_rightsOf_4 rfl (lv_at hl 3 rfl) ?_
      refine lv_aload_n hx hb dX10_rightsOf_5 rfl (lv_at hl 0 rfl) ?_
      refine k_get (C := RX10) (T := TX10) (N := 9) (v := .ref (ad 32 0)) hx hb hts inB_X10 hown hK hw (hR.1 30 (by decide) (by decide)) mke_30 rfl 3 (by decide) (hts _ w_f_X10_20) (fun _ h9 => h9) rfl dX10_rightsOf_6 ?_
      refine k_ci0 hw (k_rV (f := 32) (o := 0) (As := []) (rest := [.int (nI i)]) ⟨hx, hb, hml, hown, hts⟩ hK hO hw (ct_size_1 (SM.rf S) hR _ (wk.hA hw hA)) (cwV 0 hts (gB_V w_ml_X10_43 w_im_Jx4a65c_size_8abf5 w_se_Jx4a65c_size_8abf5 w_in_Jx4a65c w_co_Jx4a65c_size_8abf5) rfl rfl rfl (by decide +kernel) ⟨Nat.le_of_ble_eq_true rfl, Nat.le_of_ble_eq_true rfl⟩) (hR.1 32 (by decide) (by decide)) (ce_l1 (SM.rf S)) rfl rfl hl.1 rfl (Nat.le_of_ble_eq_true rfl) dX10_rightsOf_9 ⟨(Nat.le_of_ble_eq_true rfl), (Nat.le_of_ble_eq_true rfl)⟩) (fun H locs hw => ?_)
      refine lv_icmp_ge (tgt := 52) hx hb dX10_rightsOf_12 (by decide) (fun h => absurd h (lp_i (cn_eq hI.2.1.1) hk (cn_lt _))) (fun _ => ?_)
      refine lv_iload_n hx hb dX10_rightsOf_15 rfl (lv_at hl 2 rfl) ?_
      refine lv_aload_n hx hb dX10_rightsOf_16 rfl (lv_at hl 1 rfl) ?_
      refine lv_aload_n hx hb dX10_rightsOf_17 rfl (lv_at hl 0 rfl) ?_
      refine k_get (C := RX10) (T := TX10) (N := 9) (v := .ref (ad 32 0)) hx hb hts inB_X10 hown hK hw (hR.1 30 (by decide) (by decide)) mke_30 rfl 3 (by decide) (hts _ w_f_X10_20) (fun _ h9 => h9) rfl dX10_rightsOf_18 ?_
      refine lv_iload_n hx hb dX10_rightsOf_21 rfl (lv_at hl 3 rfl) ?_
      refine k_cr0 (v := (mel K0 ad S 1 i)) hw (k_rV (f := 32) (o := 0) (As := [.int (nI i)]) (rest := [.ref (ad 46 j), .int v2]) ⟨hx, hb, hml, hown, hts⟩ hK hO hw (ct_get_1 (SM.rf S) hR (i := i) (nI_nlt (a := i) (b := 0) (Nat.zero_le _) (Nat.lt_trans (show i < (S 1 0 1).toNatClampNeg from (lp_l hk)) (cn_lt _))) (nI_clamp (Nat.lt_trans (show i < (S 1 0 1).toNatClampNeg from (lp_l hk)) (cn_lt _))) (show i < (S 1 0 1).toNatClampNeg from (lp_l hk)) _ (wk.hA hw hA)) (cwV 1 hts (gB_V w_ml_X10_51 w_im_Jx4a65c_get_915e3 w_se_Jx4a65c_get_915e3 w_in_Jx4a65c w_co_Jx4a65c_get_915e3) rfl rfl rfl (by decide +kernel) ⟨Nat.le_of_ble_eq_true rfl, Nat.le_of_ble_eq_true rfl⟩) (hR.1 32 (by decide) (by decide)) (ce_l1 (SM.rf S)) rfl rfl hl.1 rfl (Nat.le_of_ble_eq_true rfl) dX10_rightsOf_22 ⟨(Nat.le_of_ble_eq_true rfl), (Nat.le_of_ble_eq_true rfl)⟩) (fun H locs hw => ?_)
      refine va_castE hx hb hown (hts _ w_cl_X10_70) (wk.box (SM.rf S) hR hK hO hw (show i < (S 1 0 1).toNatClampNeg from (lp_l hk))) dX10_rightsOf_25 ?_
      refine k_ci0 hw (k_rVb (As := []) (rest := [.ref (ad 46 j), .int v2]) ⟨hx, hb, hml, hown, hts⟩ hK hO hw (ct_int (SM.rf S) hR (show i < (S 1 0 1).toNatClampNeg from (lp_l hk)) _ (wk.hA hw hA)) (cwV 0 hts (gB_V w_ml_X10_266 w_im_J6_intValue_8abf5 w_se_J6_intValue_8abf5 w_in_J6 w_co_J6_intValue_8abf5) rfl rfl rfl (by decide +kernel) ⟨by decide, by decide⟩) (wk.box (SM.rf S) hR hK hO hw (show i < (S 1 0 1).toNatClampNeg from (lp_l hk))) rfl hl.1 rfl (Nat.le_of_ble_eq_true rfl) dX10_rightsOf_28 ⟨(Nat.le_of_ble_eq_true rfl), (Nat.le_of_ble_eq_true rfl)⟩) (fun H locs hw => ?_)
      obtain ⟨x_2, hx_2, hE⟩ := ob1 hE
      refine k_ci0 hw (k_rV (f := 46) (o := j) (As := [.int (S 12 0 i)]) (rest := [.int v2]) ⟨hx, hb, hml, hown, hts⟩ hK hO hw (ct_X6_hasAll (MR.sm (SM.rf S) hR) (SM.ci (SM.rf S) hI) (by rw [SM.c4 (SM.rf S)]; exact hj) hx_2 _ (wk.hA hw hA)) (cwV 1 hts (gB_V w_ml_X10_269 w_im_X6_hasAll w_se_X6_hasAll w_in_X6 w_co_X6_hasAll) rfl rfl rfl (by decide +kernel) ⟨Nat.le_of_ble_eq_true rfl, Nat.le_of_ble_eq_true rfl⟩) (hR.2.2.2.2.2.2.2 46 _ (by decide) (by decide) hj) mke_46 rfl rfl hl.1 rfl (Nat.le_of_ble_eq_true rfl) dX10_rightsOf_31 ⟨(Nat.le_of_ble_eq_true rfl), (Nat.le_of_ble_eq_true rfl)⟩) (fun H locs hw => ?_)
      refine lv_if_eq (tgt := 43) hx hb dX10_rightsOf_34 (by decide) (fun c_3 => ?_) (fun c_3 => ?_)
      · have hE := (if_pos c_3).symm.trans hE
        refine lv_iconst (v := 0) hx hb dX10_rightsOf_43 (by decide) ?_
        refine lv_ior hx hb dX10_rightsOf_44 ?_
        refine lv_istore_n (lv' := [(2, .int (v2 ||| 0)), (0, .ref (ad 30 0)), (1, .ref (ad 46 j)), (3, .int (nI i))]) hx hb dX10_rightsOf_45 rfl hl (by decide) rfl (fun ls hl => ?_)
        refine lv_iinc (v := (nI (i + 1))) (lv' := [(3, .int (nI (i + 1))), (2, .int (v2 ||| 0)), (0, .ref (ad 30 0)), (1, .ref (ad 46 j))]) hx hb dX10_rightsOf_46 hl (k := 3) rfl (nI_1 _) (by decide) rfl (fun ls hl => ?_)
        refine lv_goto (tgt := 4) hx hb dX10_rightsOf_49 (by decide) ?_
        exact ih (i + 1) (v2 ||| 0) _ _ _ (lp_s hk) hE hw (lv_sub hl [2, 3, 1, 0] rfl)
      · have hE := (if_neg c_3).symm.trans hE
        refine lv_iconst (v := 1) hx hb dX10_rightsOf_37 (by decide) ?_
        refine lv_iload_n hx hb dX10_rightsOf_38 rfl (lv_at hl 3 rfl) ?_
        refine lv_ishl hx hb dX10_rightsOf_39 ?_
        refine lv_goto (tgt := 44) hx hb dX10_rightsOf_40 (by decide) ?_
        refine lv_ior hx hb dX10_rightsOf_44 ?_
        refine lv_istore_n (lv' := [(2, .int (v2 ||| ((1 : Int32) <<< ((nI i) &&& 31)))), (0, .ref (ad 30 0)), (1, .ref (ad 46 j)), (3, .int (nI i))]) hx hb dX10_rightsOf_45 rfl hl (by decide) rfl (fun ls hl => ?_)
        refine lv_iinc (v := (nI (i + 1))) (lv' := [(3, .int (nI (i + 1))), (2, .int (v2 ||| ((1 : Int32) <<< ((nI i) &&& 31)))), (0, .ref (ad 30 0)), (1, .ref (ad 46 j))]) hx hb dX10_rightsOf_46 hl (k := 3) rfl (nI_1 _) (by decide) rfl (fun ls hl => ?_)
        refine lv_goto (tgt := 4) hx hb dX10_rightsOf_49 (by decide) ?_
        exact ih (i + 1) (v2 ||| ((1 : Int32) <<< ((nI i) &&& 31))) _ _ _ (lp_s hk) hE hw (lv_sub hl [2, 3, 1, 0] rfl)
  exact key_4 ((S 1 0 1).toNatClampNeg) 0 0 _ _ _ (Nat.zero_add _) hL_4 hw (lv_sub hl [2, 3, 1, 0] rfl)

abbrev bw_X10_isReady : List Cond := .code yX10_isReady cX10_isReady 3 (some .boolean) :: BIG
abbrev rm_X10_isReady : Room := { frames := 5, cells := 0, slots := 0, locals := 107 }
noncomputable def sp_X10_isReady (S : (Nat → Nat → Nat → Int32)) (j : Nat) (p2 : Int32) : Option (Int32) := if S 6 j 2 = 0 then ((sp_X6_is S j p2 0).bind fun x_2 => (if x_2 = 0 then (some (0)) else (if S 0 0 1 < S 6 j 1 then (some (0)) else (if p2 < 0 ∨ (S 1 0 0).toNatClampNeg ≤ p2.toNatClampNeg then none else ((sp_X6_hasNeeds S j (S 9 0 p2.toNatClampNeg)).bind fun x_6 => (if x_6 = 0 then (some (0)) else (some (1)))))))) else (some (0))
theorem bz_X10_isReady {S : (Nat → Nat → Nat → Int32)} {j : Nat} {p2 : Int32} {v : Int32} (h : sp_X10_isReady S j p2 = some v) : v = 0 ∨ v = 1 := by
  unfold sp_X10_isReady at h
  by_cases q_8 : S 6 j 2 = 0
  · have h := (if_pos q_8).symm.trans h
    obtain ⟨x_2, hx_2, h⟩ := ob1 h
    by_cases q_9 : x_2 = 0
    · have h := (if_pos q_9).symm.trans h
      cases h; exact Or.inl rfl
    · have h := (if_neg q_9).symm.trans h
      by_cases q_10 : S 0 0 1 < S 6 j 1
      · have h := (if_pos q_10).symm.trans h
        cases h; exact Or.inl rfl
      · have h := (if_neg q_10).symm.trans h
        by_cases q_11 : p2 < 0 ∨ (S 1 0 0).toNatClampNeg ≤ p2.toNatClampNeg
        · exact nomatch (if_pos q_11).symm.trans h
        have h := (if_neg q_11).symm.trans h
        obtain ⟨x_6, hx_6, h⟩ := ob1 h
        by_cases q_12 : x_6 = 0
        · have h := (if_pos q_12).symm.trans h
          cases h; exact Or.inl rfl
        · have h := (if_neg q_12).symm.trans h
          cases h; exact Or.inr rfl
  · have h := (if_neg q_8).symm.trans h
    cases h; exact Or.inl rfl

set_option maxHeartbeats 1000000 in
set_option maxRecDepth 100000 in
theorem ct_X10_isReady {l : Launch} {D : va_G} {cI cG cJ cO : ClassId} {K0 : Nat → Nat} {A : Nat → Prop} {L : List (Nat × Nat)} {ad : Nat → Nat → Nat} {ce : Nat → Nat → va_E} {cp : Nat → Nat} {S : (Nat → Nat → Nat → Int32)} (hR : MR S L cp) (hI : CI S) {j : Nat} {p2 : Int32} (hj : j < (S 0 0 0).toNatClampNeg) {v : Int32} (hE : sp_X10_isReady S j p2 = some v) (sz : Nat) (hA : ∀ q, sz ≤ q → A q) : Met l yX10_isReady bw_X10_isReady (rm_X10_isReady) (kP D (ktys cI cG cJ cO) K0 A L ad (mK cI cO K0 ad cp ce S) sz [.ref (ad 30 0), .ref (ad 46 j), .int p2]) (kQi D A v L ad (mK cI cO K0 ad cp ce S)) 0 0 A := by
  refine Met.ofW (cc := cX10_isReady) (maxL := 3) (ret := (some .boolean)) (by decide) rfl ?_
  intro p e s m args below meth c s₁ B hml hv_
  obtain ⟨hav, hsz, hP, hD, hK, hO⟩ := hv_
  have hx := B.exec
  have hb := B.bytes
  have hr := B.returns
  have hts : ∀ w ∈ BIG, w.before args s = true := fun w h => atoms_spec (ws := bw_X10_isReady) B.pre w (List.mem_cons_of_mem _ h)
  have hown : s.vm.findClass RX10 = some m.cls := findClass_of_methodNamed B.named
  have hlocks := B.notSynchronized
  subst hsz
  have hw := wk.start hP hD
  refine k_start (by rfl) hav (Nat.le_of_ble_eq_true rfl) (fun ls hl => ?_)
  have hl : lv_has ls 3 [(0, .ref (ad 30 0)), (1, .ref (ad 46 j)), (2, .int p2)] := hl
  unfold sp_X10_isReady at hE
  refine lv_aload_n hx hb dX10_isReady_0 rfl (lv_at hl 1 rfl) ?_
  refine k_get (C := RX6) (T := TX6) (N := 8) (v := .int (S 6 j 2)) hx hb hts inB_X6 hown hK hw (hR.2.2.2.2.2.2.2 46 _ (by decide) (by decide) hj) mke_46 rfl 7 (by decide) (hts _ w_f_X10_140) (fun _ h9 => h9) rfl dX10_isReady_1 ?_
  refine lv_if_ne (tgt := 52) hx hb dX10_isReady_4 (by decide) (fun c_1 => ?_) (fun c_1 => ?_)
  · have hE := (if_neg c_1).symm.trans hE
    refine lv_iconst (v := 0) hx hb dX10_isReady_52 (by decide) ?_
    exact m_iret hx hb hr hlocks rfl hw hE (Nat.le_of_ble_eq_true rfl) (Nat.le_of_ble_eq_true rfl) dX10_isReady_53
  · have hE := (if_pos c_1).symm.trans hE
    refine lv_aload_n hx hb dX10_isReady_7 rfl (lv_at hl 1 rfl) ?_
    refine lv_iload_n hx hb dX10_isReady_8 rfl (lv_at hl 2 rfl) ?_
    refine lv_iconst (v := 0) hx hb dX10_isReady_9 (by decide) ?_
    obtain ⟨x_2, hx_2, hE⟩ := ob1 hE
    refine k_ci0 hw (k_rV (f := 46) (o := j) (As := [.int p2, .int 0]) (rest := []) ⟨hx, hb, hml, hown, hts⟩ hK hO hw (ct_X6_is (MR.sm (SM.rf S) hR) (SM.ci (SM.rf S) hI) (by rw [SM.c4 (SM.rf S)]; exact hj) hx_2 _ (wk.hA hw hA)) (cwV 2 hts (gB_V w_ml_X10_63 w_im_X6_is w_se_X6_is w_in_X6 w_co_X6_is) rfl rfl rfl (by decide +kernel) ⟨Nat.le_of_ble_eq_true rfl, Nat.le_of_ble_eq_true rfl⟩) (hR.2.2.2.2.2.2.2 46 _ (by decide) (by decide) hj) mke_46 rfl rfl hl.1 rfl (Nat.le_of_ble_eq_true rfl) dX10_isReady_10 ⟨(Nat.le_of_ble_eq_true rfl), (Nat.le_of_ble_eq_true rfl)⟩) (fun H locs hw => ?_)
    refine lv_if_eq (tgt := 52) hx hb dX10_isReady_13 (by decide) (fun c_3 => ?_) (fun c_3 => ?_)
    · have hE := (if_pos c_3).symm.trans hE
      refine lv_iconst (v := 0) hx hb dX10_isReady_52 (by decide) ?_
      exact m_iret hx hb hr hlocks rfl hw hE (Nat.le_of_ble_eq_true rfl) (Nat.le_of_ble_eq_true rfl) dX10_isReady_53
    · have hE := (if_neg c_3).symm.trans hE
      refine lv_aload_n hx hb dX10_isReady_16 rfl (lv_at hl 1 rfl) ?_
      refine k_get (C := RX6) (T := TX6) (N := 8) (v := .int (S 6 j 1)) hx hb hts inB_X6 hown hK hw (hR.2.2.2.2.2.2.2 46 _ (by decide) (by decide) hj) mke_46 rfl 1 (by decide) (hts _ w_f_X10_106) (fun _ h9 => h9) rfl dX10_isReady_17 ?_
      refine lv_aload_n hx hb dX10_isReady_20 rfl (lv_at hl 0 rfl) ?_
      refine k_get (C := RX10) (T := TX10) (N := 9) (v := .int (S 0 0 1)) hx hb hts inB_X10 hown hK hw (hR.1 30 (by decide) (by decide)) mke_30 rfl 8 (by decide) (hts _ w_f_X10_103) (fun _ h9 => h9) rfl dX10_isReady_21 ?_
      refine lv_icmp_gt (tgt := 52) hx hb dX10_isReady_24 (by decide) (fun c_4 => ?_) (fun c_4 => ?_)
      · have hE := (if_pos c_4).symm.trans hE
        refine lv_iconst (v := 0) hx hb dX10_isReady_52 (by decide) ?_
        exact m_iret hx hb hr hlocks rfl hw hE (Nat.le_of_ble_eq_true rfl) (Nat.le_of_ble_eq_true rfl) dX10_isReady_53
      · have hE := (if_neg c_4).symm.trans hE
        refine lv_aload_n hx hb dX10_isReady_27 rfl (lv_at hl 1 rfl) ?_
        refine lv_aload_n hx hb dX10_isReady_28 rfl (lv_at hl 0 rfl) ?_
        refine k_get (C := RX10) (T := TX10) (N := 9) (v := .ref (ad 31 0)) hx hb hts inB_X10 hown hK hw (hR.1 30 (by decide) (by decide)) mke_30 rfl 1 (by decide) (hts _ w_f_X10_10) (fun _ h9 => h9) rfl dX10_isReady_29 ?_
        refine lv_iload_n hx hb dX10_isReady_32 rfl (lv_at hl 2 rfl) ?_
        by_cases c_5 : p2 < 0 ∨ (S 1 0 0).toNatClampNeg ≤ p2.toNatClampNeg
        · exact nomatch (if_pos c_5).symm.trans hE
        have hE := (if_neg c_5).symm.trans hE
        refine k_cr0 (v := (ad 43 p2.toNatClampNeg)) hw (k_rV (f := 31) (o := 0) (As := [.int p2]) (rest := [.ref (ad 46 j)]) ⟨hx, hb, hml, hown, hts⟩ hK hO hw (ct_get_0 (SM.rf S) hR (i := p2.toNatClampNeg) (fun z => c_5 (Or.inl z)) rfl (Nat.not_le.mp fun z => c_5 (Or.inr z)) _ (wk.hA hw hA)) (cwV 1 hts (gB_V w_ml_X10_51 w_im_Jx4a65c_get_915e3 w_se_Jx4a65c_get_915e3 w_in_Jx4a65c w_co_Jx4a65c_get_915e3) rfl rfl rfl (by decide +kernel) ⟨Nat.le_of_ble_eq_true rfl, Nat.le_of_ble_eq_true rfl⟩) (hR.1 31 (by decide) (by decide)) (ce_l0 (SM.rf S)) rfl rfl hl.1 rfl (Nat.le_of_ble_eq_true rfl) dX10_isReady_33 ⟨(Nat.le_of_ble_eq_true rfl), (Nat.le_of_ble_eq_true rfl)⟩) (fun H locs hw => ?_)
        refine k_cast (f := 43) (o := p2.toNatClampNeg) hx hb hown (hts _ w_cl_X10_55) hK hw (hR.2.2.2.1 _ (Nat.not_le.mp fun z => c_5 (Or.inr z))) mke_43 rfl dX10_isReady_36 ?_
        refine k_get (C := RX9) (T := TX9) (N := 4) (v := .int (S 9 0 p2.toNatClampNeg)) hx hb hts inB_X9 hown hK hw (hR.2.2.2.1 _ (Nat.not_le.mp fun z => c_5 (Or.inr z))) mke_43 rfl 2 (by decide) (hts _ w_f_X10_115) (fun _ h9 => h9) rfl dX10_isReady_39 ?_
        obtain ⟨x_6, hx_6, hE⟩ := ob1 hE
        refine k_ci0 hw (k_rV (f := 46) (o := j) (As := [.int (S 9 0 p2.toNatClampNeg)]) (rest := []) ⟨hx, hb, hml, hown, hts⟩ hK hO hw (ct_X6_hasNeeds (MR.sm (SM.rf S) hR) (SM.ci (SM.rf S) hI) (by rw [SM.c4 (SM.rf S)]; exact hj) hx_6 _ (wk.hA hw hA)) (cwV 1 hts (gB_V w_ml_X10_172 w_im_X6_hasNeeds w_se_X6_hasNeeds w_in_X6 w_co_X6_hasNeeds) rfl rfl rfl (by decide +kernel) ⟨Nat.le_of_ble_eq_true rfl, Nat.le_of_ble_eq_true rfl⟩) (hR.2.2.2.2.2.2.2 46 _ (by decide) (by decide) hj) mke_46 rfl rfl hl.1 rfl (Nat.le_of_ble_eq_true rfl) dX10_isReady_42 ⟨(Nat.le_of_ble_eq_true rfl), (Nat.le_of_ble_eq_true rfl)⟩) (fun H locs hw => ?_)
        refine lv_if_eq (tgt := 52) hx hb dX10_isReady_45 (by decide) (fun c_7 => ?_) (fun c_7 => ?_)
        · have hE := (if_pos c_7).symm.trans hE
          refine lv_iconst (v := 0) hx hb dX10_isReady_52 (by decide) ?_
          exact m_iret hx hb hr hlocks rfl hw hE (Nat.le_of_ble_eq_true rfl) (Nat.le_of_ble_eq_true rfl) dX10_isReady_53
        · have hE := (if_neg c_7).symm.trans hE
          refine lv_iconst (v := 1) hx hb dX10_isReady_48 (by decide) ?_
          refine lv_goto (tgt := 53) hx hb dX10_isReady_49 (by decide) ?_
          exact m_iret hx hb hr hlocks rfl hw hE (Nat.le_of_ble_eq_true rfl) (Nat.le_of_ble_eq_true rfl) dX10_isReady_53

abbrev bw_X10_isToday : List Cond := .code yX10_isToday cX10_isToday 3 (some .boolean) :: BIG
abbrev rm_X10_isToday : Room := { frames := 3, cells := 0, slots := 0, locals := 64 }
noncomputable def sp_X10_isToday (S : (Nat → Nat → Nat → Int32)) (j : Nat) (p2 : Int32) : Option (Int32) := if p2 < 0 ∨ 12 ≤ p2.toNatClampNeg then none else (if S 27 j p2.toNatClampNeg = (-1) then (some (0)) else (if S 27 j p2.toNatClampNeg < 0 ∨ (S 3 0 0).toNatClampNeg ≤ (S 27 j p2.toNatClampNeg).toNatClampNeg then none else (if S 18 0 ((S 27 j p2.toNatClampNeg).toNatClampNeg) = S 0 0 1 then (some (1)) else (some (0)))))
theorem bz_X10_isToday {S : (Nat → Nat → Nat → Int32)} {j : Nat} {p2 : Int32} {v : Int32} (h : sp_X10_isToday S j p2 = some v) : v = 0 ∨ v = 1 := by
  unfold sp_X10_isToday at h
  by_cases q_5 : p2 < 0 ∨ 12 ≤ p2.toNatClampNeg
  · exact nomatch (if_pos q_5).symm.trans h
  have h := (if_neg q_5).symm.trans h
  by_cases q_6 : S 27 j p2.toNatClampNeg = (-1)
  · have h := (if_pos q_6).symm.trans h
    cases h; exact Or.inl rfl
  · have h := (if_neg q_6).symm.trans h
    by_cases q_7 : S 27 j p2.toNatClampNeg < 0 ∨ (S 3 0 0).toNatClampNeg ≤ (S 27 j p2.toNatClampNeg).toNatClampNeg
    · exact nomatch (if_pos q_7).symm.trans h
    have h := (if_neg q_7).symm.trans h
    by_cases q_8 : S 18 0 ((S 27 j p2.toNatClampNeg).toNatClampNeg) = S 0 0 1
    · have h := (if_pos q_8).symm.trans h
      cases h; exact Or.inr rfl
    · have h := (if_neg q_8).symm.trans h
      cases h; exact Or.inl rfl

set_option maxHeartbeats 1000000 in
set_option maxRecDepth 100000 in
theorem ct_X10_isToday {l : Launch} {D : va_G} {cI cG cJ cO : ClassId} {K0 : Nat → Nat} {A : Nat → Prop} {L : List (Nat × Nat)} {ad : Nat → Nat → Nat} {ce : Nat → Nat → va_E} {cp : Nat → Nat} {S : (Nat → Nat → Nat → Int32)} (hR : MR S L cp) (hI : CI S) {j : Nat} {p2 : Int32} (hj : j < (S 0 0 0).toNatClampNeg) {v : Int32} (hE : sp_X10_isToday S j p2 = some v) (sz : Nat) (hA : ∀ q, sz ≤ q → A q) : Met l yX10_isToday bw_X10_isToday (rm_X10_isToday) (kP D (ktys cI cG cJ cO) K0 A L ad (mK cI cO K0 ad cp ce S) sz [.ref (ad 30 0), .ref (ad 46 j), .int p2]) (kQi D A v L ad (mK cI cO K0 ad cp ce S)) 0 0 A := by
  refine Met.ofW (cc := cX10_isToday) (maxL := 3) (ret := (some .boolean)) (by decide) rfl ?_
  intro p e s m args below meth c s₁ B hml hv_
  obtain ⟨hav, hsz, hP, hD, hK, hO⟩ := hv_
  have hx := B.exec
  have hb := B.bytes
  have hr := B.returns
  have hts : ∀ w ∈ BIG, w.before args s = true := fun w h => atoms_spec (ws := bw_X10_isToday) B.pre w (List.mem_cons_of_mem _ h)
  have hown : s.vm.findClass RX10 = some m.cls := findClass_of_methodNamed B.named
  have hlocks := B.notSynchronized
  subst hsz
  have hw := wk.start hP hD
  refine k_start (by rfl) hav (Nat.le_of_ble_eq_true rfl) (fun ls hl => ?_)
  have hl : lv_has ls 3 [(0, .ref (ad 30 0)), (1, .ref (ad 46 j)), (2, .int p2)] := hl
  unfold sp_X10_isToday at hE
  refine lv_aload_n hx hb dX10_isToday_0 rfl (lv_at hl 1 rfl) ?_
  refine k_get (C := RX6) (T := TX6) (N := 8) (v := .ref (ad 50 j)) hx hb hts inB_X6 hown hK hw (hR.2.2.2.2.2.2.2 46 _ (by decide) (by decide) hj) mke_46 rfl 5 (by decide) (hts _ w_f_X10_126) (fun _ h9 => h9) rfl dX10_isToday_1 ?_
  refine lv_iload_n hx hb dX10_isToday_4 rfl (lv_at hl 2 rfl) ?_
  by_cases c_1 : p2 < 0 ∨ 12 ≤ p2.toNatClampNeg
  · exact nomatch (if_pos c_1).symm.trans hE
  have hE := (if_neg c_1).symm.trans hE
  refine k_aldi hx hb hK hw (hR.2.2.2.2.2.2.2 50 _ (by decide) (by decide) hj) 0 mke_50 rfl (fun z => c_1 (Or.inl z)) rfl (Nat.not_le.mp fun z => c_1 (Or.inr z)) (v := S 27 j p2.toNatClampNeg) rfl dX10_isToday_5 ?_
  refine lv_iconst (v := (-1)) hx hb dX10_isToday_6 (by decide) ?_
  refine lv_icmp_eq (tgt := 40) hx hb dX10_isToday_7 (by decide) (fun c_2 => ?_) (fun c_2 => ?_)
  · have hE := (if_pos c_2).symm.trans hE
    refine lv_iconst (v := 0) hx hb dX10_isToday_40 (by decide) ?_
    exact m_iret hx hb hr hlocks rfl hw hE (Nat.le_of_ble_eq_true rfl) (Nat.le_of_ble_eq_true rfl) dX10_isToday_41
  · have hE := (if_neg c_2).symm.trans hE
    refine lv_aload_n hx hb dX10_isToday_10 rfl (lv_at hl 0 rfl) ?_
    refine k_get (C := RX10) (T := TX10) (N := 9) (v := .ref (ad 34 0)) hx hb hts inB_X10 hown hK hw (hR.1 30 (by decide) (by decide)) mke_30 rfl 6 (by decide) (hts _ w_f_X10_29) (fun _ h9 => h9) rfl dX10_isToday_11 ?_
    refine lv_aload_n hx hb dX10_isToday_14 rfl (lv_at hl 1 rfl) ?_
    refine k_get (C := RX6) (T := TX6) (N := 8) (v := .ref (ad 50 j)) hx hb hts inB_X6 hown hK hw (hR.2.2.2.2.2.2.2 46 _ (by decide) (by decide) hj) mke_46 rfl 5 (by decide) (hts _ w_f_X10_126) (fun _ h9 => h9) rfl dX10_isToday_15 ?_
    refine lv_iload_n hx hb dX10_isToday_18 rfl (lv_at hl 2 rfl) ?_
    refine k_aldi hx hb hK hw (hR.2.2.2.2.2.2.2 50 _ (by decide) (by decide) hj) 0 mke_50 rfl (fun z => c_1 (Or.inl z)) rfl (Nat.not_le.mp fun z => c_1 (Or.inr z)) (v := S 27 j p2.toNatClampNeg) rfl dX10_isToday_19 ?_
    by_cases c_3 : S 27 j p2.toNatClampNeg < 0 ∨ (S 3 0 0).toNatClampNeg ≤ (S 27 j p2.toNatClampNeg).toNatClampNeg
    · exact nomatch (if_pos c_3).symm.trans hE
    have hE := (if_neg c_3).symm.trans hE
    refine k_cr0 (v := (ad 45 ((S 27 j p2.toNatClampNeg).toNatClampNeg))) hw (k_rV (f := 34) (o := 0) (As := [.int (S 27 j p2.toNatClampNeg)]) (rest := []) ⟨hx, hb, hml, hown, hts⟩ hK hO hw (ct_get_3 (SM.rf S) hR (i := ((S 27 j p2.toNatClampNeg).toNatClampNeg)) (fun z => c_3 (Or.inl z)) rfl (Nat.not_le.mp fun z => c_3 (Or.inr z)) _ (wk.hA hw hA)) (cwV 1 hts (gB_V w_ml_X10_51 w_im_Jx4a65c_get_915e3 w_se_Jx4a65c_get_915e3 w_in_Jx4a65c w_co_Jx4a65c_get_915e3) rfl rfl rfl (by decide +kernel) ⟨Nat.le_of_ble_eq_true rfl, Nat.le_of_ble_eq_true rfl⟩) (hR.1 34 (by decide) (by decide)) (ce_l3 (SM.rf S)) rfl rfl hl.1 rfl (Nat.le_of_ble_eq_true rfl) dX10_isToday_20 ⟨(Nat.le_of_ble_eq_true rfl), (Nat.le_of_ble_eq_true rfl)⟩) (fun H locs hw => ?_)
    refine k_cast (f := 45) (o := ((S 27 j p2.toNatClampNeg).toNatClampNeg)) hx hb hown (hts _ w_cl_X10_129) hK hw (hR.2.2.2.2.2.2.1 _ (Nat.not_le.mp fun z => c_3 (Or.inr z))) mke_45 rfl dX10_isToday_23 ?_
    refine k_get (C := RX8) (T := TX8) (N := 3) (v := .int (S 18 0 ((S 27 j p2.toNatClampNeg).toNatClampNeg))) hx hb hts inB_X8 hown hK hw (hR.2.2.2.2.2.2.1 _ (Nat.not_le.mp fun z => c_3 (Or.inr z))) mke_45 rfl 1 (by decide) (hts _ w_f_X10_131) (fun _ h9 => h9) rfl dX10_isToday_26 ?_
    refine lv_aload_n hx hb dX10_isToday_29 rfl (lv_at hl 0 rfl) ?_
    refine k_get (C := RX10) (T := TX10) (N := 9) (v := .int (S 0 0 1)) hx hb hts inB_X10 hown hK hw (hR.1 30 (by decide) (by decide)) mke_30 rfl 8 (by decide) (hts _ w_f_X10_103) (fun _ h9 => h9) rfl dX10_isToday_30 ?_
    refine lv_icmp_ne (tgt := 40) hx hb dX10_isToday_33 (by decide) (fun c_4 => ?_) (fun c_4 => ?_)
    · have hE := (if_neg c_4).symm.trans hE
      refine lv_iconst (v := 0) hx hb dX10_isToday_40 (by decide) ?_
      exact m_iret hx hb hr hlocks rfl hw hE (Nat.le_of_ble_eq_true rfl) (Nat.le_of_ble_eq_true rfl) dX10_isToday_41
    · have hE := (if_pos c_4).symm.trans hE
      refine lv_iconst (v := 1) hx hb dX10_isToday_36 (by decide) ?_
      refine lv_goto (tgt := 41) hx hb dX10_isToday_37 (by decide) ?_
      exact m_iret hx hb hr hlocks rfl hw hE (Nat.le_of_ble_eq_true rfl) (Nat.le_of_ble_eq_true rfl) dX10_isToday_41

abbrev bw_X10_canBegin : List Cond := .code yX10_canBegin cX10_canBegin 4 (some .boolean) :: BIG
abbrev rm_X10_canBegin : Room := { frames := 6, cells := 0, slots := 0, locals := 129 }
noncomputable def sp_X10_canBegin (S : (Nat → Nat → Nat → Int32)) (j : Nat) (p2 : Int32) : Option (Int32) := if p2 < 0 ∨ (S 1 0 0).toNatClampNeg ≤ p2.toNatClampNeg then none else ((sp_X10_isReady S j p2).bind fun x_2 => (if x_2 = 0 then (some (0)) else (if S 7 0 p2.toNatClampNeg = 1 then (if S 10 0 p2.toNatClampNeg < 0 ∨ 4 ≤ (S 10 0 p2.toNatClampNeg).toNatClampNeg then none else (if S 13 0 ((S 10 0 p2.toNatClampNeg).toNatClampNeg) ≤ 0 then (some (0)) else (some (1)))) else (if S 7 0 p2.toNatClampNeg = 2 then ((sp_X10_isToday S j p2).bind fun x_6 => (if x_6 = 0 then (some (0)) else (some (1)))) else (some (1))))))
theorem bz_X10_canBegin {S : (Nat → Nat → Nat → Int32)} {j : Nat} {p2 : Int32} {v : Int32} (h : sp_X10_canBegin S j p2 = some v) : v = 0 ∨ v = 1 := by
  unfold sp_X10_canBegin at h
  by_cases q_10 : p2 < 0 ∨ (S 1 0 0).toNatClampNeg ≤ p2.toNatClampNeg
  · exact nomatch (if_pos q_10).symm.trans h
  have h := (if_neg q_10).symm.trans h
  obtain ⟨x_2, hx_2, h⟩ := ob1 h
  by_cases q_11 : x_2 = 0
  · have h := (if_pos q_11).symm.trans h
    cases h; exact Or.inl rfl
  · have h := (if_neg q_11).symm.trans h
    by_cases q_12 : S 7 0 p2.toNatClampNeg = 1
    · have h := (if_pos q_12).symm.trans h
      by_cases q_13 : S 10 0 p2.toNatClampNeg < 0 ∨ 4 ≤ (S 10 0 p2.toNatClampNeg).toNatClampNeg
      · exact nomatch (if_pos q_13).symm.trans h
      have h := (if_neg q_13).symm.trans h
      by_cases q_14 : S 13 0 ((S 10 0 p2.toNatClampNeg).toNatClampNeg) ≤ 0
      · have h := (if_pos q_14).symm.trans h
        cases h; exact Or.inl rfl
      · have h := (if_neg q_14).symm.trans h
        cases h; exact Or.inr rfl
    · have h := (if_neg q_12).symm.trans h
      by_cases q_15 : S 7 0 p2.toNatClampNeg = 2
      · have h := (if_pos q_15).symm.trans h
        obtain ⟨x_6, hx_6, h⟩ := ob1 h
        by_cases q_16 : x_6 = 0
        · have h := (if_pos q_16).symm.trans h
          cases h; exact Or.inl rfl
        · have h := (if_neg q_16).symm.trans h
          cases h; exact Or.inr rfl
      · have h := (if_neg q_15).symm.trans h
        cases h; exact Or.inr rfl

set_option maxHeartbeats 1000000 in
set_option maxRecDepth 100000 in
theorem ct_X10_canBegin {l : Launch} {D : va_G} {cI cG cJ cO : ClassId} {K0 : Nat → Nat} {A : Nat → Prop} {L : List (Nat × Nat)} {ad : Nat → Nat → Nat} {ce : Nat → Nat → va_E} {cp : Nat → Nat} {S : (Nat → Nat → Nat → Int32)} (hR : MR S L cp) (hI : CI S) {j : Nat} {p2 : Int32} (hj : j < (S 0 0 0).toNatClampNeg) {v : Int32} (hE : sp_X10_canBegin S j p2 = some v) (sz : Nat) (hA : ∀ q, sz ≤ q → A q) : Met l yX10_canBegin bw_X10_canBegin (rm_X10_canBegin) (kP D (ktys cI cG cJ cO) K0 A L ad (mK cI cO K0 ad cp ce S) sz [.ref (ad 30 0), .ref (ad 46 j), .int p2]) (kQi D A v L ad (mK cI cO K0 ad cp ce S)) 0 0 A := by
  refine Met.ofW (cc := cX10_canBegin) (maxL := 4) (ret := (some .boolean)) (by decide) rfl ?_
  intro p e s m args below meth c s₁ B hml hv_
  obtain ⟨hav, hsz, hP, hD, hK, hO⟩ := hv_
  have hx := B.exec
  have hb := B.bytes
  have hr := B.returns
  have hts : ∀ w ∈ BIG, w.before args s = true := fun w h => atoms_spec (ws := bw_X10_canBegin) B.pre w (List.mem_cons_of_mem _ h)
  have hown : s.vm.findClass RX10 = some m.cls := findClass_of_methodNamed B.named
  have hlocks := B.notSynchronized
  subst hsz
  have hw := wk.start hP hD
  refine k_start (by rfl) hav (Nat.le_of_ble_eq_true rfl) (fun ls hl => ?_)
  have hl : lv_has ls 4 [(0, .ref (ad 30 0)), (1, .ref (ad 46 j)), (2, .int p2)] := hl
  unfold sp_X10_canBegin at hE
  refine lv_aload_n hx hb dX10_canBegin_0 rfl (lv_at hl 0 rfl) ?_
  refine k_get (C := RX10) (T := TX10) (N := 9) (v := .ref (ad 31 0)) hx hb hts inB_X10 hown hK hw (hR.1 30 (by decide) (by decide)) mke_30 rfl 1 (by decide) (hts _ w_f_X10_10) (fun _ h9 => h9) rfl dX10_canBegin_1 ?_
  refine lv_iload_n hx hb dX10_canBegin_4 rfl (lv_at hl 2 rfl) ?_
  by_cases c_1 : p2 < 0 ∨ (S 1 0 0).toNatClampNeg ≤ p2.toNatClampNeg
  · exact nomatch (if_pos c_1).symm.trans hE
  have hE := (if_neg c_1).symm.trans hE
  refine k_cr0 (v := (ad 43 p2.toNatClampNeg)) hw (k_rV (f := 31) (o := 0) (As := [.int p2]) (rest := []) ⟨hx, hb, hml, hown, hts⟩ hK hO hw (ct_get_0 (SM.rf S) hR (i := p2.toNatClampNeg) (fun z => c_1 (Or.inl z)) rfl (Nat.not_le.mp fun z => c_1 (Or.inr z)) _ (wk.hA hw hA)) (cwV 1 hts (gB_V w_ml_X10_51 w_im_Jx4a65c_get_915e3 w_se_Jx4a65c_get_915e3 w_in_Jx4a65c w_co_Jx4a65c_get_915e3) rfl rfl rfl (by decide +kernel) ⟨Nat.le_of_ble_eq_true rfl, Nat.le_of_ble_eq_true rfl⟩) (hR.1 31 (by decide) (by decide)) (ce_l0 (SM.rf S)) rfl rfl hl.1 rfl (Nat.le_of_ble_eq_true rfl) dX10_canBegin_5 ⟨(Nat.le_of_ble_eq_true rfl), (Nat.le_of_ble_eq_true rfl)⟩) (fun H locs hw => ?_)
  refine k_cast (f := 43) (o := p2.toNatClampNeg) hx hb hown (hts _ w_cl_X10_55) hK hw (hR.2.2.2.1 _ (Nat.not_le.mp fun z => c_1 (Or.inr z))) mke_43 rfl dX10_canBegin_8 ?_
  refine lv_astore_n (lv' := [(3, .ref (ad 43 p2.toNatClampNeg)), (0, .ref (ad 30 0)), (1, .ref (ad 46 j)), (2, .int p2)]) hx hb dX10_canBegin_11 rfl hl (by decide) rfl (fun ls hl => ?_)
  refine lv_aload_n hx hb dX10_canBegin_12 rfl (lv_at hl 1 rfl) ?_
  refine lv_aload_n hx hb dX10_canBegin_13 rfl (lv_at hl 2 rfl) ?_
  refine lv_iload_n hx hb dX10_canBegin_14 rfl (lv_at hl 3 rfl) ?_
  obtain ⟨x_2, hx_2, hE⟩ := ob1 hE
  refine k_ci0 hw (k_rV (f := 30) (o := 0) (As := [.ref (ad 46 j), .int p2]) (rest := []) ⟨hx, hb, hml, hown, hts⟩ hK hO hw (ct_X10_isReady (MR.sm (SM.rf S) hR) (SM.ci (SM.rf S) hI) (by rw [SM.c4 (SM.rf S)]; exact hj) hx_2 _ (wk.hA hw hA)) (cwV 2 hts (gB_V w_ml_X10_176 w_im_X10_isReady w_se_X10_isReady w_in_X10 w_co_X10_isReady) rfl rfl rfl (by decide +kernel) ⟨Nat.le_of_ble_eq_true rfl, Nat.le_of_ble_eq_true rfl⟩) (hR.1 30 (by decide) (by decide)) mke_30 rfl rfl hl.1 rfl (Nat.le_of_ble_eq_true rfl) dX10_canBegin_15 ⟨(Nat.le_of_ble_eq_true rfl), (Nat.le_of_ble_eq_true rfl)⟩) (fun H locs hw => ?_)
  refine lv_if_ne (tgt := 23) hx hb dX10_canBegin_18 (by decide) (fun c_3 => ?_) (fun c_3 => ?_)
  · have hE := (if_neg c_3).symm.trans hE
    refine lv_aload_n hx hb dX10_canBegin_23 rfl (lv_at hl 0 rfl) ?_
    refine k_get (C := RX9) (T := TX9) (N := 4) (v := .int (S 7 0 p2.toNatClampNeg)) hx hb hts inB_X9 hown hK hw (hR.2.2.2.1 _ (Nat.not_le.mp fun z => c_1 (Or.inr z))) mke_43 rfl 0 (by decide) (hts _ w_f_X10_60) (fun _ h9 => h9) rfl dX10_canBegin_24 ?_
    refine lv_iconst (v := 1) hx hb dX10_canBegin_27 (by decide) ?_
    refine lv_icmp_ne (tgt := 51) hx hb dX10_canBegin_28 (by decide) (fun c_4 => ?_) (fun c_4 => ?_)
    · have hE := (if_neg c_4).symm.trans hE
      refine lv_aload_n hx hb dX10_canBegin_51 rfl (lv_at hl 0 rfl) ?_
      refine k_get (C := RX9) (T := TX9) (N := 4) (v := .int (S 7 0 p2.toNatClampNeg)) hx hb hts inB_X9 hown hK hw (hR.2.2.2.1 _ (Nat.not_le.mp fun z => c_1 (Or.inr z))) mke_43 rfl 0 (by decide) (hts _ w_f_X10_60) (fun _ h9 => h9) rfl dX10_canBegin_52 ?_
      refine lv_iconst (v := 2) hx hb dX10_canBegin_55 (by decide) ?_
      refine lv_icmp_ne (tgt := 68) hx hb dX10_canBegin_56 (by decide) (fun c_5 => ?_) (fun c_5 => ?_)
      · have hE := (if_neg c_5).symm.trans hE
        refine lv_iconst (v := 1) hx hb dX10_canBegin_68 (by decide) ?_
        refine lv_goto (tgt := 73) hx hb dX10_canBegin_69 (by decide) ?_
        exact m_iret hx hb hr hlocks rfl hw hE (Nat.le_of_ble_eq_true rfl) (Nat.le_of_ble_eq_true rfl) dX10_canBegin_73
      · have hE := (if_pos c_5).symm.trans hE
        refine lv_aload_n hx hb dX10_canBegin_59 rfl (lv_at hl 1 rfl) ?_
        refine lv_aload_n hx hb dX10_canBegin_60 rfl (lv_at hl 2 rfl) ?_
        refine lv_iload_n hx hb dX10_canBegin_61 rfl (lv_at hl 3 rfl) ?_
        obtain ⟨x_6, hx_6, hE⟩ := ob1 hE
        refine k_ci0 hw (k_rV (f := 30) (o := 0) (As := [.ref (ad 46 j), .int p2]) (rest := []) ⟨hx, hb, hml, hown, hts⟩ hK hO hw (ct_X10_isToday (MR.sm (SM.rf S) hR) (SM.ci (SM.rf S) hI) (by rw [SM.c4 (SM.rf S)]; exact hj) hx_6 _ (wk.hA hw hA)) (cwV 2 hts (gB_V w_ml_X10_180 w_im_X10_isToday w_se_X10_isToday w_in_X10 w_co_X10_isToday) rfl rfl rfl (by decide +kernel) ⟨Nat.le_of_ble_eq_true rfl, Nat.le_of_ble_eq_true rfl⟩) (hR.1 30 (by decide) (by decide)) mke_30 rfl rfl hl.1 rfl (Nat.le_of_ble_eq_true rfl) dX10_canBegin_62 ⟨(Nat.le_of_ble_eq_true rfl), (Nat.le_of_ble_eq_true rfl)⟩) (fun H locs hw => ?_)
        refine lv_if_eq (tgt := 72) hx hb dX10_canBegin_65 (by decide) (fun c_7 => ?_) (fun c_7 => ?_)
        · have hE := (if_pos c_7).symm.trans hE
          refine lv_iconst (v := 0) hx hb dX10_canBegin_72 (by decide) ?_
          exact m_iret hx hb hr hlocks rfl hw hE (Nat.le_of_ble_eq_true rfl) (Nat.le_of_ble_eq_true rfl) dX10_canBegin_73
        · have hE := (if_neg c_7).symm.trans hE
          refine lv_iconst (v := 1) hx hb dX10_canBegin_68 (by decide) ?_
          refine lv_goto (tgt := 73) hx hb dX10_canBegin_69 (by decide) ?_
          exact m_iret hx hb hr hlocks rfl hw hE (Nat.le_of_ble_eq_true rfl) (Nat.le_of_ble_eq_true rfl) dX10_canBegin_73
    · have hE := (if_pos c_4).symm.trans hE
      refine lv_aload_n hx hb dX10_canBegin_31 rfl (lv_at hl 1 rfl) ?_
      refine k_get (C := RX10) (T := TX10) (N := 9) (v := .ref (ad 37 0)) hx hb hts inB_X10 hown hK hw (hR.1 30 (by decide) (by decide)) mke_30 rfl 4 (by decide) (hts _ w_f_X10_23) (fun _ h9 => h9) rfl dX10_canBegin_32 ?_
      refine lv_aload_n hx hb dX10_canBegin_35 rfl (lv_at hl 0 rfl) ?_
      refine k_get (C := RX9) (T := TX9) (N := 4) (v := .int (S 10 0 p2.toNatClampNeg)) hx hb hts inB_X9 hown hK hw (hR.2.2.2.1 _ (Nat.not_le.mp fun z => c_1 (Or.inr z))) mke_43 rfl 3 (by decide) (hts _ w_f_X10_57) (fun _ h9 => h9) rfl dX10_canBegin_36 ?_
      by_cases c_8 : S 10 0 p2.toNatClampNeg < 0 ∨ 4 ≤ (S 10 0 p2.toNatClampNeg).toNatClampNeg
      · exact nomatch (if_pos c_8).symm.trans hE
      have hE := (if_neg c_8).symm.trans hE
      refine k_aldi hx hb hK hw (hR.1 37 (by decide) (by decide)) 0 mke_37 rfl (fun z => c_8 (Or.inl z)) rfl (Nat.not_le.mp fun z => c_8 (Or.inr z)) (v := S 13 0 ((S 10 0 p2.toNatClampNeg).toNatClampNeg)) rfl dX10_canBegin_39 ?_
      refine lv_if_le (tgt := 47) hx hb dX10_canBegin_40 (by decide) (fun c_9 => ?_) (fun c_9 => ?_)
      · have hE := (if_pos c_9).symm.trans hE
        refine lv_iconst (v := 0) hx hb dX10_canBegin_47 (by decide) ?_
        refine lv_goto (tgt := 73) hx hb dX10_canBegin_48 (by decide) ?_
        exact m_iret hx hb hr hlocks rfl hw hE (Nat.le_of_ble_eq_true rfl) (Nat.le_of_ble_eq_true rfl) dX10_canBegin_73
      · have hE := (if_neg c_9).symm.trans hE
        refine lv_iconst (v := 1) hx hb dX10_canBegin_43 (by decide) ?_
        refine lv_goto (tgt := 73) hx hb dX10_canBegin_44 (by decide) ?_
        exact m_iret hx hb hr hlocks rfl hw hE (Nat.le_of_ble_eq_true rfl) (Nat.le_of_ble_eq_true rfl) dX10_canBegin_73
  · have hE := (if_pos c_3).symm.trans hE
    refine lv_iconst (v := 0) hx hb dX10_canBegin_21 (by decide) ?_
    exact m_iret hx hb hr hlocks rfl hw hE (Nat.le_of_ble_eq_true rfl) (Nat.le_of_ble_eq_true rfl) dX10_canBegin_22

abbrev bw_X10_begin : List Cond := .code yX10_begin cX10_begin 3 none :: BIG
abbrev rm_X10_begin : Room := { frames := 5, cells := 0, slots := 0, locals := 111 }
noncomputable def sp_X10_begin (S : (Nat → Nat → Nat → Int32)) (j : Nat) (p2 : Int32) : Option ((Nat → Nat → Nat → Int32)) := (sp_X10_length S j p2).bind fun x_1 => (if p2 < 0 ∨ 12 ≤ p2.toNatClampNeg then none else (if p2 < 0 ∨ (S 1 0 0).toNatClampNeg ≤ p2.toNatClampNeg then none else (if S 7 0 p2.toNatClampNeg = 1 then (if S 10 0 p2.toNatClampNeg < 0 ∨ 4 ≤ (S 10 0 p2.toNatClampNeg).toNatClampNeg then none else (some ((up3 (up3 (up3 (up3 S 26 j p2.toNatClampNeg x_1) 24 j p2.toNatClampNeg 1) 25 j p2.toNatClampNeg (S 0 0 1)) 13 0 ((S 10 0 p2.toNatClampNeg).toNatClampNeg) ((S 13 0 ((S 10 0 p2.toNatClampNeg).toNatClampNeg)) - 1))))) else (some ((up3 (up3 (up3 S 26 j p2.toNatClampNeg x_1) 24 j p2.toNatClampNeg 1) 25 j p2.toNatClampNeg (S 0 0 1)))))))
theorem sf_X10_begin {S : (Nat → Nat → Nat → Int32)} {j : Nat} {p2 : Int32} {v : (Nat → Nat → Nat → Int32)} (h : sp_X10_begin S j p2 = some v) : SM S v := by
  unfold sp_X10_begin at h
  obtain ⟨x_1, hx_1, h⟩ := ob1 h
  by_cases q_6 : p2 < 0 ∨ 12 ≤ p2.toNatClampNeg
  · exact nomatch (if_pos q_6).symm.trans h
  have h := (if_neg q_6).symm.trans h
  by_cases q_7 : p2 < 0 ∨ (S 1 0 0).toNatClampNeg ≤ p2.toNatClampNeg
  · exact nomatch (if_pos q_7).symm.trans h
  have h := (if_neg q_7).symm.trans h
  by_cases q_8 : S 7 0 p2.toNatClampNeg = 1
  · have h := (if_pos q_8).symm.trans h
    by_cases q_9 : S 10 0 p2.toNatClampNeg < 0 ∨ 4 ≤ (S 10 0 p2.toNatClampNeg).toNatClampNeg
    · exact nomatch (if_pos q_9).symm.trans h
    have h := (if_neg q_9).symm.trans h
    have hz : SM S (up3 (up3 (up3 (up3 S 26 j p2.toNatClampNeg x_1) 24 j p2.toNatClampNeg 1) 25 j p2.toNatClampNeg (S 0 0 1)) 13 0 ((S 10 0 p2.toNatClampNeg).toNatClampNeg) ((S 13 0 ((S 10 0 p2.toNatClampNeg).toNatClampNeg)) - 1)) := (SM.up rfl (by decide) (SM.up rfl (by decide) (SM.up rfl (by decide) (SM.up rfl (by decide) (SM.rf S))))); cases h; exact hz
  · have h := (if_neg q_8).symm.trans h
    have hz : SM S (up3 (up3 (up3 S 26 j p2.toNatClampNeg x_1) 24 j p2.toNatClampNeg 1) 25 j p2.toNatClampNeg (S 0 0 1)) := (SM.up rfl (by decide) (SM.up rfl (by decide) (SM.up rfl (by decide) (SM.rf S)))); cases h; exact hz

set_option maxHeartbeats 1000000 in
set_option maxRecDepth 100000 in
theorem ct_X10_begin {l : Launch} {D : va_G} {cI cG cJ cO : ClassId} {K0 : Nat → Nat} {A : Nat → Prop} {L : List (Nat × Nat)} {ad : Nat → Nat → Nat} {ce : Nat → Nat → va_E} {cp : Nat → Nat} {S : (Nat → Nat → Nat → Int32)} (hR : MR S L cp) (hI : CI S) {j : Nat} {p2 : Int32} (hj : j < (S 0 0 0).toNatClampNeg) {v : (Nat → Nat → Nat → Int32)} (hE : sp_X10_begin S j p2 = some v) (sz : Nat) (hA : ∀ q, sz ≤ q → A q) : Met l yX10_begin bw_X10_begin (rm_X10_begin) (kP D (ktys cI cG cJ cO) K0 A L ad (mK cI cO K0 ad cp ce S) sz [.ref (ad 30 0), .ref (ad 46 j), .int p2]) (kQv D A L ad (mK cI cO K0 ad cp ce v)) 0 0 A := by
  refine Met.ofW (cc := cX10_begin) (maxL := 3) (ret := none) (by decide) rfl ?_
  intro p e s m args below meth c s₁ B hml hv_
  obtain ⟨hav, hsz, hP, hD, hK, hO⟩ := hv_
  have hx := B.exec
  have hb := B.bytes
  have hr := B.returns
  have hts : ∀ w ∈ BIG, w.before args s = true := fun w h => atoms_spec (ws := bw_X10_begin) B.pre w (List.mem_cons_of_mem _ h)
  have hown : s.vm.findClass RX10 = some m.cls := findClass_of_methodNamed B.named
  have hlocks := B.notSynchronized
  subst hsz
  have hw := wk.start hP hD
  refine k_start (by rfl) hav (Nat.le_of_ble_eq_true rfl) (fun ls hl => ?_)
  have hl : lv_has ls 3 [(0, .ref (ad 30 0)), (1, .ref (ad 46 j)), (2, .int p2)] := hl
  unfold sp_X10_begin at hE
  refine lv_aload_n hx hb dX10_begin_0 rfl (lv_at hl 1 rfl) ?_
  refine k_get (C := RX6) (T := TX6) (N := 8) (v := .ref (ad 49 j)) hx hb hts inB_X6 hown hK hw (hR.2.2.2.2.2.2.2 46 _ (by decide) (by decide) hj) mke_46 rfl 4 (by decide) (hts _ w_f_X10_78) (fun _ h9 => h9) rfl dX10_begin_1 ?_
  refine lv_iload_n hx hb dX10_begin_4 rfl (lv_at hl 2 rfl) ?_
  refine lv_aload_n hx hb dX10_begin_5 rfl (lv_at hl 0 rfl) ?_
  refine lv_aload_n hx hb dX10_begin_6 rfl (lv_at hl 1 rfl) ?_
  refine lv_iload_n hx hb dX10_begin_7 rfl (lv_at hl 2 rfl) ?_
  obtain ⟨x_1, hx_1, hE⟩ := ob1 hE
  refine k_ci0 hw (k_rV (f := 30) (o := 0) (As := [.ref (ad 46 j), .int p2]) (rest := [.int p2, .ref (ad 49 j)]) ⟨hx, hb, hml, hown, hts⟩ hK hO hw (ct_X10_length (MR.sm (SM.rf S) hR) (SM.ci (SM.rf S) hI) (by rw [SM.c4 (SM.rf S)]; exact hj) hx_1 _ (wk.hA hw hA)) (cwV 2 hts (gB_V w_ml_X10_138 w_im_X10_length w_se_X10_length w_in_X10 w_co_X10_length) rfl rfl rfl (by decide +kernel) ⟨Nat.le_of_ble_eq_true rfl, Nat.le_of_ble_eq_true rfl⟩) (hR.1 30 (by decide) (by decide)) mke_30 rfl rfl hl.1 rfl (Nat.le_of_ble_eq_true rfl) dX10_begin_8 ⟨(Nat.le_of_ble_eq_true rfl), (Nat.le_of_ble_eq_true rfl)⟩) (fun H locs hw => ?_)
  by_cases c_2 : p2 < 0 ∨ 12 ≤ p2.toNatClampNeg
  · exact nomatch (if_pos c_2).symm.trans hE
  have hE := (if_neg c_2).symm.trans hE
  refine k_asti hx hb hK hw (hR.2.2.2.2.2.2.2 49 _ (by decide) (by decide) hj) 0 mke_49 rfl (fun z => c_2 (Or.inl z)) rfl (Nat.not_le.mp fun z => c_2 (Or.inr z)) (mK_a49 (i := p2.toNatClampNeg) (v := x_1) mcx_a49) dX10_begin_11 (fun H locs hw => ?_)
  refine lv_aload_n hx hb dX10_begin_12 rfl (lv_at hl 1 rfl) ?_
  refine k_get (C := RX6) (T := TX6) (N := 8) (v := .ref (ad 47 j)) hx hb hts inB_X6 hown hK hw (hR.2.2.2.2.2.2.2 46 _ (by decide) (by decide) hj) mke_46 rfl 2 (by decide) (hts _ w_f_X10_75) (fun _ h9 => h9) rfl dX10_begin_13 ?_
  refine lv_iload_n hx hb dX10_begin_16 rfl (lv_at hl 2 rfl) ?_
  refine lv_iconst (v := 1) hx hb dX10_begin_17 (by decide) ?_
  refine k_asti hx hb hK hw (hR.2.2.2.2.2.2.2 47 _ (by decide) (by decide) hj) 0 mke_47 rfl (fun z => c_2 (Or.inl z)) rfl (Nat.not_le.mp fun z => c_2 (Or.inr z)) (mK_a47 (i := p2.toNatClampNeg) (v := 1) mcx_a47) dX10_begin_18 (fun H locs hw => ?_)
  refine lv_aload_n hx hb dX10_begin_19 rfl (lv_at hl 1 rfl) ?_
  refine k_get (C := RX6) (T := TX6) (N := 8) (v := .ref (ad 48 j)) hx hb hts inB_X6 hown hK hw (hR.2.2.2.2.2.2.2 46 _ (by decide) (by decide) hj) mke_46 rfl 3 (by decide) (hts _ w_f_X10_100) (fun _ h9 => h9) rfl dX10_begin_20 ?_
  refine lv_iload_n hx hb dX10_begin_23 rfl (lv_at hl 2 rfl) ?_
  refine lv_aload_n hx hb dX10_begin_24 rfl (lv_at hl 0 rfl) ?_
  refine k_get (C := RX10) (T := TX10) (N := 9) (v := .int (S 0 0 1)) hx hb hts inB_X10 hown hK hw (hR.1 30 (by decide) (by decide)) mke_30 rfl 8 (by decide) (hts _ w_f_X10_103) (fun _ h9 => h9) rfl dX10_begin_25 ?_
  refine k_asti hx hb hK hw (hR.2.2.2.2.2.2.2 48 _ (by decide) (by decide) hj) 0 mke_48 rfl (fun z => c_2 (Or.inl z)) rfl (Nat.not_le.mp fun z => c_2 (Or.inr z)) (mK_a48 (i := p2.toNatClampNeg) (v := (S 0 0 1)) mcx_a48) dX10_begin_28 (fun H locs hw => ?_)
  refine lv_aload_n hx hb dX10_begin_29 rfl (lv_at hl 0 rfl) ?_
  refine k_get (C := RX10) (T := TX10) (N := 9) (v := .ref (ad 31 0)) hx hb hts inB_X10 hown hK hw (hR.1 30 (by decide) (by decide)) mke_30 rfl 1 (by decide) (hts _ w_f_X10_10) (fun _ h9 => h9) rfl dX10_begin_30 ?_
  refine lv_iload_n hx hb dX10_begin_33 rfl (lv_at hl 2 rfl) ?_
  by_cases c_3 : p2 < 0 ∨ (S 1 0 0).toNatClampNeg ≤ p2.toNatClampNeg
  · exact nomatch (if_pos c_3).symm.trans hE
  have hE := (if_neg c_3).symm.trans hE
  refine k_cr0 (v := (ad 43 p2.toNatClampNeg)) hw (k_rV (f := 31) (o := 0) (As := [.int p2]) (rest := []) ⟨hx, hb, hml, hown, hts⟩ hK hO hw (ct_get_0 (SM.up rfl (by decide) (SM.up rfl (by decide) (SM.up rfl (by decide) (SM.rf S)))) hR (i := p2.toNatClampNeg) (fun z => c_3 (Or.inl z)) rfl (Nat.not_le.mp fun z => c_3 (Or.inr z)) _ (wk.hA hw hA)) (cwV 1 hts (gB_V w_ml_X10_51 w_im_Jx4a65c_get_915e3 w_se_Jx4a65c_get_915e3 w_in_Jx4a65c w_co_Jx4a65c_get_915e3) rfl rfl rfl (by decide +kernel) ⟨Nat.le_of_ble_eq_true rfl, Nat.le_of_ble_eq_true rfl⟩) (hR.1 31 (by decide) (by decide)) (ce_l0 (SM.up rfl (by decide) (SM.up rfl (by decide) (SM.up rfl (by decide) (SM.rf S))))) rfl rfl hl.1 rfl (Nat.le_of_ble_eq_true rfl) dX10_begin_34 ⟨(Nat.le_of_ble_eq_true rfl), (Nat.le_of_ble_eq_true rfl)⟩) (fun H locs hw => ?_)
  refine k_cast (f := 43) (o := p2.toNatClampNeg) hx hb hown (hts _ w_cl_X10_55) hK hw (hR.2.2.2.1 _ (Nat.not_le.mp fun z => c_3 (Or.inr z))) mke_43 rfl dX10_begin_37 ?_
  refine k_get (C := RX9) (T := TX9) (N := 4) (v := .int (S 7 0 p2.toNatClampNeg)) hx hb hts inB_X9 hown hK hw (hR.2.2.2.1 _ (Nat.not_le.mp fun z => c_3 (Or.inr z))) mke_43 rfl 0 (by decide) (hts _ w_f_X10_60) (fun _ h9 => h9) rfl dX10_begin_40 ?_
  refine lv_iconst (v := 1) hx hb dX10_begin_43 (by decide) ?_
  refine lv_icmp_ne (tgt := 70) hx hb dX10_begin_44 (by decide) (fun c_4 => ?_) (fun c_4 => ?_)
  · have hE := (if_neg c_4).symm.trans hE
    exact m_vretE hx hb hr hlocks hw hE (Nat.le_of_ble_eq_true rfl) (Nat.le_of_ble_eq_true rfl) dX10_begin_70
  · have hE := (if_pos c_4).symm.trans hE
    refine lv_aload_n hx hb dX10_begin_47 rfl (lv_at hl 0 rfl) ?_
    refine k_get (C := RX10) (T := TX10) (N := 9) (v := .ref (ad 37 0)) hx hb hts inB_X10 hown hK hw (hR.1 30 (by decide) (by decide)) mke_30 rfl 4 (by decide) (hts _ w_f_X10_23) (fun _ h9 => h9) rfl dX10_begin_48 ?_
    refine lv_aload_n hx hb dX10_begin_51 rfl (lv_at hl 0 rfl) ?_
    refine k_get (C := RX10) (T := TX10) (N := 9) (v := .ref (ad 31 0)) hx hb hts inB_X10 hown hK hw (hR.1 30 (by decide) (by decide)) mke_30 rfl 1 (by decide) (hts _ w_f_X10_10) (fun _ h9 => h9) rfl dX10_begin_52 ?_
    refine lv_iload_n hx hb dX10_begin_55 rfl (lv_at hl 2 rfl) ?_
    refine k_cr0 (v := (ad 43 p2.toNatClampNeg)) hw (k_rV (f := 31) (o := 0) (As := [.int p2]) (rest := [.ref (ad 37 0)]) ⟨hx, hb, hml, hown, hts⟩ hK hO hw (ct_get_0 (SM.up rfl (by decide) (SM.up rfl (by decide) (SM.up rfl (by decide) (SM.rf S)))) hR (i := p2.toNatClampNeg) (fun z => c_3 (Or.inl z)) rfl (Nat.not_le.mp fun z => c_3 (Or.inr z)) _ (wk.hA hw hA)) (cwV 1 hts (gB_V w_ml_X10_51 w_im_Jx4a65c_get_915e3 w_se_Jx4a65c_get_915e3 w_in_Jx4a65c w_co_Jx4a65c_get_915e3) rfl rfl rfl (by decide +kernel) ⟨Nat.le_of_ble_eq_true rfl, Nat.le_of_ble_eq_true rfl⟩) (hR.1 31 (by decide) (by decide)) (ce_l0 (SM.up rfl (by decide) (SM.up rfl (by decide) (SM.up rfl (by decide) (SM.rf S))))) rfl rfl hl.1 rfl (Nat.le_of_ble_eq_true rfl) dX10_begin_56 ⟨(Nat.le_of_ble_eq_true rfl), (Nat.le_of_ble_eq_true rfl)⟩) (fun H locs hw => ?_)
    refine k_cast (f := 43) (o := p2.toNatClampNeg) hx hb hown (hts _ w_cl_X10_55) hK hw (hR.2.2.2.1 _ (Nat.not_le.mp fun z => c_3 (Or.inr z))) mke_43 rfl dX10_begin_59 ?_
    refine k_get (C := RX9) (T := TX9) (N := 4) (v := .int (S 10 0 p2.toNatClampNeg)) hx hb hts inB_X9 hown hK hw (hR.2.2.2.1 _ (Nat.not_le.mp fun z => c_3 (Or.inr z))) mke_43 rfl 3 (by decide) (hts _ w_f_X10_57) (fun _ h9 => h9) rfl dX10_begin_62 ?_
    refine lv_dup2_11 hx hb dX10_begin_65 rfl rfl ?_
    by_cases c_5 : S 10 0 p2.toNatClampNeg < 0 ∨ 4 ≤ (S 10 0 p2.toNatClampNeg).toNatClampNeg
    · exact nomatch (if_pos c_5).symm.trans hE
    have hE := (if_neg c_5).symm.trans hE
    refine k_aldi hx hb hK hw (hR.1 37 (by decide) (by decide)) 0 mke_37 rfl (fun z => c_5 (Or.inl z)) rfl (Nat.not_le.mp fun z => c_5 (Or.inr z)) (v := S 13 0 ((S 10 0 p2.toNatClampNeg).toNatClampNeg)) rfl dX10_begin_66 ?_
    refine lv_iconst (v := 1) hx hb dX10_begin_67 (by decide) ?_
    refine lv_isub hx hb dX10_begin_68 ?_
    refine k_asti hx hb hK hw (hR.1 37 (by decide) (by decide)) 0 mke_37 rfl (fun z => c_5 (Or.inl z)) rfl (Nat.not_le.mp fun z => c_5 (Or.inr z)) (mK_stock (i := ((S 10 0 p2.toNatClampNeg).toNatClampNeg)) (v := ((S 13 0 ((S 10 0 p2.toNatClampNeg).toNatClampNeg)) - 1)) rfl) dX10_begin_69 (fun H locs hw => ?_)
    exact m_vretE hx hb hr hlocks hw hE (Nat.le_of_ble_eq_true rfl) (Nat.le_of_ble_eq_true rfl) dX10_begin_70

abbrev bw_X10_takeBack : List Cond := .code yX10_takeBack cX10_takeBack 3 none :: BIG
abbrev rm_X10_takeBack : Room := { frames := 4, cells := 0, slots := 0, locals := 86 }
noncomputable def sp_X10_takeBack (S : (Nat → Nat → Nat → Int32)) (j : Nat) : Option ((Nat → Nat → Nat → Int32)) := (sp_X6_last S j).bind fun x_1 => (if x_1 = (-1) then (some (S)) else (if x_1 < 0 ∨ 12 ≤ x_1.toNatClampNeg then none else (if x_1 < 0 ∨ (S 1 0 0).toNatClampNeg ≤ x_1.toNatClampNeg then none else (if S 7 0 x_1.toNatClampNeg = 1 then (if S 10 0 x_1.toNatClampNeg < 0 ∨ 4 ≤ (S 10 0 x_1.toNatClampNeg).toNatClampNeg then none else (some ((up3 (up3 S 24 j x_1.toNatClampNeg 3) 13 0 ((S 10 0 x_1.toNatClampNeg).toNatClampNeg) ((S 13 0 ((S 10 0 x_1.toNatClampNeg).toNatClampNeg)) + 1))))) else (some ((up3 S 24 j x_1.toNatClampNeg 3)))))))
theorem sf_X10_takeBack {S : (Nat → Nat → Nat → Int32)} {j : Nat} {v : (Nat → Nat → Nat → Int32)} (h : sp_X10_takeBack S j = some v) : SM S v := by
  unfold sp_X10_takeBack at h
  obtain ⟨x_1, hx_1, h⟩ := ob1 h
  by_cases q_7 : x_1 = (-1)
  · have h := (if_pos q_7).symm.trans h
    have hz : SM S S := (SM.rf S); cases h; exact hz
  · have h := (if_neg q_7).symm.trans h
    by_cases q_8 : x_1 < 0 ∨ 12 ≤ x_1.toNatClampNeg
    · exact nomatch (if_pos q_8).symm.trans h
    have h := (if_neg q_8).symm.trans h
    by_cases q_9 : x_1 < 0 ∨ (S 1 0 0).toNatClampNeg ≤ x_1.toNatClampNeg
    · exact nomatch (if_pos q_9).symm.trans h
    have h := (if_neg q_9).symm.trans h
    by_cases q_10 : S 7 0 x_1.toNatClampNeg = 1
    · have h := (if_pos q_10).symm.trans h
      by_cases q_11 : S 10 0 x_1.toNatClampNeg < 0 ∨ 4 ≤ (S 10 0 x_1.toNatClampNeg).toNatClampNeg
      · exact nomatch (if_pos q_11).symm.trans h
      have h := (if_neg q_11).symm.trans h
      have hz : SM S (up3 (up3 S 24 j x_1.toNatClampNeg 3) 13 0 ((S 10 0 x_1.toNatClampNeg).toNatClampNeg) ((S 13 0 ((S 10 0 x_1.toNatClampNeg).toNatClampNeg)) + 1)) := (SM.up rfl (by decide) (SM.up rfl (by decide) (SM.rf S))); cases h; exact hz
    · have h := (if_neg q_10).symm.trans h
      have hz : SM S (up3 S 24 j x_1.toNatClampNeg 3) := (SM.up rfl (by decide) (SM.rf S)); cases h; exact hz

set_option maxHeartbeats 1000000 in
set_option maxRecDepth 100000 in
theorem ct_X10_takeBack {l : Launch} {D : va_G} {cI cG cJ cO : ClassId} {K0 : Nat → Nat} {A : Nat → Prop} {L : List (Nat × Nat)} {ad : Nat → Nat → Nat} {ce : Nat → Nat → va_E} {cp : Nat → Nat} {S : (Nat → Nat → Nat → Int32)} (hR : MR S L cp) (hI : CI S) {j : Nat} (hj : j < (S 0 0 0).toNatClampNeg) {v : (Nat → Nat → Nat → Int32)} (hE : sp_X10_takeBack S j = some v) (sz : Nat) (hA : ∀ q, sz ≤ q → A q) : Met l yX10_takeBack bw_X10_takeBack (rm_X10_takeBack) (kP D (ktys cI cG cJ cO) K0 A L ad (mK cI cO K0 ad cp ce S) sz [.ref (ad 30 0), .ref (ad 46 j)]) (kQv D A L ad (mK cI cO K0 ad cp ce v)) 0 0 A := by
  refine Met.ofW (cc := cX10_takeBack) (maxL := 3) (ret := none) (by decide) rfl ?_
  intro p e s m args below meth c s₁ B hml hv_
  obtain ⟨hav, hsz, hP, hD, hK, hO⟩ := hv_
  have hx := B.exec
  have hb := B.bytes
  have hr := B.returns
  have hts : ∀ w ∈ BIG, w.before args s = true := fun w h => atoms_spec (ws := bw_X10_takeBack) B.pre w (List.mem_cons_of_mem _ h)
  have hown : s.vm.findClass RX10 = some m.cls := findClass_of_methodNamed B.named
  have hlocks := B.notSynchronized
  subst hsz
  have hw := wk.start hP hD
  refine k_start (by rfl) hav (Nat.le_of_ble_eq_true rfl) (fun ls hl => ?_)
  have hl : lv_has ls 3 [(0, .ref (ad 30 0)), (1, .ref (ad 46 j))] := hl
  unfold sp_X10_takeBack at hE
  refine lv_aload_n hx hb dX10_takeBack_0 rfl (lv_at hl 1 rfl) ?_
  obtain ⟨x_1, hx_1, hE⟩ := ob1 hE
  refine k_ci0 hw (k_rV (f := 46) (o := j) (As := []) (rest := []) ⟨hx, hb, hml, hown, hts⟩ hK hO hw (ct_X6_last (MR.sm (SM.rf S) hR) (SM.ci (SM.rf S) hI) (by rw [SM.c4 (SM.rf S)]; exact hj) hx_1 _ (wk.hA hw hA)) (cwV 0 hts (gB_V w_ml_X10_183 w_im_X6_last w_se_X6_last w_in_X6 w_co_X6_last) rfl rfl rfl (by decide +kernel) ⟨Nat.le_of_ble_eq_true rfl, Nat.le_of_ble_eq_true rfl⟩) (hR.2.2.2.2.2.2.2 46 _ (by decide) (by decide) hj) mke_46 rfl rfl hl.1 rfl (Nat.le_of_ble_eq_true rfl) dX10_takeBack_1 ⟨(Nat.le_of_ble_eq_true rfl), (Nat.le_of_ble_eq_true rfl)⟩) (fun H locs hw => ?_)
  refine lv_istore_n (lv' := [(2, .int x_1), (0, .ref (ad 30 0)), (1, .ref (ad 46 j))]) hx hb dX10_takeBack_4 rfl hl (by decide) rfl (fun ls hl => ?_)
  refine lv_iload_n hx hb dX10_takeBack_5 rfl (lv_at hl 0 rfl) ?_
  refine lv_iconst (v := (-1)) hx hb dX10_takeBack_6 (by decide) ?_
  refine lv_icmp_ne (tgt := 11) hx hb dX10_takeBack_7 (by decide) (fun c_2 => ?_) (fun c_2 => ?_)
  · have hE := (if_neg c_2).symm.trans hE
    refine lv_aload_n hx hb dX10_takeBack_11 rfl (lv_at hl 2 rfl) ?_
    refine k_get (C := RX6) (T := TX6) (N := 8) (v := .ref (ad 47 j)) hx hb hts inB_X6 hown hK hw (hR.2.2.2.2.2.2.2 46 _ (by decide) (by decide) hj) mke_46 rfl 2 (by decide) (hts _ w_f_X10_75) (fun _ h9 => h9) rfl dX10_takeBack_12 ?_
    refine lv_iload_n hx hb dX10_takeBack_15 rfl (lv_at hl 0 rfl) ?_
    refine lv_iconst (v := 3) hx hb dX10_takeBack_16 (by decide) ?_
    by_cases c_3 : x_1 < 0 ∨ 12 ≤ x_1.toNatClampNeg
    · exact nomatch (if_pos c_3).symm.trans hE
    have hE := (if_neg c_3).symm.trans hE
    refine k_asti hx hb hK hw (hR.2.2.2.2.2.2.2 47 _ (by decide) (by decide) hj) 0 mke_47 rfl (fun z => c_3 (Or.inl z)) rfl (Nat.not_le.mp fun z => c_3 (Or.inr z)) (mK_a47 (i := x_1.toNatClampNeg) (v := 3) mcx_a47) dX10_takeBack_17 (fun H locs hw => ?_)
    refine lv_aload_n hx hb dX10_takeBack_18 rfl (lv_at hl 1 rfl) ?_
    refine k_get (C := RX10) (T := TX10) (N := 9) (v := .ref (ad 31 0)) hx hb hts inB_X10 hown hK hw (hR.1 30 (by decide) (by decide)) mke_30 rfl 1 (by decide) (hts _ w_f_X10_10) (fun _ h9 => h9) rfl dX10_takeBack_19 ?_
    refine lv_iload_n hx hb dX10_takeBack_22 rfl (lv_at hl 0 rfl) ?_
    by_cases c_4 : x_1 < 0 ∨ (S 1 0 0).toNatClampNeg ≤ x_1.toNatClampNeg
    · exact nomatch (if_pos c_4).symm.trans hE
    have hE := (if_neg c_4).symm.trans hE
    refine k_cr0 (v := (ad 43 x_1.toNatClampNeg)) hw (k_rV (f := 31) (o := 0) (As := [.int x_1]) (rest := []) ⟨hx, hb, hml, hown, hts⟩ hK hO hw (ct_get_0 (SM.up rfl (by decide) (SM.rf S)) hR (i := x_1.toNatClampNeg) (fun z => c_4 (Or.inl z)) rfl (Nat.not_le.mp fun z => c_4 (Or.inr z)) _ (wk.hA hw hA)) (cwV 1 hts (gB_V w_ml_X10_51 w_im_Jx4a65c_get_915e3 w_se_Jx4a65c_get_915e3 w_in_Jx4a65c w_co_Jx4a65c_get_915e3) rfl rfl rfl (by decide +kernel) ⟨Nat.le_of_ble_eq_true rfl, Nat.le_of_ble_eq_true rfl⟩) (hR.1 31 (by decide) (by decide)) (ce_l0 (SM.up rfl (by decide) (SM.rf S))) rfl rfl hl.1 rfl (Nat.le_of_ble_eq_true rfl) dX10_takeBack_23 ⟨(Nat.le_of_ble_eq_true rfl), (Nat.le_of_ble_eq_true rfl)⟩) (fun H locs hw => ?_)
    refine k_cast (f := 43) (o := x_1.toNatClampNeg) hx hb hown (hts _ w_cl_X10_55) hK hw (hR.2.2.2.1 _ (Nat.not_le.mp fun z => c_4 (Or.inr z))) mke_43 rfl dX10_takeBack_26 ?_
    refine k_get (C := RX9) (T := TX9) (N := 4) (v := .int (S 7 0 x_1.toNatClampNeg)) hx hb hts inB_X9 hown hK hw (hR.2.2.2.1 _ (Nat.not_le.mp fun z => c_4 (Or.inr z))) mke_43 rfl 0 (by decide) (hts _ w_f_X10_60) (fun _ h9 => h9) rfl dX10_takeBack_29 ?_
    refine lv_iconst (v := 1) hx hb dX10_takeBack_32 (by decide) ?_
    refine lv_icmp_ne (tgt := 59) hx hb dX10_takeBack_33 (by decide) (fun c_5 => ?_) (fun c_5 => ?_)
    · have hE := (if_neg c_5).symm.trans hE
      exact m_vretE hx hb hr hlocks hw hE (Nat.le_of_ble_eq_true rfl) (Nat.le_of_ble_eq_true rfl) dX10_takeBack_59
    · have hE := (if_pos c_5).symm.trans hE
      refine lv_aload_n hx hb dX10_takeBack_36 rfl (lv_at hl 1 rfl) ?_
      refine k_get (C := RX10) (T := TX10) (N := 9) (v := .ref (ad 37 0)) hx hb hts inB_X10 hown hK hw (hR.1 30 (by decide) (by decide)) mke_30 rfl 4 (by decide) (hts _ w_f_X10_23) (fun _ h9 => h9) rfl dX10_takeBack_37 ?_
      refine lv_aload_n hx hb dX10_takeBack_40 rfl (lv_at hl 1 rfl) ?_
      refine k_get (C := RX10) (T := TX10) (N := 9) (v := .ref (ad 31 0)) hx hb hts inB_X10 hown hK hw (hR.1 30 (by decide) (by decide)) mke_30 rfl 1 (by decide) (hts _ w_f_X10_10) (fun _ h9 => h9) rfl dX10_takeBack_41 ?_
      refine lv_iload_n hx hb dX10_takeBack_44 rfl (lv_at hl 0 rfl) ?_
      refine k_cr0 (v := (ad 43 x_1.toNatClampNeg)) hw (k_rV (f := 31) (o := 0) (As := [.int x_1]) (rest := [.ref (ad 37 0)]) ⟨hx, hb, hml, hown, hts⟩ hK hO hw (ct_get_0 (SM.up rfl (by decide) (SM.rf S)) hR (i := x_1.toNatClampNeg) (fun z => c_4 (Or.inl z)) rfl (Nat.not_le.mp fun z => c_4 (Or.inr z)) _ (wk.hA hw hA)) (cwV 1 hts (gB_V w_ml_X10_51 w_im_Jx4a65c_get_915e3 w_se_Jx4a65c_get_915e3 w_in_Jx4a65c w_co_Jx4a65c_get_915e3) rfl rfl rfl (by decide +kernel) ⟨Nat.le_of_ble_eq_true rfl, Nat.le_of_ble_eq_true rfl⟩) (hR.1 31 (by decide) (by decide)) (ce_l0 (SM.up rfl (by decide) (SM.rf S))) rfl rfl hl.1 rfl (Nat.le_of_ble_eq_true rfl) dX10_takeBack_45 ⟨(Nat.le_of_ble_eq_true rfl), (Nat.le_of_ble_eq_true rfl)⟩) (fun H locs hw => ?_)
      refine k_cast (f := 43) (o := x_1.toNatClampNeg) hx hb hown (hts _ w_cl_X10_55) hK hw (hR.2.2.2.1 _ (Nat.not_le.mp fun z => c_4 (Or.inr z))) mke_43 rfl dX10_takeBack_48 ?_
      refine k_get (C := RX9) (T := TX9) (N := 4) (v := .int (S 10 0 x_1.toNatClampNeg)) hx hb hts inB_X9 hown hK hw (hR.2.2.2.1 _ (Nat.not_le.mp fun z => c_4 (Or.inr z))) mke_43 rfl 3 (by decide) (hts _ w_f_X10_57) (fun _ h9 => h9) rfl dX10_takeBack_51 ?_
      refine lv_dup2_11 hx hb dX10_takeBack_54 rfl rfl ?_
      by_cases c_6 : S 10 0 x_1.toNatClampNeg < 0 ∨ 4 ≤ (S 10 0 x_1.toNatClampNeg).toNatClampNeg
      · exact nomatch (if_pos c_6).symm.trans hE
      have hE := (if_neg c_6).symm.trans hE
      refine k_aldi hx hb hK hw (hR.1 37 (by decide) (by decide)) 0 mke_37 rfl (fun z => c_6 (Or.inl z)) rfl (Nat.not_le.mp fun z => c_6 (Or.inr z)) (v := S 13 0 ((S 10 0 x_1.toNatClampNeg).toNatClampNeg)) rfl dX10_takeBack_55 ?_
      refine lv_iconst (v := 1) hx hb dX10_takeBack_56 (by decide) ?_
      refine lv_iadd hx hb dX10_takeBack_57 ?_
      refine k_asti hx hb hK hw (hR.1 37 (by decide) (by decide)) 0 mke_37 rfl (fun z => c_6 (Or.inl z)) rfl (Nat.not_le.mp fun z => c_6 (Or.inr z)) (mK_stock (i := ((S 10 0 x_1.toNatClampNeg).toNatClampNeg)) (v := ((S 13 0 ((S 10 0 x_1.toNatClampNeg).toNatClampNeg)) + 1)) rfl) dX10_takeBack_58 (fun H locs hw => ?_)
      exact m_vretE hx hb hr hlocks hw hE (Nat.le_of_ble_eq_true rfl) (Nat.le_of_ble_eq_true rfl) dX10_takeBack_59
  · have hE := (if_pos c_2).symm.trans hE
    exact m_vretE hx hb hr hlocks hw hE (Nat.le_of_ble_eq_true rfl) (Nat.le_of_ble_eq_true rfl) dX10_takeBack_10

abbrev bw_X10_nextNow : List Cond := .code yX10_nextNow cX10_nextNow 3 (some .int) :: BIG
abbrev rm_X10_nextNow : Room := { frames := 5, cells := 0, slots := 0, locals := 107 }
noncomputable def lp_X10_nextNow_2 (S : (Nat → Nat → Nat → Int32)) (j : Nat) : Nat → Nat → Option (Int32)
  | 0, i => some ((-1))
  | k + 1, i => if S 6 j 2 = 0 then ((sp_X6_is S j (nI i) 0).bind fun x_2 => (if x_2 = 0 then ((sp_X6_is S j (nI i) 1).bind fun x_6 => (if x_6 = 0 then (lp_X10_nextNow_2 S j k (i + 1)) else ((sp_X6_hasNeeds S j (S 9 0 i)).bind fun x_8 => (if x_8 = 0 then (lp_X10_nextNow_2 S j k (i + 1)) else (some (nI i)))))) else ((sp_X6_hasNeeds S j (S 9 0 i)).bind fun x_4 => (if x_4 = 0 then (lp_X10_nextNow_2 S j k (i + 1)) else (some (nI i)))))) else (lp_X10_nextNow_2 S j k (i + 1))
theorem lz_lp_X10_nextNow_2 (S : (Nat → Nat → Nat → Int32)) (j : Nat) (i : Nat) : lp_X10_nextNow_2 S j 0 i = some ((-1)) := rfl
theorem ls_lp_X10_nextNow_2 (S : (Nat → Nat → Nat → Int32)) (j : Nat) (k i : Nat) : lp_X10_nextNow_2 S j (k + 1) i = if S 6 j 2 = 0 then ((sp_X6_is S j (nI i) 0).bind fun x_2 => (if x_2 = 0 then ((sp_X6_is S j (nI i) 1).bind fun x_6 => (if x_6 = 0 then (lp_X10_nextNow_2 S j k (i + 1)) else ((sp_X6_hasNeeds S j (S 9 0 i)).bind fun x_8 => (if x_8 = 0 then (lp_X10_nextNow_2 S j k (i + 1)) else (some (nI i)))))) else ((sp_X6_hasNeeds S j (S 9 0 i)).bind fun x_4 => (if x_4 = 0 then (lp_X10_nextNow_2 S j k (i + 1)) else (some (nI i)))))) else (lp_X10_nextNow_2 S j k (i + 1)) := rfl
noncomputable def sp_X10_nextNow (S : (Nat → Nat → Nat → Int32)) (j : Nat) : Option (Int32) := lp_X10_nextNow_2 S j ((S 1 0 0).toNatClampNeg) 0
set_option maxHeartbeats 1000000 in
set_option maxRecDepth 100000 in
theorem ct_X10_nextNow {l : Launch} {D : va_G} {cI cG cJ cO : ClassId} {K0 : Nat → Nat} {A : Nat → Prop} {L : List (Nat × Nat)} {ad : Nat → Nat → Nat} {ce : Nat → Nat → va_E} {cp : Nat → Nat} {S : (Nat → Nat → Nat → Int32)} (hR : MR S L cp) (hI : CI S) {j : Nat} (hj : j < (S 0 0 0).toNatClampNeg) {v : Int32} (hE : sp_X10_nextNow S j = some v) (sz : Nat) (hA : ∀ q, sz ≤ q → A q) : Met l yX10_nextNow bw_X10_nextNow (rm_X10_nextNow) (kP D (ktys cI cG cJ cO) K0 A L ad (mK cI cO K0 ad cp ce S) sz [.ref (ad 30 0), .ref (ad 46 j)]) (kQi D A v L ad (mK cI cO K0 ad cp ce S)) 0 0 A := by
  refine Met.ofW (cc := cX10_nextNow) (maxL := 3) (ret := (some .int)) (by decide) rfl ?_
  intro p e s m args below meth c s₁ B hml hv_
  obtain ⟨hav, hsz, hP, hD, hK, hO⟩ := hv_
  have hx := B.exec
  have hb := B.bytes
  have hr := B.returns
  have hts : ∀ w ∈ BIG, w.before args s = true := fun w h => atoms_spec (ws := bw_X10_nextNow) B.pre w (List.mem_cons_of_mem _ h)
  have hown : s.vm.findClass RX10 = some m.cls := findClass_of_methodNamed B.named
  have hlocks := B.notSynchronized
  subst hsz
  have hw := wk.start hP hD
  refine k_start (by rfl) hav (Nat.le_of_ble_eq_true rfl) (fun ls hl => ?_)
  have hl : lv_has ls 3 [(0, .ref (ad 30 0)), (1, .ref (ad 46 j))] := hl
  unfold sp_X10_nextNow at hE
  refine lv_iconst (v := 0) hx hb dX10_nextNow_0 (by decide) ?_
  refine lv_istore_n (lv' := [(2, .int 0), (0, .ref (ad 30 0)), (1, .ref (ad 46 j))]) hx hb dX10_nextNow_1 rfl hl (by decide) rfl (fun ls hl => ?_)
  have key_2 : ∀ (k i : Nat) (H : Heap) (locs : List Loc) (ls : Array Slot), i + k = (S 1 0 0).toNatClampNeg → lp_X10_nextNow_2 S j k i = some v → wk D A (L) ad (mK cI cO K0 ad cp ce S) s.heap H locs → lv_has ls 3 [(0, .ref (ad 30 0)), (1, .ref (ad 46 j)), (2, .int (nI i))] → W p l e (headSpec bw_X10_nextNow (rm_X10_nextNow)).room s m args below meth c H locs 0 0 (MQ below (kQi D A v L ad (mK cI cO K0 ad cp ce S)) args s 0 0 A) (F0 m 2 ls []) := by
    intro k
    induction k with
    | zero =>
      intro i H locs ls hk hE hw hl
      have hE := (lz_lp_X10_nextNow_2 S j i).symm.trans hE
      refine lv_iload_n hx hb dX10_nextNow_2 rfl (lv_at hl 2 rfl) ?_
      refine lv_aload_n hx hb dX10_nextNow_3 rfl (lv_at hl 0 rfl) ?_
      refine k_get (C := RX10) (T := TX10) (N := 9) (v := .ref (ad 31 0)) hx hb hts inB_X10 hown hK hw (hR.1 30 (by decide) (by decide)) mke_30 rfl 1 (by decide) (hts _ w_f_X10_10) (fun _ h9 => h9) rfl dX10_nextNow_4 ?_
      refine k_ci0 hw (k_rV (f := 31) (o := 0) (As := []) (rest := [.int (nI i)]) ⟨hx, hb, hml, hown, hts⟩ hK hO hw (ct_size_0 (SM.rf S) hR _ (wk.hA hw hA)) (cwV 0 hts (gB_V w_ml_X10_43 w_im_Jx4a65c_size_8abf5 w_se_Jx4a65c_size_8abf5 w_in_Jx4a65c w_co_Jx4a65c_size_8abf5) rfl rfl rfl (by decide +kernel) ⟨Nat.le_of_ble_eq_true rfl, Nat.le_of_ble_eq_true rfl⟩) (hR.1 31 (by decide) (by decide)) (ce_l0 (SM.rf S)) rfl rfl hl.1 rfl (Nat.le_of_ble_eq_true rfl) dX10_nextNow_7 ⟨(Nat.le_of_ble_eq_true rfl), (Nat.le_of_ble_eq_true rfl)⟩) (fun H locs hw => ?_)
      refine lv_icmp_ge (tgt := 67) hx hb dX10_nextNow_10 (by decide) (fun _ => ?_) (fun h => absurd (lp_o (cn_eq hI.1.1) hk (cn_lt _)) h)
      refine lv_iconst (v := (-1)) hx hb dX10_nextNow_67 (by decide) ?_
      exact m_iret hx hb hr hlocks rfl hw hE (Nat.le_of_ble_eq_true rfl) (Nat.le_of_ble_eq_true rfl) dX10_nextNow_68
    | succ k ih =>
      intro i H locs ls hk hE hw hl
      have hE := (ls_lp_X10_nextNow_2 S j k i).symm.trans hE
      refine lv_iload_n hx hb dX10_nextNow_2 rfl (lv_at hl 2 rfl) ?_
      refine lv_aload_n hx hb dX10_nextNow_3 rfl (lv_at hl 0 rfl) ?_
      refine k_get (C := RX10) (T := TX10) (N := 9) (v := .ref (ad 31 0)) hx hb hts inB_X10 hown hK hw (hR.1 30 (by decide) (by decide)) mke_30 rfl 1 (by decide) (hts _ w_f_X10_10) (fun _ h9 => h9) rfl dX10_nextNow_4 ?_
      refine k_ci0 hw (k_rV (f := 31) (o := 0) (As := []) (rest := [.int (nI i)]) ⟨hx, hb, hml, hown, hts⟩ hK hO hw (ct_size_0 (SM.rf S) hR _ (wk.hA hw hA)) (cwV 0 hts (gB_V w_ml_X10_43 w_im_Jx4a65c_size_8abf5 w_se_Jx4a65c_size_8abf5 w_in_Jx4a65c w_co_Jx4a65c_size_8abf5) rfl rfl rfl (by decide +kernel) ⟨Nat.le_of_ble_eq_true rfl, Nat.le_of_ble_eq_true rfl⟩) (hR.1 31 (by decide) (by decide)) (ce_l0 (SM.rf S)) rfl rfl hl.1 rfl (Nat.le_of_ble_eq_true rfl) dX10_nextNow_7 ⟨(Nat.le_of_ble_eq_true rfl), (Nat.le_of_ble_eq_true rfl)⟩) (fun H locs hw => ?_)
      refine lv_icmp_ge (tgt := 67) hx hb dX10_nextNow_10 (by decide) (fun h => absurd h (lp_i (cn_eq hI.1.1) hk (cn_lt _))) (fun _ => ?_)
      refine lv_aload_n hx hb dX10_nextNow_13 rfl (lv_at hl 1 rfl) ?_
      refine k_get (C := RX6) (T := TX6) (N := 8) (v := .int (S 6 j 2)) hx hb hts inB_X6 hown hK hw (hR.2.2.2.2.2.2.2 46 _ (by decide) (by decide) hj) mke_46 rfl 7 (by decide) (hts _ w_f_X10_140) (fun _ h9 => h9) rfl dX10_nextNow_14 ?_
      refine lv_if_ne (tgt := 61) hx hb dX10_nextNow_17 (by decide) (fun c_1 => ?_) (fun c_1 => ?_)
      · have hE := (if_neg c_1).symm.trans hE
        refine lv_iinc (v := (nI (i + 1))) (lv' := [(2, .int (nI (i + 1))), (0, .ref (ad 30 0)), (1, .ref (ad 46 j))]) hx hb dX10_nextNow_61 hl (k := 2) rfl (nI_1 _) (by decide) rfl (fun ls hl => ?_)
        refine lv_goto (tgt := 2) hx hb dX10_nextNow_64 (by decide) ?_
        exact ih (i + 1) _ _ _ (lp_s hk) hE hw (lv_sub hl [1, 2, 0] rfl)
      · have hE := (if_pos c_1).symm.trans hE
        refine lv_aload_n hx hb dX10_nextNow_20 rfl (lv_at hl 1 rfl) ?_
        refine lv_iload_n hx hb dX10_nextNow_21 rfl (lv_at hl 2 rfl) ?_
        refine lv_iconst (v := 0) hx hb dX10_nextNow_22 (by decide) ?_
        obtain ⟨x_2, hx_2, hE⟩ := ob1 hE
        refine k_ci0 hw (k_rV (f := 46) (o := j) (As := [.int (nI i), .int 0]) (rest := []) ⟨hx, hb, hml, hown, hts⟩ hK hO hw (ct_X6_is (MR.sm (SM.rf S) hR) (SM.ci (SM.rf S) hI) (by rw [SM.c4 (SM.rf S)]; exact hj) hx_2 _ (wk.hA hw hA)) (cwV 2 hts (gB_V w_ml_X10_63 w_im_X6_is w_se_X6_is w_in_X6 w_co_X6_is) rfl rfl rfl (by decide +kernel) ⟨Nat.le_of_ble_eq_true rfl, Nat.le_of_ble_eq_true rfl⟩) (hR.2.2.2.2.2.2.2 46 _ (by decide) (by decide) hj) mke_46 rfl rfl hl.1 rfl (Nat.le_of_ble_eq_true rfl) dX10_nextNow_23 ⟨(Nat.le_of_ble_eq_true rfl), (Nat.le_of_ble_eq_true rfl)⟩) (fun H locs hw => ?_)
        refine lv_if_ne (tgt := 38) hx hb dX10_nextNow_26 (by decide) (fun c_3 => ?_) (fun c_3 => ?_)
        · have hE := (if_neg c_3).symm.trans hE
          refine lv_aload_n hx hb dX10_nextNow_38 rfl (lv_at hl 1 rfl) ?_
          refine lv_aload_n hx hb dX10_nextNow_39 rfl (lv_at hl 0 rfl) ?_
          refine k_get (C := RX10) (T := TX10) (N := 9) (v := .ref (ad 31 0)) hx hb hts inB_X10 hown hK hw (hR.1 30 (by decide) (by decide)) mke_30 rfl 1 (by decide) (hts _ w_f_X10_10) (fun _ h9 => h9) rfl dX10_nextNow_40 ?_
          refine lv_iload_n hx hb dX10_nextNow_43 rfl (lv_at hl 2 rfl) ?_
          refine k_cr0 (v := (ad 43 i)) hw (k_rV (f := 31) (o := 0) (As := [.int (nI i)]) (rest := [.ref (ad 46 j)]) ⟨hx, hb, hml, hown, hts⟩ hK hO hw (ct_get_0 (SM.rf S) hR (i := i) (nI_nlt (a := i) (b := 0) (Nat.zero_le _) (Nat.lt_trans (show i < (S 1 0 0).toNatClampNeg from (lp_l hk)) (cn_lt _))) (nI_clamp (Nat.lt_trans (show i < (S 1 0 0).toNatClampNeg from (lp_l hk)) (cn_lt _))) (show i < (S 1 0 0).toNatClampNeg from (lp_l hk)) _ (wk.hA hw hA)) (cwV 1 hts (gB_V w_ml_X10_51 w_im_Jx4a65c_get_915e3 w_se_Jx4a65c_get_915e3 w_in_Jx4a65c w_co_Jx4a65c_get_915e3) rfl rfl rfl (by decide +kernel) ⟨Nat.le_of_ble_eq_true rfl, Nat.le_of_ble_eq_true rfl⟩) (hR.1 31 (by decide) (by decide)) (ce_l0 (SM.rf S)) rfl rfl hl.1 rfl (Nat.le_of_ble_eq_true rfl) dX10_nextNow_44 ⟨(Nat.le_of_ble_eq_true rfl), (Nat.le_of_ble_eq_true rfl)⟩) (fun H locs hw => ?_)
          refine k_cast (f := 43) (o := i) hx hb hown (hts _ w_cl_X10_55) hK hw (hR.2.2.2.1 _ (show i < (S 1 0 0).toNatClampNeg from (lp_l hk))) mke_43 rfl dX10_nextNow_47 ?_
          refine k_get (C := RX9) (T := TX9) (N := 4) (v := .int (S 9 0 i)) hx hb hts inB_X9 hown hK hw (hR.2.2.2.1 _ (show i < (S 1 0 0).toNatClampNeg from (lp_l hk))) mke_43 rfl 2 (by decide) (hts _ w_f_X10_115) (fun _ h9 => h9) rfl dX10_nextNow_50 ?_
          obtain ⟨x_4, hx_4, hE⟩ := ob1 hE
          refine k_ci0 hw (k_rV (f := 46) (o := j) (As := [.int (S 9 0 i)]) (rest := []) ⟨hx, hb, hml, hown, hts⟩ hK hO hw (ct_X6_hasNeeds (MR.sm (SM.rf S) hR) (SM.ci (SM.rf S) hI) (by rw [SM.c4 (SM.rf S)]; exact hj) hx_4 _ (wk.hA hw hA)) (cwV 1 hts (gB_V w_ml_X10_172 w_im_X6_hasNeeds w_se_X6_hasNeeds w_in_X6 w_co_X6_hasNeeds) rfl rfl rfl (by decide +kernel) ⟨Nat.le_of_ble_eq_true rfl, Nat.le_of_ble_eq_true rfl⟩) (hR.2.2.2.2.2.2.2 46 _ (by decide) (by decide) hj) mke_46 rfl rfl hl.1 rfl (Nat.le_of_ble_eq_true rfl) dX10_nextNow_53 ⟨(Nat.le_of_ble_eq_true rfl), (Nat.le_of_ble_eq_true rfl)⟩) (fun H locs hw => ?_)
          refine lv_if_eq (tgt := 61) hx hb dX10_nextNow_56 (by decide) (fun c_5 => ?_) (fun c_5 => ?_)
          · have hE := (if_pos c_5).symm.trans hE
            refine lv_iinc (v := (nI (i + 1))) (lv' := [(2, .int (nI (i + 1))), (0, .ref (ad 30 0)), (1, .ref (ad 46 j))]) hx hb dX10_nextNow_61 hl (k := 2) rfl (nI_1 _) (by decide) rfl (fun ls hl => ?_)
            refine lv_goto (tgt := 2) hx hb dX10_nextNow_64 (by decide) ?_
            exact ih (i + 1) _ _ _ (lp_s hk) hE hw (lv_sub hl [1, 2, 0] rfl)
          · have hE := (if_neg c_5).symm.trans hE
            refine lv_iload_n hx hb dX10_nextNow_59 rfl (lv_at hl 2 rfl) ?_
            exact m_iret hx hb hr hlocks rfl hw hE (Nat.le_of_ble_eq_true rfl) (Nat.le_of_ble_eq_true rfl) dX10_nextNow_60
        · have hE := (if_pos c_3).symm.trans hE
          refine lv_aload_n hx hb dX10_nextNow_29 rfl (lv_at hl 1 rfl) ?_
          refine lv_iload_n hx hb dX10_nextNow_30 rfl (lv_at hl 2 rfl) ?_
          refine lv_iconst (v := 1) hx hb dX10_nextNow_31 (by decide) ?_
          obtain ⟨x_6, hx_6, hE⟩ := ob1 hE
          refine k_ci0 hw (k_rV (f := 46) (o := j) (As := [.int (nI i), .int 1]) (rest := []) ⟨hx, hb, hml, hown, hts⟩ hK hO hw (ct_X6_is (MR.sm (SM.rf S) hR) (SM.ci (SM.rf S) hI) (by rw [SM.c4 (SM.rf S)]; exact hj) hx_6 _ (wk.hA hw hA)) (cwV 2 hts (gB_V w_ml_X10_63 w_im_X6_is w_se_X6_is w_in_X6 w_co_X6_is) rfl rfl rfl (by decide +kernel) ⟨Nat.le_of_ble_eq_true rfl, Nat.le_of_ble_eq_true rfl⟩) (hR.2.2.2.2.2.2.2 46 _ (by decide) (by decide) hj) mke_46 rfl rfl hl.1 rfl (Nat.le_of_ble_eq_true rfl) dX10_nextNow_32 ⟨(Nat.le_of_ble_eq_true rfl), (Nat.le_of_ble_eq_true rfl)⟩) (fun H locs hw => ?_)
          refine lv_if_eq (tgt := 61) hx hb dX10_nextNow_35 (by decide) (fun c_7 => ?_) (fun c_7 => ?_)
          · have hE := (if_pos c_7).symm.trans hE
            refine lv_iinc (v := (nI (i + 1))) (lv' := [(2, .int (nI (i + 1))), (0, .ref (ad 30 0)), (1, .ref (ad 46 j))]) hx hb dX10_nextNow_61 hl (k := 2) rfl (nI_1 _) (by decide) rfl (fun ls hl => ?_)
            refine lv_goto (tgt := 2) hx hb dX10_nextNow_64 (by decide) ?_
            exact ih (i + 1) _ _ _ (lp_s hk) hE hw (lv_sub hl [1, 2, 0] rfl)
          · have hE := (if_neg c_7).symm.trans hE
            refine lv_aload_n hx hb dX10_nextNow_38 rfl (lv_at hl 1 rfl) ?_
            refine lv_aload_n hx hb dX10_nextNow_39 rfl (lv_at hl 0 rfl) ?_
            refine k_get (C := RX10) (T := TX10) (N := 9) (v := .ref (ad 31 0)) hx hb hts inB_X10 hown hK hw (hR.1 30 (by decide) (by decide)) mke_30 rfl 1 (by decide) (hts _ w_f_X10_10) (fun _ h9 => h9) rfl dX10_nextNow_40 ?_
            refine lv_iload_n hx hb dX10_nextNow_43 rfl (lv_at hl 2 rfl) ?_
            refine k_cr0 (v := (ad 43 i)) hw (k_rV (f := 31) (o := 0) (As := [.int (nI i)]) (rest := [.ref (ad 46 j)]) ⟨hx, hb, hml, hown, hts⟩ hK hO hw (ct_get_0 (SM.rf S) hR (i := i) (nI_nlt (a := i) (b := 0) (Nat.zero_le _) (Nat.lt_trans (show i < (S 1 0 0).toNatClampNeg from (lp_l hk)) (cn_lt _))) (nI_clamp (Nat.lt_trans (show i < (S 1 0 0).toNatClampNeg from (lp_l hk)) (cn_lt _))) (show i < (S 1 0 0).toNatClampNeg from (lp_l hk)) _ (wk.hA hw hA)) (cwV 1 hts (gB_V w_ml_X10_51 w_im_Jx4a65c_get_915e3 w_se_Jx4a65c_get_915e3 w_in_Jx4a65c w_co_Jx4a65c_get_915e3) rfl rfl rfl (by decide +kernel) ⟨Nat.le_of_ble_eq_true rfl, Nat.le_of_ble_eq_true rfl⟩) (hR.1 31 (by decide) (by decide)) (ce_l0 (SM.rf S)) rfl rfl hl.1 rfl (Nat.le_of_ble_eq_true rfl) dX10_nextNow_44 ⟨(Nat.le_of_ble_eq_true rfl), (Nat.le_of_ble_eq_true rfl)⟩) (fun H locs hw => ?_)
            refine k_cast (f := 43) (o := i) hx hb hown (hts _ w_cl_X10_55) hK hw (hR.2.2.2.1 _ (show i < (S 1 0 0).toNatClampNeg from (lp_l hk))) mke_43 rfl dX10_nextNow_47 ?_
            refine k_get (C := RX9) (T := TX9) (N := 4) (v := .int (S 9 0 i)) hx hb hts inB_X9 hown hK hw (hR.2.2.2.1 _ (show i < (S 1 0 0).toNatClampNeg from (lp_l hk))) mke_43 rfl 2 (by decide) (hts _ w_f_X10_115) (fun _ h9 => h9) rfl dX10_nextNow_50 ?_
            obtain ⟨x_8, hx_8, hE⟩ := ob1 hE
            refine k_ci0 hw (k_rV (f := 46) (o := j) (As := [.int (S 9 0 i)]) (rest := []) ⟨hx, hb, hml, hown, hts⟩ hK hO hw (ct_X6_hasNeeds (MR.sm (SM.rf S) hR) (SM.ci (SM.rf S) hI) (by rw [SM.c4 (SM.rf S)]; exact hj) hx_8 _ (wk.hA hw hA)) (cwV 1 hts (gB_V w_ml_X10_172 w_im_X6_hasNeeds w_se_X6_hasNeeds w_in_X6 w_co_X6_hasNeeds) rfl rfl rfl (by decide +kernel) ⟨Nat.le_of_ble_eq_true rfl, Nat.le_of_ble_eq_true rfl⟩) (hR.2.2.2.2.2.2.2 46 _ (by decide) (by decide) hj) mke_46 rfl rfl hl.1 rfl (Nat.le_of_ble_eq_true rfl) dX10_nextNow_53 ⟨(Nat.le_of_ble_eq_true rfl), (Nat.le_of_ble_eq_true rfl)⟩) (fun H locs hw => ?_)
            refine lv_if_eq (tgt := 61) hx hb dX10_nextNow_56 (by decide) (fun c_9 => ?_) (fun c_9 => ?_)
            · have hE := (if_pos c_9).symm.trans hE
              refine lv_iinc (v := (nI (i + 1))) (lv' := [(2, .int (nI (i + 1))), (0, .ref (ad 30 0)), (1, .ref (ad 46 j))]) hx hb dX10_nextNow_61 hl (k := 2) rfl (nI_1 _) (by decide) rfl (fun ls hl => ?_)
              refine lv_goto (tgt := 2) hx hb dX10_nextNow_64 (by decide) ?_
              exact ih (i + 1) _ _ _ (lp_s hk) hE hw (lv_sub hl [1, 2, 0] rfl)
            · have hE := (if_neg c_9).symm.trans hE
              refine lv_iload_n hx hb dX10_nextNow_59 rfl (lv_at hl 2 rfl) ?_
              exact m_iret hx hb hr hlocks rfl hw hE (Nat.le_of_ble_eq_true rfl) (Nat.le_of_ble_eq_true rfl) dX10_nextNow_60
  exact key_2 ((S 1 0 0).toNatClampNeg) 0 _ _ _ (Nat.zero_add _) hE hw (lv_sub hl [1, 2, 0] rfl)
