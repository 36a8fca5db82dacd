abbrev bw_X5_join : List Cond := .code yX5_join cX5_join 5 (some .int) :: BIG
abbrev rm_X5_join : Room := { frames := 6, cells := 2, slots := 12, locals := 135 }
noncomputable def rw_X5_join (S : (Nat → Nat → Nat → Int32)) (p1 : Int32) (p2 : Int32) : Nat × Int32 × (Nat → Nat → Nat → Int32) := if p1 < 0 then ((1, 0, S)) else (if p1 < 4 then (if sp_X5_isAhead S p2 = 0 then ((2, 0, S)) else (if 8 ≤ S 0 0 0 then ((3, 0, S)) else (if S 11 0 p1.toNatClampNeg = 0 then ((3, 0, S)) else ((0, S 0 0 0, (sp_X5_bookAll (up3 (up3 (up3 S 0 0 0 ((S 0 0 0) + 1)) 6 ((S 0 0 0).toNatClampNeg) 0 (S 11 0 p1.toNatClampNeg)) 6 ((S 0 0 0).toNatClampNeg) 1 p2))))))) else ((1, 0, S)))
/-- sealed: it unfolds by un_ alone -/
noncomputable def sp_X5_join : (Nat → Nat → Nat → Int32) → Int32 → Int32 → (Nat × Int32 × (Nat → Nat → Nat → Int32)) := Classical.choose (⟨rw_X5_join, rfl⟩ : ∃ f, f = rw_X5_join)
theorem un_X5_join (S : (Nat → Nat → Nat → Int32)) (p1 : Int32) (p2 : Int32) : sp_X5_join S p1 p2 = rw_X5_join S p1 p2 := (congrFun (congrFun (congrFun (Classical.choose_spec (⟨rw_X5_join, rfl⟩ : ∃ f, f = rw_X5_join)) S) p1) p2)
set_option maxHeartbeats 1000000 in
set_option maxRecDepth 100000 in
theorem ct_X5_join {l : Launch} {D : va_G} {cI cG cJ cO : ClassId} {K0 : Nat → Nat} {A : Nat → Prop} {L : List (Nat × Nat)} {ad : Nat → Nat → Nat} {ce : Nat → Nat → va_E} (hL : ∀ f o, cid f o = true → (f, o) ∈ L) (S : (Nat → Nat → Nat → Int32)) (hI : CI S) (p1 : Int32) (p2 : Int32) (hst : l.stackTraces = false) (sz : Nat) (hA : ∀ q, sz ≤ q → A q) : vx_Met l yX5_join bw_X5_join rm_X5_join (kP D (ktys cI cG cJ cO) K0 A L ad (cK cI cJ ad ce S) sz [.ref (ad 0 0), .int p1, .int p2]) (va_Qi (fun (r : Int32) (_ : Unit) => r = (sp_X5_join S p1 p2).2.1 ∧ (sp_X5_join S p1 p2).1 = 0) (fun _ t => WE D A L ad (cK cI cJ ad ce ((sp_X5_join S p1 p2).2.2)) t) A) (vx_X (fun (_ : Unit) => True) (fun E _ t => kE E (sp_X5_join S p1 p2).1 ∧ WE D A L ad (cK cI cJ ad ce S) t) A) 2 12 A := by
  refine vx_ofW (cc := cX5_join) (maxL := 5) (ret := (some .int)) (by decide) rfl ?_
  intro p e s m args below meth c s₁ B hml hexn hv
  obtain ⟨hav, hsz, hP, hD, hK, hO⟩ := hv
  have hx := B.exec
  have hb := B.bytes
  have hr := B.returns
  have hts : ∀ w ∈ BIG, w.before args s = true := fun w h => atoms_spec (ws := bw_X5_join) B.pre w (List.mem_cons_of_mem _ h)
  have hown : s.vm.findClass RX5 = some m.cls := findClass_of_methodNamed B.named
  have hlocks := B.notSynchronized
  subst hsz
  have hw := wk.start hP hD
  refine k_start (by rfl) hav (Nat.le_of_ble_eq_true rfl) (fun ls hl => ?_)
  have hl : lv_has ls 5 [(0, .ref (ad 0 0)), (1, .int p1), (2, .int p2)] := hl
  have hE : sp_X5_join S p1 p2 = rw_X5_join S p1 p2 := un_X5_join S p1 p2
  refine lv_iload_n hx hb dX5_join_0 rfl (lv_at hl 1 rfl) ?_
  refine lv_if_lt (tgt := 9) hx hb dX5_join_1 (by decide) (fun c_1 => ?_) (fun c_1 => ?_)
  · have hE := hE.trans (if_pos c_1)
    obtain ⟨sa, hsa⟩ := hO.2.1 (RX5, 76, "no such ROLE") (by decide +kernel)
    exact k_throw hx hb hst hown (by decide +kernel) (by decide +kernel) (hts _ w_cl_X5_74) (hts _ w_in_java_lang_IndexOutOfBoundsException) hsa (xh_1 hts hO.2.2.1) xg_1 hO hw hl.1 hml dX5_join_9 dX5_join_12 dX5_join_13 dX5_join_15 dX5_join_18 hexn (Nat.le_of_ble_eq_true rfl) (Nat.le_of_ble_eq_true rfl) (Nat.le_of_ble_eq_true rfl) (Nat.le_of_ble_eq_true rfl) hlocks (by rw [hE]; exact kE_1) (Nat.le_of_ble_eq_true rfl) (Nat.le_of_ble_eq_true rfl)
  · have hE := hE.trans (if_neg c_1)
    refine lv_iload_n hx hb dX5_join_4 rfl (lv_at hl 1 rfl) ?_
    refine lv_iconst (v := 4) hx hb dX5_join_5 (by decide) ?_
    refine lv_icmp_lt (tgt := 19) hx hb dX5_join_6 (by decide) (fun c_2 => ?_) (fun c_2 => ?_)
    · have hE := hE.trans (if_pos c_2)
      refine lv_aload_n hx hb dX5_join_19 rfl (lv_at hl 0 rfl) ?_
      refine lv_iload_n hx hb dX5_join_20 rfl (lv_at hl 2 rfl) ?_
      refine k_ci0 hw (k_rV (As := [.int p2]) (rest := []) ⟨hx, hb, hml, hown, hts⟩ hK hO hw (ct_X5_isAhead hL S (SF.ci (SF.rf _) hI) p2 _ (wk.hA hw hA)) (cwV 1 hts (gB_V w_ml_X5_102 w_im_X5_isAhead w_se_X5_isAhead w_in_X5 w_co_X5_isAhead) rfl rfl rfl (by decide +kernel) ⟨by decide, by decide⟩) (hL 0 0 rfl) cke_0 rfl rfl hl.1 rfl (Nat.le_of_ble_eq_true rfl) dX5_join_21 ⟨Nat.le_of_ble_eq_true rfl, Nat.le_of_ble_eq_true rfl⟩) (fun H locs hw => ?_)
      refine lv_if_ne (tgt := 37) hx hb dX5_join_24 (by decide) (fun c_3 => ?_) (fun c_3 => ?_)
      · have hE := hE.trans (if_neg c_3)
        refine lv_aload_n hx hb dX5_join_37 rfl (lv_at hl 0 rfl) ?_
        refine k_get (C := RX5) (T := TX5) (N := 7) (v := .int (S 0 0 0)) hx hb hts inB_X5 hown hK hw (hL 0 0 rfl) cke_0 rfl 5 (by decide) (hts _ w_f_X5_174) (fun _ h9 => h9) rfl dX5_join_38 ?_
        refine lv_bipush (v := 8) hx hb dX5_join_41 (by decide) ?_
        refine lv_icmp_ge (tgt := 58) hx hb dX5_join_43 (by decide) (fun c_4 => ?_) (fun c_4 => ?_)
        · have hE := hE.trans (if_pos c_4)
          obtain ⟨sa, hsa⟩ := hO.2.1 (RX5, 177, "nobody can join with that ROLE") (by decide +kernel)
          exact k_throw hx hb hst hown (by decide +kernel) (by decide +kernel) (hts _ w_cl_X5_69) (hts _ w_in_java_lang_IllegalStateException) hsa (xh_3 hts hO.2.2.1) xg_3 hO hw hl.1 hml dX5_join_58 dX5_join_61 dX5_join_62 dX5_join_64 dX5_join_67 hexn (Nat.le_of_ble_eq_true rfl) (Nat.le_of_ble_eq_true rfl) (Nat.le_of_ble_eq_true rfl) (Nat.le_of_ble_eq_true rfl) hlocks (by rw [hE]; exact kE_3) (Nat.le_of_ble_eq_true rfl) (Nat.le_of_ble_eq_true rfl)
        · have hE := hE.trans (if_neg c_4)
          refine lv_aload_n hx hb dX5_join_46 rfl (lv_at hl 0 rfl) ?_
          refine k_get (C := RX5) (T := TX5) (N := 7) (v := .ref (ad 1 0)) hx hb hts inB_X5 hown hK hw (hL 0 0 rfl) cke_0 rfl 0 (by decide) (hts _ w_f_X5_10) (fun _ h9 => h9) rfl dX5_join_47 ?_
          refine k_get (C := RX2) (T := TX2) (N := 8) (v := .ref (ad 11 0)) hx hb hts inB_X2 hown hK hw (hL 1 0 rfl) cke_1 rfl 4 (by decide) (hts _ w_f_X5_81) (fun _ h9 => h9) rfl dX5_join_50 ?_
          refine lv_iload_n hx hb dX5_join_53 rfl (lv_at hl 1 rfl) ?_
          refine k_ald hx hb hK hw (hL 11 0 rfl) 0 cke_11 rfl (k_in' c_1 c_2 (by decide)) dX5_join_54 ?_
          refine lv_if_ne (tgt := 68) hx hb dX5_join_55 (by decide) (fun c_5 => ?_) (fun c_5 => ?_)
          · have hE := hE.trans (if_neg c_5)
            refine lv_aload_n hx hb dX5_join_68 rfl (lv_at hl 0 rfl) ?_
            refine k_get (C := RX5) (T := TX5) (N := 7) (v := .int (S 0 0 0)) hx hb hts inB_X5 hown hK hw (hL 0 0 rfl) cke_0 rfl 5 (by decide) (hts _ w_f_X5_174) (fun _ h9 => h9) rfl dX5_join_69 ?_
            refine lv_istore_n (lv' := [(3, .int (S 0 0 0)), (0, .ref (ad 0 0)), (1, .int p1), (2, .int p2)]) hx hb dX5_join_72 rfl hl (by decide) rfl (fun ls hl => ?_)
            refine lv_aload_n hx hb dX5_join_73 rfl (lv_at hl 1 rfl) ?_
            refine lv_dup hx hb dX5_join_74 rfl ?_
            refine k_get (C := RX5) (T := TX5) (N := 7) (v := .int (S 0 0 0)) hx hb hts inB_X5 hown hK hw (hL 0 0 rfl) cke_0 rfl 5 (by decide) (hts _ w_f_X5_174) (fun _ h9 => h9) rfl dX5_join_75 ?_
            refine lv_iconst (v := 1) hx hb dX5_join_78 (by decide) ?_
            refine lv_iadd hx hb dX5_join_79 ?_
            refine k_put (C := RX5) (T := TX5) (N := 7) (v := .int ((S 0 0 0) + 1)) (ty := .int) hx hb hts inB_X5 tyX5 tyX5_ok nmX5 hown hK hw (hL 0 0 rfl) cke_0 rfl 5 (by decide) (hts _ w_f_X5_174) (fun _ h9 => h9) rfl (by decide +kernel) rfl rfl (Nat.le_of_ble_eq_true rfl) (cK_up (i := 0) (x := ((S 0 0 0) + 1)) (by decide) rfl) dX5_join_80 (fun H locs hw => ?_)
            refine lv_aload_n hx hb dX5_join_83 rfl (lv_at hl 1 rfl) ?_
            refine lv_iload_n hx hb dX5_join_84 rfl (lv_at hl 0 rfl) ?_
            refine k_cr0 hw (k_rV (As := [.int (S 0 0 0)]) (rest := []) ⟨hx, hb, hml, hown, hts⟩ hK hO hw (ct_X5_joinerAt_m hL (up3 S 0 0 0 ((S 0 0 0) + 1)) (SF.ci (SF.rf _) (CI.up5 hI c_4)) (S 0 0 0) (cn_pos hI.2.2.2.2.1) (cn_inc hI.2.2.2.2.1 (b := 8) (by decide) c_4) (nle_lt c_4) _ (wk.hA hw hA)) (cwV 1 hts (gB_V w_ml_X5_179 w_im_X5_joinerAt w_se_X5_joinerAt w_in_X5 w_co_X5_joinerAt) rfl rfl rfl (by decide +kernel) ⟨by decide, by decide⟩) (hL 0 0 rfl) cke_0 rfl rfl hl.1 rfl (Nat.le_of_ble_eq_true rfl) dX5_join_85 ⟨Nat.le_of_ble_eq_true rfl, Nat.le_of_ble_eq_true rfl⟩) (fun H locs hw => ?_)
            refine lv_astore (lv' := [(4, .ref (ad 6 ((S 0 0 0).toNatClampNeg))), (3, .int (S 0 0 0)), (0, .ref (ad 0 0)), (1, .int p1), (2, .int p2)]) hx hb dX5_join_88 hl (by decide) rfl (fun ls hl => ?_)
            refine lv_aload hx hb dX5_join_90 (lv_at hl 0 rfl) ?_
            refine lv_aload_n hx hb dX5_join_92 rfl (lv_at hl 2 rfl) ?_
            refine k_get (C := RX5) (T := TX5) (N := 7) (v := .ref (ad 1 0)) hx hb hts inB_X5 hown hK hw (hL 0 0 rfl) cke_0 rfl 0 (by decide) (hts _ w_f_X5_10) (fun _ h9 => h9) rfl dX5_join_93 ?_
            refine k_get (C := RX2) (T := TX2) (N := 8) (v := .ref (ad 11 0)) hx hb hts inB_X2 hown hK hw (hL 1 0 rfl) cke_1 rfl 4 (by decide) (hts _ w_f_X5_81) (fun _ h9 => h9) rfl dX5_join_96 ?_
            refine lv_iload_n hx hb dX5_join_99 rfl (lv_at hl 3 rfl) ?_
            refine k_ald hx hb hK hw (hL 11 0 rfl) 0 cke_11 rfl (k_in' c_1 c_2 (by decide)) dX5_join_100 ?_
            refine k_put (C := RX1) (T := TX1) (N := 8) (v := .int (S 11 0 p1.toNatClampNeg)) (ty := .int) hx hb hts inB_X1 tyX1 tyX1_ok nmX1 hown hK hw (hL 6 ((S 0 0 0).toNatClampNeg) (cidJ6 (k_lt (k_in' (cn_pos hI.2.2.2.2.1) (nle_lt c_4) (by decide))))) cke_6 rfl 5 (by decide) (hts _ w_f_X5_183) (fun _ h9 => h9) rfl (by decide +kernel) rfl rfl (Nat.le_of_ble_eq_true rfl) (cK_up (i := 0) (x := (S 11 0 p1.toNatClampNeg)) (by decide) rfl) dX5_join_101 (fun H locs hw => ?_)
            refine lv_aload hx hb dX5_join_104 (lv_at hl 0 rfl) ?_
            refine lv_iload_n hx hb dX5_join_106 rfl (lv_at hl 4 rfl) ?_
            refine k_put (C := RX1) (T := TX1) (N := 8) (v := .int p2) (ty := .int) hx hb hts inB_X1 tyX1 tyX1_ok nmX1 hown hK hw (hL 6 ((S 0 0 0).toNatClampNeg) (cidJ6 (k_lt (k_in' (cn_pos hI.2.2.2.2.1) (nle_lt c_4) (by decide))))) cke_6 rfl 6 (by decide) (hts _ w_f_X5_186) (fun _ h9 => h9) rfl (by decide +kernel) rfl rfl (Nat.le_of_ble_eq_true rfl) (cK_up (i := 1) (x := p2) (by decide) rfl) dX5_join_107 (fun H locs hw => ?_)
            refine lv_aload_n hx hb dX5_join_110 rfl (lv_at hl 2 rfl) ?_
            refine k_cv0 hw (k_rV (As := []) (rest := []) ⟨hx, hb, hml, hown, hts⟩ hK hO hw (ct_X5_bookAll hL (up3 (up3 (up3 S 0 0 0 ((S 0 0 0) + 1)) 6 ((S 0 0 0).toNatClampNeg) 0 (S 11 0 p1.toNatClampNeg)) 6 ((S 0 0 0).toNatClampNeg) 1 p2) (SF.ci (SF.up (by decide) (SF.up (by decide) (SF.rf _))) (CI.up5 hI c_4)) _ (wk.hA hw hA)) (cwV 0 hts (gB_V w_ml_X5_136 w_im_X5_bookAll w_se_X5_bookAll w_in_X5 w_co_X5_bookAll) rfl rfl rfl (by decide +kernel) ⟨by decide, by decide⟩) (hL 0 0 rfl) cke_0 rfl rfl hl.1 rfl (Nat.le_of_ble_eq_true rfl) dX5_join_111 ⟨Nat.le_of_ble_eq_true rfl, Nat.le_of_ble_eq_true rfl⟩) (fun H locs hw => ?_)
            refine lv_iload_n hx hb dX5_join_114 rfl (lv_at hl 1 rfl) ?_
            exact x_iretE hx hb hr hlocks rfl hw hE (Nat.le_of_ble_eq_true rfl) (Nat.le_of_ble_eq_true rfl) dX5_join_115
          · have hE := hE.trans (if_pos c_5)
            obtain ⟨sa, hsa⟩ := hO.2.1 (RX5, 177, "nobody can join with that ROLE") (by decide +kernel)
            exact k_throw hx hb hst hown (by decide +kernel) (by decide +kernel) (hts _ w_cl_X5_69) (hts _ w_in_java_lang_IllegalStateException) hsa (xh_3 hts hO.2.2.1) xg_3 hO hw hl.1 hml dX5_join_58 dX5_join_61 dX5_join_62 dX5_join_64 dX5_join_67 hexn (Nat.le_of_ble_eq_true rfl) (Nat.le_of_ble_eq_true rfl) (Nat.le_of_ble_eq_true rfl) (Nat.le_of_ble_eq_true rfl) hlocks (by rw [hE]; exact kE_3) (Nat.le_of_ble_eq_true rfl) (Nat.le_of_ble_eq_true rfl)
      · have hE := hE.trans (if_pos c_3)
        obtain ⟨sa, hsa⟩ := hO.2.1 (RX5, 172, "nobody can START then") (by decide +kernel)
        exact k_throw hx hb hst hown (by decide +kernel) (by decide +kernel) (hts _ w_cl_X5_58) (hts _ w_in_java_lang_IllegalArgumentException) hsa (xh_2 hts hO.2.2.1) xg_2 hO hw hl.1 hml dX5_join_27 dX5_join_30 dX5_join_31 dX5_join_33 dX5_join_36 hexn (Nat.le_of_ble_eq_true rfl) (Nat.le_of_ble_eq_true rfl) (Nat.le_of_ble_eq_true rfl) (Nat.le_of_ble_eq_true rfl) hlocks (by rw [hE]; exact kE_2) (Nat.le_of_ble_eq_true rfl) (Nat.le_of_ble_eq_true rfl)
    · have hE := hE.trans (if_neg c_2)
      obtain ⟨sa, hsa⟩ := hO.2.1 (RX5, 76, "no such ROLE") (by decide +kernel)
      exact k_throw hx hb hst hown (by decide +kernel) (by decide +kernel) (hts _ w_cl_X5_74) (hts _ w_in_java_lang_IndexOutOfBoundsException) hsa (xh_1 hts hO.2.2.1) xg_1 hO hw hl.1 hml dX5_join_9 dX5_join_12 dX5_join_13 dX5_join_15 dX5_join_18 hexn (Nat.le_of_ble_eq_true rfl) (Nat.le_of_ble_eq_true rfl) (Nat.le_of_ble_eq_true rfl) (Nat.le_of_ble_eq_true rfl) hlocks (by rw [hE]; exact kE_1) (Nat.le_of_ble_eq_true rfl) (Nat.le_of_ble_eq_true rfl)
