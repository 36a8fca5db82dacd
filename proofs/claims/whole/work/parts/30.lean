abbrev bw_X5_join : List Cond := .code yX5_join cX5_join 5 (some .int) :: BIG
abbrev rm_X5_join : Room := { frames := 6, cells := 2, slots := 12, locals := 135 }
def sp_X5_join (S : (Nat → Nat → Nat → Int32)) (p1 : Int32) (p2 : Int32) : Nat × Int32 × (Nat → Nat → Nat → Int32) := if p1 < 0 then ((1, 0, S)) else (if p1 < 4 then (if sp_X5_isAhead S p2 = 0 then ((2, 0, S)) else (if 8 ≤ S 0 0 0 then ((3, 0, S)) else (if S 11 0 p1.toNatClampNeg = 0 then ((3, 0, S)) else ((0, S 0 0 0, (sp_X5_bookAll (up3 (up3 (up3 S 0 0 0 ((S 0 0 0) + 1)) 6 ((S 0 0 0).toNatClampNeg) 0 (S 11 0 p1.toNatClampNeg)) 6 ((S 0 0 0).toNatClampNeg) 1 p2))))))) else ((1, 0, S)))
set_option maxHeartbeats 4000000 in
set_option maxRecDepth 100000 in
theorem ct_X5_join {l : Launch} {D : va_G} {cI cG cJ cO : ClassId} {K0 : Nat → Nat} {A : Nat → Prop} {L : List (Nat × Nat)} {ad : Nat → Nat → Nat} {ce : Nat → Nat → va_E} (hL : ∀ f o, cid f o = true → (f, o) ∈ L) (S : (Nat → Nat → Nat → Int32)) (hI : CI S) (p1 : Int32) (p2 : Int32) (hst : l.stackTraces = false) (sz : Nat) (hA : ∀ q, sz ≤ q → A q) : vx_Met l yX5_join bw_X5_join rm_X5_join (kP D (ktys cI cG cJ cO) K0 A L ad (cK cI cJ ad ce S) sz [.ref (ad 0 0), .int p1, .int p2]) (va_Qi (fun (r : Int32) (_ : Unit) => r = (sp_X5_join S p1 p2).2.1 ∧ (sp_X5_join S p1 p2).1 = 0) (fun _ t => WE D A L ad (cK cI cJ ad ce ((sp_X5_join S p1 p2).2.2)) t) A) (vx_X (fun (_ : Unit) => True) (fun E _ t => kE E (sp_X5_join S p1 p2).1 ∧ WE D A L ad (cK cI cJ ad ce S) t) A) 2 12 A := by
  refine vx_ofW (cc := cX5_join) (maxL := 5) (ret := (some .int)) (by decide) rfl ?_
  intro p e s m args below meth c s₁ B hml hexn hv
  obtain ⟨hav, hsz, hP, hD, hK, hO⟩ := hv
  have hx := B.exec
  have hb := B.bytes
  have hr := B.returns
  have hts : ∀ w ∈ BIG, w.before args s = true := fun w h => atoms_spec (ws := bw_X5_join) B.pre w (List.mem_cons_of_mem _ h)
  have hown : s.vm.findClass RX5 = some m.cls := findClass_of_methodNamed B.named
  have hlocks := B.notSynchronized
  subst hsz
  have hw := wk.start hP hD
  refine k_start (by rfl) hav (Nat.le_of_ble_eq_true rfl) (fun ls hl => ?_)
  have hl : lv_has ls 5 [(0, .ref (ad 0 0)), (1, .int p1), (2, .int p2)] := hl
  have hE : sp_X5_join S p1 p2 = sp_X5_join S p1 p2 := rfl
  refine lv_iload_n hx hb dX5_join_0 rfl (lv_at hl 1 rfl) ?_
  refine lv_if_lt (tgt := 9) hx hb dX5_join_1 (by decide) (fun c_1 => ?_) (fun c_1 => ?_)
  · have hE := hE.trans (if_pos c_1)
    obtain ⟨sa, hsa⟩ := hO.2.1 (RX5, 76, "no such ROLE") (by decide +kernel)
    exact k_throw hx hb hst hown (by decide +kernel) (by decide +kernel) (hts _ w_cl_X5_74) (hts _ w_in_java_lang_IndexOutOfBoundsException) hsa (xh_1 hts hO.2.2.1) xg_1 hO hw hl.1 hml dX5_join_9 dX5_join_12 dX5_join_13 dX5_join_15 dX5_join_18 hexn (Nat.le_of_ble_eq_true rfl) (Nat.le_of_ble_eq_true rfl) (Nat.le_of_ble_eq_true rfl) (Nat.le_of_ble_eq_true rfl) hlocks (by rw [hE]; exact kE_1) (Nat.le_of_ble_eq_true rfl) (Nat.le_of_ble_eq_true rfl)
  · have hE := hE.trans (if_neg c_1)
    refine lv_iload_n hx hb dX5_join_4 rfl (lv_at hl 1 rfl) ?_
    refine lv_iconst (v := 4) hx hb dX5_join_5 (by decide) ?_
    refine lv_icmp_lt (tgt := 19) hx hb dX5_join_6 (by decide) (fun c_2 => ?_) (fun c_2 => ?_)
    · have hE := hE.trans (if_pos c_2)
      refine lv_aload_n hx hb dX5_join_19 rfl (lv_at hl 0 rfl) ?_
      refine lv_iload_n hx hb dX5_join_20 rfl (lv_at hl 2 rfl) ?_
      refine k_ci0 hw (k_rV (As := [.int p2]) (rest := []) ⟨hx, hb, hml, hown, hts⟩ hK hO hw (ct_X5_isAhead hL S (SF.ci (SF.rf _) hI) p2 _ (wk.hA hw hA)) (cwV 1 hts (gB_V w_ml_X5_102 w_im_X5_isAhead w_se_X5_isAhead w_in_X5 w_co_X5_isAhead) rfl rfl rfl (by decide +kernel) ⟨by decide, by decide⟩) (hL 0 0 rfl) cke_0 rfl rfl hl.1 rfl (Nat.le_of_ble_eq_true rfl) dX5_join_21 ⟨Nat.zero_le _, Nat.zero_le _⟩) (fun H locs hw => ?_)
      refine lv_if_ne (tgt := 37) hx hb dX5_join_24 (by decide) (fun c_3 => ?_) (fun c_3 => ?_)
      · have hE := hE.trans (if_neg c_3)
        refine lv_aload_n hx hb dX5_join_37 rfl (lv_at hl 0 rfl) ?_
        refine k_get (C := RX5) (T := TX5) (N := 7) (v := .int (S 0 0 0)) hx hb hts inB_X5 hown hK hw (hL 0 0 rfl) cke_0 rfl 5 (by decide) (hts _ w_f_X5_174) (fun _ h9 => h9) rfl dX5_join_38 ?_
        refine lv_bipush (v := 8) hx hb dX5_join_41 (by decide) ?_
        refine lv_icmp_ge (tgt := 58) hx hb dX5_join_43 (by decide) (fun c_4 => ?_) (fun c_4 => ?_)
        · have hE := hE.trans (if_pos c_4)
          obtain ⟨sa, hsa⟩ := hO.2.1 (RX5, 177, "nobody can join with that ROLE") (by decide +kernel)
          exact k_throw hx hb hst hown (by decide +kernel) (by decide +kernel) (hts _ w_cl_X5_69) (hts _ w_in_java_lang_IllegalStateException) hsa (xh_3 hts hO.2.2.1) xg_3 hO hw hl.1 hml dX5_join_58 dX5_join_61 dX5_join_62 dX5_join_64 dX5_join_67 hexn (Nat.le_of_ble_eq_true rfl) (Nat.le_of_ble_eq_true rfl) (Nat.le_of_ble_eq_true rfl) (Nat.le_of_ble_eq_true rfl) hlocks (by rw [hE]; exact kE_3) (Nat.le_of_ble_eq_true rfl) (Nat.le_of_ble_eq_true rfl)
        · have hE := hE.trans (if_neg c_4)
          refine lv_aload_n hx hb dX5_join_46 rfl (lv_at hl 0 rfl) ?_
          refine k_get (C := RX5) (T := TX5) (N := 7) (v := .ref (ad 1 0)) hx hb hts inB_X5 hown hK hw (hL 0 0 rfl) cke_0 rfl 0 (by decide) (hts _ w_f_X5_10) (fun _ h9 => h9) rfl dX5_join_47 ?_
          refine k_get (C := RX2) (T := TX2) (N := 8) (v := .ref (ad 11 0)) hx hb hts inB_X2 hown hK hw (hL 1 0 rfl) cke_1 rfl 4 (by decide) (hts _ w_f_X5_81) (fun _ h9 => h9) rfl dX5_join_50 ?_
          refine lv_iload_n hx hb dX5_join_53 rfl (lv_at hl 1 rfl) ?_
          refine k_ald hx hb hK hw (hL 11 0 rfl) 0 cke_11 rfl (k_in' c_1 c_2 (by decide)) dX5_join_54 ?_
          refine lv_if_ne (tgt := 68) hx hb dX5_join_55 (by decide) (fun c_5 => ?_) (fun c_5 => ?_)
          · have hE := hE.trans (if_neg c_5)
            refine lv_aload_n hx hb dX5_join_68 rfl (lv_at hl 0 rfl) ?_
            refine k_get (C := RX5) (T := TX5) (N := 7) (v := .int (S 0 0 0)) hx hb hts inB_X5 hown hK hw (hL 0 0 rfl) cke_0 rfl 5 (by decide) (hts _ w_f_X5_174) (fun _ h9 => h9) rfl dX5_join_69 ?_
            refine lv_istore_n (lv' := [(3, .int (S 0 0 0)), (0, .ref (ad 0 0)), (1, .int p1), (2, .int p2)]) hx hb dX5_join_72 rfl hl (by decide) rfl (fun ls hl => ?_)
            refine lv_aload_n hx hb dX5_join_73 rfl (lv_at hl 1 rfl) ?_
            refine lv_dup hx hb dX5_join_74 rfl ?_
            refine k_get (C := RX5) (T := TX5) (N := 7) (v := .int (S 0 0 0)) hx hb hts inB_X5 hown hK hw (hL 0 0 rfl) cke_0 rfl 5 (by decide) (hts _ w_f_X5_174) (fun _ h9 => h9) rfl dX5_join_75 ?_
            refine lv_iconst (v := 1) hx hb dX5_join_78 (by decide) ?_
            refine lv_iadd hx hb dX5_join_79 ?_
            refine k_put (C := RX5) (T := TX5) (N := 7) (v := .int ((S 0 0 0) + 1)) (ty := .int) hx hb hts inB_X5 tyX5 tyX5_ok nmX5 hown hK hw (hL 0 0 rfl) cke_0 rfl 5 (by decide) (hts _ w_f_X5_174) (fun _ h9 => h9) rfl (by decide +kernel) rfl rfl (Nat.le_of_ble_eq_true rfl) (cK_up (i := 0) (x := ((S 0 0 0) + 1)) (by decide) rfl) dX5_join_80 (fun H locs hw => ?_)
            refine lv_aload_n hx hb dX5_join_83 rfl (lv_at hl 1 rfl) ?_
            refine lv_iload_n hx hb dX5_join_84 rfl (lv_at hl 0 rfl) ?_
            refine k_cr0 hw (k_rV (As := [.int (S 0 0 0)]) (rest := []) ⟨hx, hb, hml, hown, hts⟩ hK hO hw (ct_X5_joinerAt_m hL (up3 S 0 0 0 ((S 0 0 0) + 1)) (SF.ci (SF.rf _) (CI.up5 hI c_4)) (S 0 0 0) (cn_pos hI.2.2.2.2.1) (cn_inc hI.2.2.2.2.1 (b := 8) (by decide) c_4) (nle_lt c_4) _ (wk.hA hw hA)) (cwV 1 hts (gB_V w_ml_X5_179 w_im_X5_joinerAt w_se_X5_joinerAt w_in_X5 w_co_X5_joinerAt) rfl rfl rfl (by decide +kernel) ⟨by decide, by decide⟩) (hL 0 0 rfl) cke_0 rfl rfl hl.1 rfl (Nat.le_of_ble_eq_true rfl) dX5_join_85 ⟨Nat.zero_le _, Nat.zero_le _⟩) (fun H locs hw => ?_)
            refine lv_astore (lv' := [(4, .ref (ad 6 ((S 0 0 0).toNatClampNeg))), (3, .int (S 0 0 0)), (0, .ref (ad 0 0)), (1, .int p1), (2, .int p2)]) hx hb dX5_join_88 hl (by decide) rfl (fun ls hl => ?_)
            refine lv_aload hx hb dX5_join_90 (lv_at hl 0 rfl) ?_
            refine lv_aload_n hx hb dX5_join_92 rfl (lv_at hl 2 rfl) ?_
            refine k_get (C := RX5) (T := TX5) (N := 7) (v := .ref (ad 1 0)) hx hb hts inB_X5 hown hK hw (hL 0 0 rfl) cke_0 rfl 0 (by decide) (hts _ w_f_X5_10) (fun _ h9 => h9) rfl dX5_join_93 ?_
            refine k_get (C := RX2) (T := TX2) (N := 8) (v := .ref (ad 11 0)) hx hb hts inB_X2 hown hK hw (hL 1 0 rfl) cke_1 rfl 4 (by decide) (hts _ w_f_X5_81) (fun _ h9 => h9) rfl dX5_join_96 ?_
            refine lv_iload_n hx hb dX5_join_99 rfl (lv_at hl 3 rfl) ?_
            refine k_ald hx hb hK hw (hL 11 0 rfl) 0 cke_11 rfl (k_in' c_1 c_2 (by decide)) dX5_join_100 ?_
            refine k_put (C := RX1) (T := TX1) (N := 8) (v := .int (S 11 0 p1.toNatClampNeg)) (ty := .int) hx hb hts inB_X1 tyX1 tyX1_ok nmX1 hown hK hw (hL 6 ((S 0 0 0).toNatClampNeg) (cidJ6 (k_lt (k_in' (cn_pos hI.2.2.2.2.1) (nle_lt c_4) (by decide))))) cke_6 rfl 5 (by decide) (hts _ w_f_X5_183) (fun _ h9 => h9) rfl (by decide +kernel) rfl rfl (Nat.le_of_ble_eq_true rfl) (cK_up (i := 0) (x := (S 11 0 p1.toNatClampNeg)) (by decide) rfl) dX5_join_101 (fun H locs hw => ?_)
            refine lv_aload hx hb dX5_join_104 (lv_at hl 0 rfl) ?_
            refine lv_iload_n hx hb dX5_join_106 rfl (lv_at hl 4 rfl) ?_
            refine k_put (C := RX1) (T := TX1) (N := 8) (v := .int p2) (ty := .int) hx hb hts inB_X1 tyX1 tyX1_ok nmX1 hown hK hw (hL 6 ((S 0 0 0).toNatClampNeg) (cidJ6 (k_lt (k_in' (cn_pos hI.2.2.2.2.1) (nle_lt c_4) (by decide))))) cke_6 rfl 6 (by decide) (hts _ w_f_X5_186) (fun _ h9 => h9) rfl (by decide +kernel) rfl rfl (Nat.le_of_ble_eq_true rfl) (cK_up (i := 1) (x := p2) (by decide) rfl) dX5_join_107 (fun H locs hw => ?_)
            refine lv_aload_n hx hb dX5_join_110 rfl (lv_at hl 2 rfl) ?_
            refine k_cv0 hw (k_rV (As := []) (rest := []) ⟨hx, hb, hml, hown, hts⟩ hK hO hw (ct_X5_bookAll hL (up3 (up3 (up3 S 0 0 0 ((S 0 0 0) + 1)) 6 ((S 0 0 0).toNatClampNeg) 0 (S 11 0 p1.toNatClampNeg)) 6 ((S 0 0 0).toNatClampNeg) 1 p2) (SF.ci (SF.up (by decide) (SF.up (by decide) (SF.rf _))) (CI.up5 hI c_4)) _ (wk.hA hw hA)) (cwV 0 hts (gB_V w_ml_X5_136 w_im_X5_bookAll w_se_X5_bookAll w_in_X5 w_co_X5_bookAll) rfl rfl rfl (by decide +kernel) ⟨by decide, by decide⟩) (hL 0 0 rfl) cke_0 rfl rfl hl.1 rfl (Nat.le_of_ble_eq_true rfl) dX5_join_111 ⟨Nat.zero_le _, Nat.zero_le _⟩) (fun H locs hw => ?_)
            refine lv_iload_n hx hb dX5_join_114 rfl (lv_at hl 1 rfl) ?_
            exact x_iret hx hb hr hlocks rfl hw (congrArg (fun z => z.2.1) hE) (congrArg (fun z => z.1) hE) (congrArg (fun z => cK cI cJ ad ce z.2.2) hE) (Nat.le_of_ble_eq_true rfl) (Nat.le_of_ble_eq_true rfl) dX5_join_115
          · have hE := hE.trans (if_pos c_5)
            obtain ⟨sa, hsa⟩ := hO.2.1 (RX5, 177, "nobody can join with that ROLE") (by decide +kernel)
            exact k_throw hx hb hst hown (by decide +kernel) (by decide +kernel) (hts _ w_cl_X5_69) (hts _ w_in_java_lang_IllegalStateException) hsa (xh_3 hts hO.2.2.1) xg_3 hO hw hl.1 hml dX5_join_58 dX5_join_61 dX5_join_62 dX5_join_64 dX5_join_67 hexn (Nat.le_of_ble_eq_true rfl) (Nat.le_of_ble_eq_true rfl) (Nat.le_of_ble_eq_true rfl) (Nat.le_of_ble_eq_true rfl) hlocks (by rw [hE]; exact kE_3) (Nat.le_of_ble_eq_true rfl) (Nat.le_of_ble_eq_true rfl)
      · have hE := hE.trans (if_pos c_3)
        obtain ⟨sa, hsa⟩ := hO.2.1 (RX5, 172, "nobody can START then") (by decide +kernel)
        exact k_throw hx hb hst hown (by decide +kernel) (by decide +kernel) (hts _ w_cl_X5_58) (hts _ w_in_java_lang_IllegalArgumentException) hsa (xh_2 hts hO.2.2.1) xg_2 hO hw hl.1 hml dX5_join_27 dX5_join_30 dX5_join_31 dX5_join_33 dX5_join_36 hexn (Nat.le_of_ble_eq_true rfl) (Nat.le_of_ble_eq_true rfl) (Nat.le_of_ble_eq_true rfl) (Nat.le_of_ble_eq_true rfl) hlocks (by rw [hE]; exact kE_2) (Nat.le_of_ble_eq_true rfl) (Nat.le_of_ble_eq_true rfl)
    · have hE := hE.trans (if_neg c_2)
      obtain ⟨sa, hsa⟩ := hO.2.1 (RX5, 76, "no such ROLE") (by decide +kernel)
      exact k_throw hx hb hst hown (by decide +kernel) (by decide +kernel) (hts _ w_cl_X5_74) (hts _ w_in_java_lang_IndexOutOfBoundsException) hsa (xh_1 hts hO.2.2.1) xg_1 hO hw hl.1 hml dX5_join_9 dX5_join_12 dX5_join_13 dX5_join_15 dX5_join_18 hexn (Nat.le_of_ble_eq_true rfl) (Nat.le_of_ble_eq_true rfl) (Nat.le_of_ble_eq_true rfl) (Nat.le_of_ble_eq_true rfl) hlocks (by rw [hE]; exact kE_1) (Nat.le_of_ble_eq_true rfl) (Nat.le_of_ble_eq_true rfl)

abbrev bw_X5_leave : List Cond := .code yX5_leave cX5_leave 4 (some .int) :: BIG
abbrev rm_X5_leave : Room := { frames := 7, cells := 2, slots := 12, locals := 135 }
def lp_X5_leave_30 (p1 : Int32) : Nat → Nat → (Nat → Nat → Nat → Int32) → (Nat → Nat → Nat → Int32)
  | 0, i, Sx => (Sx)
  | k + 1, i, Sx => if Sx 24 p1.toNatClampNeg i = 0 then (lp_X5_leave_30 p1 k (i + 1) (up3 (sp_X4_release Sx (Sx 27 p1.toNatClampNeg i)) 27 p1.toNatClampNeg i (-1))) else (lp_X5_leave_30 p1 k (i + 1) Sx)
theorem lz_lp_X5_leave_30 (p1 : Int32) (i : Nat) (Sx : (Nat → Nat → Nat → Int32)) : lp_X5_leave_30 p1 0 i Sx = (Sx) := rfl
theorem sfl_lp_X5_leave_30 (p1 : Int32) : ∀ (k i : Nat) (Sx T : (Nat → Nat → Nat → Int32)), SF T Sx → SF T ((lp_X5_leave_30 p1 k i Sx)) := by
  intro k
  induction k with
  | zero => intro i Sx T h; exact h
  | succ k ih => 
    intro i Sx T h
    unfold lp_X5_leave_30
    by_cases q_4 : Sx 24 p1.toNatClampNeg i = 0
    · rw [if_pos q_4]
      exact ih (i + 1) (up3 (sp_X4_release Sx (Sx 27 p1.toNatClampNeg i)) 27 p1.toNatClampNeg i (-1)) T (SF.up (by decide) (SF.tr h (sf_X4_release Sx (Sx 27 p1.toNatClampNeg i))))
    · rw [if_neg q_4]
      exact ih (i + 1) Sx T h

def sp_X5_leave (S : (Nat → Nat → Nat → Int32)) (p1 : Int32) : Nat × Int32 × (Nat → Nat → Nat → Int32) := if (sp_X5_joinerAt ad S p1).1 = 0 then (if S 6 p1.toNatClampNeg 2 = 0 then ((0, (sp_X1_countIn (sp_X5_bookAll (lp_X5_leave_30 p1 12 0 (up3 S 6 p1.toNatClampNeg 2 1))) p1.toNatClampNeg 1) + (sp_X1_countIn (sp_X5_bookAll (lp_X5_leave_30 p1 12 0 (up3 S 6 p1.toNatClampNeg 2 1))) p1.toNatClampNeg 2), (sp_X5_bookAll (lp_X5_leave_30 p1 12 0 (up3 S 6 p1.toNatClampNeg 2 1))))) else ((3, 0, S))) else (((sp_X5_joinerAt ad S p1).1, 0, S))
set_option maxHeartbeats 4000000 in
set_option maxRecDepth 100000 in
theorem ct_X5_leave {l : Launch} {D : va_G} {cI cG cJ cO : ClassId} {K0 : Nat → Nat} {A : Nat → Prop} {L : List (Nat × Nat)} {ad : Nat → Nat → Nat} {ce : Nat → Nat → va_E} (hL : ∀ f o, cid f o = true → (f, o) ∈ L) (S : (Nat → Nat → Nat → Int32)) (hI : CI S) (p1 : Int32) (hst : l.stackTraces = false) (sz : Nat) (hA : ∀ q, sz ≤ q → A q) : vx_Met l yX5_leave bw_X5_leave rm_X5_leave (kP D (ktys cI cG cJ cO) K0 A L ad (cK cI cJ ad ce S) sz [.ref (ad 0 0), .int p1]) (va_Qi (fun (r : Int32) (_ : Unit) => r = (sp_X5_leave S p1).2.1 ∧ (sp_X5_leave S p1).1 = 0) (fun _ t => WE D A L ad (cK cI cJ ad ce ((sp_X5_leave S p1).2.2)) t) A) (vx_X (fun (_ : Unit) => True) (fun E _ t => kE E (sp_X5_leave S p1).1 ∧ WE D A L ad (cK cI cJ ad ce S) t) A) 2 12 A := by
  refine vx_ofW (cc := cX5_leave) (maxL := 4) (ret := (some .int)) (by decide) rfl ?_
  intro p e s m args below meth c s₁ B hml hexn hv
  obtain ⟨hav, hsz, hP, hD, hK, hO⟩ := hv
  have hx := B.exec
  have hb := B.bytes
  have hr := B.returns
  have hts : ∀ w ∈ BIG, w.before args s = true := fun w h => atoms_spec (ws := bw_X5_leave) B.pre w (List.mem_cons_of_mem _ h)
  have hown : s.vm.findClass RX5 = some m.cls := findClass_of_methodNamed B.named
  have hlocks := B.notSynchronized
  subst hsz
  have hw := wk.start hP hD
  refine k_start (by rfl) hav (Nat.le_of_ble_eq_true rfl) (fun ls hl => ?_)
  have hl : lv_has ls 4 [(0, .ref (ad 0 0)), (1, .int p1)] := hl
  have hE : sp_X5_leave S p1 = sp_X5_leave S p1 := rfl
  refine lv_aload_n hx hb dX5_leave_0 rfl (lv_at hl 0 rfl) ?_
  refine lv_iload_n hx hb dX5_leave_1 rfl (lv_at hl 1 rfl) ?_
  refine x_cq hw (x_rV (As := [.int p1]) (rest := []) ⟨hx, hb, hml, hown, hts⟩ hK hO hw (ct_X5_joinerAt hL S (SF.ci (SF.rf _) hI) p1 hst _ (wk.hA hw hA)) (cwV 1 hts (gB_V w_ml_X5_179 w_im_X5_joinerAt w_se_X5_joinerAt w_in_X5 w_co_X5_joinerAt) rfl rfl rfl (by decide +kernel) ⟨by decide, by decide⟩) (hL 0 0 rfl) cke_0 rfl rfl hl.1 rfl (Nat.le_of_ble_eq_true rfl) dX5_leave_2 ⟨Nat.le_of_ble_eq_true rfl, Nat.le_of_ble_eq_true rfl⟩) (fun E cx q9 H locs hx9 hw hcx hvx hclx => ?_) (fun H locs x_1 hw => ?_)
  · have hE := hE.trans (if_neg hx9.ne)
    exact x_out hexn hlocks hw hcx hvx hclx (by rw [hE]; exact hx9) (Nat.le_of_ble_eq_true rfl) (Nat.le_of_ble_eq_true rfl)
  · have hE := hE.trans (if_pos x_1)
    refine lv_astore_n (lv' := [(2, .ref (ad 6 p1.toNatClampNeg)), (0, .ref (ad 0 0)), (1, .int p1)]) hx hb dX5_leave_5 rfl hl (by decide) rfl (fun ls hl => ?_)
    refine lv_aload_n hx hb dX5_leave_6 rfl (lv_at hl 0 rfl) ?_
    refine k_get (C := RX1) (T := TX1) (N := 8) (v := .int (S 6 p1.toNatClampNeg 2)) hx hb hts inB_X1 hown hK hw (hL 6 p1.toNatClampNeg (cidJ6 (jn_ok x_1))) cke_6 rfl 7 (by decide) (hts _ w_f_X5_189) (fun _ h9 => h9) rfl dX5_leave_7 ?_
    refine lv_if_eq (tgt := 23) hx hb dX5_leave_10 (by decide) (fun c_2 => ?_) (fun c_2 => ?_)
    · have hE := hE.trans (if_pos c_2)
      refine lv_aload_n hx hb dX5_leave_23 rfl (lv_at hl 0 rfl) ?_
      refine lv_iconst (v := 1) hx hb dX5_leave_24 (by decide) ?_
      refine k_put (C := RX1) (T := TX1) (N := 8) (v := .int 1) (ty := .boolean) hx hb hts inB_X1 tyX1 tyX1_ok nmX1 hown hK hw (hL 6 p1.toNatClampNeg (cidJ6 (jn_ok x_1))) cke_6 rfl 7 (by decide) (hts _ w_f_X5_189) (fun _ h9 => h9) rfl (by decide +kernel) rfl rfl (Nat.le_of_ble_eq_true rfl) (cK_up (i := 2) (x := 1) (by decide) rfl) dX5_leave_25 (fun H locs hw => ?_)
      refine lv_iconst (v := 0) hx hb dX5_leave_28 (by decide) ?_
      refine lv_istore_n (lv' := [(3, .int 0), (2, .ref (ad 6 p1.toNatClampNeg)), (0, .ref (ad 0 0)), (1, .int p1)]) hx hb dX5_leave_29 rfl hl (by decide) rfl (fun ls hl => ?_)
      have key_30 : ∀ (k i : Nat) (Sx : (Nat → Nat → Nat → Int32)) (H : Heap) (locs : List Loc) (ls : Array Slot), i + k = 12 → SF S Sx → (lp_X5_leave_30 p1 12 0 (up3 S 6 p1.toNatClampNeg 2 1)) = lp_X5_leave_30 p1 k i Sx → wk D A L ad (cK cI cJ ad ce Sx) s.heap H locs → lv_has ls 4 [(0, .ref (ad 0 0)), (1, .int p1), (2, .ref (ad 6 p1.toNatClampNeg)), (3, .int (nI i))] → W p l e (headSpec bw_X5_leave rm_X5_leave).room s m args below meth c H locs 0 0 (vx_MQ below (va_Qi (fun (r : Int32) (_ : Unit) => r = (sp_X5_leave S p1).2.1 ∧ (sp_X5_leave S p1).1 = 0) (fun _ t => WE D A L ad (cK cI cJ ad ce ((sp_X5_leave S p1).2.2)) t) A) (vx_X (fun (_ : Unit) => True) (fun E _ t => kE E (sp_X5_leave S p1).1 ∧ WE D A L ad (cK cI cJ ad ce S) t) A) args s 1 6 A) (F0 m 30 ls []) := by
        intro k
        induction k with
        | zero =>
          intro i Sx H locs ls hk hsf hV hw hl
          have hV := hV.trans (lz_lp_X5_leave_30 p1 i Sx)
          subst hV
          refine lv_iload_n hx hb dX5_leave_30 rfl (lv_at hl 3 rfl) ?_
          refine lv_bipush (v := 12) hx hb dX5_leave_31 (by decide) ?_
          refine lv_icmp_ge (tgt := 71) hx hb dX5_leave_33 (by decide) (fun _ => ?_) (fun h => absurd (lp_o rfl hk (by decide)) h)
          refine lv_aload_n hx hb dX5_leave_71 rfl (lv_at hl 0 rfl) ?_
          refine k_cv0 hw (k_rV (As := []) (rest := []) ⟨hx, hb, hml, hown, hts⟩ hK hO hw (ct_X5_bookAll hL (lp_X5_leave_30 p1 12 0 (up3 S 6 p1.toNatClampNeg 2 1)) (SF.ci hsf hI) _ (wk.hA hw hA)) (cwV 0 hts (gB_V w_ml_X5_136 w_im_X5_bookAll w_se_X5_bookAll w_in_X5 w_co_X5_bookAll) rfl rfl rfl (by decide +kernel) ⟨by decide, by decide⟩) (hL 0 0 rfl) cke_0 rfl rfl hl.1 rfl (Nat.le_of_ble_eq_true rfl) dX5_leave_72 ⟨Nat.zero_le _, Nat.zero_le _⟩) (fun H locs hw => ?_)
          refine lv_aload_n hx hb dX5_leave_75 rfl (lv_at hl 2 rfl) ?_
          refine lv_iconst (v := 1) hx hb dX5_leave_76 (by decide) ?_
          refine k_ci0 hw (k_rV (As := [.int 1]) (rest := []) ⟨hx, hb, hml, hown, hts⟩ hK hO hw (ct_X1_countIn hL (sp_X5_bookAll (lp_X5_leave_30 p1 12 0 (up3 S 6 p1.toNatClampNeg 2 1))) (SF.ci (SF.tr hsf (sf_X5_bookAll (lp_X5_leave_30 p1 12 0 (up3 S 6 p1.toNatClampNeg 2 1)))) hI) p1.toNatClampNeg (jn_ok x_1) 1 _ (wk.hA hw hA)) (cwV 1 hts (gB_V w_ml_X5_205 w_im_X1_countIn w_se_X1_countIn w_in_X1 w_co_X1_countIn) rfl rfl rfl (by decide +kernel) ⟨by decide, by decide⟩) (hL 6 p1.toNatClampNeg (cidJ6 (jn_ok x_1))) cke_6 rfl rfl hl.1 rfl (Nat.le_of_ble_eq_true rfl) dX5_leave_77 ⟨Nat.zero_le _, Nat.zero_le _⟩) (fun H locs hw => ?_)
          refine lv_aload_n hx hb dX5_leave_80 rfl (lv_at hl 2 rfl) ?_
          refine lv_iconst (v := 2) hx hb dX5_leave_81 (by decide) ?_
          refine k_ci0 hw (k_rV (As := [.int 2]) (rest := [.int (sp_X1_countIn (sp_X5_bookAll (lp_X5_leave_30 p1 12 0 (up3 S 6 p1.toNatClampNeg 2 1))) p1.toNatClampNeg 1)]) ⟨hx, hb, hml, hown, hts⟩ hK hO hw (ct_X1_countIn hL (sp_X5_bookAll (lp_X5_leave_30 p1 12 0 (up3 S 6 p1.toNatClampNeg 2 1))) (SF.ci (SF.tr hsf (sf_X5_bookAll (lp_X5_leave_30 p1 12 0 (up3 S 6 p1.toNatClampNeg 2 1)))) hI) p1.toNatClampNeg (jn_ok x_1) 2 _ (wk.hA hw hA)) (cwV 1 hts (gB_V w_ml_X5_205 w_im_X1_countIn w_se_X1_countIn w_in_X1 w_co_X1_countIn) rfl rfl rfl (by decide +kernel) ⟨by decide, by decide⟩) (hL 6 p1.toNatClampNeg (cidJ6 (jn_ok x_1))) cke_6 rfl rfl hl.1 rfl (Nat.le_of_ble_eq_true rfl) dX5_leave_82 ⟨Nat.zero_le _, Nat.zero_le _⟩) (fun H locs hw => ?_)
          refine lv_iadd hx hb dX5_leave_85 ?_
          exact x_iret hx hb hr hlocks rfl hw (congrArg (fun z => z.2.1) hE) (congrArg (fun z => z.1) hE) (congrArg (fun z => cK cI cJ ad ce z.2.2) hE) (Nat.le_of_ble_eq_true rfl) (Nat.le_of_ble_eq_true rfl) dX5_leave_86
        | succ k ih =>
          intro i Sx H locs ls hk hsf hV hw hl
          refine lv_iload_n hx hb dX5_leave_30 rfl (lv_at hl 3 rfl) ?_
          refine lv_bipush (v := 12) hx hb dX5_leave_31 (by decide) ?_
          refine lv_icmp_ge (tgt := 71) hx hb dX5_leave_33 (by decide) (fun h => absurd h (lp_i rfl hk (by decide))) (fun _ => ?_)
          refine lv_aload_n hx hb dX5_leave_36 rfl (lv_at hl 2 rfl) ?_
          refine k_get (C := RX1) (T := TX1) (N := 8) (v := .ref (ad 24 p1.toNatClampNeg)) hx hb hts inB_X1 hown hK hw (hL 6 p1.toNatClampNeg (cidJ6 (jn_ok x_1))) cke_6 rfl 0 (by decide) (hts _ w_f_X5_195) (fun _ h9 => h9) rfl dX5_leave_37 ?_
          refine lv_iload_n hx hb dX5_leave_40 rfl (lv_at hl 3 rfl) ?_
          refine k_aldn hx hb hK hw (hL 24 p1.toNatClampNeg (cidJ24 (jn_ok x_1))) 0 cke_24 rfl (lp_l hk) (by decide) dX5_leave_41 ?_
          refine lv_if_ne (tgt := 65) hx hb dX5_leave_42 (by decide) (fun c_3 => ?_) (fun c_3 => ?_)
          · have hV := hV.trans (if_neg c_3)
            refine lv_iinc (v := (nI (i + 1))) (lv' := [(3, .int (nI (i + 1))), (0, .ref (ad 0 0)), (1, .int p1), (2, .ref (ad 6 p1.toNatClampNeg))]) hx hb dX5_leave_65 hl (k := 3) rfl (nI_1 _) (by decide) rfl (fun ls hl => ?_)
            refine lv_goto (tgt := 30) hx hb dX5_leave_68 (by decide) ?_
            exact ih (i + 1) Sx _ _ _ (lp_s hk) hsf hV hw (lv_sub hl [1, 2, 3, 0] rfl)
          · have hV := hV.trans (if_pos c_3)
            refine lv_aload_n hx hb dX5_leave_45 rfl (lv_at hl 0 rfl) ?_
            refine k_get (C := RX5) (T := TX5) (N := 7) (v := .ref (ad 3 0)) hx hb hts inB_X5 hown hK hw (hL 0 0 rfl) cke_0 rfl 2 (by decide) (hts _ w_f_X5_26) (fun _ h9 => h9) rfl dX5_leave_46 ?_
            refine lv_aload_n hx hb dX5_leave_49 rfl (lv_at hl 2 rfl) ?_
            refine k_get (C := RX1) (T := TX1) (N := 8) (v := .ref (ad 27 p1.toNatClampNeg)) hx hb hts inB_X1 hown hK hw (hL 6 p1.toNatClampNeg (cidJ6 (jn_ok x_1))) cke_6 rfl 3 (by decide) (hts _ w_f_X5_198) (fun _ h9 => h9) rfl dX5_leave_50 ?_
            refine lv_iload_n hx hb dX5_leave_53 rfl (lv_at hl 3 rfl) ?_
            refine k_aldn hx hb hK hw (hL 27 p1.toNatClampNeg (cidJ27 (jn_ok x_1))) 0 cke_27 rfl (lp_l hk) (by decide) dX5_leave_54 ?_
            refine k_cv0 hw (k_rV (As := [.int (Sx 27 p1.toNatClampNeg i)]) (rest := []) ⟨hx, hb, hml, hown, hts⟩ hK hO hw (ct_X4_release hL Sx (SF.ci hsf hI) (Sx 27 p1.toNatClampNeg i) _ (wk.hA hw hA)) (cwV 1 hts (gB_V w_ml_X5_201 w_im_X4_release w_se_X4_release w_in_X4 w_co_X4_release) rfl rfl rfl (by decide +kernel) ⟨by decide, by decide⟩) (hL 3 0 rfl) cke_3 rfl rfl hl.1 rfl (Nat.le_of_ble_eq_true rfl) dX5_leave_55 ⟨Nat.zero_le _, Nat.zero_le _⟩) (fun H locs hw => ?_)
            refine lv_aload_n hx hb dX5_leave_58 rfl (lv_at hl 2 rfl) ?_
            refine k_get (C := RX1) (T := TX1) (N := 8) (v := .ref (ad 27 p1.toNatClampNeg)) hx hb hts inB_X1 hown hK hw (hL 6 p1.toNatClampNeg (cidJ6 (jn_ok x_1))) cke_6 rfl 3 (by decide) (hts _ w_f_X5_198) (fun _ h9 => h9) rfl dX5_leave_59 ?_
            refine lv_iload_n hx hb dX5_leave_62 rfl (lv_at hl 3 rfl) ?_
            refine lv_iconst (v := (-1)) hx hb dX5_leave_63 (by decide) ?_
            refine k_astn hx hb hK hw (hL 27 p1.toNatClampNeg (cidJ27 (jn_ok x_1))) 0 cke_27 rfl (lp_l hk) (by decide) (cK_up (i := i) (x := (-1)) (by decide) rfl) dX5_leave_64 (fun H locs hw => ?_)
            refine lv_iinc (v := (nI (i + 1))) (lv' := [(3, .int (nI (i + 1))), (0, .ref (ad 0 0)), (1, .int p1), (2, .ref (ad 6 p1.toNatClampNeg))]) hx hb dX5_leave_65 hl (k := 3) rfl (nI_1 _) (by decide) rfl (fun ls hl => ?_)
            refine lv_goto (tgt := 30) hx hb dX5_leave_68 (by decide) ?_
            exact ih (i + 1) (up3 (sp_X4_release Sx (Sx 27 p1.toNatClampNeg i)) 27 p1.toNatClampNeg i (-1)) _ _ _ (lp_s hk) (SF.up (by decide) (SF.tr hsf (sf_X4_release Sx (Sx 27 p1.toNatClampNeg i)))) hV hw (lv_sub hl [1, 2, 3, 0] rfl)
      exact key_30 12 0 (up3 S 6 p1.toNatClampNeg 2 1) _ _ _ (Nat.zero_add _) (SF.up (by decide) (SF.rf _)) rfl hw (lv_sub hl [2, 3, 1, 0] rfl)
    · have hE := hE.trans (if_neg c_2)
      obtain ⟨sa, hsa⟩ := hO.2.1 (RX5, 193, "it has LEFT") (by decide +kernel)
      exact k_throw hx hb hst hown (by decide +kernel) (by decide +kernel) (hts _ w_cl_X5_69) (hts _ w_in_java_lang_IllegalStateException) hsa (xh_3 hts hO.2.2.1) xg_3 hO hw hl.1 hml dX5_leave_13 dX5_leave_16 dX5_leave_17 dX5_leave_19 dX5_leave_22 hexn (Nat.le_of_ble_eq_true rfl) (Nat.le_of_ble_eq_true rfl) (Nat.le_of_ble_eq_true rfl) (Nat.le_of_ble_eq_true rfl) hlocks (by rw [hE]; exact kE_3) (Nat.le_of_ble_eq_true rfl) (Nat.le_of_ble_eq_true rfl)

abbrev bw_X5_day : List Cond := .code yX5_day cX5_day 3 (some .int) :: BIG
abbrev rm_X5_day : Room := { frames := 6, cells := 2, slots := 12, locals := 135 }
def lp_X5_day_130 : Nat → Nat → (Nat → Nat → Nat → Int32) → (Nat → Nat → Nat → Int32)
  | 0, i, Sx => (Sx)
  | k + 1, i, Sx => lp_X5_day_130 k (i + 1) (sp_X5_takeBackStep Sx i)
theorem lz_lp_X5_day_130 (i : Nat) (Sx : (Nat → Nat → Nat → Int32)) : lp_X5_day_130 0 i Sx = (Sx) := rfl
theorem ls_lp_X5_day_130 (k i : Nat) (Sx : (Nat → Nat → Nat → Int32)) : lp_X5_day_130 (k + 1) i Sx = lp_X5_day_130 k (i + 1) (sp_X5_takeBackStep Sx i) := rfl
theorem sfl_lp_X5_day_130 : ∀ (k i : Nat) (Sx T : (Nat → Nat → Nat → Int32)), SF T Sx → SF T ((lp_X5_day_130 k i Sx)) := by
  intro k
  induction k with
  | zero => intro i Sx T h; exact h
  | succ k ih => 
    intro i Sx T h
    unfold lp_X5_day_130
    exact ih (i + 1) (sp_X5_takeBackStep Sx i) T (SF.tr h (sf_X5_takeBackStep Sx i))

def lp_X5_day_101 : Nat → Nat → (Nat → Nat → Nat → Int32) → (Nat → Nat → Nat → Int32)
  | 0, i, Sx => (Sx)
  | k + 1, i, Sx => lp_X5_day_101 k (i + 1) (sp_X5_loseSessions Sx i)
theorem lz_lp_X5_day_101 (i : Nat) (Sx : (Nat → Nat → Nat → Int32)) : lp_X5_day_101 0 i Sx = (Sx) := rfl
theorem ls_lp_X5_day_101 (k i : Nat) (Sx : (Nat → Nat → Nat → Int32)) : lp_X5_day_101 (k + 1) i Sx = lp_X5_day_101 k (i + 1) (sp_X5_loseSessions Sx i) := rfl
theorem sfl_lp_X5_day_101 : ∀ (k i : Nat) (Sx T : (Nat → Nat → Nat → Int32)), SF T Sx → SF T ((lp_X5_day_101 k i Sx)) := by
  intro k
  induction k with
  | zero => intro i Sx T h; exact h
  | succ k ih => 
    intro i Sx T h
    unfold lp_X5_day_101
    exact ih (i + 1) (sp_X5_loseSessions Sx i) T (SF.tr h (sf_X5_loseSessions Sx i))

def lp_X5_day_76 : Nat → Nat → (Nat → Nat → Nat → Int32) → (Nat → Nat → Nat → Int32)
  | 0, i, Sx => (Sx)
  | k + 1, i, Sx => lp_X5_day_76 k (i + 1) (sp_X5_beginSteps Sx i)
theorem lz_lp_X5_day_76 (i : Nat) (Sx : (Nat → Nat → Nat → Int32)) : lp_X5_day_76 0 i Sx = (Sx) := rfl
theorem ls_lp_X5_day_76 (k i : Nat) (Sx : (Nat → Nat → Nat → Int32)) : lp_X5_day_76 (k + 1) i Sx = lp_X5_day_76 k (i + 1) (sp_X5_beginSteps Sx i) := rfl
theorem sfl_lp_X5_day_76 : ∀ (k i : Nat) (Sx T : (Nat → Nat → Nat → Int32)), SF T Sx → SF T ((lp_X5_day_76 k i Sx)) := by
  intro k
  induction k with
  | zero => intro i Sx T h; exact h
  | succ k ih => 
    intro i Sx T h
    unfold lp_X5_day_76
    exact ih (i + 1) (sp_X5_beginSteps Sx i) T (SF.tr h (sf_X5_beginSteps Sx i))

def lp_X5_day_45 : Nat → Nat → Int32 → (Nat → Nat → Nat → Int32) → Int32 × (Nat → Nat → Nat → Int32)
  | 0, i, v1, Sx => (v1, Sx)
  | k + 1, i, v1, Sx => lp_X5_day_45 k (i + 1) (v1 + ((sp_X1_finishSteps Sx i (Sx 0 0 1)).1)) ((sp_X1_finishSteps Sx i (Sx 0 0 1)).2)
theorem lz_lp_X5_day_45 (i : Nat) (v1 : Int32) (Sx : (Nat → Nat → Nat → Int32)) : lp_X5_day_45 0 i v1 Sx = (v1, Sx) := rfl
theorem ls_lp_X5_day_45 (k i : Nat) (v1 : Int32) (Sx : (Nat → Nat → Nat → Int32)) : lp_X5_day_45 (k + 1) i v1 Sx = lp_X5_day_45 k (i + 1) (v1 + ((sp_X1_finishSteps Sx i (Sx 0 0 1)).1)) ((sp_X1_finishSteps Sx i (Sx 0 0 1)).2) := rfl
theorem sfl_lp_X5_day_45 : ∀ (k i : Nat) (v1 : Int32) (Sx T : (Nat → Nat → Nat → Int32)), SF T Sx → SF T ((lp_X5_day_45 k i v1 Sx).2) := by
  intro k
  induction k with
  | zero => intro i v1 Sx T h; exact h
  | succ k ih => 
    intro i v1 Sx T h
    unfold lp_X5_day_45
    exact ih (i + 1) (v1 + ((sp_X1_finishSteps Sx i (Sx 0 0 1)).1)) ((sp_X1_finishSteps Sx i (Sx 0 0 1)).2) T (SF.tr h (sf_X1_finishSteps Sx i (Sx 0 0 1)))

def sp_X5_day (S : (Nat → Nat → Nat → Int32)) : Nat × Int32 × (Nat → Nat → Nat → Int32) := if S 0 0 1 < 199 then ((0, (lp_X5_day_45 ((S 0 0 0).toNatClampNeg) 0 0 (sp_X3_receive (up3 S 0 0 1 ((S 0 0 1) + 1)) ((up3 S 0 0 1 ((S 0 0 1) + 1)) 0 0 1))).1, (lp_X5_day_130 ((S 0 0 0).toNatClampNeg) 0 (sp_X5_bookAll (lp_X5_day_101 ((S 0 0 0).toNatClampNeg) 0 (lp_X5_day_76 ((S 0 0 0).toNatClampNeg) 0 ((lp_X5_day_45 ((S 0 0 0).toNatClampNeg) 0 0 (sp_X3_receive (up3 S 0 0 1 ((S 0 0 1) + 1)) ((up3 S 0 0 1 ((S 0 0 1) + 1)) 0 0 1))).2))))))) else ((3, 0, S))
set_option maxHeartbeats 4000000 in
set_option maxRecDepth 100000 in
theorem ct_X5_day {l : Launch} {D : va_G} {cI cG cJ cO : ClassId} {K0 : Nat → Nat} {A : Nat → Prop} {L : List (Nat × Nat)} {ad : Nat → Nat → Nat} {ce : Nat → Nat → va_E} (hL : ∀ f o, cid f o = true → (f, o) ∈ L) (S : (Nat → Nat → Nat → Int32)) (hI : CI S) (hst : l.stackTraces = false) (sz : Nat) (hA : ∀ q, sz ≤ q → A q) : vx_Met l yX5_day bw_X5_day rm_X5_day (kP D (ktys cI cG cJ cO) K0 A L ad (cK cI cJ ad ce S) sz [.ref (ad 0 0)]) (va_Qi (fun (r : Int32) (_ : Unit) => r = (sp_X5_day S).2.1 ∧ (sp_X5_day S).1 = 0) (fun _ t => WE D A L ad (cK cI cJ ad ce ((sp_X5_day S).2.2)) t) A) (vx_X (fun (_ : Unit) => True) (fun E _ t => kE E (sp_X5_day S).1 ∧ WE D A L ad (cK cI cJ ad ce S) t) A) 2 12 A := by
  refine vx_ofW (cc := cX5_day) (maxL := 3) (ret := (some .int)) (by decide) rfl ?_
  intro p e s m args below meth c s₁ B hml hexn hv
  obtain ⟨hav, hsz, hP, hD, hK, hO⟩ := hv
  have hx := B.exec
  have hb := B.bytes
  have hr := B.returns
  have hts : ∀ w ∈ BIG, w.before args s = true := fun w h => atoms_spec (ws := bw_X5_day) B.pre w (List.mem_cons_of_mem _ h)
  have hown : s.vm.findClass RX5 = some m.cls := findClass_of_methodNamed B.named
  have hlocks := B.notSynchronized
  subst hsz
  have hw := wk.start hP hD
  refine k_start (by rfl) hav (Nat.le_of_ble_eq_true rfl) (fun ls hl => ?_)
  have hl : lv_has ls 3 [(0, .ref (ad 0 0))] := hl
  have hE : sp_X5_day S = sp_X5_day S := rfl
  refine lv_aload_n hx hb dX5_day_0 rfl (lv_at hl 0 rfl) ?_
  refine k_get (C := RX5) (T := TX5) (N := 7) (v := .int (S 0 0 1)) hx hb hts inB_X5 hown hK hw (hL 0 0 rfl) cke_0 rfl 6 (by decide) (hts _ w_f_X5_160) (fun _ h9 => h9) rfl dX5_day_1 ?_
  refine lv_sipush (v := 199) hx hb dX5_day_4 (by decide) ?_
  refine lv_icmp_lt (tgt := 20) hx hb dX5_day_7 (by decide) (fun c_1 => ?_) (fun c_1 => ?_)
  · have hE := hE.trans (if_pos c_1)
    refine lv_aload_n hx hb dX5_day_20 rfl (lv_at hl 0 rfl) ?_
    refine lv_dup hx hb dX5_day_21 rfl ?_
    refine k_get (C := RX5) (T := TX5) (N := 7) (v := .int (S 0 0 1)) hx hb hts inB_X5 hown hK hw (hL 0 0 rfl) cke_0 rfl 6 (by decide) (hts _ w_f_X5_160) (fun _ h9 => h9) rfl dX5_day_22 ?_
    refine lv_iconst (v := 1) hx hb dX5_day_25 (by decide) ?_
    refine lv_iadd hx hb dX5_day_26 ?_
    refine k_put (C := RX5) (T := TX5) (N := 7) (v := .int ((S 0 0 1) + 1)) (ty := .int) hx hb hts inB_X5 tyX5 tyX5_ok nmX5 hown hK hw (hL 0 0 rfl) cke_0 rfl 6 (by decide) (hts _ w_f_X5_160) (fun _ h9 => h9) rfl (by decide +kernel) rfl rfl (Nat.le_of_ble_eq_true rfl) (cK_up (i := 1) (x := ((S 0 0 1) + 1)) (by decide) rfl) dX5_day_27 (fun H locs hw => ?_)
    refine lv_aload_n hx hb dX5_day_30 rfl (lv_at hl 0 rfl) ?_
    refine k_get (C := RX5) (T := TX5) (N := 7) (v := .ref (ad 2 0)) hx hb hts inB_X5 hown hK hw (hL 0 0 rfl) cke_0 rfl 1 (by decide) (hts _ w_f_X5_19) (fun _ h9 => h9) rfl dX5_day_31 ?_
    refine lv_aload_n hx hb dX5_day_34 rfl (lv_at hl 0 rfl) ?_
    refine k_get (C := RX5) (T := TX5) (N := 7) (v := .int ((up3 S 0 0 1 ((S 0 0 1) + 1)) 0 0 1)) hx hb hts inB_X5 hown hK hw (hL 0 0 rfl) cke_0 rfl 6 (by decide) (hts _ w_f_X5_160) (fun _ h9 => h9) rfl dX5_day_35 ?_
    refine k_cv0 hw (k_rV (As := [.int ((up3 S 0 0 1 ((S 0 0 1) + 1)) 0 0 1)]) (rest := []) ⟨hx, hb, hml, hown, hts⟩ hK hO hw (ct_X3_receive hL (up3 S 0 0 1 ((S 0 0 1) + 1)) (SF.ci (SF.rf _) (CI.day hI)) ((up3 S 0 0 1 ((S 0 0 1) + 1)) 0 0 1) _ (wk.hA hw hA)) (cwV 1 hts (gB_V w_ml_X5_210 w_im_X3_receive w_se_X3_receive w_in_X3 w_co_X3_receive) rfl rfl rfl (by decide +kernel) ⟨by decide, by decide⟩) (hL 2 0 rfl) cke_2 rfl rfl hl.1 rfl (Nat.le_of_ble_eq_true rfl) dX5_day_38 ⟨Nat.zero_le _, Nat.zero_le _⟩) (fun H locs hw => ?_)
    refine lv_iconst (v := 0) hx hb dX5_day_41 (by decide) ?_
    refine lv_istore_n (lv' := [(1, .int 0), (0, .ref (ad 0 0))]) hx hb dX5_day_42 rfl hl (by decide) rfl (fun ls hl => ?_)
    refine lv_iconst (v := 0) hx hb dX5_day_43 (by decide) ?_
    refine lv_istore_n (lv' := [(2, .int 0), (1, .int 0), (0, .ref (ad 0 0))]) hx hb dX5_day_44 rfl hl (by decide) rfl (fun ls hl => ?_)
    have key_45 : ∀ (k i : Nat) (v1 : Int32) (Sx : (Nat → Nat → Nat → Int32)) (H : Heap) (locs : List Loc) (ls : Array Slot), i + k = (S 0 0 0).toNatClampNeg → SF (up3 S 0 0 1 ((S 0 0 1) + 1)) Sx → (lp_X5_day_45 ((S 0 0 0).toNatClampNeg) 0 0 (sp_X3_receive (up3 S 0 0 1 ((S 0 0 1) + 1)) ((up3 S 0 0 1 ((S 0 0 1) + 1)) 0 0 1))) = lp_X5_day_45 k i v1 Sx → wk D A L ad (cK cI cJ ad ce Sx) s.heap H locs → lv_has ls 3 [(0, .ref (ad 0 0)), (1, .int v1), (2, .int (nI i))] → W p l e (headSpec bw_X5_day rm_X5_day).room s m args below meth c H locs 0 0 (vx_MQ below (va_Qi (fun (r : Int32) (_ : Unit) => r = (sp_X5_day S).2.1 ∧ (sp_X5_day S).1 = 0) (fun _ t => WE D A L ad (cK cI cJ ad ce ((sp_X5_day S).2.2)) t) A) (vx_X (fun (_ : Unit) => True) (fun E _ t => kE E (sp_X5_day S).1 ∧ WE D A L ad (cK cI cJ ad ce S) t) A) args s 1 6 A) (F0 m 45 ls []) := by
      intro k
      induction k with
      | zero =>
        intro i v1 Sx H locs ls hk hsf hV hw hl
        have hV := hV.trans (lz_lp_X5_day_45 i v1 Sx)
        obtain rfl : v1 = (lp_X5_day_45 ((S 0 0 0).toNatClampNeg) 0 0 (sp_X3_receive (up3 S 0 0 1 ((S 0 0 1) + 1)) ((up3 S 0 0 1 ((S 0 0 1) + 1)) 0 0 1))).1 := (congrArg (fun z => z.1) hV).symm
        obtain rfl : Sx = (lp_X5_day_45 ((S 0 0 0).toNatClampNeg) 0 0 (sp_X3_receive (up3 S 0 0 1 ((S 0 0 1) + 1)) ((up3 S 0 0 1 ((S 0 0 1) + 1)) 0 0 1))).2 := (congrArg (fun z => z.2) hV).symm
        refine lv_iload_n hx hb dX5_day_45 rfl (lv_at hl 2 rfl) ?_
        refine lv_aload_n hx hb dX5_day_46 rfl (lv_at hl 0 rfl) ?_
        refine k_get (C := RX5) (T := TX5) (N := 7) (v := .int (((lp_X5_day_45 ((S 0 0 0).toNatClampNeg) 0 0 (sp_X3_receive (up3 S 0 0 1 ((S 0 0 1) + 1)) ((up3 S 0 0 1 ((S 0 0 1) + 1)) 0 0 1))).2) 0 0 0)) hx hb hts inB_X5 hown hK hw (hL 0 0 rfl) cke_0 rfl 5 (by decide) (hts _ w_f_X5_174) (fun _ h9 => h9) rfl dX5_day_47 ?_
        refine lv_icmp_ge (tgt := 74) hx hb dX5_day_50 (by decide) (fun _ => ?_) (fun h => absurd (lp_o (SF.b5 hsf (CI.day hI)) hk (cn_lt _)) h)
        refine lv_iconst (v := 0) hx hb dX5_day_74 (by decide) ?_
        refine lv_istore_n (lv' := [(2, .int 0), (0, .ref (ad 0 0)), (1, .int ((lp_X5_day_45 ((S 0 0 0).toNatClampNeg) 0 0 (sp_X3_receive (up3 S 0 0 1 ((S 0 0 1) + 1)) ((up3 S 0 0 1 ((S 0 0 1) + 1)) 0 0 1))).1))]) hx hb dX5_day_75 rfl hl (by decide) rfl (fun ls hl => ?_)
        have key_76 : ∀ (k i : Nat) (Sx : (Nat → Nat → Nat → Int32)) (H : Heap) (locs : List Loc) (ls : Array Slot), i + k = (S 0 0 0).toNatClampNeg → SF (up3 S 0 0 1 ((S 0 0 1) + 1)) Sx → (lp_X5_day_76 ((S 0 0 0).toNatClampNeg) 0 ((lp_X5_day_45 ((S 0 0 0).toNatClampNeg) 0 0 (sp_X3_receive (up3 S 0 0 1 ((S 0 0 1) + 1)) ((up3 S 0 0 1 ((S 0 0 1) + 1)) 0 0 1))).2)) = lp_X5_day_76 k i Sx → wk D A L ad (cK cI cJ ad ce Sx) s.heap H locs → lv_has ls 3 [(0, .ref (ad 0 0)), (1, .int ((lp_X5_day_45 ((S 0 0 0).toNatClampNeg) 0 0 (sp_X3_receive (up3 S 0 0 1 ((S 0 0 1) + 1)) ((up3 S 0 0 1 ((S 0 0 1) + 1)) 0 0 1))).1)), (2, .int (nI i))] → W p l e (headSpec bw_X5_day rm_X5_day).room s m args below meth c H locs 0 0 (vx_MQ below (va_Qi (fun (r : Int32) (_ : Unit) => r = (sp_X5_day S).2.1 ∧ (sp_X5_day S).1 = 0) (fun _ t => WE D A L ad (cK cI cJ ad ce ((sp_X5_day S).2.2)) t) A) (vx_X (fun (_ : Unit) => True) (fun E _ t => kE E (sp_X5_day S).1 ∧ WE D A L ad (cK cI cJ ad ce S) t) A) args s 1 6 A) (F0 m 76 ls []) := by
          intro k
          induction k with
          | zero =>
            intro i Sx H locs ls hk hsf hV hw hl
            have hV := hV.trans (lz_lp_X5_day_76 i Sx)
            subst hV
            refine lv_iload_n hx hb dX5_day_76 rfl (lv_at hl 2 rfl) ?_
            refine lv_aload_n hx hb dX5_day_77 rfl (lv_at hl 0 rfl) ?_
            refine k_get (C := RX5) (T := TX5) (N := 7) (v := .int ((lp_X5_day_76 ((S 0 0 0).toNatClampNeg) 0 ((lp_X5_day_45 ((S 0 0 0).toNatClampNeg) 0 0 (sp_X3_receive (up3 S 0 0 1 ((S 0 0 1) + 1)) ((up3 S 0 0 1 ((S 0 0 1) + 1)) 0 0 1))).2)) 0 0 0)) hx hb hts inB_X5 hown hK hw (hL 0 0 rfl) cke_0 rfl 5 (by decide) (hts _ w_f_X5_174) (fun _ h9 => h9) rfl dX5_day_78 ?_
            refine lv_icmp_ge (tgt := 99) hx hb dX5_day_81 (by decide) (fun _ => ?_) (fun h => absurd (lp_o (SF.b5 hsf (CI.day hI)) hk (cn_lt _)) h)
            refine lv_iconst (v := 0) hx hb dX5_day_99 (by decide) ?_
            refine lv_istore_n (lv' := [(2, .int 0), (0, .ref (ad 0 0)), (1, .int ((lp_X5_day_45 ((S 0 0 0).toNatClampNeg) 0 0 (sp_X3_receive (up3 S 0 0 1 ((S 0 0 1) + 1)) ((up3 S 0 0 1 ((S 0 0 1) + 1)) 0 0 1))).1))]) hx hb dX5_day_100 rfl hl (by decide) rfl (fun ls hl => ?_)
            have key_101 : ∀ (k i : Nat) (Sx : (Nat → Nat → Nat → Int32)) (H : Heap) (locs : List Loc) (ls : Array Slot), i + k = (S 0 0 0).toNatClampNeg → SF (up3 S 0 0 1 ((S 0 0 1) + 1)) Sx → (lp_X5_day_101 ((S 0 0 0).toNatClampNeg) 0 (lp_X5_day_76 ((S 0 0 0).toNatClampNeg) 0 ((lp_X5_day_45 ((S 0 0 0).toNatClampNeg) 0 0 (sp_X3_receive (up3 S 0 0 1 ((S 0 0 1) + 1)) ((up3 S 0 0 1 ((S 0 0 1) + 1)) 0 0 1))).2))) = lp_X5_day_101 k i Sx → wk D A L ad (cK cI cJ ad ce Sx) s.heap H locs → lv_has ls 3 [(0, .ref (ad 0 0)), (1, .int ((lp_X5_day_45 ((S 0 0 0).toNatClampNeg) 0 0 (sp_X3_receive (up3 S 0 0 1 ((S 0 0 1) + 1)) ((up3 S 0 0 1 ((S 0 0 1) + 1)) 0 0 1))).1)), (2, .int (nI i))] → W p l e (headSpec bw_X5_day rm_X5_day).room s m args below meth c H locs 0 0 (vx_MQ below (va_Qi (fun (r : Int32) (_ : Unit) => r = (sp_X5_day S).2.1 ∧ (sp_X5_day S).1 = 0) (fun _ t => WE D A L ad (cK cI cJ ad ce ((sp_X5_day S).2.2)) t) A) (vx_X (fun (_ : Unit) => True) (fun E _ t => kE E (sp_X5_day S).1 ∧ WE D A L ad (cK cI cJ ad ce S) t) A) args s 1 6 A) (F0 m 101 ls []) := by
              intro k
              induction k with
              | zero =>
                intro i Sx H locs ls hk hsf hV hw hl
                have hV := hV.trans (lz_lp_X5_day_101 i Sx)
                subst hV
                refine lv_iload_n hx hb dX5_day_101 rfl (lv_at hl 2 rfl) ?_
                refine lv_aload_n hx hb dX5_day_102 rfl (lv_at hl 0 rfl) ?_
                refine k_get (C := RX5) (T := TX5) (N := 7) (v := .int ((lp_X5_day_101 ((S 0 0 0).toNatClampNeg) 0 (lp_X5_day_76 ((S 0 0 0).toNatClampNeg) 0 ((lp_X5_day_45 ((S 0 0 0).toNatClampNeg) 0 0 (sp_X3_receive (up3 S 0 0 1 ((S 0 0 1) + 1)) ((up3 S 0 0 1 ((S 0 0 1) + 1)) 0 0 1))).2))) 0 0 0)) hx hb hts inB_X5 hown hK hw (hL 0 0 rfl) cke_0 rfl 5 (by decide) (hts _ w_f_X5_174) (fun _ h9 => h9) rfl dX5_day_103 ?_
                refine lv_icmp_ge (tgt := 124) hx hb dX5_day_106 (by decide) (fun _ => ?_) (fun h => absurd (lp_o (SF.b5 hsf (CI.day hI)) hk (cn_lt _)) h)
                refine lv_aload_n hx hb dX5_day_124 rfl (lv_at hl 0 rfl) ?_
                refine k_cv0 hw (k_rV (As := []) (rest := []) ⟨hx, hb, hml, hown, hts⟩ hK hO hw (ct_X5_bookAll hL (lp_X5_day_101 ((S 0 0 0).toNatClampNeg) 0 (lp_X5_day_76 ((S 0 0 0).toNatClampNeg) 0 ((lp_X5_day_45 ((S 0 0 0).toNatClampNeg) 0 0 (sp_X3_receive (up3 S 0 0 1 ((S 0 0 1) + 1)) ((up3 S 0 0 1 ((S 0 0 1) + 1)) 0 0 1))).2))) (SF.ci hsf (CI.day hI)) _ (wk.hA hw hA)) (cwV 0 hts (gB_V w_ml_X5_136 w_im_X5_bookAll w_se_X5_bookAll w_in_X5 w_co_X5_bookAll) rfl rfl rfl (by decide +kernel) ⟨by decide, by decide⟩) (hL 0 0 rfl) cke_0 rfl rfl hl.1 rfl (Nat.le_of_ble_eq_true rfl) dX5_day_125 ⟨Nat.zero_le _, Nat.zero_le _⟩) (fun H locs hw => ?_)
                refine lv_iconst (v := 0) hx hb dX5_day_128 (by decide) ?_
                refine lv_istore_n (lv' := [(2, .int 0), (0, .ref (ad 0 0)), (1, .int ((lp_X5_day_45 ((S 0 0 0).toNatClampNeg) 0 0 (sp_X3_receive (up3 S 0 0 1 ((S 0 0 1) + 1)) ((up3 S 0 0 1 ((S 0 0 1) + 1)) 0 0 1))).1))]) hx hb dX5_day_129 rfl hl (by decide) rfl (fun ls hl => ?_)
                have key_130 : ∀ (k i : Nat) (Sx : (Nat → Nat → Nat → Int32)) (H : Heap) (locs : List Loc) (ls : Array Slot), i + k = (S 0 0 0).toNatClampNeg → SF (up3 S 0 0 1 ((S 0 0 1) + 1)) Sx → (lp_X5_day_130 ((S 0 0 0).toNatClampNeg) 0 (sp_X5_bookAll (lp_X5_day_101 ((S 0 0 0).toNatClampNeg) 0 (lp_X5_day_76 ((S 0 0 0).toNatClampNeg) 0 ((lp_X5_day_45 ((S 0 0 0).toNatClampNeg) 0 0 (sp_X3_receive (up3 S 0 0 1 ((S 0 0 1) + 1)) ((up3 S 0 0 1 ((S 0 0 1) + 1)) 0 0 1))).2))))) = lp_X5_day_130 k i Sx → wk D A L ad (cK cI cJ ad ce Sx) s.heap H locs → lv_has ls 3 [(0, .ref (ad 0 0)), (1, .int ((lp_X5_day_45 ((S 0 0 0).toNatClampNeg) 0 0 (sp_X3_receive (up3 S 0 0 1 ((S 0 0 1) + 1)) ((up3 S 0 0 1 ((S 0 0 1) + 1)) 0 0 1))).1)), (2, .int (nI i))] → W p l e (headSpec bw_X5_day rm_X5_day).room s m args below meth c H locs 0 0 (vx_MQ below (va_Qi (fun (r : Int32) (_ : Unit) => r = (sp_X5_day S).2.1 ∧ (sp_X5_day S).1 = 0) (fun _ t => WE D A L ad (cK cI cJ ad ce ((sp_X5_day S).2.2)) t) A) (vx_X (fun (_ : Unit) => True) (fun E _ t => kE E (sp_X5_day S).1 ∧ WE D A L ad (cK cI cJ ad ce S) t) A) args s 1 6 A) (F0 m 130 ls []) := by
                  intro k
                  induction k with
                  | zero =>
                    intro i Sx H locs ls hk hsf hV hw hl
                    have hV := hV.trans (lz_lp_X5_day_130 i Sx)
                    subst hV
                    refine lv_iload_n hx hb dX5_day_130 rfl (lv_at hl 2 rfl) ?_
                    refine lv_aload_n hx hb dX5_day_131 rfl (lv_at hl 0 rfl) ?_
                    refine k_get (C := RX5) (T := TX5) (N := 7) (v := .int ((lp_X5_day_130 ((S 0 0 0).toNatClampNeg) 0 (sp_X5_bookAll (lp_X5_day_101 ((S 0 0 0).toNatClampNeg) 0 (lp_X5_day_76 ((S 0 0 0).toNatClampNeg) 0 ((lp_X5_day_45 ((S 0 0 0).toNatClampNeg) 0 0 (sp_X3_receive (up3 S 0 0 1 ((S 0 0 1) + 1)) ((up3 S 0 0 1 ((S 0 0 1) + 1)) 0 0 1))).2))))) 0 0 0)) hx hb hts inB_X5 hown hK hw (hL 0 0 rfl) cke_0 rfl 5 (by decide) (hts _ w_f_X5_174) (fun _ h9 => h9) rfl dX5_day_132 ?_
                    refine lv_icmp_ge (tgt := 153) hx hb dX5_day_135 (by decide) (fun _ => ?_) (fun h => absurd (lp_o (SF.b5 hsf (CI.day hI)) hk (cn_lt _)) h)
                    refine lv_iload_n hx hb dX5_day_153 rfl (lv_at hl 1 rfl) ?_
                    exact x_iret hx hb hr hlocks rfl hw (congrArg (fun z => z.2.1) hE) (congrArg (fun z => z.1) hE) (congrArg (fun z => cK cI cJ ad ce z.2.2) hE) (Nat.le_of_ble_eq_true rfl) (Nat.le_of_ble_eq_true rfl) dX5_day_154
                  | succ k ih =>
                    intro i Sx H locs ls hk hsf hV hw hl
                    have hV := hV.trans (ls_lp_X5_day_130 k i Sx)
                    refine lv_iload_n hx hb dX5_day_130 rfl (lv_at hl 2 rfl) ?_
                    refine lv_aload_n hx hb dX5_day_131 rfl (lv_at hl 0 rfl) ?_
                    refine k_get (C := RX5) (T := TX5) (N := 7) (v := .int (Sx 0 0 0)) hx hb hts inB_X5 hown hK hw (hL 0 0 rfl) cke_0 rfl 5 (by decide) (hts _ w_f_X5_174) (fun _ h9 => h9) rfl dX5_day_132 ?_
                    refine lv_icmp_ge (tgt := 153) hx hb dX5_day_135 (by decide) (fun h => absurd h (lp_i (SF.b5 hsf (CI.day hI)) hk (cn_lt _))) (fun _ => ?_)
                    refine lv_aload_n hx hb dX5_day_138 rfl (lv_at hl 0 rfl) ?_
                    refine lv_aload_n hx hb dX5_day_139 rfl (lv_at hl 0 rfl) ?_
                    refine lv_iload_n hx hb dX5_day_140 rfl (lv_at hl 2 rfl) ?_
                    refine k_cr0 hw (k_rV (As := [.int (nI i)]) (rest := [.ref (ad 0 0)]) ⟨hx, hb, hml, hown, hts⟩ hK hO hw (ct_X5_joinerAt_n hL Sx (SF.ci hsf (CI.day hI)) i (SF.q5 hsf (lp_l hk)) _ (wk.hA hw hA)) (cwV 1 hts (gB_V w_ml_X5_179 w_im_X5_joinerAt w_se_X5_joinerAt w_in_X5 w_co_X5_joinerAt) rfl rfl rfl (by decide +kernel) ⟨by decide, by decide⟩) (hL 0 0 rfl) cke_0 rfl rfl hl.1 rfl (Nat.le_of_ble_eq_true rfl) dX5_day_141 ⟨Nat.zero_le _, Nat.zero_le _⟩) (fun H locs hw => ?_)
                    refine k_cv0 hw (k_rV (As := [.ref (ad 6 i)]) (rest := []) ⟨hx, hb, hml, hown, hts⟩ hK hO hw (ct_X5_takeBackStep hL Sx (SF.ci hsf (CI.day hI)) i (Nat.lt_of_lt_of_le (lp_l hk) (CI.n5 hI)) _ (wk.hA hw hA)) (cwV 1 hts (gB_V w_ml_X5_223 w_im_X5_takeBackStep w_se_X5_takeBackStep w_in_X5 w_co_X5_takeBackStep) rfl rfl rfl (by decide +kernel) ⟨by decide, by decide⟩) (hL 0 0 rfl) cke_0 rfl rfl hl.1 rfl (Nat.le_of_ble_eq_true rfl) dX5_day_144 ⟨Nat.zero_le _, Nat.zero_le _⟩) (fun H locs hw => ?_)
                    refine lv_iinc (v := (nI (i + 1))) (lv' := [(2, .int (nI (i + 1))), (0, .ref (ad 0 0)), (1, .int ((lp_X5_day_45 ((S 0 0 0).toNatClampNeg) 0 0 (sp_X3_receive (up3 S 0 0 1 ((S 0 0 1) + 1)) ((up3 S 0 0 1 ((S 0 0 1) + 1)) 0 0 1))).1))]) hx hb dX5_day_147 hl (k := 2) rfl (nI_1 _) (by decide) rfl (fun ls hl => ?_)
                    refine lv_goto (tgt := 130) hx hb dX5_day_150 (by decide) ?_
                    exact ih (i + 1) (sp_X5_takeBackStep Sx i) _ _ _ (lp_s hk) (SF.tr hsf (sf_X5_takeBackStep Sx i)) hV hw (lv_sub hl [1, 2, 0] rfl)
                exact key_130 ((S 0 0 0).toNatClampNeg) 0 (sp_X5_bookAll (lp_X5_day_101 ((S 0 0 0).toNatClampNeg) 0 (lp_X5_day_76 ((S 0 0 0).toNatClampNeg) 0 ((lp_X5_day_45 ((S 0 0 0).toNatClampNeg) 0 0 (sp_X3_receive (up3 S 0 0 1 ((S 0 0 1) + 1)) ((up3 S 0 0 1 ((S 0 0 1) + 1)) 0 0 1))).2)))) _ _ _ (Nat.zero_add _) (SF.tr hsf (sf_X5_bookAll (lp_X5_day_101 ((S 0 0 0).toNatClampNeg) 0 (lp_X5_day_76 ((S 0 0 0).toNatClampNeg) 0 ((lp_X5_day_45 ((S 0 0 0).toNatClampNeg) 0 0 (sp_X3_receive (up3 S 0 0 1 ((S 0 0 1) + 1)) ((up3 S 0 0 1 ((S 0 0 1) + 1)) 0 0 1))).2))))) rfl hw (lv_sub hl [1, 2, 0] rfl)
              | succ k ih =>
                intro i Sx H locs ls hk hsf hV hw hl
                have hV := hV.trans (ls_lp_X5_day_101 k i Sx)
                refine lv_iload_n hx hb dX5_day_101 rfl (lv_at hl 2 rfl) ?_
                refine lv_aload_n hx hb dX5_day_102 rfl (lv_at hl 0 rfl) ?_
                refine k_get (C := RX5) (T := TX5) (N := 7) (v := .int (Sx 0 0 0)) hx hb hts inB_X5 hown hK hw (hL 0 0 rfl) cke_0 rfl 5 (by decide) (hts _ w_f_X5_174) (fun _ h9 => h9) rfl dX5_day_103 ?_
                refine lv_icmp_ge (tgt := 124) hx hb dX5_day_106 (by decide) (fun h => absurd h (lp_i (SF.b5 hsf (CI.day hI)) hk (cn_lt _))) (fun _ => ?_)
                refine lv_aload_n hx hb dX5_day_109 rfl (lv_at hl 0 rfl) ?_
                refine lv_aload_n hx hb dX5_day_110 rfl (lv_at hl 0 rfl) ?_
                refine lv_iload_n hx hb dX5_day_111 rfl (lv_at hl 2 rfl) ?_
                refine k_cr0 hw (k_rV (As := [.int (nI i)]) (rest := [.ref (ad 0 0)]) ⟨hx, hb, hml, hown, hts⟩ hK hO hw (ct_X5_joinerAt_n hL Sx (SF.ci hsf (CI.day hI)) i (SF.q5 hsf (lp_l hk)) _ (wk.hA hw hA)) (cwV 1 hts (gB_V w_ml_X5_179 w_im_X5_joinerAt w_se_X5_joinerAt w_in_X5 w_co_X5_joinerAt) rfl rfl rfl (by decide +kernel) ⟨by decide, by decide⟩) (hL 0 0 rfl) cke_0 rfl rfl hl.1 rfl (Nat.le_of_ble_eq_true rfl) dX5_day_112 ⟨Nat.zero_le _, Nat.zero_le _⟩) (fun H locs hw => ?_)
                refine k_cv0 hw (k_rV (As := [.ref (ad 6 i)]) (rest := []) ⟨hx, hb, hml, hown, hts⟩ hK hO hw (ct_X5_loseSessions hL Sx (SF.ci hsf (CI.day hI)) i (Nat.lt_of_lt_of_le (lp_l hk) (CI.n5 hI)) _ (wk.hA hw hA)) (cwV 1 hts (gB_V w_ml_X5_220 w_im_X5_loseSessions w_se_X5_loseSessions w_in_X5 w_co_X5_loseSessions) rfl rfl rfl (by decide +kernel) ⟨by decide, by decide⟩) (hL 0 0 rfl) cke_0 rfl rfl hl.1 rfl (Nat.le_of_ble_eq_true rfl) dX5_day_115 ⟨Nat.zero_le _, Nat.zero_le _⟩) (fun H locs hw => ?_)
                refine lv_iinc (v := (nI (i + 1))) (lv' := [(2, .int (nI (i + 1))), (0, .ref (ad 0 0)), (1, .int ((lp_X5_day_45 ((S 0 0 0).toNatClampNeg) 0 0 (sp_X3_receive (up3 S 0 0 1 ((S 0 0 1) + 1)) ((up3 S 0 0 1 ((S 0 0 1) + 1)) 0 0 1))).1))]) hx hb dX5_day_118 hl (k := 2) rfl (nI_1 _) (by decide) rfl (fun ls hl => ?_)
                refine lv_goto (tgt := 101) hx hb dX5_day_121 (by decide) ?_
                exact ih (i + 1) (sp_X5_loseSessions Sx i) _ _ _ (lp_s hk) (SF.tr hsf (sf_X5_loseSessions Sx i)) hV hw (lv_sub hl [1, 2, 0] rfl)
            exact key_101 ((S 0 0 0).toNatClampNeg) 0 (lp_X5_day_76 ((S 0 0 0).toNatClampNeg) 0 ((lp_X5_day_45 ((S 0 0 0).toNatClampNeg) 0 0 (sp_X3_receive (up3 S 0 0 1 ((S 0 0 1) + 1)) ((up3 S 0 0 1 ((S 0 0 1) + 1)) 0 0 1))).2)) _ _ _ (Nat.zero_add _) hsf rfl hw (lv_sub hl [1, 2, 0] rfl)
          | succ k ih =>
            intro i Sx H locs ls hk hsf hV hw hl
            have hV := hV.trans (ls_lp_X5_day_76 k i Sx)
            refine lv_iload_n hx hb dX5_day_76 rfl (lv_at hl 2 rfl) ?_
            refine lv_aload_n hx hb dX5_day_77 rfl (lv_at hl 0 rfl) ?_
            refine k_get (C := RX5) (T := TX5) (N := 7) (v := .int (Sx 0 0 0)) hx hb hts inB_X5 hown hK hw (hL 0 0 rfl) cke_0 rfl 5 (by decide) (hts _ w_f_X5_174) (fun _ h9 => h9) rfl dX5_day_78 ?_
            refine lv_icmp_ge (tgt := 99) hx hb dX5_day_81 (by decide) (fun h => absurd h (lp_i (SF.b5 hsf (CI.day hI)) hk (cn_lt _))) (fun _ => ?_)
            refine lv_aload_n hx hb dX5_day_84 rfl (lv_at hl 0 rfl) ?_
            refine lv_aload_n hx hb dX5_day_85 rfl (lv_at hl 0 rfl) ?_
            refine lv_iload_n hx hb dX5_day_86 rfl (lv_at hl 2 rfl) ?_
            refine k_cr0 hw (k_rV (As := [.int (nI i)]) (rest := [.ref (ad 0 0)]) ⟨hx, hb, hml, hown, hts⟩ hK hO hw (ct_X5_joinerAt_n hL Sx (SF.ci hsf (CI.day hI)) i (SF.q5 hsf (lp_l hk)) _ (wk.hA hw hA)) (cwV 1 hts (gB_V w_ml_X5_179 w_im_X5_joinerAt w_se_X5_joinerAt w_in_X5 w_co_X5_joinerAt) rfl rfl rfl (by decide +kernel) ⟨by decide, by decide⟩) (hL 0 0 rfl) cke_0 rfl rfl hl.1 rfl (Nat.le_of_ble_eq_true rfl) dX5_day_87 ⟨Nat.zero_le _, Nat.zero_le _⟩) (fun H locs hw => ?_)
            refine k_cv0 hw (k_rV (As := [.ref (ad 6 i)]) (rest := []) ⟨hx, hb, hml, hown, hts⟩ hK hO hw (ct_X5_beginSteps hL Sx (SF.ci hsf (CI.day hI)) i (Nat.lt_of_lt_of_le (lp_l hk) (CI.n5 hI)) _ (wk.hA hw hA)) (cwV 1 hts (gB_V w_ml_X5_216 w_im_X5_beginSteps w_se_X5_beginSteps w_in_X5 w_co_X5_beginSteps) rfl rfl rfl (by decide +kernel) ⟨by decide, by decide⟩) (hL 0 0 rfl) cke_0 rfl rfl hl.1 rfl (Nat.le_of_ble_eq_true rfl) dX5_day_90 ⟨Nat.zero_le _, Nat.zero_le _⟩) (fun H locs hw => ?_)
            refine lv_iinc (v := (nI (i + 1))) (lv' := [(2, .int (nI (i + 1))), (0, .ref (ad 0 0)), (1, .int ((lp_X5_day_45 ((S 0 0 0).toNatClampNeg) 0 0 (sp_X3_receive (up3 S 0 0 1 ((S 0 0 1) + 1)) ((up3 S 0 0 1 ((S 0 0 1) + 1)) 0 0 1))).1))]) hx hb dX5_day_93 hl (k := 2) rfl (nI_1 _) (by decide) rfl (fun ls hl => ?_)
            refine lv_goto (tgt := 76) hx hb dX5_day_96 (by decide) ?_
            exact ih (i + 1) (sp_X5_beginSteps Sx i) _ _ _ (lp_s hk) (SF.tr hsf (sf_X5_beginSteps Sx i)) hV hw (lv_sub hl [1, 2, 0] rfl)
        exact key_76 ((S 0 0 0).toNatClampNeg) 0 ((lp_X5_day_45 ((S 0 0 0).toNatClampNeg) 0 0 (sp_X3_receive (up3 S 0 0 1 ((S 0 0 1) + 1)) ((up3 S 0 0 1 ((S 0 0 1) + 1)) 0 0 1))).2) _ _ _ (Nat.zero_add _) hsf rfl hw (lv_sub hl [1, 2, 0] rfl)
      | succ k ih =>
        intro i v1 Sx H locs ls hk hsf hV hw hl
        have hV := hV.trans (ls_lp_X5_day_45 k i v1 Sx)
        refine lv_iload_n hx hb dX5_day_45 rfl (lv_at hl 2 rfl) ?_
        refine lv_aload_n hx hb dX5_day_46 rfl (lv_at hl 0 rfl) ?_
        refine k_get (C := RX5) (T := TX5) (N := 7) (v := .int (Sx 0 0 0)) hx hb hts inB_X5 hown hK hw (hL 0 0 rfl) cke_0 rfl 5 (by decide) (hts _ w_f_X5_174) (fun _ h9 => h9) rfl dX5_day_47 ?_
        refine lv_icmp_ge (tgt := 74) hx hb dX5_day_50 (by decide) (fun h => absurd h (lp_i (SF.b5 hsf (CI.day hI)) hk (cn_lt _))) (fun _ => ?_)
        refine lv_iload_n hx hb dX5_day_53 rfl (lv_at hl 1 rfl) ?_
        refine lv_aload_n hx hb dX5_day_54 rfl (lv_at hl 0 rfl) ?_
        refine lv_iload_n hx hb dX5_day_55 rfl (lv_at hl 2 rfl) ?_
        refine k_cr0 hw (k_rV (As := [.int (nI i)]) (rest := [.int v1]) ⟨hx, hb, hml, hown, hts⟩ hK hO hw (ct_X5_joinerAt_n hL Sx (SF.ci hsf (CI.day hI)) i (SF.q5 hsf (lp_l hk)) _ (wk.hA hw hA)) (cwV 1 hts (gB_V w_ml_X5_179 w_im_X5_joinerAt w_se_X5_joinerAt w_in_X5 w_co_X5_joinerAt) rfl rfl rfl (by decide +kernel) ⟨by decide, by decide⟩) (hL 0 0 rfl) cke_0 rfl rfl hl.1 rfl (Nat.le_of_ble_eq_true rfl) dX5_day_56 ⟨Nat.zero_le _, Nat.zero_le _⟩) (fun H locs hw => ?_)
        refine lv_aload_n hx hb dX5_day_59 rfl (lv_at hl 0 rfl) ?_
        refine k_get (C := RX5) (T := TX5) (N := 7) (v := .int (Sx 0 0 1)) hx hb hts inB_X5 hown hK hw (hL 0 0 rfl) cke_0 rfl 6 (by decide) (hts _ w_f_X5_160) (fun _ h9 => h9) rfl dX5_day_60 ?_
        refine k_ci0 hw (k_rV (As := [.int (Sx 0 0 1)]) (rest := [.int v1]) ⟨hx, hb, hml, hown, hts⟩ hK hO hw (ct_X1_finishSteps hL Sx (SF.ci hsf (CI.day hI)) i (Nat.lt_of_lt_of_le (lp_l hk) (CI.n5 hI)) (Sx 0 0 1) _ (wk.hA hw hA)) (cwV 1 hts (gB_V w_ml_X5_213 w_im_X1_finishSteps w_se_X1_finishSteps w_in_X1 w_co_X1_finishSteps) rfl rfl rfl (by decide +kernel) ⟨by decide, by decide⟩) (hL 6 i (cidJ6 (Nat.lt_of_lt_of_le (lp_l hk) (CI.n5 hI)))) cke_6 rfl rfl hl.1 rfl (Nat.le_of_ble_eq_true rfl) dX5_day_63 ⟨Nat.zero_le _, Nat.zero_le _⟩) (fun H locs hw => ?_)
        refine lv_iadd hx hb dX5_day_66 ?_
        refine lv_istore_n (lv' := [(1, .int (v1 + ((sp_X1_finishSteps Sx i (Sx 0 0 1)).1))), (0, .ref (ad 0 0)), (2, .int (nI i))]) hx hb dX5_day_67 rfl hl (by decide) rfl (fun ls hl => ?_)
        refine lv_iinc (v := (nI (i + 1))) (lv' := [(2, .int (nI (i + 1))), (1, .int (v1 + ((sp_X1_finishSteps Sx i (Sx 0 0 1)).1))), (0, .ref (ad 0 0))]) hx hb dX5_day_68 hl (k := 2) rfl (nI_1 _) (by decide) rfl (fun ls hl => ?_)
        refine lv_goto (tgt := 45) hx hb dX5_day_71 (by decide) ?_
        exact ih (i + 1) (v1 + ((sp_X1_finishSteps Sx i (Sx 0 0 1)).1)) ((sp_X1_finishSteps Sx i (Sx 0 0 1)).2) _ _ _ (lp_s hk) (SF.tr hsf (sf_X1_finishSteps Sx i (Sx 0 0 1))) hV hw (lv_sub hl [2, 1, 0] rfl)
    exact key_45 ((S 0 0 0).toNatClampNeg) 0 0 (sp_X3_receive (up3 S 0 0 1 ((S 0 0 1) + 1)) ((up3 S 0 0 1 ((S 0 0 1) + 1)) 0 0 1)) _ _ _ (Nat.zero_add _) (SF.tr (SF.rf _) (sf_X3_receive (up3 S 0 0 1 ((S 0 0 1) + 1)) ((up3 S 0 0 1 ((S 0 0 1) + 1)) 0 0 1))) rfl hw (lv_sub hl [2, 1, 0] rfl)
  · have hE := hE.trans (if_neg c_1)
    obtain ⟨sa, hsa⟩ := hO.2.1 (RX5, 208, "it is the last DAY") (by decide +kernel)
    exact k_throw hx hb hst hown (by decide +kernel) (by decide +kernel) (hts _ w_cl_X5_69) (hts _ w_in_java_lang_IllegalStateException) hsa (xh_3 hts hO.2.2.1) xg_3 hO hw hl.1 hml dX5_day_10 dX5_day_13 dX5_day_14 dX5_day_16 dX5_day_19 hexn (Nat.le_of_ble_eq_true rfl) (Nat.le_of_ble_eq_true rfl) (Nat.le_of_ble_eq_true rfl) (Nat.le_of_ble_eq_true rfl) hlocks (by rw [hE]; exact kE_3) (Nat.le_of_ble_eq_true rfl) (Nat.le_of_ble_eq_true rfl)

abbrev bw_X5_ofStep : List Cond := .code yX5_ofStep cX5_ofStep 5 (some .int) :: BIG
abbrev rm_X5_ofStep : Room := { frames := 7, cells := 2, slots := 12, locals := 116 }
def sp_X5_ofStep (S : (Nat → Nat → Nat → Int32)) (p1 : Int32) (p2 : Int32) (p3 : Int32) : Nat × Int32 × (Nat → Nat → Nat → Int32) := if (sp_X5_joinerAt ad S p1).1 = 0 then (if p2 < 0 then ((1, 0, S)) else (if 12 ≤ p2 then ((1, 0, S)) else (if sp_X5_has (S 6 p1.toNatClampNeg 0) p2 = 0 then ((1, 0, S)) else (if sp_X5_isWithin p3 0 5 = 0 then ((2, 0, S)) else ((0, sp_X5_foreseenOfStep (sp_X0_foresee S p1.toNatClampNeg (S 0 0 1) (-1) 0) p1.toNatClampNeg p2 p3, (sp_X0_foresee S p1.toNatClampNeg (S 0 0 1) (-1) 0))))))) else (((sp_X5_joinerAt ad S p1).1, 0, S))
set_option maxHeartbeats 4000000 in
set_option maxRecDepth 100000 in
theorem ct_X5_ofStep {l : Launch} {D : va_G} {cI cG cJ cO : ClassId} {K0 : Nat → Nat} {A : Nat → Prop} {L : List (Nat × Nat)} {ad : Nat → Nat → Nat} {ce : Nat → Nat → va_E} (hL : ∀ f o, cid f o = true → (f, o) ∈ L) (S : (Nat → Nat → Nat → Int32)) (hI : CI S) (p1 : Int32) (p2 : Int32) (p3 : Int32) (hst : l.stackTraces = false) (sz : Nat) (hA : ∀ q, sz ≤ q → A q) : vx_Met l yX5_ofStep bw_X5_ofStep rm_X5_ofStep (kP D (ktys cI cG cJ cO) K0 A L ad (cK cI cJ ad ce S) sz [.ref (ad 0 0), .int p1, .int p2, .int p3]) (va_Qi (fun (r : Int32) (_ : Unit) => r = (sp_X5_ofStep S p1 p2 p3).2.1 ∧ (sp_X5_ofStep S p1 p2 p3).1 = 0) (fun _ t => WE D A L ad (cK cI cJ ad ce ((sp_X5_ofStep S p1 p2 p3).2.2)) t) A) (vx_X (fun (_ : Unit) => True) (fun E _ t => kE E (sp_X5_ofStep S p1 p2 p3).1 ∧ WE D A L ad (cK cI cJ ad ce S) t) A) 2 12 A := by
  refine vx_ofW (cc := cX5_ofStep) (maxL := 5) (ret := (some .int)) (by decide) rfl ?_
  intro p e s m args below meth c s₁ B hml hexn hv
  obtain ⟨hav, hsz, hP, hD, hK, hO⟩ := hv
  have hx := B.exec
  have hb := B.bytes
  have hr := B.returns
  have hts : ∀ w ∈ BIG, w.before args s = true := fun w h => atoms_spec (ws := bw_X5_ofStep) B.pre w (List.mem_cons_of_mem _ h)
  have hown : s.vm.findClass RX5 = some m.cls := findClass_of_methodNamed B.named
  have hlocks := B.notSynchronized
  subst hsz
  have hw := wk.start hP hD
  refine k_start (by rfl) hav (Nat.le_of_ble_eq_true rfl) (fun ls hl => ?_)
  have hl : lv_has ls 5 [(0, .ref (ad 0 0)), (1, .int p1), (2, .int p2), (3, .int p3)] := hl
  have hE : sp_X5_ofStep S p1 p2 p3 = sp_X5_ofStep S p1 p2 p3 := rfl
  refine lv_aload_n hx hb dX5_ofStep_0 rfl (lv_at hl 0 rfl) ?_
  refine lv_iload_n hx hb dX5_ofStep_1 rfl (lv_at hl 1 rfl) ?_
  refine x_cq hw (x_rV (As := [.int p1]) (rest := []) ⟨hx, hb, hml, hown, hts⟩ hK hO hw (ct_X5_joinerAt hL S (SF.ci (SF.rf _) hI) p1 hst _ (wk.hA hw hA)) (cwV 1 hts (gB_V w_ml_X5_179 w_im_X5_joinerAt w_se_X5_joinerAt w_in_X5 w_co_X5_joinerAt) rfl rfl rfl (by decide +kernel) ⟨by decide, by decide⟩) (hL 0 0 rfl) cke_0 rfl rfl hl.1 rfl (Nat.le_of_ble_eq_true rfl) dX5_ofStep_2 ⟨Nat.le_of_ble_eq_true rfl, Nat.le_of_ble_eq_true rfl⟩) (fun E cx q9 H locs hx9 hw hcx hvx hclx => ?_) (fun H locs x_1 hw => ?_)
  · have hE := hE.trans (if_neg hx9.ne)
    exact x_out hexn hlocks hw hcx hvx hclx (by rw [hE]; exact hx9) (Nat.le_of_ble_eq_true rfl) (Nat.le_of_ble_eq_true rfl)
  · have hE := hE.trans (if_pos x_1)
    refine lv_astore (lv' := [(4, .ref (ad 6 p1.toNatClampNeg)), (0, .ref (ad 0 0)), (1, .int p1), (2, .int p2), (3, .int p3)]) hx hb dX5_ofStep_5 hl (by decide) rfl (fun ls hl => ?_)
    refine lv_iload_n hx hb dX5_ofStep_7 rfl (lv_at hl 3 rfl) ?_
    refine lv_if_lt (tgt := 29) hx hb dX5_ofStep_8 (by decide) (fun c_2 => ?_) (fun c_2 => ?_)
    · have hE := hE.trans (if_pos c_2)
      obtain ⟨sa, hsa⟩ := hO.2.1 (RX5, 229, "no such STEP of that JOINER") (by decide +kernel)
      exact k_throw hx hb hst hown (by decide +kernel) (by decide +kernel) (hts _ w_cl_X5_74) (hts _ w_in_java_lang_IndexOutOfBoundsException) hsa (xh_1 hts hO.2.2.1) xg_1 hO hw hl.1 hml dX5_ofStep_29 dX5_ofStep_32 dX5_ofStep_33 dX5_ofStep_35 dX5_ofStep_38 hexn (Nat.le_of_ble_eq_true rfl) (Nat.le_of_ble_eq_true rfl) (Nat.le_of_ble_eq_true rfl) (Nat.le_of_ble_eq_true rfl) hlocks (by rw [hE]; exact kE_1) (Nat.le_of_ble_eq_true rfl) (Nat.le_of_ble_eq_true rfl)
    · have hE := hE.trans (if_neg c_2)
      refine lv_iload_n hx hb dX5_ofStep_11 rfl (lv_at hl 3 rfl) ?_
      refine lv_bipush (v := 12) hx hb dX5_ofStep_12 (by decide) ?_
      refine lv_icmp_ge (tgt := 29) hx hb dX5_ofStep_14 (by decide) (fun c_3 => ?_) (fun c_3 => ?_)
      · have hE := hE.trans (if_pos c_3)
        obtain ⟨sa, hsa⟩ := hO.2.1 (RX5, 229, "no such STEP of that JOINER") (by decide +kernel)
        exact k_throw hx hb hst hown (by decide +kernel) (by decide +kernel) (hts _ w_cl_X5_74) (hts _ w_in_java_lang_IndexOutOfBoundsException) hsa (xh_1 hts hO.2.2.1) xg_1 hO hw hl.1 hml dX5_ofStep_29 dX5_ofStep_32 dX5_ofStep_33 dX5_ofStep_35 dX5_ofStep_38 hexn (Nat.le_of_ble_eq_true rfl) (Nat.le_of_ble_eq_true rfl) (Nat.le_of_ble_eq_true rfl) (Nat.le_of_ble_eq_true rfl) hlocks (by rw [hE]; exact kE_1) (Nat.le_of_ble_eq_true rfl) (Nat.le_of_ble_eq_true rfl)
      · have hE := hE.trans (if_neg c_3)
        refine lv_aload hx hb dX5_ofStep_17 (lv_at hl 0 rfl) ?_
        refine k_get (C := RX1) (T := TX1) (N := 8) (v := .int (S 6 p1.toNatClampNeg 0)) hx hb hts inB_X1 hown hK hw (hL 6 p1.toNatClampNeg (cidJ6 (jn_ok x_1))) cke_6 rfl 5 (by decide) (hts _ w_f_X5_183) (fun _ h9 => h9) rfl dX5_ofStep_19 ?_
        refine lv_iload_n hx hb dX5_ofStep_22 rfl (lv_at hl 3 rfl) ?_
        refine k_ci0 hw (k_rS (As := [.int (S 6 p1.toNatClampNeg 0), .int p2]) (rest := []) ⟨hx, hb, hml, hown, hts⟩ hK hO hw (ct_X5_has (S 6 p1.toNatClampNeg 0) p2 _ (wk.hA hw hA)) (va_cwS 2 hts (gB_S w_ml_X5_226 w_st_X5_has w_in_X5 w_co_X5_has) rfl rfl rfl (by decide +kernel) ⟨by decide, by decide⟩) rfl hl.1 rfl (Nat.le_of_ble_eq_true rfl) dX5_ofStep_23 ⟨Nat.zero_le _, Nat.zero_le _⟩) (fun H locs hw => ?_)
        refine lv_if_ne (tgt := 39) hx hb dX5_ofStep_26 (by decide) (fun c_4 => ?_) (fun c_4 => ?_)
        · have hE := hE.trans (if_neg c_4)
          refine lv_iload_n hx hb dX5_ofStep_39 rfl (lv_at hl 4 rfl) ?_
          refine lv_iconst (v := 0) hx hb dX5_ofStep_40 (by decide) ?_
          refine lv_iconst (v := 5) hx hb dX5_ofStep_41 (by decide) ?_
          refine k_ci0 hw (k_rS (As := [.int p3, .int 0, .int 5]) (rest := []) ⟨hx, hb, hml, hown, hts⟩ hK hO hw (ct_X5_isWithin p3 0 5 _ (wk.hA hw hA)) (va_cwS 3 hts (gB_S w_ml_X5_46 w_st_X5_isWithin w_in_X5 w_co_X5_isWithin) rfl rfl rfl (by decide +kernel) ⟨by decide, by decide⟩) rfl hl.1 rfl (Nat.le_of_ble_eq_true rfl) dX5_ofStep_42 ⟨Nat.zero_le _, Nat.zero_le _⟩) (fun H locs hw => ?_)
          refine lv_if_ne (tgt := 58) hx hb dX5_ofStep_45 (by decide) (fun c_5 => ?_) (fun c_5 => ?_)
          · have hE := hE.trans (if_neg c_5)
            refine lv_aload_n hx hb dX5_ofStep_58 rfl (lv_at hl 1 rfl) ?_
            refine k_get (C := RX5) (T := TX5) (N := 7) (v := .ref (ad 4 0)) hx hb hts inB_X5 hown hK hw (hL 0 0 rfl) cke_0 rfl 3 (by decide) (hts _ w_f_X5_35) (fun _ h9 => h9) rfl dX5_ofStep_59 ?_
            refine lv_aload hx hb dX5_ofStep_62 (lv_at hl 0 rfl) ?_
            refine lv_aload_n hx hb dX5_ofStep_64 rfl (lv_at hl 1 rfl) ?_
            refine k_get (C := RX5) (T := TX5) (N := 7) (v := .int (S 0 0 1)) hx hb hts inB_X5 hown hK hw (hL 0 0 rfl) cke_0 rfl 6 (by decide) (hts _ w_f_X5_160) (fun _ h9 => h9) rfl dX5_ofStep_65 ?_
            refine lv_iconst (v := (-1)) hx hb dX5_ofStep_68 (by decide) ?_
            refine lv_iconst (v := 0) hx hb dX5_ofStep_69 (by decide) ?_
            refine k_cv0 hw (k_rV (As := [.ref (ad 6 p1.toNatClampNeg), .int (S 0 0 1), .int (-1), .int 0]) (rest := []) ⟨hx, hb, hml, hown, hts⟩ hK hO hw (ct_X0_foresee hL S (SF.ci (SF.rf _) hI) p1.toNatClampNeg (jn_ok x_1) (S 0 0 1) (-1) 0 _ (wk.hA hw hA)) (cwV 4 hts (gB_V w_ml_X5_233 w_im_X0_foresee w_se_X0_foresee w_in_X0 w_co_X0_foresee) rfl rfl rfl (by decide +kernel) ⟨by decide, by decide⟩) (hL 4 0 rfl) cke_4 rfl rfl hl.1 rfl (Nat.le_of_ble_eq_true rfl) dX5_ofStep_70 ⟨Nat.zero_le _, Nat.zero_le _⟩) (fun H locs hw => ?_)
            refine lv_aload_n hx hb dX5_ofStep_73 rfl (lv_at hl 1 rfl) ?_
            refine lv_aload hx hb dX5_ofStep_74 (lv_at hl 0 rfl) ?_
            refine lv_iload_n hx hb dX5_ofStep_76 rfl (lv_at hl 3 rfl) ?_
            refine lv_iload_n hx hb dX5_ofStep_77 rfl (lv_at hl 4 rfl) ?_
            refine k_ci0 hw (k_rV (As := [.ref (ad 6 p1.toNatClampNeg), .int p2, .int p3]) (rest := []) ⟨hx, hb, hml, hown, hts⟩ hK hO hw (ct_X5_foreseenOfStep hL (sp_X0_foresee S p1.toNatClampNeg (S 0 0 1) (-1) 0) (SF.ci (SF.tr (SF.rf _) (sf_X0_foresee S p1.toNatClampNeg (S 0 0 1) (-1) 0)) hI) p1.toNatClampNeg (jn_ok x_1) p2 p3 _ (wk.hA hw hA)) (cwV 3 hts (gB_V w_ml_X5_237 w_im_X5_foreseenOfStep w_se_X5_foreseenOfStep w_in_X5 w_co_X5_foreseenOfStep) rfl rfl rfl (by decide +kernel) ⟨by decide, by decide⟩) (hL 0 0 rfl) cke_0 rfl rfl hl.1 rfl (Nat.le_of_ble_eq_true rfl) dX5_ofStep_78 ⟨Nat.zero_le _, Nat.zero_le _⟩) (fun H locs hw => ?_)
            exact x_iret hx hb hr hlocks rfl hw (congrArg (fun z => z.2.1) hE) (congrArg (fun z => z.1) hE) (congrArg (fun z => cK cI cJ ad ce z.2.2) hE) (Nat.le_of_ble_eq_true rfl) (Nat.le_of_ble_eq_true rfl) dX5_ofStep_81
          · have hE := hE.trans (if_pos c_5)
            obtain ⟨sa, hsa⟩ := hO.2.1 (RX5, 231, "nothing of a STEP is told so") (by decide +kernel)
            exact k_throw hx hb hst hown (by decide +kernel) (by decide +kernel) (hts _ w_cl_X5_58) (hts _ w_in_java_lang_IllegalArgumentException) hsa (xh_2 hts hO.2.2.1) xg_2 hO hw hl.1 hml dX5_ofStep_48 dX5_ofStep_51 dX5_ofStep_52 dX5_ofStep_54 dX5_ofStep_57 hexn (Nat.le_of_ble_eq_true rfl) (Nat.le_of_ble_eq_true rfl) (Nat.le_of_ble_eq_true rfl) (Nat.le_of_ble_eq_true rfl) hlocks (by rw [hE]; exact kE_2) (Nat.le_of_ble_eq_true rfl) (Nat.le_of_ble_eq_true rfl)
        · have hE := hE.trans (if_pos c_4)
          obtain ⟨sa, hsa⟩ := hO.2.1 (RX5, 229, "no such STEP of that JOINER") (by decide +kernel)
          exact k_throw hx hb hst hown (by decide +kernel) (by decide +kernel) (hts _ w_cl_X5_74) (hts _ w_in_java_lang_IndexOutOfBoundsException) hsa (xh_1 hts hO.2.2.1) xg_1 hO hw hl.1 hml dX5_ofStep_29 dX5_ofStep_32 dX5_ofStep_33 dX5_ofStep_35 dX5_ofStep_38 hexn (Nat.le_of_ble_eq_true rfl) (Nat.le_of_ble_eq_true rfl) (Nat.le_of_ble_eq_true rfl) (Nat.le_of_ble_eq_true rfl) hlocks (by rw [hE]; exact kE_1) (Nat.le_of_ble_eq_true rfl) (Nat.le_of_ble_eq_true rfl)

abbrev bw_X5_ofJoiner : List Cond := .code yX5_ofJoiner cX5_ofJoiner 4 (some .int) :: BIG
abbrev rm_X5_ofJoiner : Room := { frames := 7, cells := 2, slots := 12, locals := 116 }
def sp_X5_ofJoiner (S : (Nat → Nat → Nat → Int32)) (p1 : Int32) (p2 : Int32) : Nat × Int32 × (Nat → Nat → Nat → Int32) := if (sp_X5_joinerAt ad S p1).1 = 0 then (if sp_X5_isWithin p2 0 6 = 0 then ((2, 0, S)) else ((0, sp_X5_foreseenOfJoiner (sp_X0_foresee S p1.toNatClampNeg (S 0 0 1) (-1) 0) p1.toNatClampNeg p2, (sp_X0_foresee S p1.toNatClampNeg (S 0 0 1) (-1) 0)))) else (((sp_X5_joinerAt ad S p1).1, 0, S))
set_option maxHeartbeats 4000000 in
set_option maxRecDepth 100000 in
theorem ct_X5_ofJoiner {l : Launch} {D : va_G} {cI cG cJ cO : ClassId} {K0 : Nat → Nat} {A : Nat → Prop} {L : List (Nat × Nat)} {ad : Nat → Nat → Nat} {ce : Nat → Nat → va_E} (hL : ∀ f o, cid f o = true → (f, o) ∈ L) (S : (Nat → Nat → Nat → Int32)) (hI : CI S) (p1 : Int32) (p2 : Int32) (hst : l.stackTraces = false) (sz : Nat) (hA : ∀ q, sz ≤ q → A q) : vx_Met l yX5_ofJoiner bw_X5_ofJoiner rm_X5_ofJoiner (kP D (ktys cI cG cJ cO) K0 A L ad (cK cI cJ ad ce S) sz [.ref (ad 0 0), .int p1, .int p2]) (va_Qi (fun (r : Int32) (_ : Unit) => r = (sp_X5_ofJoiner S p1 p2).2.1 ∧ (sp_X5_ofJoiner S p1 p2).1 = 0) (fun _ t => WE D A L ad (cK cI cJ ad ce ((sp_X5_ofJoiner S p1 p2).2.2)) t) A) (vx_X (fun (_ : Unit) => True) (fun E _ t => kE E (sp_X5_ofJoiner S p1 p2).1 ∧ WE D A L ad (cK cI cJ ad ce S) t) A) 2 12 A := by
  refine vx_ofW (cc := cX5_ofJoiner) (maxL := 4) (ret := (some .int)) (by decide) rfl ?_
  intro p e s m args below meth c s₁ B hml hexn hv
  obtain ⟨hav, hsz, hP, hD, hK, hO⟩ := hv
  have hx := B.exec
  have hb := B.bytes
  have hr := B.returns
  have hts : ∀ w ∈ BIG, w.before args s = true := fun w h => atoms_spec (ws := bw_X5_ofJoiner) B.pre w (List.mem_cons_of_mem _ h)
  have hown : s.vm.findClass RX5 = some m.cls := findClass_of_methodNamed B.named
  have hlocks := B.notSynchronized
  subst hsz
  have hw := wk.start hP hD
  refine k_start (by rfl) hav (Nat.le_of_ble_eq_true rfl) (fun ls hl => ?_)
  have hl : lv_has ls 4 [(0, .ref (ad 0 0)), (1, .int p1), (2, .int p2)] := hl
  have hE : sp_X5_ofJoiner S p1 p2 = sp_X5_ofJoiner S p1 p2 := rfl
  refine lv_aload_n hx hb dX5_ofJoiner_0 rfl (lv_at hl 0 rfl) ?_
  refine lv_iload_n hx hb dX5_ofJoiner_1 rfl (lv_at hl 1 rfl) ?_
  refine x_cq hw (x_rV (As := [.int p1]) (rest := []) ⟨hx, hb, hml, hown, hts⟩ hK hO hw (ct_X5_joinerAt hL S (SF.ci (SF.rf _) hI) p1 hst _ (wk.hA hw hA)) (cwV 1 hts (gB_V w_ml_X5_179 w_im_X5_joinerAt w_se_X5_joinerAt w_in_X5 w_co_X5_joinerAt) rfl rfl rfl (by decide +kernel) ⟨by decide, by decide⟩) (hL 0 0 rfl) cke_0 rfl rfl hl.1 rfl (Nat.le_of_ble_eq_true rfl) dX5_ofJoiner_2 ⟨Nat.le_of_ble_eq_true rfl, Nat.le_of_ble_eq_true rfl⟩) (fun E cx q9 H locs hx9 hw hcx hvx hclx => ?_) (fun H locs x_1 hw => ?_)
  · have hE := hE.trans (if_neg hx9.ne)
    exact x_out hexn hlocks hw hcx hvx hclx (by rw [hE]; exact hx9) (Nat.le_of_ble_eq_true rfl) (Nat.le_of_ble_eq_true rfl)
  · have hE := hE.trans (if_pos x_1)
    refine lv_astore_n (lv' := [(3, .ref (ad 6 p1.toNatClampNeg)), (0, .ref (ad 0 0)), (1, .int p1), (2, .int p2)]) hx hb dX5_ofJoiner_5 rfl hl (by decide) rfl (fun ls hl => ?_)
    refine lv_iload_n hx hb dX5_ofJoiner_6 rfl (lv_at hl 3 rfl) ?_
    refine lv_iconst (v := 0) hx hb dX5_ofJoiner_7 (by decide) ?_
    refine lv_bipush (v := 6) hx hb dX5_ofJoiner_8 (by decide) ?_
    refine k_ci0 hw (k_rS (As := [.int p2, .int 0, .int 6]) (rest := []) ⟨hx, hb, hml, hown, hts⟩ hK hO hw (ct_X5_isWithin p2 0 6 _ (wk.hA hw hA)) (va_cwS 3 hts (gB_S w_ml_X5_46 w_st_X5_isWithin w_in_X5 w_co_X5_isWithin) rfl rfl rfl (by decide +kernel) ⟨by decide, by decide⟩) rfl hl.1 rfl (Nat.le_of_ble_eq_true rfl) dX5_ofJoiner_10 ⟨Nat.zero_le _, Nat.zero_le _⟩) (fun H locs hw => ?_)
    refine lv_if_ne (tgt := 26) hx hb dX5_ofJoiner_13 (by decide) (fun c_2 => ?_) (fun c_2 => ?_)
    · have hE := hE.trans (if_neg c_2)
      refine lv_aload_n hx hb dX5_ofJoiner_26 rfl (lv_at hl 1 rfl) ?_
      refine k_get (C := RX5) (T := TX5) (N := 7) (v := .ref (ad 4 0)) hx hb hts inB_X5 hown hK hw (hL 0 0 rfl) cke_0 rfl 3 (by decide) (hts _ w_f_X5_35) (fun _ h9 => h9) rfl dX5_ofJoiner_27 ?_
      refine lv_aload_n hx hb dX5_ofJoiner_30 rfl (lv_at hl 0 rfl) ?_
      refine lv_aload_n hx hb dX5_ofJoiner_31 rfl (lv_at hl 1 rfl) ?_
      refine k_get (C := RX5) (T := TX5) (N := 7) (v := .int (S 0 0 1)) hx hb hts inB_X5 hown hK hw (hL 0 0 rfl) cke_0 rfl 6 (by decide) (hts _ w_f_X5_160) (fun _ h9 => h9) rfl dX5_ofJoiner_32 ?_
      refine lv_iconst (v := (-1)) hx hb dX5_ofJoiner_35 (by decide) ?_
      refine lv_iconst (v := 0) hx hb dX5_ofJoiner_36 (by decide) ?_
      refine k_cv0 hw (k_rV (As := [.ref (ad 6 p1.toNatClampNeg), .int (S 0 0 1), .int (-1), .int 0]) (rest := []) ⟨hx, hb, hml, hown, hts⟩ hK hO hw (ct_X0_foresee hL S (SF.ci (SF.rf _) hI) p1.toNatClampNeg (jn_ok x_1) (S 0 0 1) (-1) 0 _ (wk.hA hw hA)) (cwV 4 hts (gB_V w_ml_X5_233 w_im_X0_foresee w_se_X0_foresee w_in_X0 w_co_X0_foresee) rfl rfl rfl (by decide +kernel) ⟨by decide, by decide⟩) (hL 4 0 rfl) cke_4 rfl rfl hl.1 rfl (Nat.le_of_ble_eq_true rfl) dX5_ofJoiner_37 ⟨Nat.zero_le _, Nat.zero_le _⟩) (fun H locs hw => ?_)
      refine lv_aload_n hx hb dX5_ofJoiner_40 rfl (lv_at hl 1 rfl) ?_
      refine lv_aload_n hx hb dX5_ofJoiner_41 rfl (lv_at hl 0 rfl) ?_
      refine lv_iload_n hx hb dX5_ofJoiner_42 rfl (lv_at hl 3 rfl) ?_
      refine k_ci0 hw (k_rV (As := [.ref (ad 6 p1.toNatClampNeg), .int p2]) (rest := []) ⟨hx, hb, hml, hown, hts⟩ hK hO hw (ct_X5_foreseenOfJoiner hL (sp_X0_foresee S p1.toNatClampNeg (S 0 0 1) (-1) 0) (SF.ci (SF.tr (SF.rf _) (sf_X0_foresee S p1.toNatClampNeg (S 0 0 1) (-1) 0)) hI) p1.toNatClampNeg (jn_ok x_1) p2 _ (wk.hA hw hA)) (cwV 2 hts (gB_V w_ml_X5_243 w_im_X5_foreseenOfJoiner w_se_X5_foreseenOfJoiner w_in_X5 w_co_X5_foreseenOfJoiner) rfl rfl rfl (by decide +kernel) ⟨by decide, by decide⟩) (hL 0 0 rfl) cke_0 rfl rfl hl.1 rfl (Nat.le_of_ble_eq_true rfl) dX5_ofJoiner_43 ⟨Nat.zero_le _, Nat.zero_le _⟩) (fun H locs hw => ?_)
      exact x_iret hx hb hr hlocks rfl hw (congrArg (fun z => z.2.1) hE) (congrArg (fun z => z.1) hE) (congrArg (fun z => cK cI cJ ad ce z.2.2) hE) (Nat.le_of_ble_eq_true rfl) (Nat.le_of_ble_eq_true rfl) dX5_ofJoiner_46
    · have hE := hE.trans (if_pos c_2)
      obtain ⟨sa, hsa⟩ := hO.2.1 (RX5, 241, "nothing of a JOINER is told so") (by decide +kernel)
      exact k_throw hx hb hst hown (by decide +kernel) (by decide +kernel) (hts _ w_cl_X5_58) (hts _ w_in_java_lang_IllegalArgumentException) hsa (xh_2 hts hO.2.2.1) xg_2 hO hw hl.1 hml dX5_ofJoiner_16 dX5_ofJoiner_19 dX5_ofJoiner_20 dX5_ofJoiner_22 dX5_ofJoiner_25 hexn (Nat.le_of_ble_eq_true rfl) (Nat.le_of_ble_eq_true rfl) (Nat.le_of_ble_eq_true rfl) (Nat.le_of_ble_eq_true rfl) hlocks (by rw [hE]; exact kE_2) (Nat.le_of_ble_eq_true rfl) (Nat.le_of_ble_eq_true rfl)

abbrev bw_X5_many : List Cond := .code yX5_many cX5_many 2 (some .int) :: BIG
abbrev rm_X5_many : Room := { frames := 6, cells := 2, slots := 12, locals := 90 }
def sp_X5_many (S : (Nat → Nat → Nat → Int32)) (p1 : Int32) : Nat × Int32 := if sp_X5_isWithin p1 0 10 = 0 then ((2, 0)) else (if p1 = 0 then ((0, S 1 0 0)) else (if p1 = 1 then ((0, S 1 0 1)) else (if p1 = 2 then ((0, S 2 0 0)) else (if p1 = 3 then ((0, S 3 0 0)) else (if p1 = 4 then ((0, S 0 0 0)) else (if p1 = 5 then ((0, sp_X5_countLeft S)) else (if p1 = 6 then ((0, sp_X5_countStepsIn S 2)) else (if p1 = 7 then ((0, sp_X5_countStepsIn S 1)) else (if p1 = 8 then ((0, sp_X5_countRights S)) else (if p1 = 9 then ((0, sp_X4_seatsTaken S)) else ((0, S 0 0 1))))))))))))
set_option maxHeartbeats 4000000 in
set_option maxRecDepth 100000 in
theorem ct_X5_many {l : Launch} {D : va_G} {cI cG cJ cO : ClassId} {K0 : Nat → Nat} {A : Nat → Prop} {L : List (Nat × Nat)} {ad : Nat → Nat → Nat} {ce : Nat → Nat → va_E} (hL : ∀ f o, cid f o = true → (f, o) ∈ L) (S : (Nat → Nat → Nat → Int32)) (hI : CI S) (p1 : Int32) (hst : l.stackTraces = false) (sz : Nat) (hA : ∀ q, sz ≤ q → A q) : vx_Met l yX5_many bw_X5_many rm_X5_many (kP D (ktys cI cG cJ cO) K0 A L ad (cK cI cJ ad ce S) sz [.ref (ad 0 0), .int p1]) (va_Qi (fun (r : Int32) (_ : Unit) => r = (sp_X5_many S p1).2 ∧ (sp_X5_many S p1).1 = 0) (fun _ t => WE D A L ad (cK cI cJ ad ce S) t) A) (vx_X (fun (_ : Unit) => True) (fun E _ t => kE E (sp_X5_many S p1).1 ∧ WE D A L ad (cK cI cJ ad ce S) t) A) 2 12 A := by
  refine vx_ofW (cc := cX5_many) (maxL := 2) (ret := (some .int)) (by decide) rfl ?_
  intro p e s m args below meth c s₁ B hml hexn hv
  obtain ⟨hav, hsz, hP, hD, hK, hO⟩ := hv
  have hx := B.exec
  have hb := B.bytes
  have hr := B.returns
  have hts : ∀ w ∈ BIG, w.before args s = true := fun w h => atoms_spec (ws := bw_X5_many) B.pre w (List.mem_cons_of_mem _ h)
  have hown : s.vm.findClass RX5 = some m.cls := findClass_of_methodNamed B.named
  have hlocks := B.notSynchronized
  subst hsz
  have hw := wk.start hP hD
  refine k_start (by rfl) hav (Nat.le_of_ble_eq_true rfl) (fun ls hl => ?_)
  have hl : lv_has ls 2 [(0, .ref (ad 0 0)), (1, .int p1)] := hl
  have hE : sp_X5_many S p1 = sp_X5_many S p1 := rfl
  refine lv_iload_n hx hb dX5_many_0 rfl (lv_at hl 1 rfl) ?_
  refine lv_iconst (v := 0) hx hb dX5_many_1 (by decide) ?_
  refine lv_bipush (v := 10) hx hb dX5_many_2 (by decide) ?_
  refine k_ci0 hw (k_rS (As := [.int p1, .int 0, .int 10]) (rest := []) ⟨hx, hb, hml, hown, hts⟩ hK hO hw (ct_X5_isWithin p1 0 10 _ (wk.hA hw hA)) (va_cwS 3 hts (gB_S w_ml_X5_46 w_st_X5_isWithin w_in_X5 w_co_X5_isWithin) rfl rfl rfl (by decide +kernel) ⟨by decide, by decide⟩) rfl hl.1 rfl (Nat.le_of_ble_eq_true rfl) dX5_many_4 ⟨Nat.zero_le _, Nat.zero_le _⟩) (fun H locs hw => ?_)
  refine lv_if_ne (tgt := 20) hx hb dX5_many_7 (by decide) (fun c_1 => ?_) (fun c_1 => ?_)
  · have hE := hE.trans (if_neg c_1)
    refine lv_iload_n hx hb dX5_many_20 rfl (lv_at hl 1 rfl) ?_
    by_cases c_4 : p1 = 0
    · have hE := hE.trans (if_pos c_4)
      refine lv_tableIn (off := 55) (tgt := 76) hx hb dX5_many_21 (by rw [c_4]; decide) (by rw [c_4]; decide) (by rw [c_4]; rfl) (by decide) ?_
      refine lv_aload_n hx hb dX5_many_76 rfl (lv_at hl 0 rfl) ?_
      refine k_get (C := RX5) (T := TX5) (N := 7) (v := .ref (ad 1 0)) hx hb hts inB_X5 hown hK hw (hL 0 0 rfl) cke_0 rfl 0 (by decide) (hts _ w_f_X5_10) (fun _ h9 => h9) rfl dX5_many_77 ?_
      refine k_get (C := RX2) (T := TX2) (N := 8) (v := .int (S 1 0 0)) hx hb hts inB_X2 hown hK hw (hL 1 0 rfl) cke_1 rfl 6 (by decide) (hts _ w_f_X5_120) (fun _ h9 => h9) rfl dX5_many_80 ?_
      exact x_iret hx hb hr hlocks rfl hw (congrArg (fun z => z.2) hE) (congrArg (fun z => z.1) hE) rfl (Nat.le_of_ble_eq_true rfl) (Nat.le_of_ble_eq_true rfl) dX5_many_83
    · have hE := hE.trans (if_neg c_4)
      by_cases c_5 : p1 = 1
      · have hE := hE.trans (if_pos c_5)
        refine lv_tableIn (off := 63) (tgt := 84) hx hb dX5_many_21 (by rw [c_5]; decide) (by rw [c_5]; decide) (by rw [c_5]; rfl) (by decide) ?_
        refine lv_aload_n hx hb dX5_many_84 rfl (lv_at hl 0 rfl) ?_
        refine k_get (C := RX5) (T := TX5) (N := 7) (v := .ref (ad 1 0)) hx hb hts inB_X5 hown hK hw (hL 0 0 rfl) cke_0 rfl 0 (by decide) (hts _ w_f_X5_10) (fun _ h9 => h9) rfl dX5_many_85 ?_
        refine k_get (C := RX2) (T := TX2) (N := 8) (v := .int (S 1 0 1)) hx hb hts inB_X2 hown hK hw (hL 1 0 rfl) cke_1 rfl 7 (by decide) (hts _ w_f_X5_249) (fun _ h9 => h9) rfl dX5_many_88 ?_
        exact x_iret hx hb hr hlocks rfl hw (congrArg (fun z => z.2) hE) (congrArg (fun z => z.1) hE) rfl (Nat.le_of_ble_eq_true rfl) (Nat.le_of_ble_eq_true rfl) dX5_many_91
      · have hE := hE.trans (if_neg c_5)
        by_cases c_6 : p1 = 2
        · have hE := hE.trans (if_pos c_6)
          refine lv_tableIn (off := 71) (tgt := 92) hx hb dX5_many_21 (by rw [c_6]; decide) (by rw [c_6]; decide) (by rw [c_6]; rfl) (by decide) ?_
          refine lv_aload_n hx hb dX5_many_92 rfl (lv_at hl 0 rfl) ?_
          refine k_get (C := RX5) (T := TX5) (N := 7) (v := .ref (ad 2 0)) hx hb hts inB_X5 hown hK hw (hL 0 0 rfl) cke_0 rfl 1 (by decide) (hts _ w_f_X5_19) (fun _ h9 => h9) rfl dX5_many_93 ?_
          refine k_get (C := RX3) (T := TX3) (N := 5) (v := .int (S 2 0 0)) hx hb hts inB_X3 hown hK hw (hL 2 0 rfl) cke_2 rfl 4 (by decide) (hts _ w_f_X5_252) (fun _ h9 => h9) rfl dX5_many_96 ?_
          exact x_iret hx hb hr hlocks rfl hw (congrArg (fun z => z.2) hE) (congrArg (fun z => z.1) hE) rfl (Nat.le_of_ble_eq_true rfl) (Nat.le_of_ble_eq_true rfl) dX5_many_99
        · have hE := hE.trans (if_neg c_6)
          by_cases c_7 : p1 = 3
          · have hE := hE.trans (if_pos c_7)
            refine lv_tableIn (off := 79) (tgt := 100) hx hb dX5_many_21 (by rw [c_7]; decide) (by rw [c_7]; decide) (by rw [c_7]; rfl) (by decide) ?_
            refine lv_aload_n hx hb dX5_many_100 rfl (lv_at hl 0 rfl) ?_
            refine k_get (C := RX5) (T := TX5) (N := 7) (v := .ref (ad 3 0)) hx hb hts inB_X5 hown hK hw (hL 0 0 rfl) cke_0 rfl 2 (by decide) (hts _ w_f_X5_26) (fun _ h9 => h9) rfl dX5_many_101 ?_
            refine k_get (C := RX4) (T := TX4) (N := 5) (v := .int (S 3 0 0)) hx hb hts inB_X4 hown hK hw (hL 3 0 rfl) cke_3 rfl 4 (by decide) (hts _ w_f_X5_139) (fun _ h9 => h9) rfl dX5_many_104 ?_
            exact x_iret hx hb hr hlocks rfl hw (congrArg (fun z => z.2) hE) (congrArg (fun z => z.1) hE) rfl (Nat.le_of_ble_eq_true rfl) (Nat.le_of_ble_eq_true rfl) dX5_many_107
          · have hE := hE.trans (if_neg c_7)
            by_cases c_8 : p1 = 4
            · have hE := hE.trans (if_pos c_8)
              refine lv_tableIn (off := 87) (tgt := 108) hx hb dX5_many_21 (by rw [c_8]; decide) (by rw [c_8]; decide) (by rw [c_8]; rfl) (by decide) ?_
              refine lv_aload_n hx hb dX5_many_108 rfl (lv_at hl 0 rfl) ?_
              refine k_get (C := RX5) (T := TX5) (N := 7) (v := .int (S 0 0 0)) hx hb hts inB_X5 hown hK hw (hL 0 0 rfl) cke_0 rfl 5 (by decide) (hts _ w_f_X5_174) (fun _ h9 => h9) rfl dX5_many_109 ?_
              exact x_iret hx hb hr hlocks rfl hw (congrArg (fun z => z.2) hE) (congrArg (fun z => z.1) hE) rfl (Nat.le_of_ble_eq_true rfl) (Nat.le_of_ble_eq_true rfl) dX5_many_112
            · have hE := hE.trans (if_neg c_8)
              by_cases c_9 : p1 = 5
              · have hE := hE.trans (if_pos c_9)
                refine lv_tableIn (off := 92) (tgt := 113) hx hb dX5_many_21 (by rw [c_9]; decide) (by rw [c_9]; decide) (by rw [c_9]; rfl) (by decide) ?_
                refine lv_aload_n hx hb dX5_many_113 rfl (lv_at hl 0 rfl) ?_
                refine k_ci0 hw (k_rV (As := []) (rest := []) ⟨hx, hb, hml, hown, hts⟩ hK hO hw (ct_X5_countLeft hL S (SF.ci (SF.rf _) hI) _ (wk.hA hw hA)) (cwV 0 hts (gB_V w_ml_X5_255 w_im_X5_countLeft w_se_X5_countLeft w_in_X5 w_co_X5_countLeft) rfl rfl rfl (by decide +kernel) ⟨by decide, by decide⟩) (hL 0 0 rfl) cke_0 rfl rfl hl.1 rfl (Nat.le_of_ble_eq_true rfl) dX5_many_114 ⟨Nat.zero_le _, Nat.zero_le _⟩) (fun H locs hw => ?_)
                exact x_iret hx hb hr hlocks rfl hw (congrArg (fun z => z.2) hE) (congrArg (fun z => z.1) hE) rfl (Nat.le_of_ble_eq_true rfl) (Nat.le_of_ble_eq_true rfl) dX5_many_117
              · have hE := hE.trans (if_neg c_9)
                by_cases c_10 : p1 = 6
                · have hE := hE.trans (if_pos c_10)
                  refine lv_tableIn (off := 97) (tgt := 118) hx hb dX5_many_21 (by rw [c_10]; decide) (by rw [c_10]; decide) (by rw [c_10]; rfl) (by decide) ?_
                  refine lv_aload_n hx hb dX5_many_118 rfl (lv_at hl 0 rfl) ?_
                  refine lv_iconst (v := 2) hx hb dX5_many_119 (by decide) ?_
                  refine k_ci0 hw (k_rV (As := [.int 2]) (rest := []) ⟨hx, hb, hml, hown, hts⟩ hK hO hw (ct_X5_countStepsIn hL S (SF.ci (SF.rf _) hI) 2 _ (wk.hA hw hA)) (cwV 1 hts (gB_V w_ml_X5_259 w_im_X5_countStepsIn w_se_X5_countStepsIn w_in_X5 w_co_X5_countStepsIn) rfl rfl rfl (by decide +kernel) ⟨by decide, by decide⟩) (hL 0 0 rfl) cke_0 rfl rfl hl.1 rfl (Nat.le_of_ble_eq_true rfl) dX5_many_120 ⟨Nat.zero_le _, Nat.zero_le _⟩) (fun H locs hw => ?_)
                  exact x_iret hx hb hr hlocks rfl hw (congrArg (fun z => z.2) hE) (congrArg (fun z => z.1) hE) rfl (Nat.le_of_ble_eq_true rfl) (Nat.le_of_ble_eq_true rfl) dX5_many_123
                · have hE := hE.trans (if_neg c_10)
                  by_cases c_11 : p1 = 7
                  · have hE := hE.trans (if_pos c_11)
                    refine lv_tableIn (off := 103) (tgt := 124) hx hb dX5_many_21 (by rw [c_11]; decide) (by rw [c_11]; decide) (by rw [c_11]; rfl) (by decide) ?_
                    refine lv_aload_n hx hb dX5_many_124 rfl (lv_at hl 0 rfl) ?_
                    refine lv_iconst (v := 1) hx hb dX5_many_125 (by decide) ?_
                    refine k_ci0 hw (k_rV (As := [.int 1]) (rest := []) ⟨hx, hb, hml, hown, hts⟩ hK hO hw (ct_X5_countStepsIn hL S (SF.ci (SF.rf _) hI) 1 _ (wk.hA hw hA)) (cwV 1 hts (gB_V w_ml_X5_259 w_im_X5_countStepsIn w_se_X5_countStepsIn w_in_X5 w_co_X5_countStepsIn) rfl rfl rfl (by decide +kernel) ⟨by decide, by decide⟩) (hL 0 0 rfl) cke_0 rfl rfl hl.1 rfl (Nat.le_of_ble_eq_true rfl) dX5_many_126 ⟨Nat.zero_le _, Nat.zero_le _⟩) (fun H locs hw => ?_)
                    exact x_iret hx hb hr hlocks rfl hw (congrArg (fun z => z.2) hE) (congrArg (fun z => z.1) hE) rfl (Nat.le_of_ble_eq_true rfl) (Nat.le_of_ble_eq_true rfl) dX5_many_129
                  · have hE := hE.trans (if_neg c_11)
                    by_cases c_12 : p1 = 8
                    · have hE := hE.trans (if_pos c_12)
                      refine lv_tableIn (off := 109) (tgt := 130) hx hb dX5_many_21 (by rw [c_12]; decide) (by rw [c_12]; decide) (by rw [c_12]; rfl) (by decide) ?_
                      refine lv_aload_n hx hb dX5_many_130 rfl (lv_at hl 0 rfl) ?_
                      refine k_ci0 hw (k_rV (As := []) (rest := []) ⟨hx, hb, hml, hown, hts⟩ hK hO hw (ct_X5_countRights hL S (SF.ci (SF.rf _) hI) _ (wk.hA hw hA)) (cwV 0 hts (gB_V w_ml_X5_262 w_im_X5_countRights w_se_X5_countRights w_in_X5 w_co_X5_countRights) rfl rfl rfl (by decide +kernel) ⟨by decide, by decide⟩) (hL 0 0 rfl) cke_0 rfl rfl hl.1 rfl (Nat.le_of_ble_eq_true rfl) dX5_many_131 ⟨Nat.zero_le _, Nat.zero_le _⟩) (fun H locs hw => ?_)
                      exact x_iret hx hb hr hlocks rfl hw (congrArg (fun z => z.2) hE) (congrArg (fun z => z.1) hE) rfl (Nat.le_of_ble_eq_true rfl) (Nat.le_of_ble_eq_true rfl) dX5_many_134
                    · have hE := hE.trans (if_neg c_12)
                      by_cases c_13 : p1 = 9
                      · have hE := hE.trans (if_pos c_13)
                        refine lv_tableIn (off := 114) (tgt := 135) hx hb dX5_many_21 (by rw [c_13]; decide) (by rw [c_13]; decide) (by rw [c_13]; rfl) (by decide) ?_
                        refine lv_aload_n hx hb dX5_many_135 rfl (lv_at hl 0 rfl) ?_
                        refine k_get (C := RX5) (T := TX5) (N := 7) (v := .ref (ad 3 0)) hx hb hts inB_X5 hown hK hw (hL 0 0 rfl) cke_0 rfl 2 (by decide) (hts _ w_f_X5_26) (fun _ h9 => h9) rfl dX5_many_136 ?_
                        refine k_ci0 hw (k_rV (As := []) (rest := []) ⟨hx, hb, hml, hown, hts⟩ hK hO hw (ct_X4_seatsTaken hL S (SF.ci (SF.rf _) hI) _ (wk.hA hw hA)) (cwV 0 hts (gB_V w_ml_X5_265 w_im_X4_seatsTaken w_se_X4_seatsTaken w_in_X4 w_co_X4_seatsTaken) rfl rfl rfl (by decide +kernel) ⟨by decide, by decide⟩) (hL 3 0 rfl) cke_3 rfl rfl hl.1 rfl (Nat.le_of_ble_eq_true rfl) dX5_many_139 ⟨Nat.zero_le _, Nat.zero_le _⟩) (fun H locs hw => ?_)
                        exact x_iret hx hb hr hlocks rfl hw (congrArg (fun z => z.2) hE) (congrArg (fun z => z.1) hE) rfl (Nat.le_of_ble_eq_true rfl) (Nat.le_of_ble_eq_true rfl) dX5_many_142
                      · have hE := hE.trans (if_neg c_13)
                        refine lv_tableOut (tgt := 143) hx hb dX5_many_21 (sw_out10 c_4 c_5 c_6 c_7 c_8 c_9 c_10 c_11 c_12 c_13) (by decide) ?_
                        refine lv_aload_n hx hb dX5_many_143 rfl (lv_at hl 0 rfl) ?_
                        refine k_get (C := RX5) (T := TX5) (N := 7) (v := .int (S 0 0 1)) hx hb hts inB_X5 hown hK hw (hL 0 0 rfl) cke_0 rfl 6 (by decide) (hts _ w_f_X5_160) (fun _ h9 => h9) rfl dX5_many_144 ?_
                        exact x_iret hx hb hr hlocks rfl hw (congrArg (fun z => z.2) hE) (congrArg (fun z => z.1) hE) rfl (Nat.le_of_ble_eq_true rfl) (Nat.le_of_ble_eq_true rfl) dX5_many_147
  · have hE := hE.trans (if_pos c_1)
    obtain ⟨sa, hsa⟩ := hO.2.1 (RX5, 247, "nothing is counted so") (by decide +kernel)
    exact k_throw hx hb hst hown (by decide +kernel) (by decide +kernel) (hts _ w_cl_X5_58) (hts _ w_in_java_lang_IllegalArgumentException) hsa (xh_2 hts hO.2.2.1) xg_2 hO hw hl.1 hml dX5_many_10 dX5_many_13 dX5_many_14 dX5_many_16 dX5_many_19 hexn (Nat.le_of_ble_eq_true rfl) (Nat.le_of_ble_eq_true rfl) (Nat.le_of_ble_eq_true rfl) (Nat.le_of_ble_eq_true rfl) hlocks (by rw [hE]; exact kE_2) (Nat.le_of_ble_eq_true rfl) (Nat.le_of_ble_eq_true rfl)

abbrev rm_X5_many_n : Room := { frames := 3, cells := 0, slots := 0, locals := 69 }
def sp_X5_many_n (S : (Nat → Nat → Nat → Int32)) (p1 : Int32) : Int32 := if p1 = 0 then (S 1 0 0) else (if p1 = 1 then (S 1 0 1) else (if p1 = 2 then (S 2 0 0) else (if p1 = 3 then (S 3 0 0) else (if p1 = 4 then (S 0 0 0) else (if p1 = 5 then (sp_X5_countLeft S) else (if p1 = 6 then (sp_X5_countStepsIn S 2) else (if p1 = 7 then (sp_X5_countStepsIn S 1) else (if p1 = 8 then (sp_X5_countRights S) else (if p1 = 9 then (sp_X4_seatsTaken S) else (S 0 0 1))))))))))
set_option maxHeartbeats 4000000 in
set_option maxRecDepth 100000 in
theorem ct_X5_many_n {l : Launch} {D : va_G} {cI cG cJ cO : ClassId} {K0 : Nat → Nat} {A : Nat → Prop} {L : List (Nat × Nat)} {ad : Nat → Nat → Nat} {ce : Nat → Nat → va_E} (hL : ∀ f o, cid f o = true → (f, o) ∈ L) (S : (Nat → Nat → Nat → Int32)) (hI : CI S) (p1 : Int32) (hv : ¬ sp_X5_isWithin p1 0 10 = 0) (sz : Nat) (hA : ∀ q, sz ≤ q → A q) : Met l yX5_many bw_X5_many rm_X5_many_n (kP D (ktys cI cG cJ cO) K0 A L ad (cK cI cJ ad ce S) sz [.ref (ad 0 0), .int p1]) (kQi D A (sp_X5_many_n S p1) L ad (cK cI cJ ad ce S)) 0 0 A := by
  refine Met.ofW (cc := cX5_many) (maxL := 2) (ret := (some .int)) (by decide) rfl ?_
  intro p e s m args below meth c s₁ B hml hv
  obtain ⟨hav, hsz, hP, hD, hK, hO⟩ := hv
  have hx := B.exec
  have hb := B.bytes
  have hr := B.returns
  have hts : ∀ w ∈ BIG, w.before args s = true := fun w h => atoms_spec (ws := bw_X5_many) B.pre w (List.mem_cons_of_mem _ h)
  have hown : s.vm.findClass RX5 = some m.cls := findClass_of_methodNamed B.named
  have hlocks := B.notSynchronized
  subst hsz
  have hw := wk.start hP hD
  refine k_start (by rfl) hav (Nat.le_of_ble_eq_true rfl) (fun ls hl => ?_)
  have hl : lv_has ls 2 [(0, .ref (ad 0 0)), (1, .int p1)] := hl
  have hE : sp_X5_many_n S p1 = sp_X5_many_n S p1 := rfl
  refine lv_iload_n hx hb dX5_many_0 rfl (lv_at hl 1 rfl) ?_
  refine lv_iconst (v := 0) hx hb dX5_many_1 (by decide) ?_
  refine lv_bipush (v := 10) hx hb dX5_many_2 (by decide) ?_
  refine k_ci0 hw (k_rS (As := [.int p1, .int 0, .int 10]) (rest := []) ⟨hx, hb, hml, hown, hts⟩ hK hO hw (ct_X5_isWithin p1 0 10 _ (wk.hA hw hA)) (va_cwS 3 hts (gB_S w_ml_X5_46 w_st_X5_isWithin w_in_X5 w_co_X5_isWithin) rfl rfl rfl (by decide +kernel) ⟨by decide, by decide⟩) rfl hl.1 rfl (Nat.le_of_ble_eq_true rfl) dX5_many_4 ⟨Nat.zero_le _, Nat.zero_le _⟩) (fun H locs hw => ?_)
  refine lv_if_ne (tgt := 20) hx hb dX5_many_7 (by decide) (fun _ => ?_) (fun h => absurd h hv)
  refine lv_iload_n hx hb dX5_many_20 rfl (lv_at hl 1 rfl) ?_
  by_cases c_3 : p1 = 0
  · have hE := hE.trans (if_pos c_3)
    refine lv_tableIn (off := 55) (tgt := 76) hx hb dX5_many_21 (by rw [c_3]; decide) (by rw [c_3]; decide) (by rw [c_3]; rfl) (by decide) ?_
    refine lv_aload_n hx hb dX5_many_76 rfl (lv_at hl 0 rfl) ?_
    refine k_get (C := RX5) (T := TX5) (N := 7) (v := .ref (ad 1 0)) hx hb hts inB_X5 hown hK hw (hL 0 0 rfl) cke_0 rfl 0 (by decide) (hts _ w_f_X5_10) (fun _ h9 => h9) rfl dX5_many_77 ?_
    refine k_get (C := RX2) (T := TX2) (N := 8) (v := .int (S 1 0 0)) hx hb hts inB_X2 hown hK hw (hL 1 0 rfl) cke_1 rfl 6 (by decide) (hts _ w_f_X5_120) (fun _ h9 => h9) rfl dX5_many_80 ?_
    exact k_iret hx hb hr hlocks rfl hw hE rfl dX5_many_83
  · have hE := hE.trans (if_neg c_3)
    by_cases c_4 : p1 = 1
    · have hE := hE.trans (if_pos c_4)
      refine lv_tableIn (off := 63) (tgt := 84) hx hb dX5_many_21 (by rw [c_4]; decide) (by rw [c_4]; decide) (by rw [c_4]; rfl) (by decide) ?_
      refine lv_aload_n hx hb dX5_many_84 rfl (lv_at hl 0 rfl) ?_
      refine k_get (C := RX5) (T := TX5) (N := 7) (v := .ref (ad 1 0)) hx hb hts inB_X5 hown hK hw (hL 0 0 rfl) cke_0 rfl 0 (by decide) (hts _ w_f_X5_10) (fun _ h9 => h9) rfl dX5_many_85 ?_
      refine k_get (C := RX2) (T := TX2) (N := 8) (v := .int (S 1 0 1)) hx hb hts inB_X2 hown hK hw (hL 1 0 rfl) cke_1 rfl 7 (by decide) (hts _ w_f_X5_249) (fun _ h9 => h9) rfl dX5_many_88 ?_
      exact k_iret hx hb hr hlocks rfl hw hE rfl dX5_many_91
    · have hE := hE.trans (if_neg c_4)
      by_cases c_5 : p1 = 2
      · have hE := hE.trans (if_pos c_5)
        refine lv_tableIn (off := 71) (tgt := 92) hx hb dX5_many_21 (by rw [c_5]; decide) (by rw [c_5]; decide) (by rw [c_5]; rfl) (by decide) ?_
        refine lv_aload_n hx hb dX5_many_92 rfl (lv_at hl 0 rfl) ?_
        refine k_get (C := RX5) (T := TX5) (N := 7) (v := .ref (ad 2 0)) hx hb hts inB_X5 hown hK hw (hL 0 0 rfl) cke_0 rfl 1 (by decide) (hts _ w_f_X5_19) (fun _ h9 => h9) rfl dX5_many_93 ?_
        refine k_get (C := RX3) (T := TX3) (N := 5) (v := .int (S 2 0 0)) hx hb hts inB_X3 hown hK hw (hL 2 0 rfl) cke_2 rfl 4 (by decide) (hts _ w_f_X5_252) (fun _ h9 => h9) rfl dX5_many_96 ?_
        exact k_iret hx hb hr hlocks rfl hw hE rfl dX5_many_99
      · have hE := hE.trans (if_neg c_5)
        by_cases c_6 : p1 = 3
        · have hE := hE.trans (if_pos c_6)
          refine lv_tableIn (off := 79) (tgt := 100) hx hb dX5_many_21 (by rw [c_6]; decide) (by rw [c_6]; decide) (by rw [c_6]; rfl) (by decide) ?_
          refine lv_aload_n hx hb dX5_many_100 rfl (lv_at hl 0 rfl) ?_
          refine k_get (C := RX5) (T := TX5) (N := 7) (v := .ref (ad 3 0)) hx hb hts inB_X5 hown hK hw (hL 0 0 rfl) cke_0 rfl 2 (by decide) (hts _ w_f_X5_26) (fun _ h9 => h9) rfl dX5_many_101 ?_
          refine k_get (C := RX4) (T := TX4) (N := 5) (v := .int (S 3 0 0)) hx hb hts inB_X4 hown hK hw (hL 3 0 rfl) cke_3 rfl 4 (by decide) (hts _ w_f_X5_139) (fun _ h9 => h9) rfl dX5_many_104 ?_
          exact k_iret hx hb hr hlocks rfl hw hE rfl dX5_many_107
        · have hE := hE.trans (if_neg c_6)
          by_cases c_7 : p1 = 4
          · have hE := hE.trans (if_pos c_7)
            refine lv_tableIn (off := 87) (tgt := 108) hx hb dX5_many_21 (by rw [c_7]; decide) (by rw [c_7]; decide) (by rw [c_7]; rfl) (by decide) ?_
            refine lv_aload_n hx hb dX5_many_108 rfl (lv_at hl 0 rfl) ?_
            refine k_get (C := RX5) (T := TX5) (N := 7) (v := .int (S 0 0 0)) hx hb hts inB_X5 hown hK hw (hL 0 0 rfl) cke_0 rfl 5 (by decide) (hts _ w_f_X5_174) (fun _ h9 => h9) rfl dX5_many_109 ?_
            exact k_iret hx hb hr hlocks rfl hw hE rfl dX5_many_112
          · have hE := hE.trans (if_neg c_7)
            by_cases c_8 : p1 = 5
            · have hE := hE.trans (if_pos c_8)
              refine lv_tableIn (off := 92) (tgt := 113) hx hb dX5_many_21 (by rw [c_8]; decide) (by rw [c_8]; decide) (by rw [c_8]; rfl) (by decide) ?_
              refine lv_aload_n hx hb dX5_many_113 rfl (lv_at hl 0 rfl) ?_
              refine k_ci0 hw (k_rV (As := []) (rest := []) ⟨hx, hb, hml, hown, hts⟩ hK hO hw (ct_X5_countLeft hL S (SF.ci (SF.rf _) hI) _ (wk.hA hw hA)) (cwV 0 hts (gB_V w_ml_X5_255 w_im_X5_countLeft w_se_X5_countLeft w_in_X5 w_co_X5_countLeft) rfl rfl rfl (by decide +kernel) ⟨by decide, by decide⟩) (hL 0 0 rfl) cke_0 rfl rfl hl.1 rfl (Nat.le_of_ble_eq_true rfl) dX5_many_114 ⟨Nat.zero_le _, Nat.zero_le _⟩) (fun H locs hw => ?_)
              exact k_iret hx hb hr hlocks rfl hw hE rfl dX5_many_117
            · have hE := hE.trans (if_neg c_8)
              by_cases c_9 : p1 = 6
              · have hE := hE.trans (if_pos c_9)
                refine lv_tableIn (off := 97) (tgt := 118) hx hb dX5_many_21 (by rw [c_9]; decide) (by rw [c_9]; decide) (by rw [c_9]; rfl) (by decide) ?_
                refine lv_aload_n hx hb dX5_many_118 rfl (lv_at hl 0 rfl) ?_
                refine lv_iconst (v := 2) hx hb dX5_many_119 (by decide) ?_
                refine k_ci0 hw (k_rV (As := [.int 2]) (rest := []) ⟨hx, hb, hml, hown, hts⟩ hK hO hw (ct_X5_countStepsIn hL S (SF.ci (SF.rf _) hI) 2 _ (wk.hA hw hA)) (cwV 1 hts (gB_V w_ml_X5_259 w_im_X5_countStepsIn w_se_X5_countStepsIn w_in_X5 w_co_X5_countStepsIn) rfl rfl rfl (by decide +kernel) ⟨by decide, by decide⟩) (hL 0 0 rfl) cke_0 rfl rfl hl.1 rfl (Nat.le_of_ble_eq_true rfl) dX5_many_120 ⟨Nat.zero_le _, Nat.zero_le _⟩) (fun H locs hw => ?_)
                exact k_iret hx hb hr hlocks rfl hw hE rfl dX5_many_123
              · have hE := hE.trans (if_neg c_9)
                by_cases c_10 : p1 = 7
                · have hE := hE.trans (if_pos c_10)
                  refine lv_tableIn (off := 103) (tgt := 124) hx hb dX5_many_21 (by rw [c_10]; decide) (by rw [c_10]; decide) (by rw [c_10]; rfl) (by decide) ?_
                  refine lv_aload_n hx hb dX5_many_124 rfl (lv_at hl 0 rfl) ?_
                  refine lv_iconst (v := 1) hx hb dX5_many_125 (by decide) ?_
                  refine k_ci0 hw (k_rV (As := [.int 1]) (rest := []) ⟨hx, hb, hml, hown, hts⟩ hK hO hw (ct_X5_countStepsIn hL S (SF.ci (SF.rf _) hI) 1 _ (wk.hA hw hA)) (cwV 1 hts (gB_V w_ml_X5_259 w_im_X5_countStepsIn w_se_X5_countStepsIn w_in_X5 w_co_X5_countStepsIn) rfl rfl rfl (by decide +kernel) ⟨by decide, by decide⟩) (hL 0 0 rfl) cke_0 rfl rfl hl.1 rfl (Nat.le_of_ble_eq_true rfl) dX5_many_126 ⟨Nat.zero_le _, Nat.zero_le _⟩) (fun H locs hw => ?_)
                  exact k_iret hx hb hr hlocks rfl hw hE rfl dX5_many_129
                · have hE := hE.trans (if_neg c_10)
                  by_cases c_11 : p1 = 8
                  · have hE := hE.trans (if_pos c_11)
                    refine lv_tableIn (off := 109) (tgt := 130) hx hb dX5_many_21 (by rw [c_11]; decide) (by rw [c_11]; decide) (by rw [c_11]; rfl) (by decide) ?_
                    refine lv_aload_n hx hb dX5_many_130 rfl (lv_at hl 0 rfl) ?_
                    refine k_ci0 hw (k_rV (As := []) (rest := []) ⟨hx, hb, hml, hown, hts⟩ hK hO hw (ct_X5_countRights hL S (SF.ci (SF.rf _) hI) _ (wk.hA hw hA)) (cwV 0 hts (gB_V w_ml_X5_262 w_im_X5_countRights w_se_X5_countRights w_in_X5 w_co_X5_countRights) rfl rfl rfl (by decide +kernel) ⟨by decide, by decide⟩) (hL 0 0 rfl) cke_0 rfl rfl hl.1 rfl (Nat.le_of_ble_eq_true rfl) dX5_many_131 ⟨Nat.zero_le _, Nat.zero_le _⟩) (fun H locs hw => ?_)
                    exact k_iret hx hb hr hlocks rfl hw hE rfl dX5_many_134
                  · have hE := hE.trans (if_neg c_11)
                    by_cases c_12 : p1 = 9
                    · have hE := hE.trans (if_pos c_12)
                      refine lv_tableIn (off := 114) (tgt := 135) hx hb dX5_many_21 (by rw [c_12]; decide) (by rw [c_12]; decide) (by rw [c_12]; rfl) (by decide) ?_
                      refine lv_aload_n hx hb dX5_many_135 rfl (lv_at hl 0 rfl) ?_
                      refine k_get (C := RX5) (T := TX5) (N := 7) (v := .ref (ad 3 0)) hx hb hts inB_X5 hown hK hw (hL 0 0 rfl) cke_0 rfl 2 (by decide) (hts _ w_f_X5_26) (fun _ h9 => h9) rfl dX5_many_136 ?_
                      refine k_ci0 hw (k_rV (As := []) (rest := []) ⟨hx, hb, hml, hown, hts⟩ hK hO hw (ct_X4_seatsTaken hL S (SF.ci (SF.rf _) hI) _ (wk.hA hw hA)) (cwV 0 hts (gB_V w_ml_X5_265 w_im_X4_seatsTaken w_se_X4_seatsTaken w_in_X4 w_co_X4_seatsTaken) rfl rfl rfl (by decide +kernel) ⟨by decide, by decide⟩) (hL 3 0 rfl) cke_3 rfl rfl hl.1 rfl (Nat.le_of_ble_eq_true rfl) dX5_many_139 ⟨Nat.zero_le _, Nat.zero_le _⟩) (fun H locs hw => ?_)
                      exact k_iret hx hb hr hlocks rfl hw hE rfl dX5_many_142
                    · have hE := hE.trans (if_neg c_12)
                      refine lv_tableOut (tgt := 143) hx hb dX5_many_21 (sw_out10 c_3 c_4 c_5 c_6 c_7 c_8 c_9 c_10 c_11 c_12) (by decide) ?_
                      refine lv_aload_n hx hb dX5_many_143 rfl (lv_at hl 0 rfl) ?_
                      refine k_get (C := RX5) (T := TX5) (N := 7) (v := .int (S 0 0 1)) hx hb hts inB_X5 hown hK hw (hL 0 0 rfl) cke_0 rfl 6 (by decide) (hts _ w_f_X5_160) (fun _ h9 => h9) rfl dX5_many_144 ?_
                      exact k_iret hx hb hr hlocks rfl hw hE rfl dX5_many_147

abbrev bw_X5_rightOn : List Cond := .code yX5_rightOn cX5_rightOn 4 (some .int) :: BIG
abbrev rm_X5_rightOn : Room := { frames := 7, cells := 2, slots := 12, locals := 116 }
def sp_X5_rightOn (S : (Nat → Nat → Nat → Int32)) (p1 : Int32) (p2 : Int32) : Nat × Int32 × (Nat → Nat → Nat → Int32) := if (sp_X5_joinerAt ad S p1).1 = 0 then (if p2 < 0 then ((1, 0, S)) else (if p2 < S 1 0 1 then ((0, sp_X0_dayBehind (sp_X0_foresee S p1.toNatClampNeg (S 0 0 1) (-1) 0) ((sp_X0_foresee S p1.toNatClampNeg (S 0 0 1) (-1) 0) 12 0 p2.toNatClampNeg), (sp_X0_foresee S p1.toNatClampNeg (S 0 0 1) (-1) 0))) else ((1, 0, S)))) else (((sp_X5_joinerAt ad S p1).1, 0, S))
set_option maxHeartbeats 4000000 in
set_option maxRecDepth 100000 in
theorem ct_X5_rightOn {l : Launch} {D : va_G} {cI cG cJ cO : ClassId} {K0 : Nat → Nat} {A : Nat → Prop} {L : List (Nat × Nat)} {ad : Nat → Nat → Nat} {ce : Nat → Nat → va_E} (hL : ∀ f o, cid f o = true → (f, o) ∈ L) (S : (Nat → Nat → Nat → Int32)) (hI : CI S) (p1 : Int32) (p2 : Int32) (hst : l.stackTraces = false) (sz : Nat) (hA : ∀ q, sz ≤ q → A q) : vx_Met l yX5_rightOn bw_X5_rightOn rm_X5_rightOn (kP D (ktys cI cG cJ cO) K0 A L ad (cK cI cJ ad ce S) sz [.ref (ad 0 0), .int p1, .int p2]) (va_Qi (fun (r : Int32) (_ : Unit) => r = (sp_X5_rightOn S p1 p2).2.1 ∧ (sp_X5_rightOn S p1 p2).1 = 0) (fun _ t => WE D A L ad (cK cI cJ ad ce ((sp_X5_rightOn S p1 p2).2.2)) t) A) (vx_X (fun (_ : Unit) => True) (fun E _ t => kE E (sp_X5_rightOn S p1 p2).1 ∧ WE D A L ad (cK cI cJ ad ce S) t) A) 2 12 A := by
  refine vx_ofW (cc := cX5_rightOn) (maxL := 4) (ret := (some .int)) (by decide) rfl ?_
  intro p e s m args below meth c s₁ B hml hexn hv
  obtain ⟨hav, hsz, hP, hD, hK, hO⟩ := hv
  have hx := B.exec
  have hb := B.bytes
  have hr := B.returns
  have hts : ∀ w ∈ BIG, w.before args s = true := fun w h => atoms_spec (ws := bw_X5_rightOn) B.pre w (List.mem_cons_of_mem _ h)
  have hown : s.vm.findClass RX5 = some m.cls := findClass_of_methodNamed B.named
  have hlocks := B.notSynchronized
  subst hsz
  have hw := wk.start hP hD
  refine k_start (by rfl) hav (Nat.le_of_ble_eq_true rfl) (fun ls hl => ?_)
  have hl : lv_has ls 4 [(0, .ref (ad 0 0)), (1, .int p1), (2, .int p2)] := hl
  have hE : sp_X5_rightOn S p1 p2 = sp_X5_rightOn S p1 p2 := rfl
  refine lv_aload_n hx hb dX5_rightOn_0 rfl (lv_at hl 0 rfl) ?_
  refine lv_iload_n hx hb dX5_rightOn_1 rfl (lv_at hl 1 rfl) ?_
  refine x_cq hw (x_rV (As := [.int p1]) (rest := []) ⟨hx, hb, hml, hown, hts⟩ hK hO hw (ct_X5_joinerAt hL S (SF.ci (SF.rf _) hI) p1 hst _ (wk.hA hw hA)) (cwV 1 hts (gB_V w_ml_X5_179 w_im_X5_joinerAt w_se_X5_joinerAt w_in_X5 w_co_X5_joinerAt) rfl rfl rfl (by decide +kernel) ⟨by decide, by decide⟩) (hL 0 0 rfl) cke_0 rfl rfl hl.1 rfl (Nat.le_of_ble_eq_true rfl) dX5_rightOn_2 ⟨Nat.le_of_ble_eq_true rfl, Nat.le_of_ble_eq_true rfl⟩) (fun E cx q9 H locs hx9 hw hcx hvx hclx => ?_) (fun H locs x_1 hw => ?_)
  · have hE := hE.trans (if_neg hx9.ne)
    exact x_out hexn hlocks hw hcx hvx hclx (by rw [hE]; exact hx9) (Nat.le_of_ble_eq_true rfl) (Nat.le_of_ble_eq_true rfl)
  · have hE := hE.trans (if_pos x_1)
    refine lv_astore_n (lv' := [(3, .ref (ad 6 p1.toNatClampNeg)), (0, .ref (ad 0 0)), (1, .int p1), (2, .int p2)]) hx hb dX5_rightOn_5 rfl hl (by decide) rfl (fun ls hl => ?_)
    refine lv_iload_n hx hb dX5_rightOn_6 rfl (lv_at hl 3 rfl) ?_
    refine lv_if_lt (tgt := 21) hx hb dX5_rightOn_7 (by decide) (fun c_2 => ?_) (fun c_2 => ?_)
    · have hE := hE.trans (if_pos c_2)
      obtain ⟨sa, hsa⟩ := hO.2.1 (RX5, 271, "no such RIGHT") (by decide +kernel)
      exact k_throwW hx hb hst hown (by decide +kernel) (by decide +kernel) (hts _ w_cl_X5_74) (hts _ w_in_java_lang_IndexOutOfBoundsException) hsa (xh_1 hts hO.2.2.1) xg_1 hO hw hl.1 hml dX5_rightOn_21 dX5_rightOn_24 dX5_rightOn_25 dX5_rightOn_28 dX5_rightOn_31 hexn (Nat.le_of_ble_eq_true rfl) (Nat.le_of_ble_eq_true rfl) (Nat.le_of_ble_eq_true rfl) (Nat.le_of_ble_eq_true rfl) hlocks (by rw [hE]; exact kE_1) (Nat.le_of_ble_eq_true rfl) (Nat.le_of_ble_eq_true rfl)
    · have hE := hE.trans (if_neg c_2)
      refine lv_iload_n hx hb dX5_rightOn_10 rfl (lv_at hl 3 rfl) ?_
      refine lv_aload_n hx hb dX5_rightOn_11 rfl (lv_at hl 1 rfl) ?_
      refine k_get (C := RX5) (T := TX5) (N := 7) (v := .ref (ad 1 0)) hx hb hts inB_X5 hown hK hw (hL 0 0 rfl) cke_0 rfl 0 (by decide) (hts _ w_f_X5_10) (fun _ h9 => h9) rfl dX5_rightOn_12 ?_
      refine k_get (C := RX2) (T := TX2) (N := 8) (v := .int (S 1 0 1)) hx hb hts inB_X2 hown hK hw (hL 1 0 rfl) cke_1 rfl 7 (by decide) (hts _ w_f_X5_249) (fun _ h9 => h9) rfl dX5_rightOn_15 ?_
      refine lv_icmp_lt (tgt := 32) hx hb dX5_rightOn_18 (by decide) (fun c_3 => ?_) (fun c_3 => ?_)
      · have hE := hE.trans (if_pos c_3)
        refine lv_aload_n hx hb dX5_rightOn_32 rfl (lv_at hl 1 rfl) ?_
        refine k_get (C := RX5) (T := TX5) (N := 7) (v := .ref (ad 4 0)) hx hb hts inB_X5 hown hK hw (hL 0 0 rfl) cke_0 rfl 3 (by decide) (hts _ w_f_X5_35) (fun _ h9 => h9) rfl dX5_rightOn_33 ?_
        refine lv_aload_n hx hb dX5_rightOn_36 rfl (lv_at hl 0 rfl) ?_
        refine lv_aload_n hx hb dX5_rightOn_37 rfl (lv_at hl 1 rfl) ?_
        refine k_get (C := RX5) (T := TX5) (N := 7) (v := .int (S 0 0 1)) hx hb hts inB_X5 hown hK hw (hL 0 0 rfl) cke_0 rfl 6 (by decide) (hts _ w_f_X5_160) (fun _ h9 => h9) rfl dX5_rightOn_38 ?_
        refine lv_iconst (v := (-1)) hx hb dX5_rightOn_41 (by decide) ?_
        refine lv_iconst (v := 0) hx hb dX5_rightOn_42 (by decide) ?_
        refine k_cv0 hw (k_rV (As := [.ref (ad 6 p1.toNatClampNeg), .int (S 0 0 1), .int (-1), .int 0]) (rest := []) ⟨hx, hb, hml, hown, hts⟩ hK hO hw (ct_X0_foresee hL S (SF.ci (SF.rf _) hI) p1.toNatClampNeg (jn_ok x_1) (S 0 0 1) (-1) 0 _ (wk.hA hw hA)) (cwV 4 hts (gB_V w_ml_X5_233 w_im_X0_foresee w_se_X0_foresee w_in_X0 w_co_X0_foresee) rfl rfl rfl (by decide +kernel) ⟨by decide, by decide⟩) (hL 4 0 rfl) cke_4 rfl rfl hl.1 rfl (Nat.le_of_ble_eq_true rfl) dX5_rightOn_43 ⟨Nat.zero_le _, Nat.zero_le _⟩) (fun H locs hw => ?_)
        refine lv_aload_n hx hb dX5_rightOn_46 rfl (lv_at hl 1 rfl) ?_
        refine k_get (C := RX5) (T := TX5) (N := 7) (v := .ref (ad 4 0)) hx hb hts inB_X5 hown hK hw (hL 0 0 rfl) cke_0 rfl 3 (by decide) (hts _ w_f_X5_35) (fun _ h9 => h9) rfl dX5_rightOn_47 ?_
        refine lv_aload_n hx hb dX5_rightOn_50 rfl (lv_at hl 1 rfl) ?_
        refine k_get (C := RX5) (T := TX5) (N := 7) (v := .ref (ad 1 0)) hx hb hts inB_X5 hown hK hw (hL 0 0 rfl) cke_0 rfl 0 (by decide) (hts _ w_f_X5_10) (fun _ h9 => h9) rfl dX5_rightOn_51 ?_
        refine k_get (C := RX2) (T := TX2) (N := 8) (v := .ref (ad 12 0)) hx hb hts inB_X2 hown hK hw (hL 1 0 rfl) cke_1 rfl 5 (by decide) (hts _ w_f_X5_273) (fun _ h9 => h9) rfl dX5_rightOn_54 ?_
        refine lv_iload_n hx hb dX5_rightOn_57 rfl (lv_at hl 3 rfl) ?_
        refine k_ald hx hb hK hw (hL 12 0 rfl) 0 cke_12 rfl (k_in' c_2 c_3 (CI.le2 hI (by decide))) dX5_rightOn_58 ?_
        refine k_ci0 hw (k_rV (As := [.int ((sp_X0_foresee S p1.toNatClampNeg (S 0 0 1) (-1) 0) 12 0 p2.toNatClampNeg)]) (rest := []) ⟨hx, hb, hml, hown, hts⟩ hK hO hw (ct_X0_dayBehind hL (sp_X0_foresee S p1.toNatClampNeg (S 0 0 1) (-1) 0) (SF.ci (SF.tr (SF.rf _) (sf_X0_foresee S p1.toNatClampNeg (S 0 0 1) (-1) 0)) hI) ((sp_X0_foresee S p1.toNatClampNeg (S 0 0 1) (-1) 0) 12 0 p2.toNatClampNeg) _ (wk.hA hw hA)) (cwV 1 hts (gB_V w_ml_X5_276 w_im_X0_dayBehind w_se_X0_dayBehind w_in_X0 w_co_X0_dayBehind) rfl rfl rfl (by decide +kernel) ⟨by decide, by decide⟩) (hL 4 0 rfl) cke_4 rfl rfl hl.1 rfl (Nat.le_of_ble_eq_true rfl) dX5_rightOn_59 ⟨Nat.zero_le _, Nat.zero_le _⟩) (fun H locs hw => ?_)
        exact x_iret hx hb hr hlocks rfl hw (congrArg (fun z => z.2.1) hE) (congrArg (fun z => z.1) hE) (congrArg (fun z => cK cI cJ ad ce z.2.2) hE) (Nat.le_of_ble_eq_true rfl) (Nat.le_of_ble_eq_true rfl) dX5_rightOn_62
      · have hE := hE.trans (if_neg c_3)
        obtain ⟨sa, hsa⟩ := hO.2.1 (RX5, 271, "no such RIGHT") (by decide +kernel)
        exact k_throwW hx hb hst hown (by decide +kernel) (by decide +kernel) (hts _ w_cl_X5_74) (hts _ w_in_java_lang_IndexOutOfBoundsException) hsa (xh_1 hts hO.2.2.1) xg_1 hO hw hl.1 hml dX5_rightOn_21 dX5_rightOn_24 dX5_rightOn_25 dX5_rightOn_28 dX5_rightOn_31 hexn (Nat.le_of_ble_eq_true rfl) (Nat.le_of_ble_eq_true rfl) (Nat.le_of_ble_eq_true rfl) (Nat.le_of_ble_eq_true rfl) hlocks (by rw [hE]; exact kE_1) (Nat.le_of_ble_eq_true rfl) (Nat.le_of_ble_eq_true rfl)

abbrev bw_X5_shiftBy : List Cond := .code yX5_shiftBy cX5_shiftBy 8 (some .int) :: BIG
abbrev rm_X5_shiftBy : Room := { frames := 7, cells := 2, slots := 12, locals := 116 }
def lp_X5_shiftBy_11 (p1 : Int32) (p2 : Int32) : Nat → Nat → Int32 → (Nat → Nat → Nat → Int32) → Int32 × (Nat → Nat → Nat → Int32)
  | 0, i, v3, Sx => (v3, Sx)
  | k + 1, i, v3, Sx => if sp_X0_greatestEnd (sp_X0_foresee Sx i (Sx 0 0 1) (-1) 0) ((sp_X0_foresee Sx i (Sx 0 0 1) (-1) 0) 6 i 0) = (-1) then (lp_X5_shiftBy_11 p1 p2 k (i + 1) v3 (sp_X0_foresee (sp_X0_foresee Sx i (Sx 0 0 1) (-1) 0) i ((sp_X0_foresee Sx i (Sx 0 0 1) (-1) 0) 0 0 1) p1 p2)) else (if sp_X0_greatestEnd (sp_X0_foresee (sp_X0_foresee Sx i (Sx 0 0 1) (-1) 0) i ((sp_X0_foresee Sx i (Sx 0 0 1) (-1) 0) 0 0 1) p1 p2) ((sp_X0_foresee (sp_X0_foresee Sx i (Sx 0 0 1) (-1) 0) i ((sp_X0_foresee Sx i (Sx 0 0 1) (-1) 0) 0 0 1) p1 p2) 6 i 0) = (-1) then (lp_X5_shiftBy_11 p1 p2 k (i + 1) v3 (sp_X0_foresee (sp_X0_foresee Sx i (Sx 0 0 1) (-1) 0) i ((sp_X0_foresee Sx i (Sx 0 0 1) (-1) 0) 0 0 1) p1 p2)) else (lp_X5_shiftBy_11 p1 p2 k (i + 1) (v3 + ((sp_X0_greatestEnd (sp_X0_foresee (sp_X0_foresee Sx i (Sx 0 0 1) (-1) 0) i ((sp_X0_foresee Sx i (Sx 0 0 1) (-1) 0) 0 0 1) p1 p2) ((sp_X0_foresee (sp_X0_foresee Sx i (Sx 0 0 1) (-1) 0) i ((sp_X0_foresee Sx i (Sx 0 0 1) (-1) 0) 0 0 1) p1 p2) 6 i 0)) - (sp_X0_greatestEnd (sp_X0_foresee Sx i (Sx 0 0 1) (-1) 0) ((sp_X0_foresee Sx i (Sx 0 0 1) (-1) 0) 6 i 0)))) (sp_X0_foresee (sp_X0_foresee Sx i (Sx 0 0 1) (-1) 0) i ((sp_X0_foresee Sx i (Sx 0 0 1) (-1) 0) 0 0 1) p1 p2)))
theorem lz_lp_X5_shiftBy_11 (p1 : Int32) (p2 : Int32) (i : Nat) (v3 : Int32) (Sx : (Nat → Nat → Nat → Int32)) : lp_X5_shiftBy_11 p1 p2 0 i v3 Sx = (v3, Sx) := rfl
theorem sfl_lp_X5_shiftBy_11 (p1 : Int32) (p2 : Int32) : ∀ (k i : Nat) (v3 : Int32) (Sx T : (Nat → Nat → Nat → Int32)), SF T Sx → SF T ((lp_X5_shiftBy_11 p1 p2 k i v3 Sx).2) := by
  intro k
  induction k with
  | zero => intro i v3 Sx T h; exact h
  | succ k ih => 
    intro i v3 Sx T h
    unfold lp_X5_shiftBy_11
    by_cases q_4 : sp_X0_greatestEnd (sp_X0_foresee Sx i (Sx 0 0 1) (-1) 0) ((sp_X0_foresee Sx i (Sx 0 0 1) (-1) 0) 6 i 0) = (-1)
    · rw [if_pos q_4]
      exact ih (i + 1) v3 (sp_X0_foresee (sp_X0_foresee Sx i (Sx 0 0 1) (-1) 0) i ((sp_X0_foresee Sx i (Sx 0 0 1) (-1) 0) 0 0 1) p1 p2) T (SF.tr (SF.tr h (sf_X0_foresee Sx i (Sx 0 0 1) (-1) 0)) (sf_X0_foresee (sp_X0_foresee Sx i (Sx 0 0 1) (-1) 0) i ((sp_X0_foresee Sx i (Sx 0 0 1) (-1) 0) 0 0 1) p1 p2))
    · rw [if_neg q_4]
      by_cases q_5 : sp_X0_greatestEnd (sp_X0_foresee (sp_X0_foresee Sx i (Sx 0 0 1) (-1) 0) i ((sp_X0_foresee Sx i (Sx 0 0 1) (-1) 0) 0 0 1) p1 p2) ((sp_X0_foresee (sp_X0_foresee Sx i (Sx 0 0 1) (-1) 0) i ((sp_X0_foresee Sx i (Sx 0 0 1) (-1) 0) 0 0 1) p1 p2) 6 i 0) = (-1)
      · rw [if_pos q_5]
        exact ih (i + 1) v3 (sp_X0_foresee (sp_X0_foresee Sx i (Sx 0 0 1) (-1) 0) i ((sp_X0_foresee Sx i (Sx 0 0 1) (-1) 0) 0 0 1) p1 p2) T (SF.tr (SF.tr h (sf_X0_foresee Sx i (Sx 0 0 1) (-1) 0)) (sf_X0_foresee (sp_X0_foresee Sx i (Sx 0 0 1) (-1) 0) i ((sp_X0_foresee Sx i (Sx 0 0 1) (-1) 0) 0 0 1) p1 p2))
      · rw [if_neg q_5]
        exact ih (i + 1) (v3 + ((sp_X0_greatestEnd (sp_X0_foresee (sp_X0_foresee Sx i (Sx 0 0 1) (-1) 0) i ((sp_X0_foresee Sx i (Sx 0 0 1) (-1) 0) 0 0 1) p1 p2) ((sp_X0_foresee (sp_X0_foresee Sx i (Sx 0 0 1) (-1) 0) i ((sp_X0_foresee Sx i (Sx 0 0 1) (-1) 0) 0 0 1) p1 p2) 6 i 0)) - (sp_X0_greatestEnd (sp_X0_foresee Sx i (Sx 0 0 1) (-1) 0) ((sp_X0_foresee Sx i (Sx 0 0 1) (-1) 0) 6 i 0)))) (sp_X0_foresee (sp_X0_foresee Sx i (Sx 0 0 1) (-1) 0) i ((sp_X0_foresee Sx i (Sx 0 0 1) (-1) 0) 0 0 1) p1 p2) T (SF.tr (SF.tr h (sf_X0_foresee Sx i (Sx 0 0 1) (-1) 0)) (sf_X0_foresee (sp_X0_foresee Sx i (Sx 0 0 1) (-1) 0) i ((sp_X0_foresee Sx i (Sx 0 0 1) (-1) 0) 0 0 1) p1 p2))

def sp_X5_shiftBy (S : (Nat → Nat → Nat → Int32)) (p1 : Int32) (p2 : Int32) : Nat × Int32 × (Nat → Nat → Nat → Int32) := if (sp_X5_checkDelay S p1 p2).1 = 0 then ((0, (lp_X5_shiftBy_11 p1 p2 ((S 0 0 0).toNatClampNeg) 0 0 S).1, (lp_X5_shiftBy_11 p1 p2 ((S 0 0 0).toNatClampNeg) 0 0 S).2)) else (((sp_X5_checkDelay S p1 p2).1, 0, S))
set_option maxHeartbeats 4000000 in
set_option maxRecDepth 100000 in
theorem ct_X5_shiftBy {l : Launch} {D : va_G} {cI cG cJ cO : ClassId} {K0 : Nat → Nat} {A : Nat → Prop} {L : List (Nat × Nat)} {ad : Nat → Nat → Nat} {ce : Nat → Nat → va_E} (hL : ∀ f o, cid f o = true → (f, o) ∈ L) (S : (Nat → Nat → Nat → Int32)) (hI : CI S) (p1 : Int32) (p2 : Int32) (hst : l.stackTraces = false) (sz : Nat) (hA : ∀ q, sz ≤ q → A q) : vx_Met l yX5_shiftBy bw_X5_shiftBy rm_X5_shiftBy (kP D (ktys cI cG cJ cO) K0 A L ad (cK cI cJ ad ce S) sz [.ref (ad 0 0), .int p1, .int p2]) (va_Qi (fun (r : Int32) (_ : Unit) => r = (sp_X5_shiftBy S p1 p2).2.1 ∧ (sp_X5_shiftBy S p1 p2).1 = 0) (fun _ t => WE D A L ad (cK cI cJ ad ce ((sp_X5_shiftBy S p1 p2).2.2)) t) A) (vx_X (fun (_ : Unit) => True) (fun E _ t => kE E (sp_X5_shiftBy S p1 p2).1 ∧ WE D A L ad (cK cI cJ ad ce S) t) A) 2 12 A := by
  refine vx_ofW (cc := cX5_shiftBy) (maxL := 8) (ret := (some .int)) (by decide) rfl ?_
  intro p e s m args below meth c s₁ B hml hexn hv
  obtain ⟨hav, hsz, hP, hD, hK, hO⟩ := hv
  have hx := B.exec
  have hb := B.bytes
  have hr := B.returns
  have hts : ∀ w ∈ BIG, w.before args s = true := fun w h => atoms_spec (ws := bw_X5_shiftBy) B.pre w (List.mem_cons_of_mem _ h)
  have hown : s.vm.findClass RX5 = some m.cls := findClass_of_methodNamed B.named
  have hlocks := B.notSynchronized
  subst hsz
  have hw := wk.start hP hD
  refine k_start (by rfl) hav (Nat.le_of_ble_eq_true rfl) (fun ls hl => ?_)
  have hl : lv_has ls 8 [(0, .ref (ad 0 0)), (1, .int p1), (2, .int p2)] := hl
  have hE : sp_X5_shiftBy S p1 p2 = sp_X5_shiftBy S p1 p2 := rfl
  refine lv_aload_n hx hb dX5_shiftBy_0 rfl (lv_at hl 0 rfl) ?_
  refine lv_iload_n hx hb dX5_shiftBy_1 rfl (lv_at hl 1 rfl) ?_
  refine lv_iload_n hx hb dX5_shiftBy_2 rfl (lv_at hl 2 rfl) ?_
  refine x_cv hw (x_rV (As := [.int p1, .int p2]) (rest := []) ⟨hx, hb, hml, hown, hts⟩ hK hO hw (ct_X5_checkDelay hL S (SF.ci (SF.rf _) hI) p1 p2 hst _ (wk.hA hw hA)) (cwV 2 hts (gB_V w_ml_X5_113 w_im_X5_checkDelay w_se_X5_checkDelay w_in_X5 w_co_X5_checkDelay) rfl rfl rfl (by decide +kernel) ⟨by decide, by decide⟩) (hL 0 0 rfl) cke_0 rfl rfl hl.1 rfl (Nat.le_of_ble_eq_true rfl) dX5_shiftBy_3 ⟨Nat.le_of_ble_eq_true rfl, Nat.le_of_ble_eq_true rfl⟩) (fun E cx q9 H locs hx9 hw hcx hvx hclx => ?_) (fun H locs x_1 hw => ?_)
  · have hE := hE.trans (if_neg hx9.ne)
    exact x_out hexn hlocks hw hcx hvx hclx (by rw [hE]; exact hx9) (Nat.le_of_ble_eq_true rfl) (Nat.le_of_ble_eq_true rfl)
  · have hE := hE.trans (if_pos x_1)
    refine lv_iconst (v := 0) hx hb dX5_shiftBy_6 (by decide) ?_
    refine lv_istore_n (lv' := [(3, .int 0), (0, .ref (ad 0 0)), (1, .int p1), (2, .int p2)]) hx hb dX5_shiftBy_7 rfl hl (by decide) rfl (fun ls hl => ?_)
    refine lv_iconst (v := 0) hx hb dX5_shiftBy_8 (by decide) ?_
    refine lv_istore (lv' := [(4, .int 0), (3, .int 0), (0, .ref (ad 0 0)), (1, .int p1), (2, .int p2)]) hx hb dX5_shiftBy_9 hl (by decide) rfl (fun ls hl => ?_)
    have key_11 : ∀ (k i : Nat) (v3 : Int32) (Sx : (Nat → Nat → Nat → Int32)) (H : Heap) (locs : List Loc) (ls : Array Slot), i + k = (S 0 0 0).toNatClampNeg → SF S Sx → (lp_X5_shiftBy_11 p1 p2 ((S 0 0 0).toNatClampNeg) 0 0 S) = lp_X5_shiftBy_11 p1 p2 k i v3 Sx → wk D A L ad (cK cI cJ ad ce Sx) s.heap H locs → lv_has ls 8 [(0, .ref (ad 0 0)), (1, .int p1), (2, .int p2), (3, .int v3), (4, .int (nI i))] → W p l e (headSpec bw_X5_shiftBy rm_X5_shiftBy).room s m args below meth c H locs 0 0 (vx_MQ below (va_Qi (fun (r : Int32) (_ : Unit) => r = (sp_X5_shiftBy S p1 p2).2.1 ∧ (sp_X5_shiftBy S p1 p2).1 = 0) (fun _ t => WE D A L ad (cK cI cJ ad ce ((sp_X5_shiftBy S p1 p2).2.2)) t) A) (vx_X (fun (_ : Unit) => True) (fun E _ t => kE E (sp_X5_shiftBy S p1 p2).1 ∧ WE D A L ad (cK cI cJ ad ce S) t) A) args s 1 6 A) (F0 m 11 ls []) := by
      intro k
      induction k with
      | zero =>
        intro i v3 Sx H locs ls hk hsf hV hw hl
        have hV := hV.trans (lz_lp_X5_shiftBy_11 p1 p2 i v3 Sx)
        obtain rfl : v3 = (lp_X5_shiftBy_11 p1 p2 ((S 0 0 0).toNatClampNeg) 0 0 S).1 := (congrArg (fun z => z.1) hV).symm
        obtain rfl : Sx = (lp_X5_shiftBy_11 p1 p2 ((S 0 0 0).toNatClampNeg) 0 0 S).2 := (congrArg (fun z => z.2) hV).symm
        refine lv_iload hx hb dX5_shiftBy_11 (lv_at hl 4 rfl) ?_
        refine lv_aload_n hx hb dX5_shiftBy_13 rfl (lv_at hl 0 rfl) ?_
        refine k_get (C := RX5) (T := TX5) (N := 7) (v := .int (((lp_X5_shiftBy_11 p1 p2 ((S 0 0 0).toNatClampNeg) 0 0 S).2) 0 0 0)) hx hb hts inB_X5 hown hK hw (hL 0 0 rfl) cke_0 rfl 5 (by decide) (hts _ w_f_X5_174) (fun _ h9 => h9) rfl dX5_shiftBy_14 ?_
        refine lv_icmp_ge (tgt := 112) hx hb dX5_shiftBy_17 (by decide) (fun _ => ?_) (fun h => absurd (lp_o (SF.b5 hsf hI) hk (cn_lt _)) h)
        refine lv_iload_n hx hb dX5_shiftBy_112 rfl (lv_at hl 3 rfl) ?_
        exact x_iret hx hb hr hlocks rfl hw (congrArg (fun z => z.2.1) hE) (congrArg (fun z => z.1) hE) (congrArg (fun z => cK cI cJ ad ce z.2.2) hE) (Nat.le_of_ble_eq_true rfl) (Nat.le_of_ble_eq_true rfl) dX5_shiftBy_113
      | succ k ih =>
        intro i v3 Sx H locs ls hk hsf hV hw hl
        refine lv_iload hx hb dX5_shiftBy_11 (lv_at hl 4 rfl) ?_
        refine lv_aload_n hx hb dX5_shiftBy_13 rfl (lv_at hl 0 rfl) ?_
        refine k_get (C := RX5) (T := TX5) (N := 7) (v := .int (Sx 0 0 0)) hx hb hts inB_X5 hown hK hw (hL 0 0 rfl) cke_0 rfl 5 (by decide) (hts _ w_f_X5_174) (fun _ h9 => h9) rfl dX5_shiftBy_14 ?_
        refine lv_icmp_ge (tgt := 112) hx hb dX5_shiftBy_17 (by decide) (fun h => absurd h (lp_i (SF.b5 hsf hI) hk (cn_lt _))) (fun _ => ?_)
        refine lv_aload_n hx hb dX5_shiftBy_20 rfl (lv_at hl 0 rfl) ?_
        refine lv_iload hx hb dX5_shiftBy_21 (lv_at hl 4 rfl) ?_
        refine k_cr0 hw (k_rV (As := [.int (nI i)]) (rest := []) ⟨hx, hb, hml, hown, hts⟩ hK hO hw (ct_X5_joinerAt_n hL Sx (SF.ci hsf hI) i (SF.q5 hsf (lp_l hk)) _ (wk.hA hw hA)) (cwV 1 hts (gB_V w_ml_X5_179 w_im_X5_joinerAt w_se_X5_joinerAt w_in_X5 w_co_X5_joinerAt) rfl rfl rfl (by decide +kernel) ⟨by decide, by decide⟩) (hL 0 0 rfl) cke_0 rfl rfl hl.1 rfl (Nat.le_of_ble_eq_true rfl) dX5_shiftBy_23 ⟨Nat.zero_le _, Nat.zero_le _⟩) (fun H locs hw => ?_)
        refine lv_astore (lv' := [(5, .ref (ad 6 i)), (0, .ref (ad 0 0)), (1, .int p1), (2, .int p2), (3, .int v3), (4, .int (nI i))]) hx hb dX5_shiftBy_26 hl (by decide) rfl (fun ls hl => ?_)
        refine lv_aload_n hx hb dX5_shiftBy_28 rfl (lv_at hl 1 rfl) ?_
        refine k_get (C := RX5) (T := TX5) (N := 7) (v := .ref (ad 4 0)) hx hb hts inB_X5 hown hK hw (hL 0 0 rfl) cke_0 rfl 3 (by decide) (hts _ w_f_X5_35) (fun _ h9 => h9) rfl dX5_shiftBy_29 ?_
        refine lv_aload hx hb dX5_shiftBy_32 (lv_at hl 0 rfl) ?_
        refine lv_aload_n hx hb dX5_shiftBy_34 rfl (lv_at hl 1 rfl) ?_
        refine k_get (C := RX5) (T := TX5) (N := 7) (v := .int (Sx 0 0 1)) hx hb hts inB_X5 hown hK hw (hL 0 0 rfl) cke_0 rfl 6 (by decide) (hts _ w_f_X5_160) (fun _ h9 => h9) rfl dX5_shiftBy_35 ?_
        refine lv_iconst (v := (-1)) hx hb dX5_shiftBy_38 (by decide) ?_
        refine lv_iconst (v := 0) hx hb dX5_shiftBy_39 (by decide) ?_
        refine k_cv0 hw (k_rV (As := [.ref (ad 6 i), .int (Sx 0 0 1), .int (-1), .int 0]) (rest := []) ⟨hx, hb, hml, hown, hts⟩ hK hO hw (ct_X0_foresee hL Sx (SF.ci hsf hI) i (Nat.lt_of_lt_of_le (lp_l hk) (CI.n5 hI)) (Sx 0 0 1) (-1) 0 _ (wk.hA hw hA)) (cwV 4 hts (gB_V w_ml_X5_233 w_im_X0_foresee w_se_X0_foresee w_in_X0 w_co_X0_foresee) rfl rfl rfl (by decide +kernel) ⟨by decide, by decide⟩) (hL 4 0 rfl) cke_4 rfl rfl hl.1 rfl (Nat.le_of_ble_eq_true rfl) dX5_shiftBy_40 ⟨Nat.zero_le _, Nat.zero_le _⟩) (fun H locs hw => ?_)
        refine lv_aload_n hx hb dX5_shiftBy_43 rfl (lv_at hl 1 rfl) ?_
        refine k_get (C := RX5) (T := TX5) (N := 7) (v := .ref (ad 4 0)) hx hb hts inB_X5 hown hK hw (hL 0 0 rfl) cke_0 rfl 3 (by decide) (hts _ w_f_X5_35) (fun _ h9 => h9) rfl dX5_shiftBy_44 ?_
        refine lv_aload hx hb dX5_shiftBy_47 (lv_at hl 0 rfl) ?_
        refine k_get (C := RX1) (T := TX1) (N := 8) (v := .int ((sp_X0_foresee Sx i (Sx 0 0 1) (-1) 0) 6 i 0)) hx hb hts inB_X1 hown hK hw (hL 6 i (cidJ6 (Nat.lt_of_lt_of_le (lp_l hk) (CI.n5 hI)))) cke_6 rfl 5 (by decide) (hts _ w_f_X5_183) (fun _ h9 => h9) rfl dX5_shiftBy_49 ?_
        refine k_ci0 hw (k_rV (As := [.int ((sp_X0_foresee Sx i (Sx 0 0 1) (-1) 0) 6 i 0)]) (rest := []) ⟨hx, hb, hml, hown, hts⟩ hK hO hw (ct_X0_greatestEnd hL (sp_X0_foresee Sx i (Sx 0 0 1) (-1) 0) (SF.ci (SF.tr hsf (sf_X0_foresee Sx i (Sx 0 0 1) (-1) 0)) hI) ((sp_X0_foresee Sx i (Sx 0 0 1) (-1) 0) 6 i 0) _ (wk.hA hw hA)) (cwV 1 hts (gB_V w_ml_X5_268 w_im_X0_greatestEnd w_se_X0_greatestEnd w_in_X0 w_co_X0_greatestEnd) rfl rfl rfl (by decide +kernel) ⟨by decide, by decide⟩) (hL 4 0 rfl) cke_4 rfl rfl hl.1 rfl (Nat.le_of_ble_eq_true rfl) dX5_shiftBy_52 ⟨Nat.zero_le _, Nat.zero_le _⟩) (fun H locs hw => ?_)
        refine lv_istore (lv' := [(6, .int (sp_X0_greatestEnd (sp_X0_foresee Sx i (Sx 0 0 1) (-1) 0) ((sp_X0_foresee Sx i (Sx 0 0 1) (-1) 0) 6 i 0))), (5, .ref (ad 6 i)), (0, .ref (ad 0 0)), (1, .int p1), (2, .int p2), (3, .int v3), (4, .int (nI i))]) hx hb dX5_shiftBy_55 hl (by decide) rfl (fun ls hl => ?_)
        refine lv_aload_n hx hb dX5_shiftBy_57 rfl (lv_at hl 2 rfl) ?_
        refine k_get (C := RX5) (T := TX5) (N := 7) (v := .ref (ad 4 0)) hx hb hts inB_X5 hown hK hw (hL 0 0 rfl) cke_0 rfl 3 (by decide) (hts _ w_f_X5_35) (fun _ h9 => h9) rfl dX5_shiftBy_58 ?_
        refine lv_aload hx hb dX5_shiftBy_61 (lv_at hl 1 rfl) ?_
        refine lv_aload_n hx hb dX5_shiftBy_63 rfl (lv_at hl 2 rfl) ?_
        refine k_get (C := RX5) (T := TX5) (N := 7) (v := .int ((sp_X0_foresee Sx i (Sx 0 0 1) (-1) 0) 0 0 1)) hx hb hts inB_X5 hown hK hw (hL 0 0 rfl) cke_0 rfl 6 (by decide) (hts _ w_f_X5_160) (fun _ h9 => h9) rfl dX5_shiftBy_64 ?_
        refine lv_iload_n hx hb dX5_shiftBy_67 rfl (lv_at hl 3 rfl) ?_
        refine lv_iload_n hx hb dX5_shiftBy_68 rfl (lv_at hl 4 rfl) ?_
        refine k_cv0 hw (k_rV (As := [.ref (ad 6 i), .int ((sp_X0_foresee Sx i (Sx 0 0 1) (-1) 0) 0 0 1), .int p1, .int p2]) (rest := []) ⟨hx, hb, hml, hown, hts⟩ hK hO hw (ct_X0_foresee hL (sp_X0_foresee Sx i (Sx 0 0 1) (-1) 0) (SF.ci (SF.tr hsf (sf_X0_foresee Sx i (Sx 0 0 1) (-1) 0)) hI) i (Nat.lt_of_lt_of_le (lp_l hk) (CI.n5 hI)) ((sp_X0_foresee Sx i (Sx 0 0 1) (-1) 0) 0 0 1) p1 p2 _ (wk.hA hw hA)) (cwV 4 hts (gB_V w_ml_X5_233 w_im_X0_foresee w_se_X0_foresee w_in_X0 w_co_X0_foresee) rfl rfl rfl (by decide +kernel) ⟨by decide, by decide⟩) (hL 4 0 rfl) cke_4 rfl rfl hl.1 rfl (Nat.le_of_ble_eq_true rfl) dX5_shiftBy_69 ⟨Nat.zero_le _, Nat.zero_le _⟩) (fun H locs hw => ?_)
        refine lv_aload_n hx hb dX5_shiftBy_72 rfl (lv_at hl 2 rfl) ?_
        refine k_get (C := RX5) (T := TX5) (N := 7) (v := .ref (ad 4 0)) hx hb hts inB_X5 hown hK hw (hL 0 0 rfl) cke_0 rfl 3 (by decide) (hts _ w_f_X5_35) (fun _ h9 => h9) rfl dX5_shiftBy_73 ?_
        refine lv_aload hx hb dX5_shiftBy_76 (lv_at hl 1 rfl) ?_
        refine k_get (C := RX1) (T := TX1) (N := 8) (v := .int ((sp_X0_foresee (sp_X0_foresee Sx i (Sx 0 0 1) (-1) 0) i ((sp_X0_foresee Sx i (Sx 0 0 1) (-1) 0) 0 0 1) p1 p2) 6 i 0)) hx hb hts inB_X1 hown hK hw (hL 6 i (cidJ6 (Nat.lt_of_lt_of_le (lp_l hk) (CI.n5 hI)))) cke_6 rfl 5 (by decide) (hts _ w_f_X5_183) (fun _ h9 => h9) rfl dX5_shiftBy_78 ?_
        refine k_ci0 hw (k_rV (As := [.int ((sp_X0_foresee (sp_X0_foresee Sx i (Sx 0 0 1) (-1) 0) i ((sp_X0_foresee Sx i (Sx 0 0 1) (-1) 0) 0 0 1) p1 p2) 6 i 0)]) (rest := []) ⟨hx, hb, hml, hown, hts⟩ hK hO hw (ct_X0_greatestEnd hL (sp_X0_foresee (sp_X0_foresee Sx i (Sx 0 0 1) (-1) 0) i ((sp_X0_foresee Sx i (Sx 0 0 1) (-1) 0) 0 0 1) p1 p2) (SF.ci (SF.tr (SF.tr hsf (sf_X0_foresee Sx i (Sx 0 0 1) (-1) 0)) (sf_X0_foresee (sp_X0_foresee Sx i (Sx 0 0 1) (-1) 0) i ((sp_X0_foresee Sx i (Sx 0 0 1) (-1) 0) 0 0 1) p1 p2)) hI) ((sp_X0_foresee (sp_X0_foresee Sx i (Sx 0 0 1) (-1) 0) i ((sp_X0_foresee Sx i (Sx 0 0 1) (-1) 0) 0 0 1) p1 p2) 6 i 0) _ (wk.hA hw hA)) (cwV 1 hts (gB_V w_ml_X5_268 w_im_X0_greatestEnd w_se_X0_greatestEnd w_in_X0 w_co_X0_greatestEnd) rfl rfl rfl (by decide +kernel) ⟨by decide, by decide⟩) (hL 4 0 rfl) cke_4 rfl rfl hl.1 rfl (Nat.le_of_ble_eq_true rfl) dX5_shiftBy_81 ⟨Nat.zero_le _, Nat.zero_le _⟩) (fun H locs hw => ?_)
        refine lv_istore (lv' := [(7, .int (sp_X0_greatestEnd (sp_X0_foresee (sp_X0_foresee Sx i (Sx 0 0 1) (-1) 0) i ((sp_X0_foresee Sx i (Sx 0 0 1) (-1) 0) 0 0 1) p1 p2) ((sp_X0_foresee (sp_X0_foresee Sx i (Sx 0 0 1) (-1) 0) i ((sp_X0_foresee Sx i (Sx 0 0 1) (-1) 0) 0 0 1) p1 p2) 6 i 0))), (6, .int (sp_X0_greatestEnd (sp_X0_foresee Sx i (Sx 0 0 1) (-1) 0) ((sp_X0_foresee Sx i (Sx 0 0 1) (-1) 0) 6 i 0))), (5, .ref (ad 6 i)), (0, .ref (ad 0 0)), (1, .int p1), (2, .int p2), (3, .int v3), (4, .int (nI i))]) hx hb dX5_shiftBy_84 hl (by decide) rfl (fun ls hl => ?_)
        refine lv_iload hx hb dX5_shiftBy_86 (lv_at hl 1 rfl) ?_
        refine lv_iconst (v := (-1)) hx hb dX5_shiftBy_88 (by decide) ?_
        refine lv_icmp_eq (tgt := 106) hx hb dX5_shiftBy_89 (by decide) (fun c_2 => ?_) (fun c_2 => ?_)
        · have hV := hV.trans (if_pos c_2)
          refine lv_iinc (v := (nI (i + 1))) (lv' := [(4, .int (nI (i + 1))), (7, .int (sp_X0_greatestEnd (sp_X0_foresee (sp_X0_foresee Sx i (Sx 0 0 1) (-1) 0) i ((sp_X0_foresee Sx i (Sx 0 0 1) (-1) 0) 0 0 1) p1 p2) ((sp_X0_foresee (sp_X0_foresee Sx i (Sx 0 0 1) (-1) 0) i ((sp_X0_foresee Sx i (Sx 0 0 1) (-1) 0) 0 0 1) p1 p2) 6 i 0))), (6, .int (sp_X0_greatestEnd (sp_X0_foresee Sx i (Sx 0 0 1) (-1) 0) ((sp_X0_foresee Sx i (Sx 0 0 1) (-1) 0) 6 i 0))), (5, .ref (ad 6 i)), (0, .ref (ad 0 0)), (1, .int p1), (2, .int p2), (3, .int v3)]) hx hb dX5_shiftBy_106 hl (k := 7) rfl (nI_1 _) (by decide) rfl (fun ls hl => ?_)
          refine lv_goto (tgt := 11) hx hb dX5_shiftBy_109 (by decide) ?_
          exact ih (i + 1) v3 (sp_X0_foresee (sp_X0_foresee Sx i (Sx 0 0 1) (-1) 0) i ((sp_X0_foresee Sx i (Sx 0 0 1) (-1) 0) 0 0 1) p1 p2) _ _ _ (lp_s hk) (SF.tr (SF.tr hsf (sf_X0_foresee Sx i (Sx 0 0 1) (-1) 0)) (sf_X0_foresee (sp_X0_foresee Sx i (Sx 0 0 1) (-1) 0) i ((sp_X0_foresee Sx i (Sx 0 0 1) (-1) 0) 0 0 1) p1 p2)) hV hw (lv_sub hl [4, 5, 6, 7, 0] rfl)
        · have hV := hV.trans (if_neg c_2)
          refine lv_iload hx hb dX5_shiftBy_92 (lv_at hl 0 rfl) ?_
          refine lv_iconst (v := (-1)) hx hb dX5_shiftBy_94 (by decide) ?_
          refine lv_icmp_eq (tgt := 106) hx hb dX5_shiftBy_95 (by decide) (fun c_3 => ?_) (fun c_3 => ?_)
          · have hV := hV.trans (if_pos c_3)
            refine lv_iinc (v := (nI (i + 1))) (lv' := [(4, .int (nI (i + 1))), (7, .int (sp_X0_greatestEnd (sp_X0_foresee (sp_X0_foresee Sx i (Sx 0 0 1) (-1) 0) i ((sp_X0_foresee Sx i (Sx 0 0 1) (-1) 0) 0 0 1) p1 p2) ((sp_X0_foresee (sp_X0_foresee Sx i (Sx 0 0 1) (-1) 0) i ((sp_X0_foresee Sx i (Sx 0 0 1) (-1) 0) 0 0 1) p1 p2) 6 i 0))), (6, .int (sp_X0_greatestEnd (sp_X0_foresee Sx i (Sx 0 0 1) (-1) 0) ((sp_X0_foresee Sx i (Sx 0 0 1) (-1) 0) 6 i 0))), (5, .ref (ad 6 i)), (0, .ref (ad 0 0)), (1, .int p1), (2, .int p2), (3, .int v3)]) hx hb dX5_shiftBy_106 hl (k := 7) rfl (nI_1 _) (by decide) rfl (fun ls hl => ?_)
            refine lv_goto (tgt := 11) hx hb dX5_shiftBy_109 (by decide) ?_
            exact ih (i + 1) v3 (sp_X0_foresee (sp_X0_foresee Sx i (Sx 0 0 1) (-1) 0) i ((sp_X0_foresee Sx i (Sx 0 0 1) (-1) 0) 0 0 1) p1 p2) _ _ _ (lp_s hk) (SF.tr (SF.tr hsf (sf_X0_foresee Sx i (Sx 0 0 1) (-1) 0)) (sf_X0_foresee (sp_X0_foresee Sx i (Sx 0 0 1) (-1) 0) i ((sp_X0_foresee Sx i (Sx 0 0 1) (-1) 0) 0 0 1) p1 p2)) hV hw (lv_sub hl [4, 5, 6, 7, 0] rfl)
          · have hV := hV.trans (if_neg c_3)
            refine lv_iload_n hx hb dX5_shiftBy_98 rfl (lv_at hl 6 rfl) ?_
            refine lv_iload hx hb dX5_shiftBy_99 (lv_at hl 0 rfl) ?_
            refine lv_iload hx hb dX5_shiftBy_101 (lv_at hl 1 rfl) ?_
            refine lv_isub hx hb dX5_shiftBy_103 ?_
            refine lv_iadd hx hb dX5_shiftBy_104 ?_
            refine lv_istore_n (lv' := [(3, .int (v3 + ((sp_X0_greatestEnd (sp_X0_foresee (sp_X0_foresee Sx i (Sx 0 0 1) (-1) 0) i ((sp_X0_foresee Sx i (Sx 0 0 1) (-1) 0) 0 0 1) p1 p2) ((sp_X0_foresee (sp_X0_foresee Sx i (Sx 0 0 1) (-1) 0) i ((sp_X0_foresee Sx i (Sx 0 0 1) (-1) 0) 0 0 1) p1 p2) 6 i 0)) - (sp_X0_greatestEnd (sp_X0_foresee Sx i (Sx 0 0 1) (-1) 0) ((sp_X0_foresee Sx i (Sx 0 0 1) (-1) 0) 6 i 0))))), (7, .int (sp_X0_greatestEnd (sp_X0_foresee (sp_X0_foresee Sx i (Sx 0 0 1) (-1) 0) i ((sp_X0_foresee Sx i (Sx 0 0 1) (-1) 0) 0 0 1) p1 p2) ((sp_X0_foresee (sp_X0_foresee Sx i (Sx 0 0 1) (-1) 0) i ((sp_X0_foresee Sx i (Sx 0 0 1) (-1) 0) 0 0 1) p1 p2) 6 i 0))), (6, .int (sp_X0_greatestEnd (sp_X0_foresee Sx i (Sx 0 0 1) (-1) 0) ((sp_X0_foresee Sx i (Sx 0 0 1) (-1) 0) 6 i 0))), (5, .ref (ad 6 i)), (0, .ref (ad 0 0)), (1, .int p1), (2, .int p2), (4, .int (nI i))]) hx hb dX5_shiftBy_105 rfl hl (by decide) rfl (fun ls hl => ?_)
            refine lv_iinc (v := (nI (i + 1))) (lv' := [(4, .int (nI (i + 1))), (3, .int (v3 + ((sp_X0_greatestEnd (sp_X0_foresee (sp_X0_foresee Sx i (Sx 0 0 1) (-1) 0) i ((sp_X0_foresee Sx i (Sx 0 0 1) (-1) 0) 0 0 1) p1 p2) ((sp_X0_foresee (sp_X0_foresee Sx i (Sx 0 0 1) (-1) 0) i ((sp_X0_foresee Sx i (Sx 0 0 1) (-1) 0) 0 0 1) p1 p2) 6 i 0)) - (sp_X0_greatestEnd (sp_X0_foresee Sx i (Sx 0 0 1) (-1) 0) ((sp_X0_foresee Sx i (Sx 0 0 1) (-1) 0) 6 i 0))))), (7, .int (sp_X0_greatestEnd (sp_X0_foresee (sp_X0_foresee Sx i (Sx 0 0 1) (-1) 0) i ((sp_X0_foresee Sx i (Sx 0 0 1) (-1) 0) 0 0 1) p1 p2) ((sp_X0_foresee (sp_X0_foresee Sx i (Sx 0 0 1) (-1) 0) i ((sp_X0_foresee Sx i (Sx 0 0 1) (-1) 0) 0 0 1) p1 p2) 6 i 0))), (6, .int (sp_X0_greatestEnd (sp_X0_foresee Sx i (Sx 0 0 1) (-1) 0) ((sp_X0_foresee Sx i (Sx 0 0 1) (-1) 0) 6 i 0))), (5, .ref (ad 6 i)), (0, .ref (ad 0 0)), (1, .int p1), (2, .int p2)]) hx hb dX5_shiftBy_106 hl (k := 7) rfl (nI_1 _) (by decide) rfl (fun ls hl => ?_)
            refine lv_goto (tgt := 11) hx hb dX5_shiftBy_109 (by decide) ?_
            exact ih (i + 1) (v3 + ((sp_X0_greatestEnd (sp_X0_foresee (sp_X0_foresee Sx i (Sx 0 0 1) (-1) 0) i ((sp_X0_foresee Sx i (Sx 0 0 1) (-1) 0) 0 0 1) p1 p2) ((sp_X0_foresee (sp_X0_foresee Sx i (Sx 0 0 1) (-1) 0) i ((sp_X0_foresee Sx i (Sx 0 0 1) (-1) 0) 0 0 1) p1 p2) 6 i 0)) - (sp_X0_greatestEnd (sp_X0_foresee Sx i (Sx 0 0 1) (-1) 0) ((sp_X0_foresee Sx i (Sx 0 0 1) (-1) 0) 6 i 0)))) (sp_X0_foresee (sp_X0_foresee Sx i (Sx 0 0 1) (-1) 0) i ((sp_X0_foresee Sx i (Sx 0 0 1) (-1) 0) 0 0 1) p1 p2) _ _ _ (lp_s hk) (SF.tr (SF.tr hsf (sf_X0_foresee Sx i (Sx 0 0 1) (-1) 0)) (sf_X0_foresee (sp_X0_foresee Sx i (Sx 0 0 1) (-1) 0) i ((sp_X0_foresee Sx i (Sx 0 0 1) (-1) 0) 0 0 1) p1 p2)) hV hw (lv_sub hl [5, 6, 7, 1, 0] rfl)
    exact key_11 ((S 0 0 0).toNatClampNeg) 0 0 S _ _ _ (Nat.zero_add _) (SF.rf _) rfl hw (lv_sub hl [2, 3, 4, 1, 0] rfl)

abbrev bw_X5_next : List Cond := .code yX5_next cX5_next 2 (some .int) :: BIG
abbrev rm_X5_next : Room := { frames := 7, cells := 2, slots := 12, locals := 112 }
def sp_X5_next (S : (Nat → Nat → Nat → Int32)) (p1 : Int32) : Nat × Int32 := if (sp_X5_joinerAt ad S p1).1 = 0 then ((0, sp_X5_nextStep S p1.toNatClampNeg)) else (((sp_X5_joinerAt ad S p1).1, 0))
set_option maxHeartbeats 4000000 in
set_option maxRecDepth 100000 in
theorem ct_X5_next {l : Launch} {D : va_G} {cI cG cJ cO : ClassId} {K0 : Nat → Nat} {A : Nat → Prop} {L : List (Nat × Nat)} {ad : Nat → Nat → Nat} {ce : Nat → Nat → va_E} (hL : ∀ f o, cid f o = true → (f, o) ∈ L) (S : (Nat → Nat → Nat → Int32)) (hI : CI S) (p1 : Int32) (hst : l.stackTraces = false) (sz : Nat) (hA : ∀ q, sz ≤ q → A q) : vx_Met l yX5_next bw_X5_next rm_X5_next (kP D (ktys cI cG cJ cO) K0 A L ad (cK cI cJ ad ce S) sz [.ref (ad 0 0), .int p1]) (va_Qi (fun (r : Int32) (_ : Unit) => r = (sp_X5_next S p1).2 ∧ (sp_X5_next S p1).1 = 0) (fun _ t => WE D A L ad (cK cI cJ ad ce S) t) A) (vx_X (fun (_ : Unit) => True) (fun E _ t => kE E (sp_X5_next S p1).1 ∧ WE D A L ad (cK cI cJ ad ce S) t) A) 2 12 A := by
  refine vx_ofW (cc := cX5_next) (maxL := 2) (ret := (some .int)) (by decide) rfl ?_
  intro p e s m args below meth c s₁ B hml hexn hv
  obtain ⟨hav, hsz, hP, hD, hK, hO⟩ := hv
  have hx := B.exec
  have hb := B.bytes
  have hr := B.returns
  have hts : ∀ w ∈ BIG, w.before args s = true := fun w h => atoms_spec (ws := bw_X5_next) B.pre w (List.mem_cons_of_mem _ h)
  have hown : s.vm.findClass RX5 = some m.cls := findClass_of_methodNamed B.named
  have hlocks := B.notSynchronized
  subst hsz
  have hw := wk.start hP hD
  refine k_start (by rfl) hav (Nat.le_of_ble_eq_true rfl) (fun ls hl => ?_)
  have hl : lv_has ls 2 [(0, .ref (ad 0 0)), (1, .int p1)] := hl
  have hE : sp_X5_next S p1 = sp_X5_next S p1 := rfl
  refine lv_aload_n hx hb dX5_next_0 rfl (lv_at hl 0 rfl) ?_
  refine lv_aload_n hx hb dX5_next_1 rfl (lv_at hl 0 rfl) ?_
  refine lv_iload_n hx hb dX5_next_2 rfl (lv_at hl 1 rfl) ?_
  refine x_cq hw (x_rV (As := [.int p1]) (rest := [.ref (ad 0 0)]) ⟨hx, hb, hml, hown, hts⟩ hK hO hw (ct_X5_joinerAt hL S (SF.ci (SF.rf _) hI) p1 hst _ (wk.hA hw hA)) (cwV 1 hts (gB_V w_ml_X5_179 w_im_X5_joinerAt w_se_X5_joinerAt w_in_X5 w_co_X5_joinerAt) rfl rfl rfl (by decide +kernel) ⟨by decide, by decide⟩) (hL 0 0 rfl) cke_0 rfl rfl hl.1 rfl (Nat.le_of_ble_eq_true rfl) dX5_next_3 ⟨Nat.le_of_ble_eq_true rfl, Nat.le_of_ble_eq_true rfl⟩) (fun E cx q9 H locs hx9 hw hcx hvx hclx => ?_) (fun H locs x_1 hw => ?_)
  · have hE := hE.trans (if_neg hx9.ne)
    exact x_out hexn hlocks hw hcx hvx hclx (by rw [hE]; exact hx9) (Nat.le_of_ble_eq_true rfl) (Nat.le_of_ble_eq_true rfl)
  · have hE := hE.trans (if_pos x_1)
    refine k_ci0 hw (k_rV (As := [.ref (ad 6 p1.toNatClampNeg)]) (rest := []) ⟨hx, hb, hml, hown, hts⟩ hK hO hw (ct_X5_nextStep hL S (SF.ci (SF.rf _) hI) p1.toNatClampNeg (jn_ok x_1) _ (wk.hA hw hA)) (cwV 1 hts (gB_V w_ml_X5_279 w_im_X5_nextStep w_se_X5_nextStep w_in_X5 w_co_X5_nextStep) rfl rfl rfl (by decide +kernel) ⟨by decide, by decide⟩) (hL 0 0 rfl) cke_0 rfl rfl hl.1 rfl (Nat.le_of_ble_eq_true rfl) dX5_next_6 ⟨Nat.zero_le _, Nat.zero_le _⟩) (fun H locs hw => ?_)
    exact x_iret hx hb hr hlocks rfl hw (congrArg (fun z => z.2) hE) (congrArg (fun z => z.1) hE) rfl (Nat.le_of_ble_eq_true rfl) (Nat.le_of_ble_eq_true rfl) dX5_next_9

abbrev bw_X5_waitFor : List Cond := .code yX5_waitFor cX5_waitFor 4 (some .int) :: BIG
abbrev rm_X5_waitFor : Room := { frames := 7, cells := 2, slots := 12, locals := 112 }
def sp_X5_waitFor (S : (Nat → Nat → Nat → Int32)) (p1 : Int32) (p2 : Int32) : Nat × Int32 := if (sp_X5_joinerAt ad S p1).1 = 0 then (if p2 < 0 then ((1, 0)) else (if 12 ≤ p2 then ((1, 0)) else (if sp_X5_has (S 6 p1.toNatClampNeg 0) p2 = 0 then ((1, 0)) else ((0, sp_X5_countWaitingOn S p1.toNatClampNeg p2))))) else (((sp_X5_joinerAt ad S p1).1, 0))
set_option maxHeartbeats 4000000 in
set_option maxRecDepth 100000 in
theorem ct_X5_waitFor {l : Launch} {D : va_G} {cI cG cJ cO : ClassId} {K0 : Nat → Nat} {A : Nat → Prop} {L : List (Nat × Nat)} {ad : Nat → Nat → Nat} {ce : Nat → Nat → va_E} (hL : ∀ f o, cid f o = true → (f, o) ∈ L) (S : (Nat → Nat → Nat → Int32)) (hI : CI S) (p1 : Int32) (p2 : Int32) (hst : l.stackTraces = false) (sz : Nat) (hA : ∀ q, sz ≤ q → A q) : vx_Met l yX5_waitFor bw_X5_waitFor rm_X5_waitFor (kP D (ktys cI cG cJ cO) K0 A L ad (cK cI cJ ad ce S) sz [.ref (ad 0 0), .int p1, .int p2]) (va_Qi (fun (r : Int32) (_ : Unit) => r = (sp_X5_waitFor S p1 p2).2 ∧ (sp_X5_waitFor S p1 p2).1 = 0) (fun _ t => WE D A L ad (cK cI cJ ad ce S) t) A) (vx_X (fun (_ : Unit) => True) (fun E _ t => kE E (sp_X5_waitFor S p1 p2).1 ∧ WE D A L ad (cK cI cJ ad ce S) t) A) 2 12 A := by
  refine vx_ofW (cc := cX5_waitFor) (maxL := 4) (ret := (some .int)) (by decide) rfl ?_
  intro p e s m args below meth c s₁ B hml hexn hv
  obtain ⟨hav, hsz, hP, hD, hK, hO⟩ := hv
  have hx := B.exec
  have hb := B.bytes
  have hr := B.returns
  have hts : ∀ w ∈ BIG, w.before args s = true := fun w h => atoms_spec (ws := bw_X5_waitFor) B.pre w (List.mem_cons_of_mem _ h)
  have hown : s.vm.findClass RX5 = some m.cls := findClass_of_methodNamed B.named
  have hlocks := B.notSynchronized
  subst hsz
  have hw := wk.start hP hD
  refine k_start (by rfl) hav (Nat.le_of_ble_eq_true rfl) (fun ls hl => ?_)
  have hl : lv_has ls 4 [(0, .ref (ad 0 0)), (1, .int p1), (2, .int p2)] := hl
  have hE : sp_X5_waitFor S p1 p2 = sp_X5_waitFor S p1 p2 := rfl
  refine lv_aload_n hx hb dX5_waitFor_0 rfl (lv_at hl 0 rfl) ?_
  refine lv_iload_n hx hb dX5_waitFor_1 rfl (lv_at hl 1 rfl) ?_
  refine x_cq hw (x_rV (As := [.int p1]) (rest := []) ⟨hx, hb, hml, hown, hts⟩ hK hO hw (ct_X5_joinerAt hL S (SF.ci (SF.rf _) hI) p1 hst _ (wk.hA hw hA)) (cwV 1 hts (gB_V w_ml_X5_179 w_im_X5_joinerAt w_se_X5_joinerAt w_in_X5 w_co_X5_joinerAt) rfl rfl rfl (by decide +kernel) ⟨by decide, by decide⟩) (hL 0 0 rfl) cke_0 rfl rfl hl.1 rfl (Nat.le_of_ble_eq_true rfl) dX5_waitFor_2 ⟨Nat.le_of_ble_eq_true rfl, Nat.le_of_ble_eq_true rfl⟩) (fun E cx q9 H locs hx9 hw hcx hvx hclx => ?_) (fun H locs x_1 hw => ?_)
  · have hE := hE.trans (if_neg hx9.ne)
    exact x_out hexn hlocks hw hcx hvx hclx (by rw [hE]; exact hx9) (Nat.le_of_ble_eq_true rfl) (Nat.le_of_ble_eq_true rfl)
  · have hE := hE.trans (if_pos x_1)
    refine lv_astore_n (lv' := [(3, .ref (ad 6 p1.toNatClampNeg)), (0, .ref (ad 0 0)), (1, .int p1), (2, .int p2)]) hx hb dX5_waitFor_5 rfl hl (by decide) rfl (fun ls hl => ?_)
    refine lv_iload_n hx hb dX5_waitFor_6 rfl (lv_at hl 3 rfl) ?_
    refine lv_if_lt (tgt := 27) hx hb dX5_waitFor_7 (by decide) (fun c_2 => ?_) (fun c_2 => ?_)
    · have hE := hE.trans (if_pos c_2)
      obtain ⟨sa, hsa⟩ := hO.2.1 (RX5, 229, "no such STEP of that JOINER") (by decide +kernel)
      exact k_throw hx hb hst hown (by decide +kernel) (by decide +kernel) (hts _ w_cl_X5_74) (hts _ w_in_java_lang_IndexOutOfBoundsException) hsa (xh_1 hts hO.2.2.1) xg_1 hO hw hl.1 hml dX5_waitFor_27 dX5_waitFor_30 dX5_waitFor_31 dX5_waitFor_33 dX5_waitFor_36 hexn (Nat.le_of_ble_eq_true rfl) (Nat.le_of_ble_eq_true rfl) (Nat.le_of_ble_eq_true rfl) (Nat.le_of_ble_eq_true rfl) hlocks (by rw [hE]; exact kE_1) (Nat.le_of_ble_eq_true rfl) (Nat.le_of_ble_eq_true rfl)
    · have hE := hE.trans (if_neg c_2)
      refine lv_iload_n hx hb dX5_waitFor_10 rfl (lv_at hl 3 rfl) ?_
      refine lv_bipush (v := 12) hx hb dX5_waitFor_11 (by decide) ?_
      refine lv_icmp_ge (tgt := 27) hx hb dX5_waitFor_13 (by decide) (fun c_3 => ?_) (fun c_3 => ?_)
      · have hE := hE.trans (if_pos c_3)
        obtain ⟨sa, hsa⟩ := hO.2.1 (RX5, 229, "no such STEP of that JOINER") (by decide +kernel)
        exact k_throw hx hb hst hown (by decide +kernel) (by decide +kernel) (hts _ w_cl_X5_74) (hts _ w_in_java_lang_IndexOutOfBoundsException) hsa (xh_1 hts hO.2.2.1) xg_1 hO hw hl.1 hml dX5_waitFor_27 dX5_waitFor_30 dX5_waitFor_31 dX5_waitFor_33 dX5_waitFor_36 hexn (Nat.le_of_ble_eq_true rfl) (Nat.le_of_ble_eq_true rfl) (Nat.le_of_ble_eq_true rfl) (Nat.le_of_ble_eq_true rfl) hlocks (by rw [hE]; exact kE_1) (Nat.le_of_ble_eq_true rfl) (Nat.le_of_ble_eq_true rfl)
      · have hE := hE.trans (if_neg c_3)
        refine lv_aload_n hx hb dX5_waitFor_16 rfl (lv_at hl 0 rfl) ?_
        refine k_get (C := RX1) (T := TX1) (N := 8) (v := .int (S 6 p1.toNatClampNeg 0)) hx hb hts inB_X1 hown hK hw (hL 6 p1.toNatClampNeg (cidJ6 (jn_ok x_1))) cke_6 rfl 5 (by decide) (hts _ w_f_X5_183) (fun _ h9 => h9) rfl dX5_waitFor_17 ?_
        refine lv_iload_n hx hb dX5_waitFor_20 rfl (lv_at hl 3 rfl) ?_
        refine k_ci0 hw (k_rS (As := [.int (S 6 p1.toNatClampNeg 0), .int p2]) (rest := []) ⟨hx, hb, hml, hown, hts⟩ hK hO hw (ct_X5_has (S 6 p1.toNatClampNeg 0) p2 _ (wk.hA hw hA)) (va_cwS 2 hts (gB_S w_ml_X5_226 w_st_X5_has w_in_X5 w_co_X5_has) rfl rfl rfl (by decide +kernel) ⟨by decide, by decide⟩) rfl hl.1 rfl (Nat.le_of_ble_eq_true rfl) dX5_waitFor_21 ⟨Nat.zero_le _, Nat.zero_le _⟩) (fun H locs hw => ?_)
        refine lv_if_ne (tgt := 37) hx hb dX5_waitFor_24 (by decide) (fun c_4 => ?_) (fun c_4 => ?_)
        · have hE := hE.trans (if_neg c_4)
          refine lv_aload_n hx hb dX5_waitFor_37 rfl (lv_at hl 1 rfl) ?_
          refine lv_aload_n hx hb dX5_waitFor_38 rfl (lv_at hl 0 rfl) ?_
          refine lv_iload_n hx hb dX5_waitFor_39 rfl (lv_at hl 3 rfl) ?_
          refine k_ci0 hw (k_rV (As := [.ref (ad 6 p1.toNatClampNeg), .int p2]) (rest := []) ⟨hx, hb, hml, hown, hts⟩ hK hO hw (ct_X5_countWaitingOn hL S (SF.ci (SF.rf _) hI) p1.toNatClampNeg (jn_ok x_1) p2 _ (wk.hA hw hA)) (cwV 2 hts (gB_V w_ml_X5_283 w_im_X5_countWaitingOn w_se_X5_countWaitingOn w_in_X5 w_co_X5_countWaitingOn) rfl rfl rfl (by decide +kernel) ⟨by decide, by decide⟩) (hL 0 0 rfl) cke_0 rfl rfl hl.1 rfl (Nat.le_of_ble_eq_true rfl) dX5_waitFor_40 ⟨Nat.zero_le _, Nat.zero_le _⟩) (fun H locs hw => ?_)
          exact x_iret hx hb hr hlocks rfl hw (congrArg (fun z => z.2) hE) (congrArg (fun z => z.1) hE) rfl (Nat.le_of_ble_eq_true rfl) (Nat.le_of_ble_eq_true rfl) dX5_waitFor_43
        · have hE := hE.trans (if_pos c_4)
          obtain ⟨sa, hsa⟩ := hO.2.1 (RX5, 229, "no such STEP of that JOINER") (by decide +kernel)
          exact k_throw hx hb hst hown (by decide +kernel) (by decide +kernel) (hts _ w_cl_X5_74) (hts _ w_in_java_lang_IndexOutOfBoundsException) hsa (xh_1 hts hO.2.2.1) xg_1 hO hw hl.1 hml dX5_waitFor_27 dX5_waitFor_30 dX5_waitFor_31 dX5_waitFor_33 dX5_waitFor_36 hexn (Nat.le_of_ble_eq_true rfl) (Nat.le_of_ble_eq_true rfl) (Nat.le_of_ble_eq_true rfl) (Nat.le_of_ble_eq_true rfl) hlocks (by rw [hE]; exact kE_1) (Nat.le_of_ble_eq_true rfl) (Nat.le_of_ble_eq_true rfl)
