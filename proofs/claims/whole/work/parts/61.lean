abbrev bw_X10_leave : List Cond := .code yX10_leave cX10_leave 4 (some .int) :: BIG
abbrev rm_X10_leave : Room := { frames := 42, cells := 161, slots := 644, locals := 2249 }
noncomputable def lp_X10_leave_51 (S : (Nat → Nat → Nat → Int32)) (p1 : Int32) (x_1 : Int32 × (Nat → Nat → Nat → Int32)) (x_4 : Int32 × (Nat → Nat → Nat → Int32)) : Nat → Nat → (Nat → Nat → Nat → Int32) → Option ((Nat → Nat → Nat → Int32))
  | 0, i, Sx => some (Sx)
  | k + 1, i, Sx => (sp_X6_is Sx p1.toNatClampNeg (nI i) 0).bind fun x_10 => (if x_10 = 0 then (lp_X10_leave_51 S p1 x_1 x_4 k (i + 1) Sx) else (lp_X10_leave_51 S p1 x_1 x_4 k (i + 1) (up3 Sx 27 p1.toNatClampNeg i (-1))))
theorem lz_lp_X10_leave_51 (S : (Nat → Nat → Nat → Int32)) (p1 : Int32) (x_1 : Int32 × (Nat → Nat → Nat → Int32)) (x_4 : Int32 × (Nat → Nat → Nat → Int32)) (i : Nat) (Sx : (Nat → Nat → Nat → Int32)) : lp_X10_leave_51 S p1 x_1 x_4 0 i Sx = some (Sx) := rfl
theorem ls_lp_X10_leave_51 (S : (Nat → Nat → Nat → Int32)) (p1 : Int32) (x_1 : Int32 × (Nat → Nat → Nat → Int32)) (x_4 : Int32 × (Nat → Nat → Nat → Int32)) (k i : Nat) (Sx : (Nat → Nat → Nat → Int32)) : lp_X10_leave_51 S p1 x_1 x_4 (k + 1) i Sx = (sp_X6_is Sx p1.toNatClampNeg (nI i) 0).bind fun x_10 => (if x_10 = 0 then (lp_X10_leave_51 S p1 x_1 x_4 k (i + 1) Sx) else (lp_X10_leave_51 S p1 x_1 x_4 k (i + 1) (up3 Sx 27 p1.toNatClampNeg i (-1)))) := rfl
theorem sfl_lp_X10_leave_51 {S : (Nat → Nat → Nat → Int32)} {p1 : Int32} {x_1 : Int32 × (Nat → Nat → Nat → Int32)} {x_4 : Int32 × (Nat → Nat → Nat → Int32)} {T0 : (Nat → Nat → Nat → Int32)} : ∀ (k i : Nat) (Sx : (Nat → Nat → Nat → Int32)) (r : (Nat → Nat → Nat → Int32)), lp_X10_leave_51 S p1 x_1 x_4 k i Sx = some r → SM T0 Sx → SM T0 r := by
  intro k
  induction k with
  | zero => 
    intro i Sx r h hsm
    have h := (lz_lp_X10_leave_51 S p1 x_1 x_4 i Sx).symm.trans h
    cases h
    exact hsm
  | succ k ih => 
    intro i Sx r h hsm
    have h := (ls_lp_X10_leave_51 S p1 x_1 x_4 k i Sx).symm.trans h
    obtain ⟨x_10, hx_10, h⟩ := ob1 h
    by_cases q_12 : x_10 = 0
    · have h := (if_pos q_12).symm.trans h
      exact ih _ _ _ h hsm
    · have h := (if_neg q_12).symm.trans h
      exact ih _ _ _ h (SM.up rfl (by decide) hsm)

noncomputable def sp_X10_leave (S : (Nat → Nat → Nat → Int32)) (p1 : Int32) : Option (Int32 × (Nat → Nat → Nat → Int32)) := (sp_X10_isNoJoiner S p1).bind fun x_1 => (if x_1.1 = 0 then (if p1 < 0 ∨ (S 0 0 0).toNatClampNeg ≤ p1.toNatClampNeg then none else ((sp_X10_refuse x_1.2 (x_1.2 6 p1.toNatClampNeg 2) 2).bind fun x_4 => (if x_4.1 = 0 then ((lp_X10_leave_51 S p1 x_1 x_4 12 0 (up3 x_4.2 6 p1.toNatClampNeg 2 1)).bind (fun Z_6 => ((sp_X10_bookAll Z_6 ).bind fun x_7 => ((sp_X6_in x_7 p1.toNatClampNeg 1).bind fun x_8 => ((sp_X6_in x_7 p1.toNatClampNeg 2).bind fun x_9 => (some ((x_8 + x_9, x_7)))))))) else (some ((0, x_4.2)))))) else (some ((0, x_1.2))))
theorem sf_X10_leave {S : (Nat → Nat → Nat → Int32)} {p1 : Int32} {v : Int32 × (Nat → Nat → Nat → Int32)} (h : sp_X10_leave S p1 = some v) : SM S v.2 := by
  unfold sp_X10_leave at h
  obtain ⟨x_1, hx_1, h⟩ := ob1 h
  by_cases q_13 : x_1.1 = 0
  · have h := (if_pos q_13).symm.trans h
    by_cases q_14 : p1 < 0 ∨ (S 0 0 0).toNatClampNeg ≤ p1.toNatClampNeg
    · exact nomatch (if_pos q_14).symm.trans h
    have h := (if_neg q_14).symm.trans h
    obtain ⟨x_4, hx_4, h⟩ := ob1 h
    by_cases q_15 : x_4.1 = 0
    · have h := (if_pos q_15).symm.trans h
      obtain ⟨Z_6, hL_51, h⟩ := ob1 h
      obtain ⟨x_7, hx_7, h⟩ := ob1 h
      obtain ⟨x_8, hx_8, h⟩ := ob1 h
      obtain ⟨x_9, hx_9, h⟩ := ob1 h
      have hz : SM S x_7 := (SM.tr (sfl_lp_X10_leave_51 _ _ _ _ hL_51 (SM.up rfl (by decide) (SM.tr (SM.tr (SM.rf S) (sf_X10_isNoJoiner hx_1)) (sf_X10_refuse hx_4)))) (sf_X10_bookAll hx_7)); cases h; exact hz
    · have h := (if_neg q_15).symm.trans h
      have hz : SM S x_4.2 := (SM.tr (SM.tr (SM.rf S) (sf_X10_isNoJoiner hx_1)) (sf_X10_refuse hx_4)); cases h; exact hz
  · have h := (if_neg q_13).symm.trans h
    have hz : SM S x_1.2 := (SM.tr (SM.rf S) (sf_X10_isNoJoiner hx_1)); cases h; exact hz

set_option maxHeartbeats 1000000 in
set_option maxRecDepth 100000 in
theorem ct_X10_leave {l : Launch} {D : va_G} {cI cG cJ cO : ClassId} {K0 : Nat → Nat} {A : Nat → Prop} {L : List (Nat × Nat)} {ad : Nat → Nat → Nat} {ce : Nat → Nat → va_E} {cp : Nat → Nat} {S : (Nat → Nat → Nat → Int32)} (hR : MR S L cp) (hI : CI S) (hT : TL 61 L) {p1 : Int32} {v : Int32 × (Nat → Nat → Nat → Int32)} (hE : sp_X10_leave S p1 = some v) (sz : Nat) (hA : ∀ q, sz ≤ q → A q) : Met l yX10_leave bw_X10_leave (rm_X10_leave) (kP D (ktys cI cG cJ cO) K0 A L ad (mK cI cO K0 ad cp ce S) sz [.ref (ad 30 0), .int p1]) (kQi D A v.1 L ad (mK cI cO K0 ad cp ce v.2)) 161 644 A := by
  refine Met.ofW (cc := cX10_leave) (maxL := 4) (ret := (some .int)) (by decide) rfl ?_
  intro p e s m args below meth c s₁ B hml hv_
  obtain ⟨hav, hsz, hP, hD, hK, hO⟩ := hv_
  have hx := B.exec
  have hb := B.bytes
  have hr := B.returns
  have hts : ∀ w ∈ BIG, w.before args s = true := fun w h => atoms_spec (ws := bw_X10_leave) B.pre w (List.mem_cons_of_mem _ h)
  have hown : s.vm.findClass RX10 = some m.cls := findClass_of_methodNamed B.named
  have hlocks := B.notSynchronized
  subst hsz
  have hw := wk.start hP hD
  refine k_start (by rfl) hav (Nat.le_of_ble_eq_true rfl) (fun ls hl => ?_)
  have hl : lv_has ls 4 [(0, .ref (ad 30 0)), (1, .int p1)] := hl
  unfold sp_X10_leave at hE
  refine lv_aload_n hx hb dX10_leave_0 rfl (lv_at hl 0 rfl) ?_
  refine lv_iload_n hx hb dX10_leave_1 rfl (lv_at hl 1 rfl) ?_
  obtain ⟨x_1, hx_1, hE⟩ := ob1 hE
  refine k_ci0 hw (k_rV (f := 30) (o := 0) (As := [.int p1]) (rest := []) ⟨hx, hb, hml, hown, hts⟩ hK hO hw (ct_X10_isNoJoiner (MR.sm (SM.rf S) hR) (SM.ci (SM.rf S) hI) hx_1 _ (wk.hA hw hA)) (cwV 1 hts (gB_V w_ml_X10_250 w_im_X10_isNoJoiner w_se_X10_isNoJoiner w_in_X10 w_co_X10_isNoJoiner) rfl rfl rfl (by decide +kernel) ⟨Nat.le_of_ble_eq_true rfl, Nat.le_of_ble_eq_true rfl⟩) (hR.1 30 (by decide) (by decide)) mke_30 rfl rfl hl.1 rfl (Nat.le_of_ble_eq_true rfl) dX10_leave_2 ⟨(Nat.le_of_ble_eq_true rfl), (Nat.le_of_ble_eq_true rfl)⟩) (fun H locs hw => ?_)
  refine lv_if_ne (tgt := 30) hx hb dX10_leave_5 (by decide) (fun c_2 => ?_) (fun c_2 => ?_)
  · have hE := (if_neg c_2).symm.trans hE
    refine lv_iconst (v := 0) hx hb dX10_leave_30 (by decide) ?_
    exact m_iretE hx hb hr hlocks rfl hw hE (Nat.le_of_ble_eq_true rfl) (Nat.le_of_ble_eq_true rfl) dX10_leave_31
  · have hE := (if_pos c_2).symm.trans hE
    refine lv_aload_n hx hb dX10_leave_8 rfl (lv_at hl 0 rfl) ?_
    refine lv_aload_n hx hb dX10_leave_9 rfl (lv_at hl 0 rfl) ?_
    refine k_get (C := RX10) (T := TX10) (N := 9) (v := .ref (ad 35 0)) hx hb hts inB_X10 hown hK hw (hR.1 30 (by decide) (by decide)) mke_30 rfl 7 (by decide) (hts _ w_f_X10_32) (fun _ h9 => h9) rfl dX10_leave_10 ?_
    refine lv_iload_n hx hb dX10_leave_13 rfl (lv_at hl 1 rfl) ?_
    by_cases c_3 : p1 < 0 ∨ (S 0 0 0).toNatClampNeg ≤ p1.toNatClampNeg
    · exact nomatch (if_pos c_3).symm.trans hE
    have hE := (if_neg c_3).symm.trans hE
    refine k_cr0 (v := (ad 46 p1.toNatClampNeg)) hw (k_rV (f := 35) (o := 0) (As := [.int p1]) (rest := [.ref (ad 30 0)]) ⟨hx, hb, hml, hown, hts⟩ hK hO hw (ct_get_4 (SM.tr (SM.rf S) (sf_X10_isNoJoiner hx_1)) hR (i := p1.toNatClampNeg) (fun z => c_3 (Or.inl z)) rfl (Nat.not_le.mp fun z => c_3 (Or.inr z)) _ (wk.hA hw hA)) (cwV 1 hts (gB_V w_ml_X10_51 w_im_Jx4a65c_get_915e3 w_se_Jx4a65c_get_915e3 w_in_Jx4a65c w_co_Jx4a65c_get_915e3) rfl rfl rfl (by decide +kernel) ⟨Nat.le_of_ble_eq_true rfl, Nat.le_of_ble_eq_true rfl⟩) (hR.1 35 (by decide) (by decide)) (ce_l4 (SM.tr (SM.rf S) (sf_X10_isNoJoiner hx_1))) rfl rfl hl.1 rfl (Nat.le_of_ble_eq_true rfl) dX10_leave_14 ⟨(Nat.le_of_ble_eq_true rfl), (Nat.le_of_ble_eq_true rfl)⟩) (fun H locs hw => ?_)
    refine k_cast (f := 46) (o := p1.toNatClampNeg) hx hb hown (hts _ w_cl_X10_64) hK hw (hR.2.2.2.2.2.2.2 46 _ (by decide) (by decide) (Nat.not_le.mp fun z => c_3 (Or.inr z))) mke_46 rfl dX10_leave_17 ?_
    refine k_get (C := RX6) (T := TX6) (N := 8) (v := .int (x_1.2 6 p1.toNatClampNeg 2)) hx hb hts inB_X6 hown hK hw (hR.2.2.2.2.2.2.2 46 _ (by decide) (by decide) (Nat.not_le.mp fun z => c_3 (Or.inr z))) mke_46 rfl 7 (by decide) (hts _ w_f_X10_140) (fun _ h9 => h9) rfl dX10_leave_20 ?_
    refine lv_iconst (v := 2) hx hb dX10_leave_23 (by decide) ?_
    obtain ⟨x_4, hx_4, hE⟩ := ob1 hE
    refine k_ci0 hw (k_rV (f := 30) (o := 0) (As := [.int (x_1.2 6 p1.toNatClampNeg 2), .int 2]) (rest := []) ⟨hx, hb, hml, hown, hts⟩ hK hO hw (ct_X10_refuse (MR.sm (SM.tr (SM.rf S) (sf_X10_isNoJoiner hx_1)) hR) (SM.ci (SM.tr (SM.rf S) (sf_X10_isNoJoiner hx_1)) hI) hx_4 _ (wk.hA hw hA)) (cwV 2 hts (gB_V w_ml_X10_39 w_im_X10_refuse w_se_X10_refuse w_in_X10 w_co_X10_refuse) rfl rfl rfl (by decide +kernel) ⟨Nat.le_of_ble_eq_true rfl, Nat.le_of_ble_eq_true rfl⟩) (hR.1 30 (by decide) (by decide)) mke_30 rfl rfl hl.1 rfl (Nat.le_of_ble_eq_true rfl) dX10_leave_24 ⟨(Nat.le_of_ble_eq_true rfl), (Nat.le_of_ble_eq_true rfl)⟩) (fun H locs hw => ?_)
    refine lv_if_eq (tgt := 32) hx hb dX10_leave_27 (by decide) (fun c_5 => ?_) (fun c_5 => ?_)
    · have hE := (if_pos c_5).symm.trans hE
      refine lv_aload_n hx hb dX10_leave_32 rfl (lv_at hl 0 rfl) ?_
      refine k_get (C := RX10) (T := TX10) (N := 9) (v := .ref (ad 35 0)) hx hb hts inB_X10 hown hK hw (hR.1 30 (by decide) (by decide)) mke_30 rfl 7 (by decide) (hts _ w_f_X10_32) (fun _ h9 => h9) rfl dX10_leave_33 ?_
      refine lv_iload_n hx hb dX10_leave_36 rfl (lv_at hl 1 rfl) ?_
      refine k_cr0 (v := (ad 46 p1.toNatClampNeg)) hw (k_rV (f := 35) (o := 0) (As := [.int p1]) (rest := []) ⟨hx, hb, hml, hown, hts⟩ hK hO hw (ct_get_4 (SM.tr (SM.tr (SM.rf S) (sf_X10_isNoJoiner hx_1)) (sf_X10_refuse hx_4)) hR (i := p1.toNatClampNeg) (fun z => c_3 (Or.inl z)) rfl (Nat.not_le.mp fun z => c_3 (Or.inr z)) _ (wk.hA hw hA)) (cwV 1 hts (gB_V w_ml_X10_51 w_im_Jx4a65c_get_915e3 w_se_Jx4a65c_get_915e3 w_in_Jx4a65c w_co_Jx4a65c_get_915e3) rfl rfl rfl (by decide +kernel) ⟨Nat.le_of_ble_eq_true rfl, Nat.le_of_ble_eq_true rfl⟩) (hR.1 35 (by decide) (by decide)) (ce_l4 (SM.tr (SM.tr (SM.rf S) (sf_X10_isNoJoiner hx_1)) (sf_X10_refuse hx_4))) rfl rfl hl.1 rfl (Nat.le_of_ble_eq_true rfl) dX10_leave_37 ⟨(Nat.le_of_ble_eq_true rfl), (Nat.le_of_ble_eq_true rfl)⟩) (fun H locs hw => ?_)
      refine k_cast (f := 46) (o := p1.toNatClampNeg) hx hb hown (hts _ w_cl_X10_64) hK hw (hR.2.2.2.2.2.2.2 46 _ (by decide) (by decide) (Nat.not_le.mp fun z => c_3 (Or.inr z))) mke_46 rfl dX10_leave_40 ?_
      refine lv_astore_n (lv' := [(2, .ref (ad 46 p1.toNatClampNeg)), (0, .ref (ad 30 0)), (1, .int p1)]) hx hb dX10_leave_43 rfl hl (by decide) rfl (fun ls hl => ?_)
      refine lv_aload_n hx hb dX10_leave_44 rfl (lv_at hl 0 rfl) ?_
      refine lv_iconst (v := 1) hx hb dX10_leave_45 (by decide) ?_
      refine k_put (C := RX6) (T := TX6) (N := 8) (v := .int 1) (ty := .boolean) hx hb hts inB_X6 tyX6 tyX6_ok nmX6 hown hK hw (hR.2.2.2.2.2.2.2 46 _ (by decide) (by decide) (Nat.not_le.mp fun z => c_3 (Or.inr z))) mke_46 rfl 7 (by decide) (hts _ w_f_X10_140) (fun _ h9 => h9) rfl (by decide +kernel) rfl rfl (Nat.le_of_ble_eq_true rfl) (mK_left (o := p1.toNatClampNeg) (v := 1) mcx_left) dX10_leave_46 (fun H locs hw => ?_)
      refine lv_iconst (v := 0) hx hb dX10_leave_49 (by decide) ?_
      refine lv_istore_n (lv' := [(3, .int 0), (2, .ref (ad 46 p1.toNatClampNeg)), (0, .ref (ad 30 0)), (1, .int p1)]) hx hb dX10_leave_50 rfl hl (by decide) rfl (fun ls hl => ?_)
      obtain ⟨Z_6, hL_51, hE⟩ := ob1 hE
      have key_51 : ∀ (k i : Nat) (Sx : (Nat → Nat → Nat → Int32)) (H : Heap) (locs : List Loc) (ls : Array Slot), i + k = 12 → SM S Sx → lp_X10_leave_51 S p1 x_1 x_4 k i Sx = some (Z_6) → wk D A (L) ad (mK cI cO K0 ad cp ce Sx) s.heap H locs → lv_has ls 4 [(0, .ref (ad 30 0)), (2, .ref (ad 46 p1.toNatClampNeg)), (3, .int (nI i))] → W p l e (headSpec bw_X10_leave (rm_X10_leave)).room s m args below meth c H locs 0 0 (MQ below (kQi D A v.1 L ad (mK cI cO K0 ad cp ce v.2)) args s 161 644 A) (F0 m 51 ls []) := by
        intro k
        induction k with
        | zero =>
          intro i Sx H locs ls hk hsm hV hw hl
          have hV := (lz_lp_X10_leave_51 S p1 x_1 x_4 i Sx).symm.trans hV
          obtain rfl := (Option.some.inj hV).symm
          refine lv_iload_n hx hb dX10_leave_51 rfl (lv_at hl 2 rfl) ?_
          refine lv_bipush (v := 12) hx hb dX10_leave_52 (by decide) ?_
          refine lv_icmp_ge (tgt := 79) hx hb dX10_leave_54 (by decide) (fun _ => ?_) (fun h => absurd (lp_o rfl hk (by decide)) h)
          refine lv_aload_n hx hb dX10_leave_79 rfl (lv_at hl 0 rfl) ?_
          obtain ⟨x_7, hx_7, hE⟩ := ob1 hE
          refine k_cv hw (k_rV (f := 30) (o := 0) (As := []) (rest := []) ⟨hx, hb, hml, hown, hts⟩ hK hO hw (ct_X10_bookAll (MR.sm hsm hR) (SM.ci hsm hI) (TL.le hT (by decide)) hx_7 _ (wk.hA hw hA)) (cwV 0 hts (gB_V w_ml_X10_201 w_im_X10_bookAll w_se_X10_bookAll w_in_X10 w_co_X10_bookAll) rfl rfl rfl (by decide +kernel) ⟨Nat.le_of_ble_eq_true rfl, Nat.le_of_ble_eq_true rfl⟩) (hR.1 30 (by decide) (by decide)) mke_30 rfl rfl hl.1 rfl (Nat.le_of_ble_eq_true rfl) dX10_leave_80 ⟨(Nat.le_of_ble_eq_true rfl), (Nat.le_of_ble_eq_true rfl)⟩) (fun H locs hw => ?_)
          refine lv_aload_n hx hb dX10_leave_83 rfl (lv_at hl 1 rfl) ?_
          refine lv_iconst (v := 1) hx hb dX10_leave_84 (by decide) ?_
          obtain ⟨x_8, hx_8, hE⟩ := ob1 hE
          refine k_ci0 hw (k_rV (f := 46) (o := p1.toNatClampNeg) (As := [.int 1]) (rest := []) ⟨hx, hb, hml, hown, hts⟩ hK hO hw (ct_X6_in (MR.sm (SM.tr hsm (sf_X10_bookAll hx_7)) hR) (SM.ci (SM.tr hsm (sf_X10_bookAll hx_7)) hI) (by rw [SM.c4 (SM.tr hsm (sf_X10_bookAll hx_7))]; exact (Nat.not_le.mp fun z => c_3 (Or.inr z))) hx_8 _ (wk.hA hw hA)) (cwV 1 hts (gB_V w_ml_X10_253 w_im_X6_in w_se_X6_in w_in_X6 w_co_X6_in) rfl rfl rfl (by decide +kernel) ⟨Nat.le_of_ble_eq_true rfl, Nat.le_of_ble_eq_true rfl⟩) (hR.2.2.2.2.2.2.2 46 _ (by decide) (by decide) (Nat.not_le.mp fun z => c_3 (Or.inr z))) mke_46 rfl rfl hl.1 rfl (Nat.le_of_ble_eq_true rfl) dX10_leave_85 ⟨(Nat.le_of_ble_eq_true rfl), (Nat.le_of_ble_eq_true rfl)⟩) (fun H locs hw => ?_)
          refine lv_aload_n hx hb dX10_leave_88 rfl (lv_at hl 1 rfl) ?_
          refine lv_iconst (v := 2) hx hb dX10_leave_89 (by decide) ?_
          obtain ⟨x_9, hx_9, hE⟩ := ob1 hE
          refine k_ci0 hw (k_rV (f := 46) (o := p1.toNatClampNeg) (As := [.int 2]) (rest := [.int x_8]) ⟨hx, hb, hml, hown, hts⟩ hK hO hw (ct_X6_in (MR.sm (SM.tr hsm (sf_X10_bookAll hx_7)) hR) (SM.ci (SM.tr hsm (sf_X10_bookAll hx_7)) hI) (by rw [SM.c4 (SM.tr hsm (sf_X10_bookAll hx_7))]; exact (Nat.not_le.mp fun z => c_3 (Or.inr z))) hx_9 _ (wk.hA hw hA)) (cwV 1 hts (gB_V w_ml_X10_253 w_im_X6_in w_se_X6_in w_in_X6 w_co_X6_in) rfl rfl rfl (by decide +kernel) ⟨Nat.le_of_ble_eq_true rfl, Nat.le_of_ble_eq_true rfl⟩) (hR.2.2.2.2.2.2.2 46 _ (by decide) (by decide) (Nat.not_le.mp fun z => c_3 (Or.inr z))) mke_46 rfl rfl hl.1 rfl (Nat.le_of_ble_eq_true rfl) dX10_leave_90 ⟨(Nat.le_of_ble_eq_true rfl), (Nat.le_of_ble_eq_true rfl)⟩) (fun H locs hw => ?_)
          refine lv_iadd hx hb dX10_leave_93 ?_
          exact m_iretE hx hb hr hlocks rfl hw hE (Nat.le_of_ble_eq_true rfl) (Nat.le_of_ble_eq_true rfl) dX10_leave_94
        | succ k ih =>
          intro i Sx H locs ls hk hsm hV hw hl
          have hV := (ls_lp_X10_leave_51 S p1 x_1 x_4 k i Sx).symm.trans hV
          have hE := hV
          refine lv_iload_n hx hb dX10_leave_51 rfl (lv_at hl 2 rfl) ?_
          refine lv_bipush (v := 12) hx hb dX10_leave_52 (by decide) ?_
          refine lv_icmp_ge (tgt := 79) hx hb dX10_leave_54 (by decide) (fun h => absurd h (lp_i rfl hk (by decide))) (fun _ => ?_)
          refine lv_aload_n hx hb dX10_leave_57 rfl (lv_at hl 1 rfl) ?_
          refine lv_iload_n hx hb dX10_leave_58 rfl (lv_at hl 2 rfl) ?_
          refine lv_iconst (v := 0) hx hb dX10_leave_59 (by decide) ?_
          obtain ⟨x_10, hx_10, hE⟩ := ob1 hE
          refine k_ci0 hw (k_rV (f := 46) (o := p1.toNatClampNeg) (As := [.int (nI i), .int 0]) (rest := []) ⟨hx, hb, hml, hown, hts⟩ hK hO hw (ct_X6_is (MR.sm hsm hR) (SM.ci hsm hI) (by rw [SM.c4 hsm]; exact (Nat.not_le.mp fun z => c_3 (Or.inr z))) hx_10 _ (wk.hA hw hA)) (cwV 2 hts (gB_V w_ml_X10_63 w_im_X6_is w_se_X6_is w_in_X6 w_co_X6_is) rfl rfl rfl (by decide +kernel) ⟨Nat.le_of_ble_eq_true rfl, Nat.le_of_ble_eq_true rfl⟩) (hR.2.2.2.2.2.2.2 46 _ (by decide) (by decide) (Nat.not_le.mp fun z => c_3 (Or.inr z))) mke_46 rfl rfl hl.1 rfl (Nat.le_of_ble_eq_true rfl) dX10_leave_60 ⟨(Nat.le_of_ble_eq_true rfl), (Nat.le_of_ble_eq_true rfl)⟩) (fun H locs hw => ?_)
          refine lv_if_eq (tgt := 73) hx hb dX10_leave_63 (by decide) (fun c_11 => ?_) (fun c_11 => ?_)
          · have hE := (if_pos c_11).symm.trans hE
            refine lv_iinc (v := (nI (i + 1))) (lv' := [(3, .int (nI (i + 1))), (0, .ref (ad 30 0)), (2, .ref (ad 46 p1.toNatClampNeg))]) hx hb dX10_leave_73 hl (k := 2) rfl (nI_1 _) (by decide) rfl (fun ls hl => ?_)
            refine lv_goto (tgt := 51) hx hb dX10_leave_76 (by decide) ?_
            exact ih (i + 1) Sx _ _ _ (lp_s hk) hsm hE hw (lv_sub hl [1, 2, 0] rfl)
          · have hE := (if_neg c_11).symm.trans hE
            refine lv_aload_n hx hb dX10_leave_66 rfl (lv_at hl 1 rfl) ?_
            refine k_get (C := RX6) (T := TX6) (N := 8) (v := .ref (ad 50 p1.toNatClampNeg)) hx hb hts inB_X6 hown hK hw (hR.2.2.2.2.2.2.2 46 _ (by decide) (by decide) (Nat.not_le.mp fun z => c_3 (Or.inr z))) mke_46 rfl 5 (by decide) (hts _ w_f_X10_126) (fun _ h9 => h9) rfl dX10_leave_67 ?_
            refine lv_iload_n hx hb dX10_leave_70 rfl (lv_at hl 2 rfl) ?_
            refine lv_iconst (v := (-1)) hx hb dX10_leave_71 (by decide) ?_
            refine k_asti hx hb hK hw (hR.2.2.2.2.2.2.2 50 _ (by decide) (by decide) (Nat.not_le.mp fun z => c_3 (Or.inr z))) 0 mke_50 rfl (nI_nlt (a := i) (b := 0) (Nat.zero_le _) (Nat.lt_trans (show i < 12 from (lp_l hk)) (by decide))) (nI_clamp (Nat.lt_trans (show i < 12 from (lp_l hk)) (by decide))) (show i < 12 from (lp_l hk)) (mK_a50 (i := i) (v := (-1)) mcx_a50) dX10_leave_72 (fun H locs hw => ?_)
            refine lv_iinc (v := (nI (i + 1))) (lv' := [(3, .int (nI (i + 1))), (0, .ref (ad 30 0)), (2, .ref (ad 46 p1.toNatClampNeg))]) hx hb dX10_leave_73 hl (k := 2) rfl (nI_1 _) (by decide) rfl (fun ls hl => ?_)
            refine lv_goto (tgt := 51) hx hb dX10_leave_76 (by decide) ?_
            exact ih (i + 1) (up3 Sx 27 p1.toNatClampNeg i (-1)) _ _ _ (lp_s hk) (SM.up rfl (by decide) hsm) hE hw (lv_sub hl [1, 2, 0] rfl)
      exact key_51 12 0 (up3 x_4.2 6 p1.toNatClampNeg 2 1) _ _ _ (Nat.zero_add _) (SM.up rfl (by decide) (SM.tr (SM.tr (SM.rf S) (sf_X10_isNoJoiner hx_1)) (sf_X10_refuse hx_4))) hL_51 hw (lv_sub hl [2, 1, 0] rfl)
    · have hE := (if_neg c_5).symm.trans hE
      refine lv_iconst (v := 0) hx hb dX10_leave_30 (by decide) ?_
      exact m_iretE hx hb hr hlocks rfl hw hE (Nat.le_of_ble_eq_true rfl) (Nat.le_of_ble_eq_true rfl) dX10_leave_31

abbrev bw_X10_ofStepNow : List Cond := .code yX10_ofStepNow cX10_ofStepNow 4 (some .int) :: BIG
abbrev rm_X10_ofStepNow : Room := { frames := 38, cells := 0, slots := 0, locals := 2123 }
noncomputable def sp_X10_ofStepNow (S : (Nat → Nat → Nat → Int32)) (j : Nat) (p2 : Int32) (p3 : Int32) : Option (Int32) := if p3 = 0 then (if p2 < 0 ∨ 12 ≤ p2.toNatClampNeg then none else (some (S 24 j p2.toNatClampNeg))) else (if p3 = 1 then (if S 6 j 2 = 0 then ((sp_X10_expd S j p2).bind fun x_5 => (some (x_5))) else (some ((-1)))) else (if p3 = 2 then (if S 6 j 2 = 0 then ((sp_X10_endd S j p2).bind fun x_8 => (some (x_8))) else (some ((-1)))) else (if p3 = 3 then (if p2 < 0 ∨ 12 ≤ p2.toNatClampNeg then none else (some (S 27 j p2.toNatClampNeg))) else (if p3 = 4 then ((sp_X10_length S j p2).bind fun x_12 => (some (x_12))) else (if p2 < 0 ∨ 12 ≤ p2.toNatClampNeg then none else (some (S 28 j p2.toNatClampNeg)))))))
set_option maxHeartbeats 1000000 in
set_option maxRecDepth 100000 in
theorem ct_X10_ofStepNow {l : Launch} {D : va_G} {cI cG cJ cO : ClassId} {K0 : Nat → Nat} {A : Nat → Prop} {L : List (Nat × Nat)} {ad : Nat → Nat → Nat} {ce : Nat → Nat → va_E} {cp : Nat → Nat} {S : (Nat → Nat → Nat → Int32)} (hR : MR S L cp) (hI : CI S) {j : Nat} {p2 : Int32} {p3 : Int32} (hj : j < (S 0 0 0).toNatClampNeg) {v : Int32} (hE : sp_X10_ofStepNow S j p2 p3 = some v) (sz : Nat) (hA : ∀ q, sz ≤ q → A q) : Met l yX10_ofStepNow bw_X10_ofStepNow (rm_X10_ofStepNow) (kP D (ktys cI cG cJ cO) K0 A L ad (mK cI cO K0 ad cp ce S) sz [.ref (ad 30 0), .ref (ad 46 j), .int p2, .int p3]) (kQi D A v L ad (mK cI cO K0 ad cp ce S)) 0 0 A := by
  refine Met.ofW (cc := cX10_ofStepNow) (maxL := 4) (ret := (some .int)) (by decide) rfl ?_
  intro p e s m args below meth c s₁ B hml hv_
  obtain ⟨hav, hsz, hP, hD, hK, hO⟩ := hv_
  have hx := B.exec
  have hb := B.bytes
  have hr := B.returns
  have hts : ∀ w ∈ BIG, w.before args s = true := fun w h => atoms_spec (ws := bw_X10_ofStepNow) B.pre w (List.mem_cons_of_mem _ h)
  have hown : s.vm.findClass RX10 = some m.cls := findClass_of_methodNamed B.named
  have hlocks := B.notSynchronized
  subst hsz
  have hw := wk.start hP hD
  refine k_start (by rfl) hav (Nat.le_of_ble_eq_true rfl) (fun ls hl => ?_)
  have hl : lv_has ls 4 [(0, .ref (ad 30 0)), (1, .ref (ad 46 j)), (2, .int p2), (3, .int p3)] := hl
  unfold sp_X10_ofStepNow at hE
  refine lv_iload_n hx hb dX10_ofStepNow_0 rfl (lv_at hl 3 rfl) ?_
  by_cases c_1 : p3 = 0
  · have hE := (if_pos c_1).symm.trans hE
    refine lv_tableIn (off := 35) (tgt := 36) hx hb dX10_ofStepNow_1 (by rw [c_1]; decide) (by rw [c_1]; decide) (by rw [c_1]; rfl) (by decide) ?_
    refine lv_aload_n hx hb dX10_ofStepNow_36 rfl (lv_at hl 1 rfl) ?_
    refine k_get (C := RX6) (T := TX6) (N := 8) (v := .ref (ad 47 j)) hx hb hts inB_X6 hown hK hw (hR.2.2.2.2.2.2.2 46 _ (by decide) (by decide) hj) mke_46 rfl 2 (by decide) (hts _ w_f_X10_75) (fun _ h9 => h9) rfl dX10_ofStepNow_37 ?_
    refine lv_iload_n hx hb dX10_ofStepNow_40 rfl (lv_at hl 2 rfl) ?_
    by_cases c_2 : p2 < 0 ∨ 12 ≤ p2.toNatClampNeg
    · exact nomatch (if_pos c_2).symm.trans hE
    have hE := (if_neg c_2).symm.trans hE
    refine k_aldi hx hb hK hw (hR.2.2.2.2.2.2.2 47 _ (by decide) (by decide) hj) 0 mke_47 rfl (fun z => c_2 (Or.inl z)) rfl (Nat.not_le.mp fun z => c_2 (Or.inr z)) (v := S 24 j p2.toNatClampNeg) rfl dX10_ofStepNow_41 ?_
    exact m_iret hx hb hr hlocks rfl hw hE (Nat.le_of_ble_eq_true rfl) (Nat.le_of_ble_eq_true rfl) dX10_ofStepNow_42
  · have hE := (if_neg c_1).symm.trans hE
    by_cases c_3 : p3 = 1
    · have hE := (if_pos c_3).symm.trans hE
      refine lv_tableIn (off := 42) (tgt := 43) hx hb dX10_ofStepNow_1 (by rw [c_3]; decide) (by rw [c_3]; decide) (by rw [c_3]; rfl) (by decide) ?_
      refine lv_aload_n hx hb dX10_ofStepNow_43 rfl (lv_at hl 1 rfl) ?_
      refine k_get (C := RX6) (T := TX6) (N := 8) (v := .int (S 6 j 2)) hx hb hts inB_X6 hown hK hw (hR.2.2.2.2.2.2.2 46 _ (by decide) (by decide) hj) mke_46 rfl 7 (by decide) (hts _ w_f_X10_140) (fun _ h9 => h9) rfl dX10_ofStepNow_44 ?_
      refine lv_if_eq (tgt := 54) hx hb dX10_ofStepNow_47 (by decide) (fun c_4 => ?_) (fun c_4 => ?_)
      · have hE := (if_pos c_4).symm.trans hE
        refine lv_aload_n hx hb dX10_ofStepNow_54 rfl (lv_at hl 0 rfl) ?_
        refine lv_aload_n hx hb dX10_ofStepNow_55 rfl (lv_at hl 1 rfl) ?_
        refine lv_iload_n hx hb dX10_ofStepNow_56 rfl (lv_at hl 2 rfl) ?_
        obtain ⟨x_5, hx_5, hE⟩ := ob1 hE
        refine k_ci0 hw (k_rV (f := 30) (o := 0) (As := [.ref (ad 46 j), .int p2]) (rest := []) ⟨hx, hb, hml, hown, hts⟩ hK hO hw (ct_X10_expd (MR.sm (SM.rf S) hR) (SM.ci (SM.rf S) hI) (by rw [SM.c4 (SM.rf S)]; exact hj) hx_5 _ (wk.hA hw hA)) (cwV 2 hts (gB_V w_ml_X10_135 w_im_X10_expected w_se_X10_expected w_in_X10 w_co_X10_expected) rfl rfl rfl (by decide +kernel) ⟨Nat.le_of_ble_eq_true rfl, Nat.le_of_ble_eq_true rfl⟩) (hR.1 30 (by decide) (by decide)) mke_30 rfl rfl hl.1 rfl (Nat.le_of_ble_eq_true rfl) dX10_ofStepNow_57 ⟨(Nat.le_of_ble_eq_true rfl), (Nat.le_of_ble_eq_true rfl)⟩) (fun H locs hw => ?_)
        exact m_iret hx hb hr hlocks rfl hw hE (Nat.le_of_ble_eq_true rfl) (Nat.le_of_ble_eq_true rfl) dX10_ofStepNow_60
      · have hE := (if_neg c_4).symm.trans hE
        refine lv_iconst (v := (-1)) hx hb dX10_ofStepNow_50 (by decide) ?_
        refine lv_goto (tgt := 60) hx hb dX10_ofStepNow_51 (by decide) ?_
        exact m_iret hx hb hr hlocks rfl hw hE (Nat.le_of_ble_eq_true rfl) (Nat.le_of_ble_eq_true rfl) dX10_ofStepNow_60
    · have hE := (if_neg c_3).symm.trans hE
      by_cases c_6 : p3 = 2
      · have hE := (if_pos c_6).symm.trans hE
        refine lv_tableIn (off := 60) (tgt := 61) hx hb dX10_ofStepNow_1 (by rw [c_6]; decide) (by rw [c_6]; decide) (by rw [c_6]; rfl) (by decide) ?_
        refine lv_aload_n hx hb dX10_ofStepNow_61 rfl (lv_at hl 1 rfl) ?_
        refine k_get (C := RX6) (T := TX6) (N := 8) (v := .int (S 6 j 2)) hx hb hts inB_X6 hown hK hw (hR.2.2.2.2.2.2.2 46 _ (by decide) (by decide) hj) mke_46 rfl 7 (by decide) (hts _ w_f_X10_140) (fun _ h9 => h9) rfl dX10_ofStepNow_62 ?_
        refine lv_if_eq (tgt := 72) hx hb dX10_ofStepNow_65 (by decide) (fun c_7 => ?_) (fun c_7 => ?_)
        · have hE := (if_pos c_7).symm.trans hE
          refine lv_aload_n hx hb dX10_ofStepNow_72 rfl (lv_at hl 0 rfl) ?_
          refine lv_aload_n hx hb dX10_ofStepNow_73 rfl (lv_at hl 1 rfl) ?_
          refine lv_iload_n hx hb dX10_ofStepNow_74 rfl (lv_at hl 2 rfl) ?_
          obtain ⟨x_8, hx_8, hE⟩ := ob1 hE
          refine k_ci0 hw (k_rV (f := 30) (o := 0) (As := [.ref (ad 46 j), .int p2]) (rest := []) ⟨hx, hb, hml, hown, hts⟩ hK hO hw (ct_X10_endd (MR.sm (SM.rf S) hR) (SM.ci (SM.rf S) hI) (by rw [SM.c4 (SM.rf S)]; exact hj) hx_8 _ (wk.hA hw hA)) (cwV 2 hts (gB_V w_ml_X10_123 w_im_X10_end w_se_X10_end w_in_X10 w_co_X10_end) rfl rfl rfl (by decide +kernel) ⟨Nat.le_of_ble_eq_true rfl, Nat.le_of_ble_eq_true rfl⟩) (hR.1 30 (by decide) (by decide)) mke_30 rfl rfl hl.1 rfl (Nat.le_of_ble_eq_true rfl) dX10_ofStepNow_75 ⟨(Nat.le_of_ble_eq_true rfl), (Nat.le_of_ble_eq_true rfl)⟩) (fun H locs hw => ?_)
          exact m_iret hx hb hr hlocks rfl hw hE (Nat.le_of_ble_eq_true rfl) (Nat.le_of_ble_eq_true rfl) dX10_ofStepNow_78
        · have hE := (if_neg c_7).symm.trans hE
          refine lv_iconst (v := (-1)) hx hb dX10_ofStepNow_68 (by decide) ?_
          refine lv_goto (tgt := 78) hx hb dX10_ofStepNow_69 (by decide) ?_
          exact m_iret hx hb hr hlocks rfl hw hE (Nat.le_of_ble_eq_true rfl) (Nat.le_of_ble_eq_true rfl) dX10_ofStepNow_78
      · have hE := (if_neg c_6).symm.trans hE
        by_cases c_9 : p3 = 3
        · have hE := (if_pos c_9).symm.trans hE
          refine lv_tableIn (off := 78) (tgt := 79) hx hb dX10_ofStepNow_1 (by rw [c_9]; decide) (by rw [c_9]; decide) (by rw [c_9]; rfl) (by decide) ?_
          refine lv_aload_n hx hb dX10_ofStepNow_79 rfl (lv_at hl 1 rfl) ?_
          refine k_get (C := RX6) (T := TX6) (N := 8) (v := .ref (ad 50 j)) hx hb hts inB_X6 hown hK hw (hR.2.2.2.2.2.2.2 46 _ (by decide) (by decide) hj) mke_46 rfl 5 (by decide) (hts _ w_f_X10_126) (fun _ h9 => h9) rfl dX10_ofStepNow_80 ?_
          refine lv_iload_n hx hb dX10_ofStepNow_83 rfl (lv_at hl 2 rfl) ?_
          by_cases c_10 : p2 < 0 ∨ 12 ≤ p2.toNatClampNeg
          · exact nomatch (if_pos c_10).symm.trans hE
          have hE := (if_neg c_10).symm.trans hE
          refine k_aldi hx hb hK hw (hR.2.2.2.2.2.2.2 50 _ (by decide) (by decide) hj) 0 mke_50 rfl (fun z => c_10 (Or.inl z)) rfl (Nat.not_le.mp fun z => c_10 (Or.inr z)) (v := S 27 j p2.toNatClampNeg) rfl dX10_ofStepNow_84 ?_
          exact m_iret hx hb hr hlocks rfl hw hE (Nat.le_of_ble_eq_true rfl) (Nat.le_of_ble_eq_true rfl) dX10_ofStepNow_85
        · have hE := (if_neg c_9).symm.trans hE
          by_cases c_11 : p3 = 4
          · have hE := (if_pos c_11).symm.trans hE
            refine lv_tableIn (off := 85) (tgt := 86) hx hb dX10_ofStepNow_1 (by rw [c_11]; decide) (by rw [c_11]; decide) (by rw [c_11]; rfl) (by decide) ?_
            refine lv_aload_n hx hb dX10_ofStepNow_86 rfl (lv_at hl 0 rfl) ?_
            refine lv_aload_n hx hb dX10_ofStepNow_87 rfl (lv_at hl 1 rfl) ?_
            refine lv_iload_n hx hb dX10_ofStepNow_88 rfl (lv_at hl 2 rfl) ?_
            obtain ⟨x_12, hx_12, hE⟩ := ob1 hE
            refine k_ci0 hw (k_rV (f := 30) (o := 0) (As := [.ref (ad 46 j), .int p2]) (rest := []) ⟨hx, hb, hml, hown, hts⟩ hK hO hw (ct_X10_length (MR.sm (SM.rf S) hR) (SM.ci (SM.rf S) hI) (by rw [SM.c4 (SM.rf S)]; exact hj) hx_12 _ (wk.hA hw hA)) (cwV 2 hts (gB_V w_ml_X10_138 w_im_X10_length w_se_X10_length w_in_X10 w_co_X10_length) rfl rfl rfl (by decide +kernel) ⟨Nat.le_of_ble_eq_true rfl, Nat.le_of_ble_eq_true rfl⟩) (hR.1 30 (by decide) (by decide)) mke_30 rfl rfl hl.1 rfl (Nat.le_of_ble_eq_true rfl) dX10_ofStepNow_89 ⟨(Nat.le_of_ble_eq_true rfl), (Nat.le_of_ble_eq_true rfl)⟩) (fun H locs hw => ?_)
            exact m_iret hx hb hr hlocks rfl hw hE (Nat.le_of_ble_eq_true rfl) (Nat.le_of_ble_eq_true rfl) dX10_ofStepNow_92
          · have hE := (if_neg c_11).symm.trans hE
            refine lv_tableOut (tgt := 93) hx hb dX10_ofStepNow_1 (sw_out5 c_1 c_3 c_6 c_9 c_11) (by decide) ?_
            refine lv_aload_n hx hb dX10_ofStepNow_93 rfl (lv_at hl 1 rfl) ?_
            refine k_get (C := RX6) (T := TX6) (N := 8) (v := .ref (ad 51 j)) hx hb hts inB_X6 hown hK hw (hR.2.2.2.2.2.2.2 46 _ (by decide) (by decide) hj) mke_46 rfl 6 (by decide) (hts _ w_f_X10_198) (fun _ h9 => h9) rfl dX10_ofStepNow_94 ?_
            refine lv_iload_n hx hb dX10_ofStepNow_97 rfl (lv_at hl 2 rfl) ?_
            by_cases c_13 : p2 < 0 ∨ 12 ≤ p2.toNatClampNeg
            · exact nomatch (if_pos c_13).symm.trans hE
            have hE := (if_neg c_13).symm.trans hE
            refine k_aldi hx hb hK hw (hR.2.2.2.2.2.2.2 51 _ (by decide) (by decide) hj) 0 mke_51 rfl (fun z => c_13 (Or.inl z)) rfl (Nat.not_le.mp fun z => c_13 (Or.inr z)) (v := S 28 j p2.toNatClampNeg) rfl dX10_ofStepNow_98 ?_
            exact m_iret hx hb hr hlocks rfl hw hE (Nat.le_of_ble_eq_true rfl) (Nat.le_of_ble_eq_true rfl) dX10_ofStepNow_99

abbrev bw_X10_ofStep : List Cond := .code yX10_ofStep cX10_ofStep 4 (some .int) :: BIG
abbrev rm_X10_ofStep : Room := { frames := 39, cells := 0, slots := 0, locals := 2146 }
noncomputable def sp_X10_ofStep (S : (Nat → Nat → Nat → Int32)) (p1 : Int32) (p2 : Int32) (p3 : Int32) : Option (Int32 × (Nat → Nat → Nat → Int32)) := (sp_X10_isNoStep S p1 p2).bind fun x_1 => (if x_1.1 = 0 then ((sp_X10_refuse x_1.2 (if (sp_X10_isFrom p3 0 5) = 0 then 1 else 0) 2).bind fun x_4 => (if x_4.1 = 0 then (if p1 < 0 ∨ (S 0 0 0).toNatClampNeg ≤ p1.toNatClampNeg then none else ((sp_X10_ofStepNow x_4.2 p1.toNatClampNeg p2 p3).bind fun x_7 => (some ((x_7, x_4.2))))) else (some ((0, x_4.2))))) else (some ((0, x_1.2))))
theorem sf_X10_ofStep {S : (Nat → Nat → Nat → Int32)} {p1 : Int32} {p2 : Int32} {p3 : Int32} {v : Int32 × (Nat → Nat → Nat → Int32)} (h : sp_X10_ofStep S p1 p2 p3 = some v) : SM S v.2 := by
  unfold sp_X10_ofStep at h
  obtain ⟨x_1, hx_1, h⟩ := ob1 h
  by_cases q_8 : x_1.1 = 0
  · have h := (if_pos q_8).symm.trans h
    obtain ⟨x_4, hx_4, h⟩ := ob1 h
    by_cases q_9 : x_4.1 = 0
    · have h := (if_pos q_9).symm.trans h
      by_cases q_10 : p1 < 0 ∨ (S 0 0 0).toNatClampNeg ≤ p1.toNatClampNeg
      · exact nomatch (if_pos q_10).symm.trans h
      have h := (if_neg q_10).symm.trans h
      obtain ⟨x_7, hx_7, h⟩ := ob1 h
      have hz : SM S x_4.2 := (SM.tr (SM.tr (SM.rf S) (sf_X10_isNoStep hx_1)) (sf_X10_refuse hx_4)); cases h; exact hz
    · have h := (if_neg q_9).symm.trans h
      have hz : SM S x_4.2 := (SM.tr (SM.tr (SM.rf S) (sf_X10_isNoStep hx_1)) (sf_X10_refuse hx_4)); cases h; exact hz
  · have h := (if_neg q_8).symm.trans h
    have hz : SM S x_1.2 := (SM.tr (SM.rf S) (sf_X10_isNoStep hx_1)); cases h; exact hz

set_option maxHeartbeats 1000000 in
set_option maxRecDepth 100000 in
theorem ct_X10_ofStep {l : Launch} {D : va_G} {cI cG cJ cO : ClassId} {K0 : Nat → Nat} {A : Nat → Prop} {L : List (Nat × Nat)} {ad : Nat → Nat → Nat} {ce : Nat → Nat → va_E} {cp : Nat → Nat} {S : (Nat → Nat → Nat → Int32)} (hR : MR S L cp) (hI : CI S) {p1 : Int32} {p2 : Int32} {p3 : Int32} {v : Int32 × (Nat → Nat → Nat → Int32)} (hE : sp_X10_ofStep S p1 p2 p3 = some v) (sz : Nat) (hA : ∀ q, sz ≤ q → A q) : Met l yX10_ofStep bw_X10_ofStep (rm_X10_ofStep) (kP D (ktys cI cG cJ cO) K0 A L ad (mK cI cO K0 ad cp ce S) sz [.ref (ad 30 0), .int p1, .int p2, .int p3]) (kQi D A v.1 L ad (mK cI cO K0 ad cp ce v.2)) 0 0 A := by
  refine Met.ofW (cc := cX10_ofStep) (maxL := 4) (ret := (some .int)) (by decide) rfl ?_
  intro p e s m args below meth c s₁ B hml hv_
  obtain ⟨hav, hsz, hP, hD, hK, hO⟩ := hv_
  have hx := B.exec
  have hb := B.bytes
  have hr := B.returns
  have hts : ∀ w ∈ BIG, w.before args s = true := fun w h => atoms_spec (ws := bw_X10_ofStep) B.pre w (List.mem_cons_of_mem _ h)
  have hown : s.vm.findClass RX10 = some m.cls := findClass_of_methodNamed B.named
  have hlocks := B.notSynchronized
  subst hsz
  have hw := wk.start hP hD
  refine k_start (by rfl) hav (Nat.le_of_ble_eq_true rfl) (fun ls hl => ?_)
  have hl : lv_has ls 4 [(0, .ref (ad 30 0)), (1, .int p1), (2, .int p2), (3, .int p3)] := hl
  unfold sp_X10_ofStep at hE
  refine lv_aload_n hx hb dX10_ofStep_0 rfl (lv_at hl 0 rfl) ?_
  refine lv_iload_n hx hb dX10_ofStep_1 rfl (lv_at hl 1 rfl) ?_
  refine lv_iload_n hx hb dX10_ofStep_2 rfl (lv_at hl 2 rfl) ?_
  obtain ⟨x_1, hx_1, hE⟩ := ob1 hE
  refine k_ci0 hw (k_rV (f := 30) (o := 0) (As := [.int p1, .int p2]) (rest := []) ⟨hx, hb, hml, hown, hts⟩ hK hO hw (ct_X10_isNoStep (MR.sm (SM.rf S) hR) (SM.ci (SM.rf S) hI) hx_1 _ (wk.hA hw hA)) (cwV 2 hts (gB_V w_ml_X10_259 w_im_X10_isNoStep w_se_X10_isNoStep w_in_X10 w_co_X10_isNoStep) rfl rfl rfl (by decide +kernel) ⟨Nat.le_of_ble_eq_true rfl, Nat.le_of_ble_eq_true rfl⟩) (hR.1 30 (by decide) (by decide)) mke_30 rfl rfl hl.1 rfl (Nat.le_of_ble_eq_true rfl) dX10_ofStep_3 ⟨(Nat.le_of_ble_eq_true rfl), (Nat.le_of_ble_eq_true rfl)⟩) (fun H locs hw => ?_)
  refine lv_if_ne (tgt := 31) hx hb dX10_ofStep_6 (by decide) (fun c_2 => ?_) (fun c_2 => ?_)
  · have hE := (if_neg c_2).symm.trans hE
    refine lv_iconst (v := 0) hx hb dX10_ofStep_31 (by decide) ?_
    refine lv_goto (tgt := 52) hx hb dX10_ofStep_32 (by decide) ?_
    exact m_iretE hx hb hr hlocks rfl hw hE (Nat.le_of_ble_eq_true rfl) (Nat.le_of_ble_eq_true rfl) dX10_ofStep_52
  · have hE := (if_pos c_2).symm.trans hE
    refine lv_aload_n hx hb dX10_ofStep_9 rfl (lv_at hl 0 rfl) ?_
    refine lv_iload_n hx hb dX10_ofStep_10 rfl (lv_at hl 3 rfl) ?_
    refine lv_iconst (v := 0) hx hb dX10_ofStep_11 (by decide) ?_
    refine lv_iconst (v := 5) hx hb dX10_ofStep_12 (by decide) ?_
    refine k_ci0 hw (k_rS (As := [.int p3, .int 0, .int 5]) (rest := [.ref (ad 30 0)]) ⟨hx, hb, hml, hown, hts⟩ hK hO hw (ct_X10_isFrom p3 0 5 _ (wk.hA hw hA)) (va_cwS 3 hts (gB_S w_ml_X10_47 w_st_X10_isFrom w_in_X10 w_co_X10_isFrom) rfl rfl rfl (by decide +kernel) ⟨Nat.le_of_ble_eq_true rfl, Nat.le_of_ble_eq_true rfl⟩) rfl hl.1 rfl (Nat.le_of_ble_eq_true rfl) dX10_ofStep_13 ⟨(Nat.le_of_ble_eq_true rfl), (Nat.le_of_ble_eq_true rfl)⟩) (fun H locs hw => ?_)
    have hjc_3 : ∀ bc_3 : Int32, bc_3 = (if (sp_X10_isFrom p3 0 5) = 0 then 1 else 0) → W p l e (headSpec bw_X10_ofStep (rm_X10_ofStep)).room s m args below meth c H locs 0 0 (MQ below (kQi D A v.1 L ad (mK cI cO K0 ad cp ce v.2)) args s 0 0 A) (F0 m 24 ls [.int bc_3, .ref (ad 30 0)]) := by
      intro bc_3 hbc_3
      subst hbc_3
      refine lv_iconst (v := 2) hx hb dX10_ofStep_24 (by decide) ?_
      obtain ⟨x_4, hx_4, hE⟩ := ob1 hE
      refine k_ci0 hw (k_rV (f := 30) (o := 0) (As := [.int (if (sp_X10_isFrom p3 0 5) = 0 then 1 else 0), .int 2]) (rest := []) ⟨hx, hb, hml, hown, hts⟩ hK hO hw (ct_X10_refuse (MR.sm (SM.tr (SM.rf S) (sf_X10_isNoStep hx_1)) hR) (SM.ci (SM.tr (SM.rf S) (sf_X10_isNoStep hx_1)) hI) hx_4 _ (wk.hA hw hA)) (cwV 2 hts (gB_V w_ml_X10_39 w_im_X10_refuse w_se_X10_refuse w_in_X10 w_co_X10_refuse) rfl rfl rfl (by decide +kernel) ⟨Nat.le_of_ble_eq_true rfl, Nat.le_of_ble_eq_true rfl⟩) (hR.1 30 (by decide) (by decide)) mke_30 rfl rfl hl.1 rfl (Nat.le_of_ble_eq_true rfl) dX10_ofStep_25 ⟨(Nat.le_of_ble_eq_true rfl), (Nat.le_of_ble_eq_true rfl)⟩) (fun H locs hw => ?_)
      refine lv_if_eq (tgt := 35) hx hb dX10_ofStep_28 (by decide) (fun c_5 => ?_) (fun c_5 => ?_)
      · have hE := (if_pos c_5).symm.trans hE
        refine lv_aload_n hx hb dX10_ofStep_35 rfl (lv_at hl 0 rfl) ?_
        refine lv_aload_n hx hb dX10_ofStep_36 rfl (lv_at hl 0 rfl) ?_
        refine k_get (C := RX10) (T := TX10) (N := 9) (v := .ref (ad 35 0)) hx hb hts inB_X10 hown hK hw (hR.1 30 (by decide) (by decide)) mke_30 rfl 7 (by decide) (hts _ w_f_X10_32) (fun _ h9 => h9) rfl dX10_ofStep_37 ?_
        refine lv_iload_n hx hb dX10_ofStep_40 rfl (lv_at hl 1 rfl) ?_
        by_cases c_6 : p1 < 0 ∨ (S 0 0 0).toNatClampNeg ≤ p1.toNatClampNeg
        · exact nomatch (if_pos c_6).symm.trans hE
        have hE := (if_neg c_6).symm.trans hE
        refine k_cr0 (v := (ad 46 p1.toNatClampNeg)) hw (k_rV (f := 35) (o := 0) (As := [.int p1]) (rest := [.ref (ad 30 0)]) ⟨hx, hb, hml, hown, hts⟩ hK hO hw (ct_get_4 (SM.tr (SM.tr (SM.rf S) (sf_X10_isNoStep hx_1)) (sf_X10_refuse hx_4)) hR (i := p1.toNatClampNeg) (fun z => c_6 (Or.inl z)) rfl (Nat.not_le.mp fun z => c_6 (Or.inr z)) _ (wk.hA hw hA)) (cwV 1 hts (gB_V w_ml_X10_51 w_im_Jx4a65c_get_915e3 w_se_Jx4a65c_get_915e3 w_in_Jx4a65c w_co_Jx4a65c_get_915e3) rfl rfl rfl (by decide +kernel) ⟨Nat.le_of_ble_eq_true rfl, Nat.le_of_ble_eq_true rfl⟩) (hR.1 35 (by decide) (by decide)) (ce_l4 (SM.tr (SM.tr (SM.rf S) (sf_X10_isNoStep hx_1)) (sf_X10_refuse hx_4))) rfl rfl hl.1 rfl (Nat.le_of_ble_eq_true rfl) dX10_ofStep_41 ⟨(Nat.le_of_ble_eq_true rfl), (Nat.le_of_ble_eq_true rfl)⟩) (fun H locs hw => ?_)
        refine k_cast (f := 46) (o := p1.toNatClampNeg) hx hb hown (hts _ w_cl_X10_64) hK hw (hR.2.2.2.2.2.2.2 46 _ (by decide) (by decide) (Nat.not_le.mp fun z => c_6 (Or.inr z))) mke_46 rfl dX10_ofStep_44 ?_
        refine lv_iload_n hx hb dX10_ofStep_47 rfl (lv_at hl 2 rfl) ?_
        refine lv_iload_n hx hb dX10_ofStep_48 rfl (lv_at hl 3 rfl) ?_
        obtain ⟨x_7, hx_7, hE⟩ := ob1 hE
        refine k_ci0 hw (k_rV (f := 30) (o := 0) (As := [.ref (ad 46 p1.toNatClampNeg), .int p2, .int p3]) (rest := []) ⟨hx, hb, hml, hown, hts⟩ hK hO hw (ct_X10_ofStepNow (MR.sm (SM.tr (SM.tr (SM.rf S) (sf_X10_isNoStep hx_1)) (sf_X10_refuse hx_4)) hR) (SM.ci (SM.tr (SM.tr (SM.rf S) (sf_X10_isNoStep hx_1)) (sf_X10_refuse hx_4)) hI) (by rw [SM.c4 (SM.tr (SM.tr (SM.rf S) (sf_X10_isNoStep hx_1)) (sf_X10_refuse hx_4))]; exact (Nat.not_le.mp fun z => c_6 (Or.inr z))) hx_7 _ (wk.hA hw hA)) (cwV 3 hts (gB_V w_ml_X10_262 w_im_X10_ofStepNow w_se_X10_ofStepNow w_in_X10 w_co_X10_ofStepNow) rfl rfl rfl (by decide +kernel) ⟨Nat.le_of_ble_eq_true rfl, Nat.le_of_ble_eq_true rfl⟩) (hR.1 30 (by decide) (by decide)) mke_30 rfl rfl hl.1 rfl (Nat.le_of_ble_eq_true rfl) dX10_ofStep_49 ⟨(Nat.le_of_ble_eq_true rfl), (Nat.le_of_ble_eq_true rfl)⟩) (fun H locs hw => ?_)
        exact m_iretE hx hb hr hlocks rfl hw hE (Nat.le_of_ble_eq_true rfl) (Nat.le_of_ble_eq_true rfl) dX10_ofStep_52
      · have hE := (if_neg c_5).symm.trans hE
        refine lv_iconst (v := 0) hx hb dX10_ofStep_31 (by decide) ?_
        refine lv_goto (tgt := 52) hx hb dX10_ofStep_32 (by decide) ?_
        exact m_iretE hx hb hr hlocks rfl hw hE (Nat.le_of_ble_eq_true rfl) (Nat.le_of_ble_eq_true rfl) dX10_ofStep_52
    refine lv_if_ne (tgt := 23) hx hb dX10_ofStep_16 (by decide) (fun c_3 => ?_) (fun c_3 => ?_)
    · refine lv_iconst (v := 0) hx hb dX10_ofStep_23 (by decide) ?_
      exact hjc_3 _ (if_neg c_3).symm
    · refine lv_iconst (v := 1) hx hb dX10_ofStep_19 (by decide) ?_
      refine lv_goto (tgt := 24) hx hb dX10_ofStep_20 (by decide) ?_
      exact hjc_3 _ (if_pos c_3).symm

abbrev bw_X10_ofJoinerNow : List Cond := .code yX10_ofJoinerNow cX10_ofJoinerNow 4 (some .int) :: BIG
abbrev rm_X10_ofJoinerNow : Room := { frames := 40, cells := 1, slots := 7, locals := 2170 }
noncomputable def sp_X10_ofJoinerNow (S : (Nat → Nat → Nat → Int32)) (j : Nat) (p2 : Int32) : Option (Int32) := (sp_X6_in S j 2).bind fun x_1 => ((sp_X6_in S j 1).bind fun x_2 => ((sp_X10_rightsOf S j).bind fun x_3 => ((sp_X10_endOf S j).bind fun x_5 => (if p2 < 0 ∨ 7 ≤ p2.toNatClampNeg then none else (some ((upd (upd (upd (upd (upd (upd (upd (fun _ => 0) 0 (S 6 j 0)) 1 (S 6 j 1)) 2 x_1) 3 x_2) 4 x_3) 5 (if S 6 j 2 = 0 then 0 else 1)) 6 x_5) p2.toNatClampNeg))))))
set_option maxHeartbeats 1000000 in
set_option maxRecDepth 100000 in
theorem ct_X10_ofJoinerNow {l : Launch} {D : va_G} {cI cG cJ cO : ClassId} {K0 : Nat → Nat} {A : Nat → Prop} {L : List (Nat × Nat)} {ad : Nat → Nat → Nat} {ce : Nat → Nat → va_E} {cp : Nat → Nat} {S : (Nat → Nat → Nat → Int32)} (hR : MR S L cp) (hI : CI S) (hT : TL 65 L) {j : Nat} {p2 : Int32} (hj : j < (S 0 0 0).toNatClampNeg) {v : Int32} (hE : sp_X10_ofJoinerNow S j p2 = some v) (sz : Nat) (hA : ∀ q, sz ≤ q → A q) : Met l yX10_ofJoinerNow bw_X10_ofJoinerNow (rm_X10_ofJoinerNow) (kP D (ktys cI cG cJ cO) K0 A L ad (mK cI cO K0 ad cp ce S) sz [.ref (ad 30 0), .ref (ad 46 j), .int p2]) (kQi D A v L ad (mK cI cO K0 ad cp ce S)) 1 7 A := by
  refine Met.ofW (cc := cX10_ofJoinerNow) (maxL := 4) (ret := (some .int)) (by decide) rfl ?_
  intro p e s m args below meth c s₁ B hml hv_
  obtain ⟨hav, hsz, hP, hD, hK, hO⟩ := hv_
  have hx := B.exec
  have hb := B.bytes
  have hr := B.returns
  have hts : ∀ w ∈ BIG, w.before args s = true := fun w h => atoms_spec (ws := bw_X10_ofJoinerNow) B.pre w (List.mem_cons_of_mem _ h)
  have hown : s.vm.findClass RX10 = some m.cls := findClass_of_methodNamed B.named
  have hlocks := B.notSynchronized
  subst hsz
  have hw := wk.start hP hD
  refine k_start (by rfl) hav (Nat.le_of_ble_eq_true rfl) (fun ls hl => ?_)
  have hl : lv_has ls 4 [(0, .ref (ad 30 0)), (1, .ref (ad 46 j)), (2, .int p2)] := hl
  unfold sp_X10_ofJoinerNow at hE
  refine lv_bipush (v := 7) hx hb dX10_ofJoinerNow_0 (by decide) ?_
  refine k_newi hx hb (hts _ w_ac_int) hK hw hA (n := 7) (N' := 7) (by decide) (by decide) (Nat.le_of_ble_eq_true rfl) (Nat.le_of_ble_eq_true rfl) (Nat.le_of_ble_eq_true rfl) 65 0 (TL.new hT (by decide) (by decide)) dX10_ofJoinerNow_2 (fun q H hw => ?_)
  have hw := hw.tmp (Or.inr (by decide))
  have hRp := hR.push (i := (65, 0))
  show W p l e (headSpec bw_X10_ofJoinerNow (rm_X10_ofJoinerNow)).room s m args below meth c _ _ (0 + 1) (0 + 7) (MQ below (kQi D A v L ad (mK cI cO K0 ad cp ce S)) args s 1 7 A) (F0 m 4 ls [.ref q])
  refine lv_dup hx hb dX10_ofJoinerNow_4 rfl ?_
  refine lv_iconst (v := 0) hx hb dX10_ofJoinerNow_5 (by decide) ?_
  refine lv_aload_n hx hb dX10_ofJoinerNow_6 rfl (lv_at hl 1 rfl) ?_
  refine k_get (C := RX6) (T := TX6) (N := 8) (v := .int (S 6 j 0)) hx hb hts inB_X6 hown hK hw (hRp.2.2.2.2.2.2.2 46 _ (by decide) (by decide) hj) mke_46 rfl 0 (by decide) (hts _ w_f_X10_118) (fun _ h9 => h9) rfl dX10_ofJoinerNow_7 ?_
  refine k_asti hx hb hK hw (List.mem_append_right _ (List.mem_singleton_self _)) 0 ((mK_ou (Or.inr (by decide))).trans up2_eq) rfl (by decide) rfl (by decide) (mK_itp (Or.inr (by decide))) dX10_ofJoinerNow_10 (fun H locs hw => ?_)
  refine lv_dup hx hb dX10_ofJoinerNow_11 rfl ?_
  refine lv_iconst (v := 1) hx hb dX10_ofJoinerNow_12 (by decide) ?_
  refine lv_aload_n hx hb dX10_ofJoinerNow_13 rfl (lv_at hl 1 rfl) ?_
  refine k_get (C := RX6) (T := TX6) (N := 8) (v := .int (S 6 j 1)) hx hb hts inB_X6 hown hK hw (hRp.2.2.2.2.2.2.2 46 _ (by decide) (by decide) hj) mke_46 rfl 1 (by decide) (hts _ w_f_X10_106) (fun _ h9 => h9) rfl dX10_ofJoinerNow_14 ?_
  refine k_asti hx hb hK hw (List.mem_append_right _ (List.mem_singleton_self _)) 0 ((mK_ou (Or.inr (by decide))).trans up2_eq) rfl (by decide) rfl (by decide) (mK_itp (Or.inr (by decide))) dX10_ofJoinerNow_17 (fun H locs hw => ?_)
  refine lv_dup hx hb dX10_ofJoinerNow_18 rfl ?_
  refine lv_iconst (v := 2) hx hb dX10_ofJoinerNow_19 (by decide) ?_
  refine lv_aload_n hx hb dX10_ofJoinerNow_20 rfl (lv_at hl 1 rfl) ?_
  refine lv_iconst (v := 2) hx hb dX10_ofJoinerNow_21 (by decide) ?_
  obtain ⟨x_1, hx_1, hE⟩ := ob1 hE
  refine k_ci0 hw (k_rV (f := 46) (o := j) (As := [.int 2]) (rest := [.int 2, .ref q, .ref q]) ⟨hx, hb, hml, hown, hts⟩ hK hO hw (ct_X6_in (MR.sm (SM.rf S) hRp) (SM.ci (SM.rf S) hI) (by rw [SM.c4 (SM.rf S)]; exact hj) hx_1 _ (wk.hA hw hA)) (cwV 1 hts (gB_V w_ml_X10_253 w_im_X6_in w_se_X6_in w_in_X6 w_co_X6_in) rfl rfl rfl (by decide +kernel) ⟨Nat.le_of_ble_eq_true rfl, Nat.le_of_ble_eq_true rfl⟩) (hRp.2.2.2.2.2.2.2 46 _ (by decide) (by decide) hj) mke_46 rfl rfl hl.1 rfl (Nat.le_of_ble_eq_true rfl) dX10_ofJoinerNow_22 ⟨(Nat.le_of_ble_eq_true rfl), (Nat.le_of_ble_eq_true rfl)⟩) (fun H locs hw => ?_)
  refine k_asti hx hb hK hw (List.mem_append_right _ (List.mem_singleton_self _)) 0 ((mK_ou (Or.inr (by decide))).trans up2_eq) rfl (by decide) rfl (by decide) (mK_itp (Or.inr (by decide))) dX10_ofJoinerNow_25 (fun H locs hw => ?_)
  refine lv_dup hx hb dX10_ofJoinerNow_26 rfl ?_
  refine lv_iconst (v := 3) hx hb dX10_ofJoinerNow_27 (by decide) ?_
  refine lv_aload_n hx hb dX10_ofJoinerNow_28 rfl (lv_at hl 1 rfl) ?_
  refine lv_iconst (v := 1) hx hb dX10_ofJoinerNow_29 (by decide) ?_
  obtain ⟨x_2, hx_2, hE⟩ := ob1 hE
  refine k_ci0 hw (k_rV (f := 46) (o := j) (As := [.int 1]) (rest := [.int 3, .ref q, .ref q]) ⟨hx, hb, hml, hown, hts⟩ hK hO hw (ct_X6_in (MR.sm (SM.rf S) hRp) (SM.ci (SM.rf S) hI) (by rw [SM.c4 (SM.rf S)]; exact hj) hx_2 _ (wk.hA hw hA)) (cwV 1 hts (gB_V w_ml_X10_253 w_im_X6_in w_se_X6_in w_in_X6 w_co_X6_in) rfl rfl rfl (by decide +kernel) ⟨Nat.le_of_ble_eq_true rfl, Nat.le_of_ble_eq_true rfl⟩) (hRp.2.2.2.2.2.2.2 46 _ (by decide) (by decide) hj) mke_46 rfl rfl hl.1 rfl (Nat.le_of_ble_eq_true rfl) dX10_ofJoinerNow_30 ⟨(Nat.le_of_ble_eq_true rfl), (Nat.le_of_ble_eq_true rfl)⟩) (fun H locs hw => ?_)
  refine k_asti hx hb hK hw (List.mem_append_right _ (List.mem_singleton_self _)) 0 ((mK_ou (Or.inr (by decide))).trans up2_eq) rfl (by decide) rfl (by decide) (mK_itp (Or.inr (by decide))) dX10_ofJoinerNow_33 (fun H locs hw => ?_)
  refine lv_dup hx hb dX10_ofJoinerNow_34 rfl ?_
  refine lv_iconst (v := 4) hx hb dX10_ofJoinerNow_35 (by decide) ?_
  refine lv_aload_n hx hb dX10_ofJoinerNow_36 rfl (lv_at hl 0 rfl) ?_
  refine lv_aload_n hx hb dX10_ofJoinerNow_37 rfl (lv_at hl 1 rfl) ?_
  obtain ⟨x_3, hx_3, hE⟩ := ob1 hE
  refine k_ci0 hw (k_rV (f := 30) (o := 0) (As := [.ref (ad 46 j)]) (rest := [.int 4, .ref q, .ref q]) ⟨hx, hb, hml, hown, hts⟩ hK hO hw (ct_X10_rightsOf (MR.sm (SM.rf S) hRp) (SM.ci (SM.rf S) hI) (by rw [SM.c4 (SM.rf S)]; exact hj) hx_3 _ (wk.hA hw hA)) (cwV 1 hts (gB_V w_ml_X10_272 w_im_X10_rightsOf w_se_X10_rightsOf w_in_X10 w_co_X10_rightsOf) rfl rfl rfl (by decide +kernel) ⟨Nat.le_of_ble_eq_true rfl, Nat.le_of_ble_eq_true rfl⟩) (hRp.1 30 (by decide) (by decide)) mke_30 rfl rfl hl.1 rfl (Nat.le_of_ble_eq_true rfl) dX10_ofJoinerNow_38 ⟨(Nat.le_of_ble_eq_true rfl), (Nat.le_of_ble_eq_true rfl)⟩) (fun H locs hw => ?_)
  refine k_asti hx hb hK hw (List.mem_append_right _ (List.mem_singleton_self _)) 0 ((mK_ou (Or.inr (by decide))).trans up2_eq) rfl (by decide) rfl (by decide) (mK_itp (Or.inr (by decide))) dX10_ofJoinerNow_41 (fun H locs hw => ?_)
  refine lv_dup hx hb dX10_ofJoinerNow_42 rfl ?_
  refine lv_iconst (v := 5) hx hb dX10_ofJoinerNow_43 (by decide) ?_
  refine lv_aload_n hx hb dX10_ofJoinerNow_44 rfl (lv_at hl 1 rfl) ?_
  refine k_get (C := RX6) (T := TX6) (N := 8) (v := .int (S 6 j 2)) hx hb hts inB_X6 hown hK hw (hRp.2.2.2.2.2.2.2 46 _ (by decide) (by decide) hj) mke_46 rfl 7 (by decide) (hts _ w_f_X10_140) (fun _ h9 => h9) rfl dX10_ofJoinerNow_45 ?_
  have hjc_4 : ∀ bc_4 : Int32, bc_4 = (if S 6 j 2 = 0 then 0 else 1) → W p l e (headSpec bw_X10_ofJoinerNow (rm_X10_ofJoinerNow)).room s m args below meth c H locs (0 + 1) (0 + 7) (MQ below (kQi D A v L ad (mK cI cO K0 ad cp ce S)) args s 1 7 A) (F0 m 56 ls [.int bc_4, .int 5, .ref q, .ref q]) := by
    intro bc_4 hbc_4
    subst hbc_4
    refine k_asti hx hb hK hw (List.mem_append_right _ (List.mem_singleton_self _)) 0 ((mK_ou (Or.inr (by decide))).trans up2_eq) rfl (by decide) rfl (by decide) (mK_itp (Or.inr (by decide))) dX10_ofJoinerNow_56 (fun H locs hw => ?_)
    refine lv_dup hx hb dX10_ofJoinerNow_57 rfl ?_
    refine lv_bipush (v := 6) hx hb dX10_ofJoinerNow_58 (by decide) ?_
    refine lv_aload_n hx hb dX10_ofJoinerNow_60 rfl (lv_at hl 0 rfl) ?_
    refine lv_aload_n hx hb dX10_ofJoinerNow_61 rfl (lv_at hl 1 rfl) ?_
    obtain ⟨x_5, hx_5, hE⟩ := ob1 hE
    refine k_ci0 hw (k_rV (f := 30) (o := 0) (As := [.ref (ad 46 j)]) (rest := [.int 6, .ref q, .ref q]) ⟨hx, hb, hml, hown, hts⟩ hK hO hw (ct_X10_endOf (MR.sm (SM.rf S) hRp) (SM.ci (SM.rf S) hI) (by rw [SM.c4 (SM.rf S)]; exact hj) hx_5 _ (wk.hA hw hA)) (cwV 1 hts (gB_V w_ml_X10_276 w_im_X10_endOf w_se_X10_endOf w_in_X10 w_co_X10_endOf) rfl rfl rfl (by decide +kernel) ⟨Nat.le_of_ble_eq_true rfl, Nat.le_of_ble_eq_true rfl⟩) (hRp.1 30 (by decide) (by decide)) mke_30 rfl rfl hl.1 rfl (Nat.le_of_ble_eq_true rfl) dX10_ofJoinerNow_62 ⟨(Nat.le_of_ble_eq_true rfl), (Nat.le_of_ble_eq_true rfl)⟩) (fun H locs hw => ?_)
    refine k_asti hx hb hK hw (List.mem_append_right _ (List.mem_singleton_self _)) 0 ((mK_ou (Or.inr (by decide))).trans up2_eq) rfl (by decide) rfl (by decide) (mK_itp (Or.inr (by decide))) dX10_ofJoinerNow_65 (fun H locs hw => ?_)
    refine lv_astore_n (lv' := [(3, .ref q), (0, .ref (ad 30 0)), (1, .ref (ad 46 j)), (2, .int p2)]) hx hb dX10_ofJoinerNow_66 rfl hl (by decide) rfl (fun ls hl => ?_)
    refine lv_aload_n hx hb dX10_ofJoinerNow_67 rfl (lv_at hl 0 rfl) ?_
    refine lv_iload_n hx hb dX10_ofJoinerNow_68 rfl (lv_at hl 3 rfl) ?_
    by_cases c_6 : p2 < 0 ∨ 7 ≤ p2.toNatClampNeg
    · exact nomatch (if_pos c_6).symm.trans hE
    have hE := (if_neg c_6).symm.trans hE
    refine k_aldi hx hb hK hw (List.mem_append_right _ (List.mem_singleton_self _)) 0 ((mK_ou (Or.inr (by decide))).trans up2_eq) rfl (fun z => c_6 (Or.inl z)) rfl (Nat.not_le.mp fun z => c_6 (Or.inr z)) (v := (upd (upd (upd (upd (upd (upd (upd (fun _ => 0) 0 (S 6 j 0)) 1 (S 6 j 1)) 2 x_1) 3 x_2) 4 x_3) 5 (if S 6 j 2 = 0 then 0 else 1)) 6 x_5) p2.toNatClampNeg) rfl dX10_ofJoinerNow_69 ?_
    have hw := hw.untmp (Or.inr (by decide)) (TL.new hT (by decide) (by decide))
    exact m_iret hx hb hr hlocks rfl hw hE (Nat.le_of_ble_eq_true rfl) (Nat.le_of_ble_eq_true rfl) dX10_ofJoinerNow_70
  refine lv_if_eq (tgt := 55) hx hb dX10_ofJoinerNow_48 (by decide) (fun c_4 => ?_) (fun c_4 => ?_)
  · refine lv_iconst (v := 0) hx hb dX10_ofJoinerNow_55 (by decide) ?_
    exact hjc_4 _ (if_pos c_4).symm
  · refine lv_iconst (v := 1) hx hb dX10_ofJoinerNow_51 (by decide) ?_
    refine lv_goto (tgt := 56) hx hb dX10_ofJoinerNow_52 (by decide) ?_
    exact hjc_4 _ (if_neg c_4).symm

abbrev bw_X10_ofJoiner : List Cond := .code yX10_ofJoiner cX10_ofJoiner 3 (some .int) :: BIG
abbrev rm_X10_ofJoiner : Room := { frames := 41, cells := 1, slots := 7, locals := 2193 }
noncomputable def sp_X10_ofJoiner (S : (Nat → Nat → Nat → Int32)) (p1 : Int32) (p2 : Int32) : Option (Int32 × (Nat → Nat → Nat → Int32)) := (sp_X10_isNoJoiner S p1).bind fun x_1 => (if x_1.1 = 0 then ((sp_X10_refuse x_1.2 (if (sp_X10_isFrom p2 0 6) = 0 then 1 else 0) 2).bind fun x_4 => (if x_4.1 = 0 then (if p1 < 0 ∨ (S 0 0 0).toNatClampNeg ≤ p1.toNatClampNeg then none else ((sp_X10_ofJoinerNow x_4.2 p1.toNatClampNeg p2).bind fun x_7 => (some ((x_7, x_4.2))))) else (some ((0, x_4.2))))) else (some ((0, x_1.2))))
theorem sf_X10_ofJoiner {S : (Nat → Nat → Nat → Int32)} {p1 : Int32} {p2 : Int32} {v : Int32 × (Nat → Nat → Nat → Int32)} (h : sp_X10_ofJoiner S p1 p2 = some v) : SM S v.2 := by
  unfold sp_X10_ofJoiner at h
  obtain ⟨x_1, hx_1, h⟩ := ob1 h
  by_cases q_8 : x_1.1 = 0
  · have h := (if_pos q_8).symm.trans h
    obtain ⟨x_4, hx_4, h⟩ := ob1 h
    by_cases q_9 : x_4.1 = 0
    · have h := (if_pos q_9).symm.trans h
      by_cases q_10 : p1 < 0 ∨ (S 0 0 0).toNatClampNeg ≤ p1.toNatClampNeg
      · exact nomatch (if_pos q_10).symm.trans h
      have h := (if_neg q_10).symm.trans h
      obtain ⟨x_7, hx_7, h⟩ := ob1 h
      have hz : SM S x_4.2 := (SM.tr (SM.tr (SM.rf S) (sf_X10_isNoJoiner hx_1)) (sf_X10_refuse hx_4)); cases h; exact hz
    · have h := (if_neg q_9).symm.trans h
      have hz : SM S x_4.2 := (SM.tr (SM.tr (SM.rf S) (sf_X10_isNoJoiner hx_1)) (sf_X10_refuse hx_4)); cases h; exact hz
  · have h := (if_neg q_8).symm.trans h
    have hz : SM S x_1.2 := (SM.tr (SM.rf S) (sf_X10_isNoJoiner hx_1)); cases h; exact hz

set_option maxHeartbeats 1000000 in
set_option maxRecDepth 100000 in
theorem ct_X10_ofJoiner {l : Launch} {D : va_G} {cI cG cJ cO : ClassId} {K0 : Nat → Nat} {A : Nat → Prop} {L : List (Nat × Nat)} {ad : Nat → Nat → Nat} {ce : Nat → Nat → va_E} {cp : Nat → Nat} {S : (Nat → Nat → Nat → Int32)} (hR : MR S L cp) (hI : CI S) (hT : TL 65 L) {p1 : Int32} {p2 : Int32} {v : Int32 × (Nat → Nat → Nat → Int32)} (hE : sp_X10_ofJoiner S p1 p2 = some v) (sz : Nat) (hA : ∀ q, sz ≤ q → A q) : Met l yX10_ofJoiner bw_X10_ofJoiner (rm_X10_ofJoiner) (kP D (ktys cI cG cJ cO) K0 A L ad (mK cI cO K0 ad cp ce S) sz [.ref (ad 30 0), .int p1, .int p2]) (kQi D A v.1 L ad (mK cI cO K0 ad cp ce v.2)) 1 7 A := by
  refine Met.ofW (cc := cX10_ofJoiner) (maxL := 3) (ret := (some .int)) (by decide) rfl ?_
  intro p e s m args below meth c s₁ B hml hv_
  obtain ⟨hav, hsz, hP, hD, hK, hO⟩ := hv_
  have hx := B.exec
  have hb := B.bytes
  have hr := B.returns
  have hts : ∀ w ∈ BIG, w.before args s = true := fun w h => atoms_spec (ws := bw_X10_ofJoiner) B.pre w (List.mem_cons_of_mem _ h)
  have hown : s.vm.findClass RX10 = some m.cls := findClass_of_methodNamed B.named
  have hlocks := B.notSynchronized
  subst hsz
  have hw := wk.start hP hD
  refine k_start (by rfl) hav (Nat.le_of_ble_eq_true rfl) (fun ls hl => ?_)
  have hl : lv_has ls 3 [(0, .ref (ad 30 0)), (1, .int p1), (2, .int p2)] := hl
  unfold sp_X10_ofJoiner at hE
  refine lv_aload_n hx hb dX10_ofJoiner_0 rfl (lv_at hl 0 rfl) ?_
  refine lv_iload_n hx hb dX10_ofJoiner_1 rfl (lv_at hl 1 rfl) ?_
  obtain ⟨x_1, hx_1, hE⟩ := ob1 hE
  refine k_ci0 hw (k_rV (f := 30) (o := 0) (As := [.int p1]) (rest := []) ⟨hx, hb, hml, hown, hts⟩ hK hO hw (ct_X10_isNoJoiner (MR.sm (SM.rf S) hR) (SM.ci (SM.rf S) hI) hx_1 _ (wk.hA hw hA)) (cwV 1 hts (gB_V w_ml_X10_250 w_im_X10_isNoJoiner w_se_X10_isNoJoiner w_in_X10 w_co_X10_isNoJoiner) rfl rfl rfl (by decide +kernel) ⟨Nat.le_of_ble_eq_true rfl, Nat.le_of_ble_eq_true rfl⟩) (hR.1 30 (by decide) (by decide)) mke_30 rfl rfl hl.1 rfl (Nat.le_of_ble_eq_true rfl) dX10_ofJoiner_2 ⟨(Nat.le_of_ble_eq_true rfl), (Nat.le_of_ble_eq_true rfl)⟩) (fun H locs hw => ?_)
  refine lv_if_ne (tgt := 31) hx hb dX10_ofJoiner_5 (by decide) (fun c_2 => ?_) (fun c_2 => ?_)
  · have hE := (if_neg c_2).symm.trans hE
    refine lv_iconst (v := 0) hx hb dX10_ofJoiner_31 (by decide) ?_
    refine lv_goto (tgt := 51) hx hb dX10_ofJoiner_32 (by decide) ?_
    exact m_iretE hx hb hr hlocks rfl hw hE (Nat.le_of_ble_eq_true rfl) (Nat.le_of_ble_eq_true rfl) dX10_ofJoiner_51
  · have hE := (if_pos c_2).symm.trans hE
    refine lv_aload_n hx hb dX10_ofJoiner_8 rfl (lv_at hl 0 rfl) ?_
    refine lv_iload_n hx hb dX10_ofJoiner_9 rfl (lv_at hl 2 rfl) ?_
    refine lv_iconst (v := 0) hx hb dX10_ofJoiner_10 (by decide) ?_
    refine lv_bipush (v := 6) hx hb dX10_ofJoiner_11 (by decide) ?_
    refine k_ci0 hw (k_rS (As := [.int p2, .int 0, .int 6]) (rest := [.ref (ad 30 0)]) ⟨hx, hb, hml, hown, hts⟩ hK hO hw (ct_X10_isFrom p2 0 6 _ (wk.hA hw hA)) (va_cwS 3 hts (gB_S w_ml_X10_47 w_st_X10_isFrom w_in_X10 w_co_X10_isFrom) rfl rfl rfl (by decide +kernel) ⟨Nat.le_of_ble_eq_true rfl, Nat.le_of_ble_eq_true rfl⟩) rfl hl.1 rfl (Nat.le_of_ble_eq_true rfl) dX10_ofJoiner_13 ⟨(Nat.le_of_ble_eq_true rfl), (Nat.le_of_ble_eq_true rfl)⟩) (fun H locs hw => ?_)
    have hjc_3 : ∀ bc_3 : Int32, bc_3 = (if (sp_X10_isFrom p2 0 6) = 0 then 1 else 0) → W p l e (headSpec bw_X10_ofJoiner (rm_X10_ofJoiner)).room s m args below meth c H locs 0 0 (MQ below (kQi D A v.1 L ad (mK cI cO K0 ad cp ce v.2)) args s 1 7 A) (F0 m 24 ls [.int bc_3, .ref (ad 30 0)]) := by
      intro bc_3 hbc_3
      subst hbc_3
      refine lv_iconst (v := 2) hx hb dX10_ofJoiner_24 (by decide) ?_
      obtain ⟨x_4, hx_4, hE⟩ := ob1 hE
      refine k_ci0 hw (k_rV (f := 30) (o := 0) (As := [.int (if (sp_X10_isFrom p2 0 6) = 0 then 1 else 0), .int 2]) (rest := []) ⟨hx, hb, hml, hown, hts⟩ hK hO hw (ct_X10_refuse (MR.sm (SM.tr (SM.rf S) (sf_X10_isNoJoiner hx_1)) hR) (SM.ci (SM.tr (SM.rf S) (sf_X10_isNoJoiner hx_1)) hI) hx_4 _ (wk.hA hw hA)) (cwV 2 hts (gB_V w_ml_X10_39 w_im_X10_refuse w_se_X10_refuse w_in_X10 w_co_X10_refuse) rfl rfl rfl (by decide +kernel) ⟨Nat.le_of_ble_eq_true rfl, Nat.le_of_ble_eq_true rfl⟩) (hR.1 30 (by decide) (by decide)) mke_30 rfl rfl hl.1 rfl (Nat.le_of_ble_eq_true rfl) dX10_ofJoiner_25 ⟨(Nat.le_of_ble_eq_true rfl), (Nat.le_of_ble_eq_true rfl)⟩) (fun H locs hw => ?_)
      refine lv_if_eq (tgt := 35) hx hb dX10_ofJoiner_28 (by decide) (fun c_5 => ?_) (fun c_5 => ?_)
      · have hE := (if_pos c_5).symm.trans hE
        refine lv_aload_n hx hb dX10_ofJoiner_35 rfl (lv_at hl 0 rfl) ?_
        refine lv_aload_n hx hb dX10_ofJoiner_36 rfl (lv_at hl 0 rfl) ?_
        refine k_get (C := RX10) (T := TX10) (N := 9) (v := .ref (ad 35 0)) hx hb hts inB_X10 hown hK hw (hR.1 30 (by decide) (by decide)) mke_30 rfl 7 (by decide) (hts _ w_f_X10_32) (fun _ h9 => h9) rfl dX10_ofJoiner_37 ?_
        refine lv_iload_n hx hb dX10_ofJoiner_40 rfl (lv_at hl 1 rfl) ?_
        by_cases c_6 : p1 < 0 ∨ (S 0 0 0).toNatClampNeg ≤ p1.toNatClampNeg
        · exact nomatch (if_pos c_6).symm.trans hE
        have hE := (if_neg c_6).symm.trans hE
        refine k_cr0 (v := (ad 46 p1.toNatClampNeg)) hw (k_rV (f := 35) (o := 0) (As := [.int p1]) (rest := [.ref (ad 30 0)]) ⟨hx, hb, hml, hown, hts⟩ hK hO hw (ct_get_4 (SM.tr (SM.tr (SM.rf S) (sf_X10_isNoJoiner hx_1)) (sf_X10_refuse hx_4)) hR (i := p1.toNatClampNeg) (fun z => c_6 (Or.inl z)) rfl (Nat.not_le.mp fun z => c_6 (Or.inr z)) _ (wk.hA hw hA)) (cwV 1 hts (gB_V w_ml_X10_51 w_im_Jx4a65c_get_915e3 w_se_Jx4a65c_get_915e3 w_in_Jx4a65c w_co_Jx4a65c_get_915e3) rfl rfl rfl (by decide +kernel) ⟨Nat.le_of_ble_eq_true rfl, Nat.le_of_ble_eq_true rfl⟩) (hR.1 35 (by decide) (by decide)) (ce_l4 (SM.tr (SM.tr (SM.rf S) (sf_X10_isNoJoiner hx_1)) (sf_X10_refuse hx_4))) rfl rfl hl.1 rfl (Nat.le_of_ble_eq_true rfl) dX10_ofJoiner_41 ⟨(Nat.le_of_ble_eq_true rfl), (Nat.le_of_ble_eq_true rfl)⟩) (fun H locs hw => ?_)
        refine k_cast (f := 46) (o := p1.toNatClampNeg) hx hb hown (hts _ w_cl_X10_64) hK hw (hR.2.2.2.2.2.2.2 46 _ (by decide) (by decide) (Nat.not_le.mp fun z => c_6 (Or.inr z))) mke_46 rfl dX10_ofJoiner_44 ?_
        refine lv_iload_n hx hb dX10_ofJoiner_47 rfl (lv_at hl 2 rfl) ?_
        obtain ⟨x_7, hx_7, hE⟩ := ob1 hE
        refine k_ci hw (k_rV (f := 30) (o := 0) (As := [.ref (ad 46 p1.toNatClampNeg), .int p2]) (rest := []) ⟨hx, hb, hml, hown, hts⟩ hK hO hw (ct_X10_ofJoinerNow (MR.sm (SM.tr (SM.tr (SM.rf S) (sf_X10_isNoJoiner hx_1)) (sf_X10_refuse hx_4)) hR) (SM.ci (SM.tr (SM.tr (SM.rf S) (sf_X10_isNoJoiner hx_1)) (sf_X10_refuse hx_4)) hI) (TL.le hT (by decide)) (by rw [SM.c4 (SM.tr (SM.tr (SM.rf S) (sf_X10_isNoJoiner hx_1)) (sf_X10_refuse hx_4))]; exact (Nat.not_le.mp fun z => c_6 (Or.inr z))) hx_7 _ (wk.hA hw hA)) (cwV 2 hts (gB_V w_ml_X10_279 w_im_X10_ofJoinerNow w_se_X10_ofJoinerNow w_in_X10 w_co_X10_ofJoinerNow) rfl rfl rfl (by decide +kernel) ⟨Nat.le_of_ble_eq_true rfl, Nat.le_of_ble_eq_true rfl⟩) (hR.1 30 (by decide) (by decide)) mke_30 rfl rfl hl.1 rfl (Nat.le_of_ble_eq_true rfl) dX10_ofJoiner_48 ⟨(Nat.le_of_ble_eq_true rfl), (Nat.le_of_ble_eq_true rfl)⟩) (fun H locs hw => ?_)
        exact m_iretE hx hb hr hlocks rfl hw hE (Nat.le_of_ble_eq_true rfl) (Nat.le_of_ble_eq_true rfl) dX10_ofJoiner_51
      · have hE := (if_neg c_5).symm.trans hE
        refine lv_iconst (v := 0) hx hb dX10_ofJoiner_31 (by decide) ?_
        refine lv_goto (tgt := 51) hx hb dX10_ofJoiner_32 (by decide) ?_
        exact m_iretE hx hb hr hlocks rfl hw hE (Nat.le_of_ble_eq_true rfl) (Nat.le_of_ble_eq_true rfl) dX10_ofJoiner_51
    refine lv_if_ne (tgt := 23) hx hb dX10_ofJoiner_16 (by decide) (fun c_3 => ?_) (fun c_3 => ?_)
    · refine lv_iconst (v := 0) hx hb dX10_ofJoiner_23 (by decide) ?_
      exact hjc_3 _ (if_neg c_3).symm
    · refine lv_iconst (v := 1) hx hb dX10_ofJoiner_19 (by decide) ?_
      refine lv_goto (tgt := 24) hx hb dX10_ofJoiner_20 (by decide) ?_
      exact hjc_3 _ (if_pos c_3).symm

abbrev bw_X10_rightOnNow : List Cond := .code yX10_rightOnNow cX10_rightOnNow 5 (some .int) :: BIG
abbrev rm_X10_rightOnNow : Room := { frames := 39, cells := 0, slots := 0, locals := 2149 }
noncomputable def sp_X10_rightOnNow (S : (Nat → Nat → Nat → Int32)) (j : Nat) (p2 : Int32) : Option (Int32) := if p2 < 0 ∨ (S 1 0 1).toNatClampNeg ≤ p2.toNatClampNeg then none else (if S 6 j 2 = 0 then (if (S 12 0 p2.toNatClampNeg) &&& ((S 6 j 0) ^^^ (-1)) = 0 then ((sp_X10_end_ S j ((S 12 0 p2.toNatClampNeg).toInt64)).bind fun x_4 => (if x_4 = (-1) then (some ((-1))) else (some (x_4 + 1)))) else (some ((-1)))) else (some ((-1))))
set_option maxHeartbeats 1000000 in
set_option maxRecDepth 100000 in
theorem ct_X10_rightOnNow {l : Launch} {D : va_G} {cI cG cJ cO : ClassId} {K0 : Nat → Nat} {A : Nat → Prop} {L : List (Nat × Nat)} {ad : Nat → Nat → Nat} {ce : Nat → Nat → va_E} {cp : Nat → Nat} {S : (Nat → Nat → Nat → Int32)} (hR : MR S L cp) (hI : CI S) {j : Nat} {p2 : Int32} (hj : j < (S 0 0 0).toNatClampNeg) {v : Int32} (hE : sp_X10_rightOnNow S j p2 = some v) (sz : Nat) (hA : ∀ q, sz ≤ q → A q) : Met l yX10_rightOnNow bw_X10_rightOnNow (rm_X10_rightOnNow) (kP D (ktys cI cG cJ cO) K0 A L ad (mK cI cO K0 ad cp ce S) sz [.ref (ad 30 0), .ref (ad 46 j), .int p2]) (kQi D A v L ad (mK cI cO K0 ad cp ce S)) 0 0 A := by
  refine Met.ofW (cc := cX10_rightOnNow) (maxL := 5) (ret := (some .int)) (by decide) rfl ?_
  intro p e s m args below meth c s₁ B hml hv_
  obtain ⟨hav, hsz, hP, hD, hK, hO⟩ := hv_
  have hx := B.exec
  have hb := B.bytes
  have hr := B.returns
  have hts : ∀ w ∈ BIG, w.before args s = true := fun w h => atoms_spec (ws := bw_X10_rightOnNow) B.pre w (List.mem_cons_of_mem _ h)
  have hown : s.vm.findClass RX10 = some m.cls := findClass_of_methodNamed B.named
  have hlocks := B.notSynchronized
  subst hsz
  have hw := wk.start hP hD
  refine k_start (by rfl) hav (Nat.le_of_ble_eq_true rfl) (fun ls hl => ?_)
  have hl : lv_has ls 5 [(0, .ref (ad 30 0)), (1, .ref (ad 46 j)), (2, .int p2)] := hl
  unfold sp_X10_rightOnNow at hE
  refine lv_aload_n hx hb dX10_rightOnNow_0 rfl (lv_at hl 0 rfl) ?_
  refine k_get (C := RX10) (T := TX10) (N := 9) (v := .ref (ad 32 0)) hx hb hts inB_X10 hown hK hw (hR.1 30 (by decide) (by decide)) mke_30 rfl 3 (by decide) (hts _ w_f_X10_20) (fun _ h9 => h9) rfl dX10_rightOnNow_1 ?_
  refine lv_iload_n hx hb dX10_rightOnNow_4 rfl (lv_at hl 2 rfl) ?_
  by_cases c_1 : p2 < 0 ∨ (S 1 0 1).toNatClampNeg ≤ p2.toNatClampNeg
  · exact nomatch (if_pos c_1).symm.trans hE
  have hE := (if_neg c_1).symm.trans hE
  refine k_cr0 (v := (mel K0 ad S 1 p2.toNatClampNeg)) hw (k_rV (f := 32) (o := 0) (As := [.int p2]) (rest := []) ⟨hx, hb, hml, hown, hts⟩ hK hO hw (ct_get_1 (SM.rf S) hR (i := p2.toNatClampNeg) (fun z => c_1 (Or.inl z)) rfl (Nat.not_le.mp fun z => c_1 (Or.inr z)) _ (wk.hA hw hA)) (cwV 1 hts (gB_V w_ml_X10_51 w_im_Jx4a65c_get_915e3 w_se_Jx4a65c_get_915e3 w_in_Jx4a65c w_co_Jx4a65c_get_915e3) rfl rfl rfl (by decide +kernel) ⟨Nat.le_of_ble_eq_true rfl, Nat.le_of_ble_eq_true rfl⟩) (hR.1 32 (by decide) (by decide)) (ce_l1 (SM.rf S)) rfl rfl hl.1 rfl (Nat.le_of_ble_eq_true rfl) dX10_rightOnNow_5 ⟨(Nat.le_of_ble_eq_true rfl), (Nat.le_of_ble_eq_true rfl)⟩) (fun H locs hw => ?_)
  refine va_castE hx hb hown (hts _ w_cl_X10_70) (wk.box (SM.rf S) hR hK hO hw (Nat.not_le.mp fun z => c_1 (Or.inr z))) dX10_rightOnNow_8 ?_
  refine k_ci0 hw (k_rVb (As := []) (rest := []) ⟨hx, hb, hml, hown, hts⟩ hK hO hw (ct_int (SM.rf S) hR (Nat.not_le.mp fun z => c_1 (Or.inr z)) _ (wk.hA hw hA)) (cwV 0 hts (gB_V w_ml_X10_266 w_im_J6_intValue_8abf5 w_se_J6_intValue_8abf5 w_in_J6 w_co_J6_intValue_8abf5) rfl rfl rfl (by decide +kernel) ⟨by decide, by decide⟩) (wk.box (SM.rf S) hR hK hO hw (Nat.not_le.mp fun z => c_1 (Or.inr z))) rfl hl.1 rfl (Nat.le_of_ble_eq_true rfl) dX10_rightOnNow_11 ⟨(Nat.le_of_ble_eq_true rfl), (Nat.le_of_ble_eq_true rfl)⟩) (fun H locs hw => ?_)
  refine lv_istore_n (lv' := [(3, .int (S 12 0 p2.toNatClampNeg)), (0, .ref (ad 30 0)), (1, .ref (ad 46 j)), (2, .int p2)]) hx hb dX10_rightOnNow_14 rfl hl (by decide) rfl (fun ls hl => ?_)
  refine lv_aload_n hx hb dX10_rightOnNow_15 rfl (lv_at hl 2 rfl) ?_
  refine k_get (C := RX6) (T := TX6) (N := 8) (v := .int (S 6 j 2)) hx hb hts inB_X6 hown hK hw (hR.2.2.2.2.2.2.2 46 _ (by decide) (by decide) hj) mke_46 rfl 7 (by decide) (hts _ w_f_X10_140) (fun _ h9 => h9) rfl dX10_rightOnNow_16 ?_
  refine lv_if_ne (tgt := 33) hx hb dX10_rightOnNow_19 (by decide) (fun c_2 => ?_) (fun c_2 => ?_)
  · have hE := (if_neg c_2).symm.trans hE
    refine lv_iconst (v := (-1)) hx hb dX10_rightOnNow_33 (by decide) ?_
    exact m_iret hx hb hr hlocks rfl hw hE (Nat.le_of_ble_eq_true rfl) (Nat.le_of_ble_eq_true rfl) dX10_rightOnNow_34
  · have hE := (if_pos c_2).symm.trans hE
    refine lv_iload_n hx hb dX10_rightOnNow_22 rfl (lv_at hl 0 rfl) ?_
    refine lv_aload_n hx hb dX10_rightOnNow_23 rfl (lv_at hl 2 rfl) ?_
    refine k_get (C := RX6) (T := TX6) (N := 8) (v := .int (S 6 j 0)) hx hb hts inB_X6 hown hK hw (hR.2.2.2.2.2.2.2 46 _ (by decide) (by decide) hj) mke_46 rfl 0 (by decide) (hts _ w_f_X10_118) (fun _ h9 => h9) rfl dX10_rightOnNow_24 ?_
    refine lv_iconst (v := (-1)) hx hb dX10_rightOnNow_27 (by decide) ?_
    refine lv_ixor hx hb dX10_rightOnNow_28 ?_
    refine lv_iand hx hb dX10_rightOnNow_29 ?_
    refine lv_if_eq (tgt := 35) hx hb dX10_rightOnNow_30 (by decide) (fun c_3 => ?_) (fun c_3 => ?_)
    · have hE := (if_pos c_3).symm.trans hE
      refine lv_aload_n hx hb dX10_rightOnNow_35 rfl (lv_at hl 1 rfl) ?_
      refine lv_aload_n hx hb dX10_rightOnNow_36 rfl (lv_at hl 2 rfl) ?_
      refine lv_iload_n hx hb dX10_rightOnNow_37 rfl (lv_at hl 0 rfl) ?_
      refine lv_i2l (v := (S 12 0 p2.toNatClampNeg).toInt64) hx hb dX10_rightOnNow_38 rfl ?_
      obtain ⟨x_4, hx_4, hE⟩ := ob1 hE
      refine k_ci0 hw (k_rV (f := 30) (o := 0) (As := [.ref (ad 46 j), .long ((S 12 0 p2.toNatClampNeg).toInt64)]) (rest := []) ⟨hx, hb, hml, hown, hts⟩ hK hO hw (ct_X10_end_ (MR.sm (SM.rf S) hR) (SM.ci (SM.rf S) hI) (by rw [SM.c4 (SM.rf S)]; exact hj) hx_4 _ (wk.hA hw hA)) (cwV 2 hts (gB_V w_ml_X10_143 w_im_X10_end_ w_se_X10_end_ w_in_X10 w_co_X10_end_) rfl rfl rfl (by decide +kernel) ⟨Nat.le_of_ble_eq_true rfl, Nat.le_of_ble_eq_true rfl⟩) (hR.1 30 (by decide) (by decide)) mke_30 rfl rfl hl.1 rfl (Nat.le_of_ble_eq_true rfl) dX10_rightOnNow_39 ⟨(Nat.le_of_ble_eq_true rfl), (Nat.le_of_ble_eq_true rfl)⟩) (fun H locs hw => ?_)
      refine lv_istore (lv' := [(4, .int x_4), (3, .int (S 12 0 p2.toNatClampNeg)), (0, .ref (ad 30 0)), (1, .ref (ad 46 j)), (2, .int p2)]) hx hb dX10_rightOnNow_42 hl (by decide) rfl (fun ls hl => ?_)
      refine lv_iload hx hb dX10_rightOnNow_44 (lv_at hl 0 rfl) ?_
      refine lv_iconst (v := (-1)) hx hb dX10_rightOnNow_46 (by decide) ?_
      refine lv_icmp_ne (tgt := 54) hx hb dX10_rightOnNow_47 (by decide) (fun c_5 => ?_) (fun c_5 => ?_)
      · have hE := (if_neg c_5).symm.trans hE
        refine lv_iload hx hb dX10_rightOnNow_54 (lv_at hl 0 rfl) ?_
        refine lv_iconst (v := 1) hx hb dX10_rightOnNow_56 (by decide) ?_
        refine lv_iadd hx hb dX10_rightOnNow_57 ?_
        exact m_iret hx hb hr hlocks rfl hw hE (Nat.le_of_ble_eq_true rfl) (Nat.le_of_ble_eq_true rfl) dX10_rightOnNow_58
      · have hE := (if_pos c_5).symm.trans hE
        refine lv_iconst (v := (-1)) hx hb dX10_rightOnNow_50 (by decide) ?_
        refine lv_goto (tgt := 58) hx hb dX10_rightOnNow_51 (by decide) ?_
        exact m_iret hx hb hr hlocks rfl hw hE (Nat.le_of_ble_eq_true rfl) (Nat.le_of_ble_eq_true rfl) dX10_rightOnNow_58
    · have hE := (if_neg c_3).symm.trans hE
      refine lv_iconst (v := (-1)) hx hb dX10_rightOnNow_33 (by decide) ?_
      exact m_iret hx hb hr hlocks rfl hw hE (Nat.le_of_ble_eq_true rfl) (Nat.le_of_ble_eq_true rfl) dX10_rightOnNow_34

abbrev bw_X10_rightOn : List Cond := .code yX10_rightOn cX10_rightOn 3 (some .int) :: BIG
abbrev rm_X10_rightOn : Room := { frames := 40, cells := 0, slots := 0, locals := 2173 }
noncomputable def sp_X10_rightOn (S : (Nat → Nat → Nat → Int32)) (p1 : Int32) (p2 : Int32) : Option (Int32 × (Nat → Nat → Nat → Int32)) := (sp_X10_isNoJoiner S p1).bind fun x_1 => (if x_1.1 = 0 then ((sp_X10_refuse x_1.2 (if (sp_X10_isFrom p2 0 ((S 1 0 1) - 1)) = 0 then 1 else 0) 1).bind fun x_4 => (if x_4.1 = 0 then (if p1 < 0 ∨ (S 0 0 0).toNatClampNeg ≤ p1.toNatClampNeg then none else ((sp_X10_rightOnNow x_4.2 p1.toNatClampNeg p2).bind fun x_7 => (some ((x_7, x_4.2))))) else (some ((0, x_4.2))))) else (some ((0, x_1.2))))
theorem sf_X10_rightOn {S : (Nat → Nat → Nat → Int32)} {p1 : Int32} {p2 : Int32} {v : Int32 × (Nat → Nat → Nat → Int32)} (h : sp_X10_rightOn S p1 p2 = some v) : SM S v.2 := by
  unfold sp_X10_rightOn at h
  obtain ⟨x_1, hx_1, h⟩ := ob1 h
  by_cases q_8 : x_1.1 = 0
  · have h := (if_pos q_8).symm.trans h
    obtain ⟨x_4, hx_4, h⟩ := ob1 h
    by_cases q_9 : x_4.1 = 0
    · have h := (if_pos q_9).symm.trans h
      by_cases q_10 : p1 < 0 ∨ (S 0 0 0).toNatClampNeg ≤ p1.toNatClampNeg
      · exact nomatch (if_pos q_10).symm.trans h
      have h := (if_neg q_10).symm.trans h
      obtain ⟨x_7, hx_7, h⟩ := ob1 h
      have hz : SM S x_4.2 := (SM.tr (SM.tr (SM.rf S) (sf_X10_isNoJoiner hx_1)) (sf_X10_refuse hx_4)); cases h; exact hz
    · have h := (if_neg q_9).symm.trans h
      have hz : SM S x_4.2 := (SM.tr (SM.tr (SM.rf S) (sf_X10_isNoJoiner hx_1)) (sf_X10_refuse hx_4)); cases h; exact hz
  · have h := (if_neg q_8).symm.trans h
    have hz : SM S x_1.2 := (SM.tr (SM.rf S) (sf_X10_isNoJoiner hx_1)); cases h; exact hz

set_option maxHeartbeats 1000000 in
set_option maxRecDepth 100000 in
theorem ct_X10_rightOn {l : Launch} {D : va_G} {cI cG cJ cO : ClassId} {K0 : Nat → Nat} {A : Nat → Prop} {L : List (Nat × Nat)} {ad : Nat → Nat → Nat} {ce : Nat → Nat → va_E} {cp : Nat → Nat} {S : (Nat → Nat → Nat → Int32)} (hR : MR S L cp) (hI : CI S) {p1 : Int32} {p2 : Int32} {v : Int32 × (Nat → Nat → Nat → Int32)} (hE : sp_X10_rightOn S p1 p2 = some v) (sz : Nat) (hA : ∀ q, sz ≤ q → A q) : Met l yX10_rightOn bw_X10_rightOn (rm_X10_rightOn) (kP D (ktys cI cG cJ cO) K0 A L ad (mK cI cO K0 ad cp ce S) sz [.ref (ad 30 0), .int p1, .int p2]) (kQi D A v.1 L ad (mK cI cO K0 ad cp ce v.2)) 0 0 A := by
  refine Met.ofW (cc := cX10_rightOn) (maxL := 3) (ret := (some .int)) (by decide) rfl ?_
  intro p e s m args below meth c s₁ B hml hv_
  obtain ⟨hav, hsz, hP, hD, hK, hO⟩ := hv_
  have hx := B.exec
  have hb := B.bytes
  have hr := B.returns
  have hts : ∀ w ∈ BIG, w.before args s = true := fun w h => atoms_spec (ws := bw_X10_rightOn) B.pre w (List.mem_cons_of_mem _ h)
  have hown : s.vm.findClass RX10 = some m.cls := findClass_of_methodNamed B.named
  have hlocks := B.notSynchronized
  subst hsz
  have hw := wk.start hP hD
  refine k_start (by rfl) hav (Nat.le_of_ble_eq_true rfl) (fun ls hl => ?_)
  have hl : lv_has ls 3 [(0, .ref (ad 30 0)), (1, .int p1), (2, .int p2)] := hl
  unfold sp_X10_rightOn at hE
  refine lv_aload_n hx hb dX10_rightOn_0 rfl (lv_at hl 0 rfl) ?_
  refine lv_iload_n hx hb dX10_rightOn_1 rfl (lv_at hl 1 rfl) ?_
  obtain ⟨x_1, hx_1, hE⟩ := ob1 hE
  refine k_ci0 hw (k_rV (f := 30) (o := 0) (As := [.int p1]) (rest := []) ⟨hx, hb, hml, hown, hts⟩ hK hO hw (ct_X10_isNoJoiner (MR.sm (SM.rf S) hR) (SM.ci (SM.rf S) hI) hx_1 _ (wk.hA hw hA)) (cwV 1 hts (gB_V w_ml_X10_250 w_im_X10_isNoJoiner w_se_X10_isNoJoiner w_in_X10 w_co_X10_isNoJoiner) rfl rfl rfl (by decide +kernel) ⟨Nat.le_of_ble_eq_true rfl, Nat.le_of_ble_eq_true rfl⟩) (hR.1 30 (by decide) (by decide)) mke_30 rfl rfl hl.1 rfl (Nat.le_of_ble_eq_true rfl) dX10_rightOn_2 ⟨(Nat.le_of_ble_eq_true rfl), (Nat.le_of_ble_eq_true rfl)⟩) (fun H locs hw => ?_)
  refine lv_if_ne (tgt := 38) hx hb dX10_rightOn_5 (by decide) (fun c_2 => ?_) (fun c_2 => ?_)
  · have hE := (if_neg c_2).symm.trans hE
    refine lv_iconst (v := 0) hx hb dX10_rightOn_38 (by decide) ?_
    refine lv_goto (tgt := 58) hx hb dX10_rightOn_39 (by decide) ?_
    exact m_iretE hx hb hr hlocks rfl hw hE (Nat.le_of_ble_eq_true rfl) (Nat.le_of_ble_eq_true rfl) dX10_rightOn_58
  · have hE := (if_pos c_2).symm.trans hE
    refine lv_aload_n hx hb dX10_rightOn_8 rfl (lv_at hl 0 rfl) ?_
    refine lv_iload_n hx hb dX10_rightOn_9 rfl (lv_at hl 2 rfl) ?_
    refine lv_iconst (v := 0) hx hb dX10_rightOn_10 (by decide) ?_
    refine lv_aload_n hx hb dX10_rightOn_11 rfl (lv_at hl 0 rfl) ?_
    refine k_get (C := RX10) (T := TX10) (N := 9) (v := .ref (ad 32 0)) hx hb hts inB_X10 hown hK hw (hR.1 30 (by decide) (by decide)) mke_30 rfl 3 (by decide) (hts _ w_f_X10_20) (fun _ h9 => h9) rfl dX10_rightOn_12 ?_
    refine k_ci0 hw (k_rV (f := 32) (o := 0) (As := []) (rest := [.int 0, .int p2, .ref (ad 30 0)]) ⟨hx, hb, hml, hown, hts⟩ hK hO hw (ct_size_1 (SM.tr (SM.rf S) (sf_X10_isNoJoiner hx_1)) hR _ (wk.hA hw hA)) (cwV 0 hts (gB_V w_ml_X10_43 w_im_Jx4a65c_size_8abf5 w_se_Jx4a65c_size_8abf5 w_in_Jx4a65c w_co_Jx4a65c_size_8abf5) rfl rfl rfl (by decide +kernel) ⟨Nat.le_of_ble_eq_true rfl, Nat.le_of_ble_eq_true rfl⟩) (hR.1 32 (by decide) (by decide)) (ce_l1 (SM.tr (SM.rf S) (sf_X10_isNoJoiner hx_1))) rfl rfl hl.1 rfl (Nat.le_of_ble_eq_true rfl) dX10_rightOn_15 ⟨(Nat.le_of_ble_eq_true rfl), (Nat.le_of_ble_eq_true rfl)⟩) (fun H locs hw => ?_)
    refine lv_iconst (v := 1) hx hb dX10_rightOn_18 (by decide) ?_
    refine lv_isub hx hb dX10_rightOn_19 ?_
    refine k_ci0 hw (k_rS (As := [.int p2, .int 0, .int ((S 1 0 1) - 1)]) (rest := [.ref (ad 30 0)]) ⟨hx, hb, hml, hown, hts⟩ hK hO hw (ct_X10_isFrom p2 0 ((S 1 0 1) - 1) _ (wk.hA hw hA)) (va_cwS 3 hts (gB_S w_ml_X10_47 w_st_X10_isFrom w_in_X10 w_co_X10_isFrom) rfl rfl rfl (by decide +kernel) ⟨Nat.le_of_ble_eq_true rfl, Nat.le_of_ble_eq_true rfl⟩) rfl hl.1 rfl (Nat.le_of_ble_eq_true rfl) dX10_rightOn_20 ⟨(Nat.le_of_ble_eq_true rfl), (Nat.le_of_ble_eq_true rfl)⟩) (fun H locs hw => ?_)
    have hjc_3 : ∀ bc_3 : Int32, bc_3 = (if (sp_X10_isFrom p2 0 ((S 1 0 1) - 1)) = 0 then 1 else 0) → W p l e (headSpec bw_X10_rightOn (rm_X10_rightOn)).room s m args below meth c H locs 0 0 (MQ below (kQi D A v.1 L ad (mK cI cO K0 ad cp ce v.2)) args s 0 0 A) (F0 m 31 ls [.int bc_3, .ref (ad 30 0)]) := by
      intro bc_3 hbc_3
      subst hbc_3
      refine lv_iconst (v := 1) hx hb dX10_rightOn_31 (by decide) ?_
      obtain ⟨x_4, hx_4, hE⟩ := ob1 hE
      refine k_ci0 hw (k_rV (f := 30) (o := 0) (As := [.int (if (sp_X10_isFrom p2 0 ((S 1 0 1) - 1)) = 0 then 1 else 0), .int 1]) (rest := []) ⟨hx, hb, hml, hown, hts⟩ hK hO hw (ct_X10_refuse (MR.sm (SM.tr (SM.rf S) (sf_X10_isNoJoiner hx_1)) hR) (SM.ci (SM.tr (SM.rf S) (sf_X10_isNoJoiner hx_1)) hI) hx_4 _ (wk.hA hw hA)) (cwV 2 hts (gB_V w_ml_X10_39 w_im_X10_refuse w_se_X10_refuse w_in_X10 w_co_X10_refuse) rfl rfl rfl (by decide +kernel) ⟨Nat.le_of_ble_eq_true rfl, Nat.le_of_ble_eq_true rfl⟩) (hR.1 30 (by decide) (by decide)) mke_30 rfl rfl hl.1 rfl (Nat.le_of_ble_eq_true rfl) dX10_rightOn_32 ⟨(Nat.le_of_ble_eq_true rfl), (Nat.le_of_ble_eq_true rfl)⟩) (fun H locs hw => ?_)
      refine lv_if_eq (tgt := 42) hx hb dX10_rightOn_35 (by decide) (fun c_5 => ?_) (fun c_5 => ?_)
      · have hE := (if_pos c_5).symm.trans hE
        refine lv_aload_n hx hb dX10_rightOn_42 rfl (lv_at hl 0 rfl) ?_
        refine lv_aload_n hx hb dX10_rightOn_43 rfl (lv_at hl 0 rfl) ?_
        refine k_get (C := RX10) (T := TX10) (N := 9) (v := .ref (ad 35 0)) hx hb hts inB_X10 hown hK hw (hR.1 30 (by decide) (by decide)) mke_30 rfl 7 (by decide) (hts _ w_f_X10_32) (fun _ h9 => h9) rfl dX10_rightOn_44 ?_
        refine lv_iload_n hx hb dX10_rightOn_47 rfl (lv_at hl 1 rfl) ?_
        by_cases c_6 : p1 < 0 ∨ (S 0 0 0).toNatClampNeg ≤ p1.toNatClampNeg
        · exact nomatch (if_pos c_6).symm.trans hE
        have hE := (if_neg c_6).symm.trans hE
        refine k_cr0 (v := (ad 46 p1.toNatClampNeg)) hw (k_rV (f := 35) (o := 0) (As := [.int p1]) (rest := [.ref (ad 30 0)]) ⟨hx, hb, hml, hown, hts⟩ hK hO hw (ct_get_4 (SM.tr (SM.tr (SM.rf S) (sf_X10_isNoJoiner hx_1)) (sf_X10_refuse hx_4)) hR (i := p1.toNatClampNeg) (fun z => c_6 (Or.inl z)) rfl (Nat.not_le.mp fun z => c_6 (Or.inr z)) _ (wk.hA hw hA)) (cwV 1 hts (gB_V w_ml_X10_51 w_im_Jx4a65c_get_915e3 w_se_Jx4a65c_get_915e3 w_in_Jx4a65c w_co_Jx4a65c_get_915e3) rfl rfl rfl (by decide +kernel) ⟨Nat.le_of_ble_eq_true rfl, Nat.le_of_ble_eq_true rfl⟩) (hR.1 35 (by decide) (by decide)) (ce_l4 (SM.tr (SM.tr (SM.rf S) (sf_X10_isNoJoiner hx_1)) (sf_X10_refuse hx_4))) rfl rfl hl.1 rfl (Nat.le_of_ble_eq_true rfl) dX10_rightOn_48 ⟨(Nat.le_of_ble_eq_true rfl), (Nat.le_of_ble_eq_true rfl)⟩) (fun H locs hw => ?_)
        refine k_cast (f := 46) (o := p1.toNatClampNeg) hx hb hown (hts _ w_cl_X10_64) hK hw (hR.2.2.2.2.2.2.2 46 _ (by decide) (by decide) (Nat.not_le.mp fun z => c_6 (Or.inr z))) mke_46 rfl dX10_rightOn_51 ?_
        refine lv_iload_n hx hb dX10_rightOn_54 rfl (lv_at hl 2 rfl) ?_
        obtain ⟨x_7, hx_7, hE⟩ := ob1 hE
        refine k_ci0 hw (k_rV (f := 30) (o := 0) (As := [.ref (ad 46 p1.toNatClampNeg), .int p2]) (rest := []) ⟨hx, hb, hml, hown, hts⟩ hK hO hw (ct_X10_rightOnNow (MR.sm (SM.tr (SM.tr (SM.rf S) (sf_X10_isNoJoiner hx_1)) (sf_X10_refuse hx_4)) hR) (SM.ci (SM.tr (SM.tr (SM.rf S) (sf_X10_isNoJoiner hx_1)) (sf_X10_refuse hx_4)) hI) (by rw [SM.c4 (SM.tr (SM.tr (SM.rf S) (sf_X10_isNoJoiner hx_1)) (sf_X10_refuse hx_4))]; exact (Nat.not_le.mp fun z => c_6 (Or.inr z))) hx_7 _ (wk.hA hw hA)) (cwV 2 hts (gB_V w_ml_X10_285 w_im_X10_rightOnNow w_se_X10_rightOnNow w_in_X10 w_co_X10_rightOnNow) rfl rfl rfl (by decide +kernel) ⟨Nat.le_of_ble_eq_true rfl, Nat.le_of_ble_eq_true rfl⟩) (hR.1 30 (by decide) (by decide)) mke_30 rfl rfl hl.1 rfl (Nat.le_of_ble_eq_true rfl) dX10_rightOn_55 ⟨(Nat.le_of_ble_eq_true rfl), (Nat.le_of_ble_eq_true rfl)⟩) (fun H locs hw => ?_)
        exact m_iretE hx hb hr hlocks rfl hw hE (Nat.le_of_ble_eq_true rfl) (Nat.le_of_ble_eq_true rfl) dX10_rightOn_58
      · have hE := (if_neg c_5).symm.trans hE
        refine lv_iconst (v := 0) hx hb dX10_rightOn_38 (by decide) ?_
        refine lv_goto (tgt := 58) hx hb dX10_rightOn_39 (by decide) ?_
        exact m_iretE hx hb hr hlocks rfl hw hE (Nat.le_of_ble_eq_true rfl) (Nat.le_of_ble_eq_true rfl) dX10_rightOn_58
    refine lv_if_ne (tgt := 30) hx hb dX10_rightOn_23 (by decide) (fun c_3 => ?_) (fun c_3 => ?_)
    · refine lv_iconst (v := 0) hx hb dX10_rightOn_30 (by decide) ?_
      exact hjc_3 _ (if_neg c_3).symm
    · refine lv_iconst (v := 1) hx hb dX10_rightOn_26 (by decide) ?_
      refine lv_goto (tgt := 31) hx hb dX10_rightOn_27 (by decide) ?_
      exact hjc_3 _ (if_pos c_3).symm

abbrev bw_X10_next : List Cond := .code yX10_next cX10_next 2 (some .int) :: BIG
abbrev rm_X10_next : Room := { frames := 6, cells := 0, slots := 0, locals := 129 }
noncomputable def sp_X10_next (S : (Nat → Nat → Nat → Int32)) (p1 : Int32) : Option (Int32 × (Nat → Nat → Nat → Int32)) := (sp_X10_isNoJoiner S p1).bind fun x_1 => (if x_1.1 = 0 then (if p1 < 0 ∨ (S 0 0 0).toNatClampNeg ≤ p1.toNatClampNeg then none else ((sp_X10_nextNow x_1.2 p1.toNatClampNeg).bind fun x_4 => (some ((x_4, x_1.2))))) else (some ((0, x_1.2))))
theorem sf_X10_next {S : (Nat → Nat → Nat → Int32)} {p1 : Int32} {v : Int32 × (Nat → Nat → Nat → Int32)} (h : sp_X10_next S p1 = some v) : SM S v.2 := by
  unfold sp_X10_next at h
  obtain ⟨x_1, hx_1, h⟩ := ob1 h
  by_cases q_5 : x_1.1 = 0
  · have h := (if_pos q_5).symm.trans h
    by_cases q_6 : p1 < 0 ∨ (S 0 0 0).toNatClampNeg ≤ p1.toNatClampNeg
    · exact nomatch (if_pos q_6).symm.trans h
    have h := (if_neg q_6).symm.trans h
    obtain ⟨x_4, hx_4, h⟩ := ob1 h
    have hz : SM S x_1.2 := (SM.tr (SM.rf S) (sf_X10_isNoJoiner hx_1)); cases h; exact hz
  · have h := (if_neg q_5).symm.trans h
    have hz : SM S x_1.2 := (SM.tr (SM.rf S) (sf_X10_isNoJoiner hx_1)); cases h; exact hz

set_option maxHeartbeats 1000000 in
set_option maxRecDepth 100000 in
theorem ct_X10_next {l : Launch} {D : va_G} {cI cG cJ cO : ClassId} {K0 : Nat → Nat} {A : Nat → Prop} {L : List (Nat × Nat)} {ad : Nat → Nat → Nat} {ce : Nat → Nat → va_E} {cp : Nat → Nat} {S : (Nat → Nat → Nat → Int32)} (hR : MR S L cp) (hI : CI S) {p1 : Int32} {v : Int32 × (Nat → Nat → Nat → Int32)} (hE : sp_X10_next S p1 = some v) (sz : Nat) (hA : ∀ q, sz ≤ q → A q) : Met l yX10_next bw_X10_next (rm_X10_next) (kP D (ktys cI cG cJ cO) K0 A L ad (mK cI cO K0 ad cp ce S) sz [.ref (ad 30 0), .int p1]) (kQi D A v.1 L ad (mK cI cO K0 ad cp ce v.2)) 0 0 A := by
  refine Met.ofW (cc := cX10_next) (maxL := 2) (ret := (some .int)) (by decide) rfl ?_
  intro p e s m args below meth c s₁ B hml hv_
  obtain ⟨hav, hsz, hP, hD, hK, hO⟩ := hv_
  have hx := B.exec
  have hb := B.bytes
  have hr := B.returns
  have hts : ∀ w ∈ BIG, w.before args s = true := fun w h => atoms_spec (ws := bw_X10_next) B.pre w (List.mem_cons_of_mem _ h)
  have hown : s.vm.findClass RX10 = some m.cls := findClass_of_methodNamed B.named
  have hlocks := B.notSynchronized
  subst hsz
  have hw := wk.start hP hD
  refine k_start (by rfl) hav (Nat.le_of_ble_eq_true rfl) (fun ls hl => ?_)
  have hl : lv_has ls 2 [(0, .ref (ad 30 0)), (1, .int p1)] := hl
  unfold sp_X10_next at hE
  refine lv_aload_n hx hb dX10_next_0 rfl (lv_at hl 0 rfl) ?_
  refine lv_iload_n hx hb dX10_next_1 rfl (lv_at hl 1 rfl) ?_
  obtain ⟨x_1, hx_1, hE⟩ := ob1 hE
  refine k_ci0 hw (k_rV (f := 30) (o := 0) (As := [.int p1]) (rest := []) ⟨hx, hb, hml, hown, hts⟩ hK hO hw (ct_X10_isNoJoiner (MR.sm (SM.rf S) hR) (SM.ci (SM.rf S) hI) hx_1 _ (wk.hA hw hA)) (cwV 1 hts (gB_V w_ml_X10_250 w_im_X10_isNoJoiner w_se_X10_isNoJoiner w_in_X10 w_co_X10_isNoJoiner) rfl rfl rfl (by decide +kernel) ⟨Nat.le_of_ble_eq_true rfl, Nat.le_of_ble_eq_true rfl⟩) (hR.1 30 (by decide) (by decide)) mke_30 rfl rfl hl.1 rfl (Nat.le_of_ble_eq_true rfl) dX10_next_2 ⟨(Nat.le_of_ble_eq_true rfl), (Nat.le_of_ble_eq_true rfl)⟩) (fun H locs hw => ?_)
  refine lv_if_eq (tgt := 12) hx hb dX10_next_5 (by decide) (fun c_2 => ?_) (fun c_2 => ?_)
  · have hE := (if_pos c_2).symm.trans hE
    refine lv_aload_n hx hb dX10_next_12 rfl (lv_at hl 0 rfl) ?_
    refine lv_aload_n hx hb dX10_next_13 rfl (lv_at hl 0 rfl) ?_
    refine k_get (C := RX10) (T := TX10) (N := 9) (v := .ref (ad 35 0)) hx hb hts inB_X10 hown hK hw (hR.1 30 (by decide) (by decide)) mke_30 rfl 7 (by decide) (hts _ w_f_X10_32) (fun _ h9 => h9) rfl dX10_next_14 ?_
    refine lv_iload_n hx hb dX10_next_17 rfl (lv_at hl 1 rfl) ?_
    by_cases c_3 : p1 < 0 ∨ (S 0 0 0).toNatClampNeg ≤ p1.toNatClampNeg
    · exact nomatch (if_pos c_3).symm.trans hE
    have hE := (if_neg c_3).symm.trans hE
    refine k_cr0 (v := (ad 46 p1.toNatClampNeg)) hw (k_rV (f := 35) (o := 0) (As := [.int p1]) (rest := [.ref (ad 30 0)]) ⟨hx, hb, hml, hown, hts⟩ hK hO hw (ct_get_4 (SM.tr (SM.rf S) (sf_X10_isNoJoiner hx_1)) hR (i := p1.toNatClampNeg) (fun z => c_3 (Or.inl z)) rfl (Nat.not_le.mp fun z => c_3 (Or.inr z)) _ (wk.hA hw hA)) (cwV 1 hts (gB_V w_ml_X10_51 w_im_Jx4a65c_get_915e3 w_se_Jx4a65c_get_915e3 w_in_Jx4a65c w_co_Jx4a65c_get_915e3) rfl rfl rfl (by decide +kernel) ⟨Nat.le_of_ble_eq_true rfl, Nat.le_of_ble_eq_true rfl⟩) (hR.1 35 (by decide) (by decide)) (ce_l4 (SM.tr (SM.rf S) (sf_X10_isNoJoiner hx_1))) rfl rfl hl.1 rfl (Nat.le_of_ble_eq_true rfl) dX10_next_18 ⟨(Nat.le_of_ble_eq_true rfl), (Nat.le_of_ble_eq_true rfl)⟩) (fun H locs hw => ?_)
    refine k_cast (f := 46) (o := p1.toNatClampNeg) hx hb hown (hts _ w_cl_X10_64) hK hw (hR.2.2.2.2.2.2.2 46 _ (by decide) (by decide) (Nat.not_le.mp fun z => c_3 (Or.inr z))) mke_46 rfl dX10_next_21 ?_
    obtain ⟨x_4, hx_4, hE⟩ := ob1 hE
    refine k_ci0 hw (k_rV (f := 30) (o := 0) (As := [.ref (ad 46 p1.toNatClampNeg)]) (rest := []) ⟨hx, hb, hml, hown, hts⟩ hK hO hw (ct_X10_nextNow (MR.sm (SM.tr (SM.rf S) (sf_X10_isNoJoiner hx_1)) hR) (SM.ci (SM.tr (SM.rf S) (sf_X10_isNoJoiner hx_1)) hI) (by rw [SM.c4 (SM.tr (SM.rf S) (sf_X10_isNoJoiner hx_1))]; exact (Nat.not_le.mp fun z => c_3 (Or.inr z))) hx_4 _ (wk.hA hw hA)) (cwV 1 hts (gB_V w_ml_X10_288 w_im_X10_nextNow w_se_X10_nextNow w_in_X10 w_co_X10_nextNow) rfl rfl rfl (by decide +kernel) ⟨Nat.le_of_ble_eq_true rfl, Nat.le_of_ble_eq_true rfl⟩) (hR.1 30 (by decide) (by decide)) mke_30 rfl rfl hl.1 rfl (Nat.le_of_ble_eq_true rfl) dX10_next_24 ⟨(Nat.le_of_ble_eq_true rfl), (Nat.le_of_ble_eq_true rfl)⟩) (fun H locs hw => ?_)
    exact m_iretE hx hb hr hlocks rfl hw hE (Nat.le_of_ble_eq_true rfl) (Nat.le_of_ble_eq_true rfl) dX10_next_27
  · have hE := (if_neg c_2).symm.trans hE
    refine lv_iconst (v := 0) hx hb dX10_next_8 (by decide) ?_
    refine lv_goto (tgt := 27) hx hb dX10_next_9 (by decide) ?_
    exact m_iretE hx hb hr hlocks rfl hw hE (Nat.le_of_ble_eq_true rfl) (Nat.le_of_ble_eq_true rfl) dX10_next_27

abbrev bw_X10_waitForNow : List Cond := .code yX10_waitForNow cX10_waitForNow 6 (some .int) :: BIG
abbrev rm_X10_waitForNow : Room := { frames := 3, cells := 0, slots := 0, locals := 64 }
noncomputable def lp_X10_waitForNow_12 (S : (Nat → Nat → Nat → Int32)) (j : Nat) (p2 : Int32) : Nat → Nat → Int32 → Int32 → Option (Int32 × Int32)
  | 0, i, v3, v4 => some (v3, v4)
  | k + 1, i, v3, v4 => (sp_X6_has S j (nI i)).bind fun x_4 => (if x_4 = 0 then (lp_X10_waitForNow_12 S j p2 k (i + 1) v3 v4) else (if (S 9 0 i) &&& v3 = 0 then (lp_X10_waitForNow_12 S j p2 k (i + 1) v3 v4) else (lp_X10_waitForNow_12 S j p2 k (i + 1) (v3 ||| ((1 : Int32) <<< ((nI i) &&& 31))) (v4 + (if S 24 j i = 2 then 0 else 1)))))
theorem lz_lp_X10_waitForNow_12 (S : (Nat → Nat → Nat → Int32)) (j : Nat) (p2 : Int32) (i : Nat) (v3 : Int32) (v4 : Int32) : lp_X10_waitForNow_12 S j p2 0 i v3 v4 = some (v3, v4) := rfl
theorem ls_lp_X10_waitForNow_12 (S : (Nat → Nat → Nat → Int32)) (j : Nat) (p2 : Int32) (k i : Nat) (v3 : Int32) (v4 : Int32) : lp_X10_waitForNow_12 S j p2 (k + 1) i v3 v4 = (sp_X6_has S j (nI i)).bind fun x_4 => (if x_4 = 0 then (lp_X10_waitForNow_12 S j p2 k (i + 1) v3 v4) else (if (S 9 0 i) &&& v3 = 0 then (lp_X10_waitForNow_12 S j p2 k (i + 1) v3 v4) else (lp_X10_waitForNow_12 S j p2 k (i + 1) (v3 ||| ((1 : Int32) <<< ((nI i) &&& 31))) (v4 + (if S 24 j i = 2 then 0 else 1))))) := rfl
noncomputable def sp_X10_waitForNow (S : (Nat → Nat → Nat → Int32)) (j : Nat) (p2 : Int32) : Option (Int32) := if p2 < 0 ∨ (S 1 0 0).toNatClampNeg ≤ p2.toNatClampNeg then none else (obi2 (lp_X10_waitForNow_12 S j p2 ((S 1 0 0).toNatClampNeg - (p2.toNatClampNeg + 1)) (p2.toNatClampNeg + 1) ((1 : Int32) <<< (p2 &&& 31)) 0) (fun w_2 w_3 => (some (w_3))))
set_option maxHeartbeats 1000000 in
set_option maxRecDepth 100000 in
theorem ct_X10_waitForNow {l : Launch} {D : va_G} {cI cG cJ cO : ClassId} {K0 : Nat → Nat} {A : Nat → Prop} {L : List (Nat × Nat)} {ad : Nat → Nat → Nat} {ce : Nat → Nat → va_E} {cp : Nat → Nat} {S : (Nat → Nat → Nat → Int32)} (hR : MR S L cp) (hI : CI S) {j : Nat} {p2 : Int32} (hj : j < (S 0 0 0).toNatClampNeg) {v : Int32} (hE : sp_X10_waitForNow S j p2 = some v) (sz : Nat) (hA : ∀ q, sz ≤ q → A q) : Met l yX10_waitForNow bw_X10_waitForNow (rm_X10_waitForNow) (kP D (ktys cI cG cJ cO) K0 A L ad (mK cI cO K0 ad cp ce S) sz [.ref (ad 30 0), .ref (ad 46 j), .int p2]) (kQi D A v L ad (mK cI cO K0 ad cp ce S)) 0 0 A := by
  refine Met.ofW (cc := cX10_waitForNow) (maxL := 6) (ret := (some .int)) (by decide) rfl ?_
  intro p e s m args below meth c s₁ B hml hv_
  obtain ⟨hav, hsz, hP, hD, hK, hO⟩ := hv_
  have hx := B.exec
  have hb := B.bytes
  have hr := B.returns
  have hts : ∀ w ∈ BIG, w.before args s = true := fun w h => atoms_spec (ws := bw_X10_waitForNow) B.pre w (List.mem_cons_of_mem _ h)
  have hown : s.vm.findClass RX10 = some m.cls := findClass_of_methodNamed B.named
  have hlocks := B.notSynchronized
  subst hsz
  have hw := wk.start hP hD
  refine k_start (by rfl) hav (Nat.le_of_ble_eq_true rfl) (fun ls hl => ?_)
  have hl : lv_has ls 6 [(0, .ref (ad 30 0)), (1, .ref (ad 46 j)), (2, .int p2)] := hl
  unfold sp_X10_waitForNow at hE
  refine lv_iconst (v := 1) hx hb dX10_waitForNow_0 (by decide) ?_
  refine lv_iload_n hx hb dX10_waitForNow_1 rfl (lv_at hl 2 rfl) ?_
  refine lv_ishl hx hb dX10_waitForNow_2 ?_
  refine lv_istore_n (lv' := [(3, .int ((1 : Int32) <<< (p2 &&& 31))), (0, .ref (ad 30 0)), (1, .ref (ad 46 j)), (2, .int p2)]) hx hb dX10_waitForNow_3 rfl hl (by decide) rfl (fun ls hl => ?_)
  refine lv_iconst (v := 0) hx hb dX10_waitForNow_4 (by decide) ?_
  refine lv_istore (lv' := [(4, .int 0), (3, .int ((1 : Int32) <<< (p2 &&& 31))), (0, .ref (ad 30 0)), (1, .ref (ad 46 j)), (2, .int p2)]) hx hb dX10_waitForNow_5 hl (by decide) rfl (fun ls hl => ?_)
  refine lv_iload_n hx hb dX10_waitForNow_7 rfl (lv_at hl 4 rfl) ?_
  refine lv_iconst (v := 1) hx hb dX10_waitForNow_8 (by decide) ?_
  refine lv_iadd hx hb dX10_waitForNow_9 ?_
  refine lv_istore (lv' := [(5, .int (p2 + 1)), (4, .int 0), (3, .int ((1 : Int32) <<< (p2 &&& 31))), (0, .ref (ad 30 0)), (1, .ref (ad 46 j)), (2, .int p2)]) hx hb dX10_waitForNow_10 hl (by decide) rfl (fun ls hl => ?_)
  by_cases c_1 : p2 < 0 ∨ (S 1 0 0).toNatClampNeg ≤ p2.toNatClampNeg
  · exact nomatch (if_pos c_1).symm.trans hE
  have hE := (if_neg c_1).symm.trans hE
  have e9 : p2 + 1 = nI (p2.toNatClampNeg + 1) := by
    conv => lhs; rw [cn_nn (fun z => c_1 (Or.inl z))]
    exact nI_1 _
  rw [e9] at hl
  have h8 := (Nat.not_le.mp fun z => c_1 (Or.inr z))
  obtain ⟨w_2, w_3, hL_12, hE⟩ := ob2 hE
  have key_12 : ∀ (k i : Nat) (v3 : Int32) (v4 : Int32) (H : Heap) (locs : List Loc) (ls : Array Slot), i + k = (S 1 0 0).toNatClampNeg → lp_X10_waitForNow_12 S j p2 k i v3 v4 = some (w_2, w_3) → wk D A (L) ad (mK cI cO K0 ad cp ce S) s.heap H locs → lv_has ls 6 [(0, .ref (ad 30 0)), (1, .ref (ad 46 j)), (3, .int v3), (4, .int v4), (5, .int (nI i))] → W p l e (headSpec bw_X10_waitForNow (rm_X10_waitForNow)).room s m args below meth c H locs 0 0 (MQ below (kQi D A v L ad (mK cI cO K0 ad cp ce S)) args s 0 0 A) (F0 m 12 ls []) := by
    intro k
    induction k with
    | zero =>
      intro i v3 v4 H locs ls hk hV hw hl
      have hV := (lz_lp_X10_waitForNow_12 S j p2 i v3 v4).symm.trans hV
      obtain ⟨rfl, rfl⟩ := sj2 hV
      refine lv_iload hx hb dX10_waitForNow_12 (lv_at hl 4 rfl) ?_
      refine lv_aload_n hx hb dX10_waitForNow_14 rfl (lv_at hl 0 rfl) ?_
      refine k_get (C := RX10) (T := TX10) (N := 9) (v := .ref (ad 31 0)) hx hb hts inB_X10 hown hK hw (hR.1 30 (by decide) (by decide)) mke_30 rfl 1 (by decide) (hts _ w_f_X10_10) (fun _ h9 => h9) rfl dX10_waitForNow_15 ?_
      refine k_ci0 hw (k_rV (f := 31) (o := 0) (As := []) (rest := [.int (nI i)]) ⟨hx, hb, hml, hown, hts⟩ hK hO hw (ct_size_0 (SM.rf S) hR _ (wk.hA hw hA)) (cwV 0 hts (gB_V w_ml_X10_43 w_im_Jx4a65c_size_8abf5 w_se_Jx4a65c_size_8abf5 w_in_Jx4a65c w_co_Jx4a65c_size_8abf5) rfl rfl rfl (by decide +kernel) ⟨Nat.le_of_ble_eq_true rfl, Nat.le_of_ble_eq_true rfl⟩) (hR.1 31 (by decide) (by decide)) (ce_l0 (SM.rf S)) rfl rfl hl.1 rfl (Nat.le_of_ble_eq_true rfl) dX10_waitForNow_18 ⟨(Nat.le_of_ble_eq_true rfl), (Nat.le_of_ble_eq_true rfl)⟩) (fun H locs hw => ?_)
      refine lv_icmp_ge (tgt := 90) hx hb dX10_waitForNow_21 (by decide) (fun _ => ?_) (fun h => absurd (lp_o (cn_eq hI.1.1) hk (cn_lt _)) h)
      refine lv_iload hx hb dX10_waitForNow_90 (lv_at hl 3 rfl) ?_
      exact m_iret hx hb hr hlocks rfl hw hE (Nat.le_of_ble_eq_true rfl) (Nat.le_of_ble_eq_true rfl) dX10_waitForNow_92
    | succ k ih =>
      intro i v3 v4 H locs ls hk hV hw hl
      have hV := (ls_lp_X10_waitForNow_12 S j p2 k i v3 v4).symm.trans hV
      have hE := hV
      refine lv_iload hx hb dX10_waitForNow_12 (lv_at hl 4 rfl) ?_
      refine lv_aload_n hx hb dX10_waitForNow_14 rfl (lv_at hl 0 rfl) ?_
      refine k_get (C := RX10) (T := TX10) (N := 9) (v := .ref (ad 31 0)) hx hb hts inB_X10 hown hK hw (hR.1 30 (by decide) (by decide)) mke_30 rfl 1 (by decide) (hts _ w_f_X10_10) (fun _ h9 => h9) rfl dX10_waitForNow_15 ?_
      refine k_ci0 hw (k_rV (f := 31) (o := 0) (As := []) (rest := [.int (nI i)]) ⟨hx, hb, hml, hown, hts⟩ hK hO hw (ct_size_0 (SM.rf S) hR _ (wk.hA hw hA)) (cwV 0 hts (gB_V w_ml_X10_43 w_im_Jx4a65c_size_8abf5 w_se_Jx4a65c_size_8abf5 w_in_Jx4a65c w_co_Jx4a65c_size_8abf5) rfl rfl rfl (by decide +kernel) ⟨Nat.le_of_ble_eq_true rfl, Nat.le_of_ble_eq_true rfl⟩) (hR.1 31 (by decide) (by decide)) (ce_l0 (SM.rf S)) rfl rfl hl.1 rfl (Nat.le_of_ble_eq_true rfl) dX10_waitForNow_18 ⟨(Nat.le_of_ble_eq_true rfl), (Nat.le_of_ble_eq_true rfl)⟩) (fun H locs hw => ?_)
      refine lv_icmp_ge (tgt := 90) hx hb dX10_waitForNow_21 (by decide) (fun h => absurd h (lp_i (cn_eq hI.1.1) hk (cn_lt _))) (fun _ => ?_)
      refine lv_aload_n hx hb dX10_waitForNow_24 rfl (lv_at hl 1 rfl) ?_
      refine lv_iload hx hb dX10_waitForNow_25 (lv_at hl 4 rfl) ?_
      obtain ⟨x_4, hx_4, hE⟩ := ob1 hE
      refine k_ci0 hw (k_rV (f := 46) (o := j) (As := [.int (nI i)]) (rest := []) ⟨hx, hb, hml, hown, hts⟩ hK hO hw (ct_X6_has (MR.sm (SM.rf S) hR) (SM.ci (SM.rf S) hI) (by rw [SM.c4 (SM.rf S)]; exact hj) hx_4 _ (wk.hA hw hA)) (cwV 1 hts (gB_V w_ml_X10_256 w_im_X6_has w_se_X6_has w_in_X6 w_co_X6_has) rfl rfl rfl (by decide +kernel) ⟨Nat.le_of_ble_eq_true rfl, Nat.le_of_ble_eq_true rfl⟩) (hR.2.2.2.2.2.2.2 46 _ (by decide) (by decide) hj) mke_46 rfl rfl hl.1 rfl (Nat.le_of_ble_eq_true rfl) dX10_waitForNow_27 ⟨(Nat.le_of_ble_eq_true rfl), (Nat.le_of_ble_eq_true rfl)⟩) (fun H locs hw => ?_)
      refine lv_if_eq (tgt := 84) hx hb dX10_waitForNow_30 (by decide) (fun c_5 => ?_) (fun c_5 => ?_)
      · have hE := (if_pos c_5).symm.trans hE
        refine lv_iinc (v := (nI (i + 1))) (lv' := [(5, .int (nI (i + 1))), (0, .ref (ad 30 0)), (1, .ref (ad 46 j)), (3, .int v3), (4, .int v4)]) hx hb dX10_waitForNow_84 hl (k := 4) rfl (nI_1 _) (by decide) rfl (fun ls hl => ?_)
        refine lv_goto (tgt := 12) hx hb dX10_waitForNow_87 (by decide) ?_
        exact ih (i + 1) v3 v4 _ _ _ (lp_s hk) hE hw (lv_sub hl [1, 2, 3, 4, 0] rfl)
      · have hE := (if_neg c_5).symm.trans hE
        refine lv_aload_n hx hb dX10_waitForNow_33 rfl (lv_at hl 0 rfl) ?_
        refine k_get (C := RX10) (T := TX10) (N := 9) (v := .ref (ad 31 0)) hx hb hts inB_X10 hown hK hw (hR.1 30 (by decide) (by decide)) mke_30 rfl 1 (by decide) (hts _ w_f_X10_10) (fun _ h9 => h9) rfl dX10_waitForNow_34 ?_
        refine lv_iload hx hb dX10_waitForNow_37 (lv_at hl 4 rfl) ?_
        refine k_cr0 (v := (ad 43 i)) hw (k_rV (f := 31) (o := 0) (As := [.int (nI i)]) (rest := []) ⟨hx, hb, hml, hown, hts⟩ hK hO hw (ct_get_0 (SM.rf S) hR (i := i) (nI_nlt (a := i) (b := 0) (Nat.zero_le _) (Nat.lt_trans (show i < (S 1 0 0).toNatClampNeg from (lp_l hk)) (cn_lt _))) (nI_clamp (Nat.lt_trans (show i < (S 1 0 0).toNatClampNeg from (lp_l hk)) (cn_lt _))) (show i < (S 1 0 0).toNatClampNeg from (lp_l hk)) _ (wk.hA hw hA)) (cwV 1 hts (gB_V w_ml_X10_51 w_im_Jx4a65c_get_915e3 w_se_Jx4a65c_get_915e3 w_in_Jx4a65c w_co_Jx4a65c_get_915e3) rfl rfl rfl (by decide +kernel) ⟨Nat.le_of_ble_eq_true rfl, Nat.le_of_ble_eq_true rfl⟩) (hR.1 31 (by decide) (by decide)) (ce_l0 (SM.rf S)) rfl rfl hl.1 rfl (Nat.le_of_ble_eq_true rfl) dX10_waitForNow_39 ⟨(Nat.le_of_ble_eq_true rfl), (Nat.le_of_ble_eq_true rfl)⟩) (fun H locs hw => ?_)
        refine k_cast (f := 43) (o := i) hx hb hown (hts _ w_cl_X10_55) hK hw (hR.2.2.2.1 _ (show i < (S 1 0 0).toNatClampNeg from (lp_l hk))) mke_43 rfl dX10_waitForNow_42 ?_
        refine k_get (C := RX9) (T := TX9) (N := 4) (v := .int (S 9 0 i)) hx hb hts inB_X9 hown hK hw (hR.2.2.2.1 _ (show i < (S 1 0 0).toNatClampNeg from (lp_l hk))) mke_43 rfl 2 (by decide) (hts _ w_f_X10_115) (fun _ h9 => h9) rfl dX10_waitForNow_45 ?_
        refine lv_iload_n hx hb dX10_waitForNow_48 rfl (lv_at hl 2 rfl) ?_
        refine lv_iand hx hb dX10_waitForNow_49 ?_
        refine lv_if_ne (tgt := 56) hx hb dX10_waitForNow_50 (by decide) (fun c_6 => ?_) (fun c_6 => ?_)
        · have hE := (if_neg c_6).symm.trans hE
          refine lv_iload_n hx hb dX10_waitForNow_56 rfl (lv_at hl 2 rfl) ?_
          refine lv_iconst (v := 1) hx hb dX10_waitForNow_57 (by decide) ?_
          refine lv_iload hx hb dX10_waitForNow_58 (lv_at hl 4 rfl) ?_
          refine lv_ishl hx hb dX10_waitForNow_60 ?_
          refine lv_ior hx hb dX10_waitForNow_61 ?_
          refine lv_istore_n (lv' := [(3, .int (v3 ||| ((1 : Int32) <<< ((nI i) &&& 31)))), (0, .ref (ad 30 0)), (1, .ref (ad 46 j)), (4, .int v4), (5, .int (nI i))]) hx hb dX10_waitForNow_62 rfl hl (by decide) rfl (fun ls hl => ?_)
          refine lv_iload hx hb dX10_waitForNow_63 (lv_at hl 3 rfl) ?_
          refine lv_aload_n hx hb dX10_waitForNow_65 rfl (lv_at hl 2 rfl) ?_
          refine k_get (C := RX6) (T := TX6) (N := 8) (v := .ref (ad 47 j)) hx hb hts inB_X6 hown hK hw (hR.2.2.2.2.2.2.2 46 _ (by decide) (by decide) hj) mke_46 rfl 2 (by decide) (hts _ w_f_X10_75) (fun _ h9 => h9) rfl dX10_waitForNow_66 ?_
          refine lv_iload hx hb dX10_waitForNow_69 (lv_at hl 4 rfl) ?_
          refine k_aldi hx hb hK hw (hR.2.2.2.2.2.2.2 47 _ (by decide) (by decide) hj) 0 mke_47 rfl (nI_nlt (a := i) (b := 0) (Nat.zero_le _) (Nat.lt_trans (show i < 12 from (Nat.lt_of_lt_of_le (lp_l hk) (Nat.le_trans (CI.n1 hI) (by decide)))) (by decide))) (nI_clamp (Nat.lt_trans (show i < 12 from (Nat.lt_of_lt_of_le (lp_l hk) (Nat.le_trans (CI.n1 hI) (by decide)))) (by decide))) (show i < 12 from (Nat.lt_of_lt_of_le (lp_l hk) (Nat.le_trans (CI.n1 hI) (by decide)))) (v := S 24 j i) rfl dX10_waitForNow_71 ?_
          refine lv_iconst (v := 2) hx hb dX10_waitForNow_72 (by decide) ?_
          have hjc_7 : ∀ bc_7 : Int32, bc_7 = (if S 24 j i = 2 then 0 else 1) → W p l e (headSpec bw_X10_waitForNow (rm_X10_waitForNow)).room s m args below meth c H locs 0 0 (MQ below (kQi D A v L ad (mK cI cO K0 ad cp ce S)) args s 0 0 A) (F0 m 81 ls [.int bc_7, .int v4]) := by
            intro bc_7 hbc_7
            subst hbc_7
            refine lv_iadd hx hb dX10_waitForNow_81 ?_
            refine lv_istore (lv' := [(4, .int (v4 + (if S 24 j i = 2 then 0 else 1))), (3, .int (v3 ||| ((1 : Int32) <<< ((nI i) &&& 31)))), (0, .ref (ad 30 0)), (1, .ref (ad 46 j)), (5, .int (nI i))]) hx hb dX10_waitForNow_82 hl (by decide) rfl (fun ls hl => ?_)
            refine lv_iinc (v := (nI (i + 1))) (lv' := [(5, .int (nI (i + 1))), (4, .int (v4 + (if S 24 j i = 2 then 0 else 1))), (3, .int (v3 ||| ((1 : Int32) <<< ((nI i) &&& 31)))), (0, .ref (ad 30 0)), (1, .ref (ad 46 j))]) hx hb dX10_waitForNow_84 hl (k := 4) rfl (nI_1 _) (by decide) rfl (fun ls hl => ?_)
            refine lv_goto (tgt := 12) hx hb dX10_waitForNow_87 (by decide) ?_
            exact ih (i + 1) (v3 ||| ((1 : Int32) <<< ((nI i) &&& 31))) (v4 + (if S 24 j i = 2 then 0 else 1)) _ _ _ (lp_s hk) hE hw (lv_sub hl [3, 4, 2, 1, 0] rfl)
          refine lv_icmp_ne (tgt := 80) hx hb dX10_waitForNow_73 (by decide) (fun c_7 => ?_) (fun c_7 => ?_)
          · refine lv_iconst (v := 1) hx hb dX10_waitForNow_80 (by decide) ?_
            exact hjc_7 _ (if_neg c_7).symm
          · refine lv_iconst (v := 0) hx hb dX10_waitForNow_76 (by decide) ?_
            refine lv_goto (tgt := 81) hx hb dX10_waitForNow_77 (by decide) ?_
            exact hjc_7 _ (if_pos c_7).symm
        · have hE := (if_pos c_6).symm.trans hE
          refine lv_goto (tgt := 84) hx hb dX10_waitForNow_53 (by decide) ?_
          refine lv_iinc (v := (nI (i + 1))) (lv' := [(5, .int (nI (i + 1))), (0, .ref (ad 30 0)), (1, .ref (ad 46 j)), (3, .int v3), (4, .int v4)]) hx hb dX10_waitForNow_84 hl (k := 4) rfl (nI_1 _) (by decide) rfl (fun ls hl => ?_)
          refine lv_goto (tgt := 12) hx hb dX10_waitForNow_87 (by decide) ?_
          exact ih (i + 1) v3 v4 _ _ _ (lp_s hk) hE hw (lv_sub hl [1, 2, 3, 4, 0] rfl)
  exact key_12 ((S 1 0 0).toNatClampNeg - (p2.toNatClampNeg + 1)) (p2.toNatClampNeg + 1) ((1 : Int32) <<< (p2 &&& 31)) 0 _ _ _ (by omega) hL_12 hw (lv_sub hl [3, 4, 2, 1, 0] rfl)

abbrev bw_X10_waitFor : List Cond := .code yX10_waitFor cX10_waitFor 3 (some .int) :: BIG
abbrev rm_X10_waitFor : Room := { frames := 4, cells := 0, slots := 0, locals := 89 }
noncomputable def sp_X10_waitFor (S : (Nat → Nat → Nat → Int32)) (p1 : Int32) (p2 : Int32) : Option (Int32 × (Nat → Nat → Nat → Int32)) := (sp_X10_isNoStep S p1 p2).bind fun x_1 => (if x_1.1 = 0 then (if p1 < 0 ∨ (S 0 0 0).toNatClampNeg ≤ p1.toNatClampNeg then none else ((sp_X10_waitForNow x_1.2 p1.toNatClampNeg p2).bind fun x_4 => (some ((x_4, x_1.2))))) else (some ((0, x_1.2))))
theorem sf_X10_waitFor {S : (Nat → Nat → Nat → Int32)} {p1 : Int32} {p2 : Int32} {v : Int32 × (Nat → Nat → Nat → Int32)} (h : sp_X10_waitFor S p1 p2 = some v) : SM S v.2 := by
  unfold sp_X10_waitFor at h
  obtain ⟨x_1, hx_1, h⟩ := ob1 h
  by_cases q_5 : x_1.1 = 0
  · have h := (if_pos q_5).symm.trans h
    by_cases q_6 : p1 < 0 ∨ (S 0 0 0).toNatClampNeg ≤ p1.toNatClampNeg
    · exact nomatch (if_pos q_6).symm.trans h
    have h := (if_neg q_6).symm.trans h
    obtain ⟨x_4, hx_4, h⟩ := ob1 h
    have hz : SM S x_1.2 := (SM.tr (SM.rf S) (sf_X10_isNoStep hx_1)); cases h; exact hz
  · have h := (if_neg q_5).symm.trans h
    have hz : SM S x_1.2 := (SM.tr (SM.rf S) (sf_X10_isNoStep hx_1)); cases h; exact hz

set_option maxHeartbeats 1000000 in
set_option maxRecDepth 100000 in
theorem ct_X10_waitFor {l : Launch} {D : va_G} {cI cG cJ cO : ClassId} {K0 : Nat → Nat} {A : Nat → Prop} {L : List (Nat × Nat)} {ad : Nat → Nat → Nat} {ce : Nat → Nat → va_E} {cp : Nat → Nat} {S : (Nat → Nat → Nat → Int32)} (hR : MR S L cp) (hI : CI S) {p1 : Int32} {p2 : Int32} {v : Int32 × (Nat → Nat → Nat → Int32)} (hE : sp_X10_waitFor S p1 p2 = some v) (sz : Nat) (hA : ∀ q, sz ≤ q → A q) : Met l yX10_waitFor bw_X10_waitFor (rm_X10_waitFor) (kP D (ktys cI cG cJ cO) K0 A L ad (mK cI cO K0 ad cp ce S) sz [.ref (ad 30 0), .int p1, .int p2]) (kQi D A v.1 L ad (mK cI cO K0 ad cp ce v.2)) 0 0 A := by
  refine Met.ofW (cc := cX10_waitFor) (maxL := 3) (ret := (some .int)) (by decide) rfl ?_
  intro p e s m args below meth c s₁ B hml hv_
  obtain ⟨hav, hsz, hP, hD, hK, hO⟩ := hv_
  have hx := B.exec
  have hb := B.bytes
  have hr := B.returns
  have hts : ∀ w ∈ BIG, w.before args s = true := fun w h => atoms_spec (ws := bw_X10_waitFor) B.pre w (List.mem_cons_of_mem _ h)
  have hown : s.vm.findClass RX10 = some m.cls := findClass_of_methodNamed B.named
  have hlocks := B.notSynchronized
  subst hsz
  have hw := wk.start hP hD
  refine k_start (by rfl) hav (Nat.le_of_ble_eq_true rfl) (fun ls hl => ?_)
  have hl : lv_has ls 3 [(0, .ref (ad 30 0)), (1, .int p1), (2, .int p2)] := hl
  unfold sp_X10_waitFor at hE
  refine lv_aload_n hx hb dX10_waitFor_0 rfl (lv_at hl 0 rfl) ?_
  refine lv_iload_n hx hb dX10_waitFor_1 rfl (lv_at hl 1 rfl) ?_
  refine lv_iload_n hx hb dX10_waitFor_2 rfl (lv_at hl 2 rfl) ?_
  obtain ⟨x_1, hx_1, hE⟩ := ob1 hE
  refine k_ci0 hw (k_rV (f := 30) (o := 0) (As := [.int p1, .int p2]) (rest := []) ⟨hx, hb, hml, hown, hts⟩ hK hO hw (ct_X10_isNoStep (MR.sm (SM.rf S) hR) (SM.ci (SM.rf S) hI) hx_1 _ (wk.hA hw hA)) (cwV 2 hts (gB_V w_ml_X10_259 w_im_X10_isNoStep w_se_X10_isNoStep w_in_X10 w_co_X10_isNoStep) rfl rfl rfl (by decide +kernel) ⟨Nat.le_of_ble_eq_true rfl, Nat.le_of_ble_eq_true rfl⟩) (hR.1 30 (by decide) (by decide)) mke_30 rfl rfl hl.1 rfl (Nat.le_of_ble_eq_true rfl) dX10_waitFor_3 ⟨(Nat.le_of_ble_eq_true rfl), (Nat.le_of_ble_eq_true rfl)⟩) (fun H locs hw => ?_)
  refine lv_if_eq (tgt := 13) hx hb dX10_waitFor_6 (by decide) (fun c_2 => ?_) (fun c_2 => ?_)
  · have hE := (if_pos c_2).symm.trans hE
    refine lv_aload_n hx hb dX10_waitFor_13 rfl (lv_at hl 0 rfl) ?_
    refine lv_aload_n hx hb dX10_waitFor_14 rfl (lv_at hl 0 rfl) ?_
    refine k_get (C := RX10) (T := TX10) (N := 9) (v := .ref (ad 35 0)) hx hb hts inB_X10 hown hK hw (hR.1 30 (by decide) (by decide)) mke_30 rfl 7 (by decide) (hts _ w_f_X10_32) (fun _ h9 => h9) rfl dX10_waitFor_15 ?_
    refine lv_iload_n hx hb dX10_waitFor_18 rfl (lv_at hl 1 rfl) ?_
    by_cases c_3 : p1 < 0 ∨ (S 0 0 0).toNatClampNeg ≤ p1.toNatClampNeg
    · exact nomatch (if_pos c_3).symm.trans hE
    have hE := (if_neg c_3).symm.trans hE
    refine k_cr0 (v := (ad 46 p1.toNatClampNeg)) hw (k_rV (f := 35) (o := 0) (As := [.int p1]) (rest := [.ref (ad 30 0)]) ⟨hx, hb, hml, hown, hts⟩ hK hO hw (ct_get_4 (SM.tr (SM.rf S) (sf_X10_isNoStep hx_1)) hR (i := p1.toNatClampNeg) (fun z => c_3 (Or.inl z)) rfl (Nat.not_le.mp fun z => c_3 (Or.inr z)) _ (wk.hA hw hA)) (cwV 1 hts (gB_V w_ml_X10_51 w_im_Jx4a65c_get_915e3 w_se_Jx4a65c_get_915e3 w_in_Jx4a65c w_co_Jx4a65c_get_915e3) rfl rfl rfl (by decide +kernel) ⟨Nat.le_of_ble_eq_true rfl, Nat.le_of_ble_eq_true rfl⟩) (hR.1 35 (by decide) (by decide)) (ce_l4 (SM.tr (SM.rf S) (sf_X10_isNoStep hx_1))) rfl rfl hl.1 rfl (Nat.le_of_ble_eq_true rfl) dX10_waitFor_19 ⟨(Nat.le_of_ble_eq_true rfl), (Nat.le_of_ble_eq_true rfl)⟩) (fun H locs hw => ?_)
    refine k_cast (f := 46) (o := p1.toNatClampNeg) hx hb hown (hts _ w_cl_X10_64) hK hw (hR.2.2.2.2.2.2.2 46 _ (by decide) (by decide) (Nat.not_le.mp fun z => c_3 (Or.inr z))) mke_46 rfl dX10_waitFor_22 ?_
    refine lv_iload_n hx hb dX10_waitFor_25 rfl (lv_at hl 2 rfl) ?_
    obtain ⟨x_4, hx_4, hE⟩ := ob1 hE
    refine k_ci0 hw (k_rV (f := 30) (o := 0) (As := [.ref (ad 46 p1.toNatClampNeg), .int p2]) (rest := []) ⟨hx, hb, hml, hown, hts⟩ hK hO hw (ct_X10_waitForNow (MR.sm (SM.tr (SM.rf S) (sf_X10_isNoStep hx_1)) hR) (SM.ci (SM.tr (SM.rf S) (sf_X10_isNoStep hx_1)) hI) (by rw [SM.c4 (SM.tr (SM.rf S) (sf_X10_isNoStep hx_1))]; exact (Nat.not_le.mp fun z => c_3 (Or.inr z))) hx_4 _ (wk.hA hw hA)) (cwV 2 hts (gB_V w_ml_X10_291 w_im_X10_waitForNow w_se_X10_waitForNow w_in_X10 w_co_X10_waitForNow) rfl rfl rfl (by decide +kernel) ⟨Nat.le_of_ble_eq_true rfl, Nat.le_of_ble_eq_true rfl⟩) (hR.1 30 (by decide) (by decide)) mke_30 rfl rfl hl.1 rfl (Nat.le_of_ble_eq_true rfl) dX10_waitFor_26 ⟨(Nat.le_of_ble_eq_true rfl), (Nat.le_of_ble_eq_true rfl)⟩) (fun H locs hw => ?_)
    exact m_iretE hx hb hr hlocks rfl hw hE (Nat.le_of_ble_eq_true rfl) (Nat.le_of_ble_eq_true rfl) dX10_waitFor_29
  · have hE := (if_neg c_2).symm.trans hE
    refine lv_iconst (v := 0) hx hb dX10_waitFor_9 (by decide) ?_
    refine lv_goto (tgt := 29) hx hb dX10_waitFor_10 (by decide) ?_
    exact m_iretE hx hb hr hlocks rfl hw hE (Nat.le_of_ble_eq_true rfl) (Nat.le_of_ble_eq_true rfl) dX10_waitFor_29
