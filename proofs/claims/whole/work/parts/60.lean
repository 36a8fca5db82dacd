abbrev bw_X10_role : List Cond := .code yX10_role cX10_role 4 (some .int) :: BIG
abbrev rm_X10_role : Room := { frames := 3, cells := 0, slots := 0, locals := 56 }
noncomputable def sp_X10_role (S : (Nat → Nat → Nat → Int32)) (p1 : Int32) (p2 : Int32) : Option (Int32 × (Nat → Nat → Nat → Int32)) := (sp_X10_start S (sp_X10_isNoRole p1) 1).bind fun x_1 => (if x_1.1 = 0 then ((sp_X10_isNoSet x_1.2 p2).bind fun x_3 => ((sp_X10_refuse x_1.2 x_3 2).bind fun x_4 => (if x_4.1 = 0 then (if p1 < 0 ∨ 4 ≤ p1.toNatClampNeg then none else (some ((x_4.2 11 0 p1.toNatClampNeg, (up3 x_4.2 11 0 p1.toNatClampNeg p2))))) else (some ((0, x_4.2)))))) else (some ((0, x_1.2))))
theorem sf_X10_role {S : (Nat → Nat → Nat → Int32)} {p1 : Int32} {p2 : Int32} {v : Int32 × (Nat → Nat → Nat → Int32)} (h : sp_X10_role S p1 p2 = some v) : SM S v.2 := by
  unfold sp_X10_role at h
  obtain ⟨x_1, hx_1, h⟩ := ob1 h
  by_cases q_7 : x_1.1 = 0
  · have h := (if_pos q_7).symm.trans h
    obtain ⟨x_3, hx_3, h⟩ := ob1 h
    obtain ⟨x_4, hx_4, h⟩ := ob1 h
    by_cases q_8 : x_4.1 = 0
    · have h := (if_pos q_8).symm.trans h
      by_cases q_9 : p1 < 0 ∨ 4 ≤ p1.toNatClampNeg
      · exact nomatch (if_pos q_9).symm.trans h
      have h := (if_neg q_9).symm.trans h
      have hz : SM S (up3 x_4.2 11 0 p1.toNatClampNeg p2) := (SM.up rfl (by decide) (SM.tr (SM.tr (SM.rf S) (sf_X10_start hx_1)) (sf_X10_refuse hx_4))); cases h; exact hz
    · have h := (if_neg q_8).symm.trans h
      have hz : SM S x_4.2 := (SM.tr (SM.tr (SM.rf S) (sf_X10_start hx_1)) (sf_X10_refuse hx_4)); cases h; exact hz
  · have h := (if_neg q_7).symm.trans h
    have hz : SM S x_1.2 := (SM.tr (SM.rf S) (sf_X10_start hx_1)); cases h; exact hz

set_option maxHeartbeats 1000000 in
set_option maxRecDepth 100000 in
theorem ct_X10_role {l : Launch} {D : va_G} {cI cG cJ cO : ClassId} {K0 : Nat → Nat} {A : Nat → Prop} {L : List (Nat × Nat)} {ad : Nat → Nat → Nat} {ce : Nat → Nat → va_E} {cp : Nat → Nat} {S : (Nat → Nat → Nat → Int32)} (hR : MR S L cp) (hI : CI S) {p1 : Int32} {p2 : Int32} {v : Int32 × (Nat → Nat → Nat → Int32)} (hE : sp_X10_role S p1 p2 = some v) (sz : Nat) (hA : ∀ q, sz ≤ q → A q) : Met l yX10_role bw_X10_role (rm_X10_role) (kP D (ktys cI cG cJ cO) K0 A L ad (mK cI cO K0 ad cp ce S) sz [.ref (ad 30 0), .int p1, .int p2]) (kQi D A v.1 L ad (mK cI cO K0 ad cp ce v.2)) 0 0 A := by
  refine Met.ofW (cc := cX10_role) (maxL := 4) (ret := (some .int)) (by decide) rfl ?_
  intro p e s m args below meth c s₁ B hml hv_
  obtain ⟨hav, hsz, hP, hD, hK, hO⟩ := hv_
  have hx := B.exec
  have hb := B.bytes
  have hr := B.returns
  have hts : ∀ w ∈ BIG, w.before args s = true := fun w h => atoms_spec (ws := bw_X10_role) B.pre w (List.mem_cons_of_mem _ h)
  have hown : s.vm.findClass RX10 = some m.cls := findClass_of_methodNamed B.named
  have hlocks := B.notSynchronized
  subst hsz
  have hw := wk.start hP hD
  refine k_start (by rfl) hav (Nat.le_of_ble_eq_true rfl) (fun ls hl => ?_)
  have hl : lv_has ls 4 [(0, .ref (ad 30 0)), (1, .int p1), (2, .int p2)] := hl
  unfold sp_X10_role at hE
  refine lv_aload_n hx hb dX10_role_0 rfl (lv_at hl 0 rfl) ?_
  refine lv_iload_n hx hb dX10_role_1 rfl (lv_at hl 1 rfl) ?_
  refine k_ci0 hw (k_rS (As := [.int p1]) (rest := [.ref (ad 30 0)]) ⟨hx, hb, hml, hown, hts⟩ hK hO hw (ct_X10_isNoRole p1 _ (wk.hA hw hA)) (va_cwS 1 hts (gB_S w_ml_X10_218 w_st_X10_isNoRole w_in_X10 w_co_X10_isNoRole) rfl rfl rfl (by decide +kernel) ⟨Nat.le_of_ble_eq_true rfl, Nat.le_of_ble_eq_true rfl⟩) rfl hl.1 rfl (Nat.le_of_ble_eq_true rfl) dX10_role_2 ⟨(Nat.le_of_ble_eq_true rfl), (Nat.le_of_ble_eq_true rfl)⟩) (fun H locs hw => ?_)
  refine lv_iconst (v := 1) hx hb dX10_role_5 (by decide) ?_
  obtain ⟨x_1, hx_1, hE⟩ := ob1 hE
  refine k_ci0 hw (k_rV (f := 30) (o := 0) (As := [.int (sp_X10_isNoRole p1), .int 1]) (rest := []) ⟨hx, hb, hml, hown, hts⟩ hK hO hw (ct_X10_start (MR.sm (SM.rf S) hR) (SM.ci (SM.rf S) hI) hx_1 _ (wk.hA hw hA)) (cwV 2 hts (gB_V w_ml_X10_186 w_im_X10_start w_se_X10_start w_in_X10 w_co_X10_start) rfl rfl rfl (by decide +kernel) ⟨Nat.le_of_ble_eq_true rfl, Nat.le_of_ble_eq_true rfl⟩) (hR.1 30 (by decide) (by decide)) mke_30 rfl rfl hl.1 rfl (Nat.le_of_ble_eq_true rfl) dX10_role_6 ⟨(Nat.le_of_ble_eq_true rfl), (Nat.le_of_ble_eq_true rfl)⟩) (fun H locs hw => ?_)
  refine lv_if_ne (tgt := 25) hx hb dX10_role_9 (by decide) (fun c_2 => ?_) (fun c_2 => ?_)
  · have hE := (if_neg c_2).symm.trans hE
    refine lv_iconst (v := 0) hx hb dX10_role_25 (by decide) ?_
    exact m_iretE hx hb hr hlocks rfl hw hE (Nat.le_of_ble_eq_true rfl) (Nat.le_of_ble_eq_true rfl) dX10_role_26
  · have hE := (if_pos c_2).symm.trans hE
    refine lv_aload_n hx hb dX10_role_12 rfl (lv_at hl 0 rfl) ?_
    refine lv_aload_n hx hb dX10_role_13 rfl (lv_at hl 0 rfl) ?_
    refine lv_iload_n hx hb dX10_role_14 rfl (lv_at hl 2 rfl) ?_
    obtain ⟨x_3, hx_3, hE⟩ := ob1 hE
    refine k_ci0 hw (k_rV (f := 30) (o := 0) (As := [.int p2]) (rest := [.ref (ad 30 0)]) ⟨hx, hb, hml, hown, hts⟩ hK hO hw (ct_X10_isNoSet (MR.sm (SM.tr (SM.rf S) (sf_X10_start hx_1)) hR) (SM.ci (SM.tr (SM.rf S) (sf_X10_start hx_1)) hI) hx_3 _ (wk.hA hw hA)) (cwV 1 hts (gB_V w_ml_X10_208 w_im_X10_isNoSet w_se_X10_isNoSet w_in_X10 w_co_X10_isNoSet) rfl rfl rfl (by decide +kernel) ⟨Nat.le_of_ble_eq_true rfl, Nat.le_of_ble_eq_true rfl⟩) (hR.1 30 (by decide) (by decide)) mke_30 rfl rfl hl.1 rfl (Nat.le_of_ble_eq_true rfl) dX10_role_15 ⟨(Nat.le_of_ble_eq_true rfl), (Nat.le_of_ble_eq_true rfl)⟩) (fun H locs hw => ?_)
    refine lv_iconst (v := 2) hx hb dX10_role_18 (by decide) ?_
    obtain ⟨x_4, hx_4, hE⟩ := ob1 hE
    refine k_ci0 hw (k_rV (f := 30) (o := 0) (As := [.int x_3, .int 2]) (rest := []) ⟨hx, hb, hml, hown, hts⟩ hK hO hw (ct_X10_refuse (MR.sm (SM.tr (SM.rf S) (sf_X10_start hx_1)) hR) (SM.ci (SM.tr (SM.rf S) (sf_X10_start hx_1)) hI) hx_4 _ (wk.hA hw hA)) (cwV 2 hts (gB_V w_ml_X10_39 w_im_X10_refuse w_se_X10_refuse w_in_X10 w_co_X10_refuse) rfl rfl rfl (by decide +kernel) ⟨Nat.le_of_ble_eq_true rfl, Nat.le_of_ble_eq_true rfl⟩) (hR.1 30 (by decide) (by decide)) mke_30 rfl rfl hl.1 rfl (Nat.le_of_ble_eq_true rfl) dX10_role_19 ⟨(Nat.le_of_ble_eq_true rfl), (Nat.le_of_ble_eq_true rfl)⟩) (fun H locs hw => ?_)
    refine lv_if_eq (tgt := 27) hx hb dX10_role_22 (by decide) (fun c_5 => ?_) (fun c_5 => ?_)
    · have hE := (if_pos c_5).symm.trans hE
      refine lv_aload_n hx hb dX10_role_27 rfl (lv_at hl 0 rfl) ?_
      refine k_get (C := RX10) (T := TX10) (N := 9) (v := .ref (ad 36 0)) hx hb hts inB_X10 hown hK hw (hR.1 30 (by decide) (by decide)) mke_30 rfl 2 (by decide) (hts _ w_f_X10_16) (fun _ h9 => h9) rfl dX10_role_28 ?_
      refine lv_iload_n hx hb dX10_role_31 rfl (lv_at hl 1 rfl) ?_
      by_cases c_6 : p1 < 0 ∨ 4 ≤ p1.toNatClampNeg
      · exact nomatch (if_pos c_6).symm.trans hE
      have hE := (if_neg c_6).symm.trans hE
      refine k_aldi hx hb hK hw (hR.1 36 (by decide) (by decide)) 0 mke_36 rfl (fun z => c_6 (Or.inl z)) rfl (Nat.not_le.mp fun z => c_6 (Or.inr z)) (v := x_4.2 11 0 p1.toNatClampNeg) rfl dX10_role_32 ?_
      refine lv_istore_n (lv' := [(3, .int (x_4.2 11 0 p1.toNatClampNeg)), (0, .ref (ad 30 0)), (1, .int p1), (2, .int p2)]) hx hb dX10_role_33 rfl hl (by decide) rfl (fun ls hl => ?_)
      refine lv_aload_n hx hb dX10_role_34 rfl (lv_at hl 1 rfl) ?_
      refine k_get (C := RX10) (T := TX10) (N := 9) (v := .ref (ad 36 0)) hx hb hts inB_X10 hown hK hw (hR.1 30 (by decide) (by decide)) mke_30 rfl 2 (by decide) (hts _ w_f_X10_16) (fun _ h9 => h9) rfl dX10_role_35 ?_
      refine lv_iload_n hx hb dX10_role_38 rfl (lv_at hl 2 rfl) ?_
      refine lv_iload_n hx hb dX10_role_39 rfl (lv_at hl 3 rfl) ?_
      refine k_asti hx hb hK hw (hR.1 36 (by decide) (by decide)) 0 mke_36 rfl (fun z => c_6 (Or.inl z)) rfl (Nat.not_le.mp fun z => c_6 (Or.inr z)) (mK_roles (i := p1.toNatClampNeg) (v := p2) rfl) dX10_role_40 (fun H locs hw => ?_)
      refine lv_iload_n hx hb dX10_role_41 rfl (lv_at hl 0 rfl) ?_
      exact m_iretE hx hb hr hlocks rfl hw hE (Nat.le_of_ble_eq_true rfl) (Nat.le_of_ble_eq_true rfl) dX10_role_42
    · have hE := (if_neg c_5).symm.trans hE
      refine lv_iconst (v := 0) hx hb dX10_role_25 (by decide) ?_
      exact m_iretE hx hb hr hlocks rfl hw hE (Nat.le_of_ble_eq_true rfl) (Nat.le_of_ble_eq_true rfl) dX10_role_26

abbrev bw_X10_stock : List Cond := .code yX10_stock cX10_stock 3 (some .int) :: BIG
abbrev rm_X10_stock : Room := { frames := 3, cells := 0, slots := 0, locals := 56 }
noncomputable def sp_X10_stock (S : (Nat → Nat → Nat → Int32)) (p1 : Int32) (p2 : Int32) : Option (Int32 × (Nat → Nat → Nat → Int32)) := (sp_X10_start S (sp_X10_isNoItem p1) 1).bind fun x_1 => (if x_1.1 = 0 then ((sp_X10_refuse x_1.2 (if (sp_X10_isFrom p2 1 20) = 0 then 1 else 0) 2).bind fun x_4 => (if x_4.1 = 0 then (if p1 < 0 ∨ 4 ≤ p1.toNatClampNeg then none else (some (((up3 x_4.2 13 0 p1.toNatClampNeg ((x_4.2 13 0 p1.toNatClampNeg) + p2)) 13 0 p1.toNatClampNeg, (up3 x_4.2 13 0 p1.toNatClampNeg ((x_4.2 13 0 p1.toNatClampNeg) + p2)))))) else (some ((0, x_4.2))))) else (some ((0, x_1.2))))
theorem sf_X10_stock {S : (Nat → Nat → Nat → Int32)} {p1 : Int32} {p2 : Int32} {v : Int32 × (Nat → Nat → Nat → Int32)} (h : sp_X10_stock S p1 p2 = some v) : SM S v.2 := by
  unfold sp_X10_stock at h
  obtain ⟨x_1, hx_1, h⟩ := ob1 h
  by_cases q_7 : x_1.1 = 0
  · have h := (if_pos q_7).symm.trans h
    obtain ⟨x_4, hx_4, h⟩ := ob1 h
    by_cases q_8 : x_4.1 = 0
    · have h := (if_pos q_8).symm.trans h
      by_cases q_9 : p1 < 0 ∨ 4 ≤ p1.toNatClampNeg
      · exact nomatch (if_pos q_9).symm.trans h
      have h := (if_neg q_9).symm.trans h
      have hz : SM S (up3 x_4.2 13 0 p1.toNatClampNeg ((x_4.2 13 0 p1.toNatClampNeg) + p2)) := (SM.up rfl (by decide) (SM.tr (SM.tr (SM.rf S) (sf_X10_start hx_1)) (sf_X10_refuse hx_4))); cases h; exact hz
    · have h := (if_neg q_8).symm.trans h
      have hz : SM S x_4.2 := (SM.tr (SM.tr (SM.rf S) (sf_X10_start hx_1)) (sf_X10_refuse hx_4)); cases h; exact hz
  · have h := (if_neg q_7).symm.trans h
    have hz : SM S x_1.2 := (SM.tr (SM.rf S) (sf_X10_start hx_1)); cases h; exact hz

set_option maxHeartbeats 1000000 in
set_option maxRecDepth 100000 in
theorem ct_X10_stock {l : Launch} {D : va_G} {cI cG cJ cO : ClassId} {K0 : Nat → Nat} {A : Nat → Prop} {L : List (Nat × Nat)} {ad : Nat → Nat → Nat} {ce : Nat → Nat → va_E} {cp : Nat → Nat} {S : (Nat → Nat → Nat → Int32)} (hR : MR S L cp) (hI : CI S) {p1 : Int32} {p2 : Int32} {v : Int32 × (Nat → Nat → Nat → Int32)} (hE : sp_X10_stock S p1 p2 = some v) (sz : Nat) (hA : ∀ q, sz ≤ q → A q) : Met l yX10_stock bw_X10_stock (rm_X10_stock) (kP D (ktys cI cG cJ cO) K0 A L ad (mK cI cO K0 ad cp ce S) sz [.ref (ad 30 0), .int p1, .int p2]) (kQi D A v.1 L ad (mK cI cO K0 ad cp ce v.2)) 0 0 A := by
  refine Met.ofW (cc := cX10_stock) (maxL := 3) (ret := (some .int)) (by decide) rfl ?_
  intro p e s m args below meth c s₁ B hml hv_
  obtain ⟨hav, hsz, hP, hD, hK, hO⟩ := hv_
  have hx := B.exec
  have hb := B.bytes
  have hr := B.returns
  have hts : ∀ w ∈ BIG, w.before args s = true := fun w h => atoms_spec (ws := bw_X10_stock) B.pre w (List.mem_cons_of_mem _ h)
  have hown : s.vm.findClass RX10 = some m.cls := findClass_of_methodNamed B.named
  have hlocks := B.notSynchronized
  subst hsz
  have hw := wk.start hP hD
  refine k_start (by rfl) hav (Nat.le_of_ble_eq_true rfl) (fun ls hl => ?_)
  have hl : lv_has ls 3 [(0, .ref (ad 30 0)), (1, .int p1), (2, .int p2)] := hl
  unfold sp_X10_stock at hE
  refine lv_aload_n hx hb dX10_stock_0 rfl (lv_at hl 0 rfl) ?_
  refine lv_iload_n hx hb dX10_stock_1 rfl (lv_at hl 1 rfl) ?_
  refine k_ci0 hw (k_rS (As := [.int p1]) (rest := [.ref (ad 30 0)]) ⟨hx, hb, hml, hown, hts⟩ hK hO hw (ct_X10_isNoItem p1 _ (wk.hA hw hA)) (va_cwS 1 hts (gB_S w_ml_X10_225 w_st_X10_isNoItem w_in_X10 w_co_X10_isNoItem) rfl rfl rfl (by decide +kernel) ⟨Nat.le_of_ble_eq_true rfl, Nat.le_of_ble_eq_true rfl⟩) rfl hl.1 rfl (Nat.le_of_ble_eq_true rfl) dX10_stock_2 ⟨(Nat.le_of_ble_eq_true rfl), (Nat.le_of_ble_eq_true rfl)⟩) (fun H locs hw => ?_)
  refine lv_iconst (v := 1) hx hb dX10_stock_5 (by decide) ?_
  obtain ⟨x_1, hx_1, hE⟩ := ob1 hE
  refine k_ci0 hw (k_rV (f := 30) (o := 0) (As := [.int (sp_X10_isNoItem p1), .int 1]) (rest := []) ⟨hx, hb, hml, hown, hts⟩ hK hO hw (ct_X10_start (MR.sm (SM.rf S) hR) (SM.ci (SM.rf S) hI) hx_1 _ (wk.hA hw hA)) (cwV 2 hts (gB_V w_ml_X10_186 w_im_X10_start w_se_X10_start w_in_X10 w_co_X10_start) rfl rfl rfl (by decide +kernel) ⟨Nat.le_of_ble_eq_true rfl, Nat.le_of_ble_eq_true rfl⟩) (hR.1 30 (by decide) (by decide)) mke_30 rfl rfl hl.1 rfl (Nat.le_of_ble_eq_true rfl) dX10_stock_6 ⟨(Nat.le_of_ble_eq_true rfl), (Nat.le_of_ble_eq_true rfl)⟩) (fun H locs hw => ?_)
  refine lv_if_ne (tgt := 35) hx hb dX10_stock_9 (by decide) (fun c_2 => ?_) (fun c_2 => ?_)
  · have hE := (if_neg c_2).symm.trans hE
    refine lv_iconst (v := 0) hx hb dX10_stock_35 (by decide) ?_
    exact m_iretE hx hb hr hlocks rfl hw hE (Nat.le_of_ble_eq_true rfl) (Nat.le_of_ble_eq_true rfl) dX10_stock_36
  · have hE := (if_pos c_2).symm.trans hE
    refine lv_aload_n hx hb dX10_stock_12 rfl (lv_at hl 0 rfl) ?_
    refine lv_iload_n hx hb dX10_stock_13 rfl (lv_at hl 2 rfl) ?_
    refine lv_iconst (v := 1) hx hb dX10_stock_14 (by decide) ?_
    refine lv_bipush (v := 20) hx hb dX10_stock_15 (by decide) ?_
    refine k_ci0 hw (k_rS (As := [.int p2, .int 1, .int 20]) (rest := [.ref (ad 30 0)]) ⟨hx, hb, hml, hown, hts⟩ hK hO hw (ct_X10_isFrom p2 1 20 _ (wk.hA hw hA)) (va_cwS 3 hts (gB_S w_ml_X10_47 w_st_X10_isFrom w_in_X10 w_co_X10_isFrom) rfl rfl rfl (by decide +kernel) ⟨Nat.le_of_ble_eq_true rfl, Nat.le_of_ble_eq_true rfl⟩) rfl hl.1 rfl (Nat.le_of_ble_eq_true rfl) dX10_stock_17 ⟨(Nat.le_of_ble_eq_true rfl), (Nat.le_of_ble_eq_true rfl)⟩) (fun H locs hw => ?_)
    have hjc_3 : ∀ bc_3 : Int32, bc_3 = (if (sp_X10_isFrom p2 1 20) = 0 then 1 else 0) → W p l e (headSpec bw_X10_stock (rm_X10_stock)).room s m args below meth c H locs 0 0 (MQ below (kQi D A v.1 L ad (mK cI cO K0 ad cp ce v.2)) args s 0 0 A) (F0 m 28 ls [.int bc_3, .ref (ad 30 0)]) := by
      intro bc_3 hbc_3
      subst hbc_3
      refine lv_iconst (v := 2) hx hb dX10_stock_28 (by decide) ?_
      obtain ⟨x_4, hx_4, hE⟩ := ob1 hE
      refine k_ci0 hw (k_rV (f := 30) (o := 0) (As := [.int (if (sp_X10_isFrom p2 1 20) = 0 then 1 else 0), .int 2]) (rest := []) ⟨hx, hb, hml, hown, hts⟩ hK hO hw (ct_X10_refuse (MR.sm (SM.tr (SM.rf S) (sf_X10_start hx_1)) hR) (SM.ci (SM.tr (SM.rf S) (sf_X10_start hx_1)) hI) hx_4 _ (wk.hA hw hA)) (cwV 2 hts (gB_V w_ml_X10_39 w_im_X10_refuse w_se_X10_refuse w_in_X10 w_co_X10_refuse) rfl rfl rfl (by decide +kernel) ⟨Nat.le_of_ble_eq_true rfl, Nat.le_of_ble_eq_true rfl⟩) (hR.1 30 (by decide) (by decide)) mke_30 rfl rfl hl.1 rfl (Nat.le_of_ble_eq_true rfl) dX10_stock_29 ⟨(Nat.le_of_ble_eq_true rfl), (Nat.le_of_ble_eq_true rfl)⟩) (fun H locs hw => ?_)
      refine lv_if_eq (tgt := 37) hx hb dX10_stock_32 (by decide) (fun c_5 => ?_) (fun c_5 => ?_)
      · have hE := (if_pos c_5).symm.trans hE
        refine lv_aload_n hx hb dX10_stock_37 rfl (lv_at hl 0 rfl) ?_
        refine k_get (C := RX10) (T := TX10) (N := 9) (v := .ref (ad 37 0)) hx hb hts inB_X10 hown hK hw (hR.1 30 (by decide) (by decide)) mke_30 rfl 4 (by decide) (hts _ w_f_X10_23) (fun _ h9 => h9) rfl dX10_stock_38 ?_
        refine lv_iload_n hx hb dX10_stock_41 rfl (lv_at hl 1 rfl) ?_
        refine lv_dup2_11 hx hb dX10_stock_42 rfl rfl ?_
        by_cases c_6 : p1 < 0 ∨ 4 ≤ p1.toNatClampNeg
        · exact nomatch (if_pos c_6).symm.trans hE
        have hE := (if_neg c_6).symm.trans hE
        refine k_aldi hx hb hK hw (hR.1 37 (by decide) (by decide)) 0 mke_37 rfl (fun z => c_6 (Or.inl z)) rfl (Nat.not_le.mp fun z => c_6 (Or.inr z)) (v := x_4.2 13 0 p1.toNatClampNeg) rfl dX10_stock_43 ?_
        refine lv_iload_n hx hb dX10_stock_44 rfl (lv_at hl 2 rfl) ?_
        refine lv_iadd hx hb dX10_stock_45 ?_
        refine k_asti hx hb hK hw (hR.1 37 (by decide) (by decide)) 0 mke_37 rfl (fun z => c_6 (Or.inl z)) rfl (Nat.not_le.mp fun z => c_6 (Or.inr z)) (mK_stock (i := p1.toNatClampNeg) (v := ((x_4.2 13 0 p1.toNatClampNeg) + p2)) rfl) dX10_stock_46 (fun H locs hw => ?_)
        refine lv_aload_n hx hb dX10_stock_47 rfl (lv_at hl 0 rfl) ?_
        refine k_get (C := RX10) (T := TX10) (N := 9) (v := .ref (ad 37 0)) hx hb hts inB_X10 hown hK hw (hR.1 30 (by decide) (by decide)) mke_30 rfl 4 (by decide) (hts _ w_f_X10_23) (fun _ h9 => h9) rfl dX10_stock_48 ?_
        refine lv_iload_n hx hb dX10_stock_51 rfl (lv_at hl 1 rfl) ?_
        refine k_aldi hx hb hK hw (hR.1 37 (by decide) (by decide)) 0 mke_37 rfl (fun z => c_6 (Or.inl z)) rfl (Nat.not_le.mp fun z => c_6 (Or.inr z)) (v := (up3 x_4.2 13 0 p1.toNatClampNeg ((x_4.2 13 0 p1.toNatClampNeg) + p2)) 13 0 p1.toNatClampNeg) rfl dX10_stock_52 ?_
        exact m_iretE hx hb hr hlocks rfl hw hE (Nat.le_of_ble_eq_true rfl) (Nat.le_of_ble_eq_true rfl) dX10_stock_53
      · have hE := (if_neg c_5).symm.trans hE
        refine lv_iconst (v := 0) hx hb dX10_stock_35 (by decide) ?_
        exact m_iretE hx hb hr hlocks rfl hw hE (Nat.le_of_ble_eq_true rfl) (Nat.le_of_ble_eq_true rfl) dX10_stock_36
    refine lv_if_ne (tgt := 27) hx hb dX10_stock_20 (by decide) (fun c_3 => ?_) (fun c_3 => ?_)
    · refine lv_iconst (v := 0) hx hb dX10_stock_27 (by decide) ?_
      exact hjc_3 _ (if_neg c_3).symm
    · refine lv_iconst (v := 1) hx hb dX10_stock_23 (by decide) ?_
      refine lv_goto (tgt := 28) hx hb dX10_stock_24 (by decide) ?_
      exact hjc_3 _ (if_pos c_3).symm

abbrev bw_X10_isNoDelay : List Cond := .code yX10_isNoDelay cX10_isNoDelay 3 (some .boolean) :: BIG
abbrev rm_X10_isNoDelay : Room := { frames := 3, cells := 0, slots := 0, locals := 64 }
noncomputable def sp_X10_isNoDelay (S : (Nat → Nat → Nat → Int32)) (p1 : Int32) (p2 : Int32) : Option (Int32 × (Nat → Nat → Nat → Int32)) := (sp_X10_start S (if (sp_X10_isFrom p1 0 ((S 2 0 0) - 1)) = 0 then 1 else 0) 1).bind fun x_2 => (if x_2.1 = 0 then ((sp_X10_refuse x_2.2 (if (sp_X10_isFrom p2 1 30) = 0 then 1 else 0) 2).bind fun x_5 => (if x_5.1 = 0 then (if p1 < 0 ∨ (S 2 0 0).toNatClampNeg ≤ p1.toNatClampNeg then none else ((sp_X10_refuse x_5.2 (x_5.2 41 0 p1.toNatClampNeg) 3).bind fun x_8 => (if x_8.1 = 0 then (some ((0, x_8.2))) else (some ((1, x_8.2)))))) else (some ((1, x_5.2))))) else (some ((1, x_2.2))))
theorem sf_X10_isNoDelay {S : (Nat → Nat → Nat → Int32)} {p1 : Int32} {p2 : Int32} {v : Int32 × (Nat → Nat → Nat → Int32)} (h : sp_X10_isNoDelay S p1 p2 = some v) : SM S v.2 := by
  unfold sp_X10_isNoDelay at h
  obtain ⟨x_2, hx_2, h⟩ := ob1 h
  by_cases q_10 : x_2.1 = 0
  · have h := (if_pos q_10).symm.trans h
    obtain ⟨x_5, hx_5, h⟩ := ob1 h
    by_cases q_11 : x_5.1 = 0
    · have h := (if_pos q_11).symm.trans h
      by_cases q_12 : p1 < 0 ∨ (S 2 0 0).toNatClampNeg ≤ p1.toNatClampNeg
      · exact nomatch (if_pos q_12).symm.trans h
      have h := (if_neg q_12).symm.trans h
      obtain ⟨x_8, hx_8, h⟩ := ob1 h
      by_cases q_13 : x_8.1 = 0
      · have h := (if_pos q_13).symm.trans h
        have hz : SM S x_8.2 := (SM.tr (SM.tr (SM.tr (SM.rf S) (sf_X10_start hx_2)) (sf_X10_refuse hx_5)) (sf_X10_refuse hx_8)); cases h; exact hz
      · have h := (if_neg q_13).symm.trans h
        have hz : SM S x_8.2 := (SM.tr (SM.tr (SM.tr (SM.rf S) (sf_X10_start hx_2)) (sf_X10_refuse hx_5)) (sf_X10_refuse hx_8)); cases h; exact hz
    · have h := (if_neg q_11).symm.trans h
      have hz : SM S x_5.2 := (SM.tr (SM.tr (SM.rf S) (sf_X10_start hx_2)) (sf_X10_refuse hx_5)); cases h; exact hz
  · have h := (if_neg q_10).symm.trans h
    have hz : SM S x_2.2 := (SM.tr (SM.rf S) (sf_X10_start hx_2)); cases h; exact hz

theorem bz_X10_isNoDelay {S : (Nat → Nat → Nat → Int32)} {p1 : Int32} {p2 : Int32} {v : Int32 × (Nat → Nat → Nat → Int32)} (h : sp_X10_isNoDelay S p1 p2 = some v) : v.1 = 0 ∨ v.1 = 1 := by
  unfold sp_X10_isNoDelay at h
  obtain ⟨x_2, hx_2, h⟩ := ob1 h
  by_cases q_14 : x_2.1 = 0
  · have h := (if_pos q_14).symm.trans h
    obtain ⟨x_5, hx_5, h⟩ := ob1 h
    by_cases q_15 : x_5.1 = 0
    · have h := (if_pos q_15).symm.trans h
      by_cases q_16 : p1 < 0 ∨ (S 2 0 0).toNatClampNeg ≤ p1.toNatClampNeg
      · exact nomatch (if_pos q_16).symm.trans h
      have h := (if_neg q_16).symm.trans h
      obtain ⟨x_8, hx_8, h⟩ := ob1 h
      by_cases q_17 : x_8.1 = 0
      · have h := (if_pos q_17).symm.trans h
        cases h; exact Or.inl rfl
      · have h := (if_neg q_17).symm.trans h
        cases h; exact Or.inr rfl
    · have h := (if_neg q_15).symm.trans h
      cases h; exact Or.inr rfl
  · have h := (if_neg q_14).symm.trans h
    cases h; exact Or.inr rfl

set_option maxHeartbeats 1000000 in
set_option maxRecDepth 100000 in
theorem ct_X10_isNoDelay {l : Launch} {D : va_G} {cI cG cJ cO : ClassId} {K0 : Nat → Nat} {A : Nat → Prop} {L : List (Nat × Nat)} {ad : Nat → Nat → Nat} {ce : Nat → Nat → va_E} {cp : Nat → Nat} {S : (Nat → Nat → Nat → Int32)} (hR : MR S L cp) (hI : CI S) {p1 : Int32} {p2 : Int32} {v : Int32 × (Nat → Nat → Nat → Int32)} (hE : sp_X10_isNoDelay S p1 p2 = some v) (sz : Nat) (hA : ∀ q, sz ≤ q → A q) : Met l yX10_isNoDelay bw_X10_isNoDelay (rm_X10_isNoDelay) (kP D (ktys cI cG cJ cO) K0 A L ad (mK cI cO K0 ad cp ce S) sz [.ref (ad 30 0), .int p1, .int p2]) (kQi D A v.1 L ad (mK cI cO K0 ad cp ce v.2)) 0 0 A := by
  refine Met.ofW (cc := cX10_isNoDelay) (maxL := 3) (ret := (some .boolean)) (by decide) rfl ?_
  intro p e s m args below meth c s₁ B hml hv_
  obtain ⟨hav, hsz, hP, hD, hK, hO⟩ := hv_
  have hx := B.exec
  have hb := B.bytes
  have hr := B.returns
  have hts : ∀ w ∈ BIG, w.before args s = true := fun w h => atoms_spec (ws := bw_X10_isNoDelay) B.pre w (List.mem_cons_of_mem _ h)
  have hown : s.vm.findClass RX10 = some m.cls := findClass_of_methodNamed B.named
  have hlocks := B.notSynchronized
  subst hsz
  have hw := wk.start hP hD
  refine k_start (by rfl) hav (Nat.le_of_ble_eq_true rfl) (fun ls hl => ?_)
  have hl : lv_has ls 3 [(0, .ref (ad 30 0)), (1, .int p1), (2, .int p2)] := hl
  unfold sp_X10_isNoDelay at hE
  refine lv_aload_n hx hb dX10_isNoDelay_0 rfl (lv_at hl 0 rfl) ?_
  refine lv_iload_n hx hb dX10_isNoDelay_1 rfl (lv_at hl 1 rfl) ?_
  refine lv_iconst (v := 0) hx hb dX10_isNoDelay_2 (by decide) ?_
  refine lv_aload_n hx hb dX10_isNoDelay_3 rfl (lv_at hl 0 rfl) ?_
  refine k_get (C := RX10) (T := TX10) (N := 9) (v := .ref (ad 33 0)) hx hb hts inB_X10 hown hK hw (hR.1 30 (by decide) (by decide)) mke_30 rfl 5 (by decide) (hts _ w_f_X10_26) (fun _ h9 => h9) rfl dX10_isNoDelay_4 ?_
  refine k_ci0 hw (k_rV (f := 33) (o := 0) (As := []) (rest := [.int 0, .int p1, .ref (ad 30 0)]) ⟨hx, hb, hml, hown, hts⟩ hK hO hw (ct_size_2 (SM.rf S) hR _ (wk.hA hw hA)) (cwV 0 hts (gB_V w_ml_X10_43 w_im_Jx4a65c_size_8abf5 w_se_Jx4a65c_size_8abf5 w_in_Jx4a65c w_co_Jx4a65c_size_8abf5) rfl rfl rfl (by decide +kernel) ⟨Nat.le_of_ble_eq_true rfl, Nat.le_of_ble_eq_true rfl⟩) (hR.1 33 (by decide) (by decide)) (ce_l2 (SM.rf S)) rfl rfl hl.1 rfl (Nat.le_of_ble_eq_true rfl) dX10_isNoDelay_7 ⟨(Nat.le_of_ble_eq_true rfl), (Nat.le_of_ble_eq_true rfl)⟩) (fun H locs hw => ?_)
  refine lv_iconst (v := 1) hx hb dX10_isNoDelay_10 (by decide) ?_
  refine lv_isub hx hb dX10_isNoDelay_11 ?_
  refine k_ci0 hw (k_rS (As := [.int p1, .int 0, .int ((S 2 0 0) - 1)]) (rest := [.ref (ad 30 0)]) ⟨hx, hb, hml, hown, hts⟩ hK hO hw (ct_X10_isFrom p1 0 ((S 2 0 0) - 1) _ (wk.hA hw hA)) (va_cwS 3 hts (gB_S w_ml_X10_47 w_st_X10_isFrom w_in_X10 w_co_X10_isFrom) rfl rfl rfl (by decide +kernel) ⟨Nat.le_of_ble_eq_true rfl, Nat.le_of_ble_eq_true rfl⟩) rfl hl.1 rfl (Nat.le_of_ble_eq_true rfl) dX10_isNoDelay_12 ⟨(Nat.le_of_ble_eq_true rfl), (Nat.le_of_ble_eq_true rfl)⟩) (fun H locs hw => ?_)
  have hjc_1 : ∀ bc_1 : Int32, bc_1 = (if (sp_X10_isFrom p1 0 ((S 2 0 0) - 1)) = 0 then 1 else 0) → W p l e (headSpec bw_X10_isNoDelay (rm_X10_isNoDelay)).room s m args below meth c H locs 0 0 (MQ below (kQi D A v.1 L ad (mK cI cO K0 ad cp ce v.2)) args s 0 0 A) (F0 m 23 ls [.int bc_1, .ref (ad 30 0)]) := by
    intro bc_1 hbc_1
    subst hbc_1
    refine lv_iconst (v := 1) hx hb dX10_isNoDelay_23 (by decide) ?_
    obtain ⟨x_2, hx_2, hE⟩ := ob1 hE
    refine k_ci0 hw (k_rV (f := 30) (o := 0) (As := [.int (if (sp_X10_isFrom p1 0 ((S 2 0 0) - 1)) = 0 then 1 else 0), .int 1]) (rest := []) ⟨hx, hb, hml, hown, hts⟩ hK hO hw (ct_X10_start (MR.sm (SM.rf S) hR) (SM.ci (SM.rf S) hI) hx_2 _ (wk.hA hw hA)) (cwV 2 hts (gB_V w_ml_X10_186 w_im_X10_start w_se_X10_start w_in_X10 w_co_X10_start) rfl rfl rfl (by decide +kernel) ⟨Nat.le_of_ble_eq_true rfl, Nat.le_of_ble_eq_true rfl⟩) (hR.1 30 (by decide) (by decide)) mke_30 rfl rfl hl.1 rfl (Nat.le_of_ble_eq_true rfl) dX10_isNoDelay_24 ⟨(Nat.le_of_ble_eq_true rfl), (Nat.le_of_ble_eq_true rfl)⟩) (fun H locs hw => ?_)
    refine lv_if_ne (tgt := 75) hx hb dX10_isNoDelay_27 (by decide) (fun c_3 => ?_) (fun c_3 => ?_)
    · have hE := (if_neg c_3).symm.trans hE
      refine lv_iconst (v := 1) hx hb dX10_isNoDelay_75 (by decide) ?_
      refine lv_goto (tgt := 80) hx hb dX10_isNoDelay_76 (by decide) ?_
      exact m_iretE hx hb hr hlocks rfl hw hE (Nat.le_of_ble_eq_true rfl) (Nat.le_of_ble_eq_true rfl) dX10_isNoDelay_80
    · have hE := (if_pos c_3).symm.trans hE
      refine lv_aload_n hx hb dX10_isNoDelay_30 rfl (lv_at hl 0 rfl) ?_
      refine lv_iload_n hx hb dX10_isNoDelay_31 rfl (lv_at hl 2 rfl) ?_
      refine lv_iconst (v := 1) hx hb dX10_isNoDelay_32 (by decide) ?_
      refine lv_bipush (v := 30) hx hb dX10_isNoDelay_33 (by decide) ?_
      refine k_ci0 hw (k_rS (As := [.int p2, .int 1, .int 30]) (rest := [.ref (ad 30 0)]) ⟨hx, hb, hml, hown, hts⟩ hK hO hw (ct_X10_isFrom p2 1 30 _ (wk.hA hw hA)) (va_cwS 3 hts (gB_S w_ml_X10_47 w_st_X10_isFrom w_in_X10 w_co_X10_isFrom) rfl rfl rfl (by decide +kernel) ⟨Nat.le_of_ble_eq_true rfl, Nat.le_of_ble_eq_true rfl⟩) rfl hl.1 rfl (Nat.le_of_ble_eq_true rfl) dX10_isNoDelay_35 ⟨(Nat.le_of_ble_eq_true rfl), (Nat.le_of_ble_eq_true rfl)⟩) (fun H locs hw => ?_)
      have hjc_4 : ∀ bc_4 : Int32, bc_4 = (if (sp_X10_isFrom p2 1 30) = 0 then 1 else 0) → W p l e (headSpec bw_X10_isNoDelay (rm_X10_isNoDelay)).room s m args below meth c H locs 0 0 (MQ below (kQi D A v.1 L ad (mK cI cO K0 ad cp ce v.2)) args s 0 0 A) (F0 m 46 ls [.int bc_4, .ref (ad 30 0)]) := by
        intro bc_4 hbc_4
        subst hbc_4
        refine lv_iconst (v := 2) hx hb dX10_isNoDelay_46 (by decide) ?_
        obtain ⟨x_5, hx_5, hE⟩ := ob1 hE
        refine k_ci0 hw (k_rV (f := 30) (o := 0) (As := [.int (if (sp_X10_isFrom p2 1 30) = 0 then 1 else 0), .int 2]) (rest := []) ⟨hx, hb, hml, hown, hts⟩ hK hO hw (ct_X10_refuse (MR.sm (SM.tr (SM.rf S) (sf_X10_start hx_2)) hR) (SM.ci (SM.tr (SM.rf S) (sf_X10_start hx_2)) hI) hx_5 _ (wk.hA hw hA)) (cwV 2 hts (gB_V w_ml_X10_39 w_im_X10_refuse w_se_X10_refuse w_in_X10 w_co_X10_refuse) rfl rfl rfl (by decide +kernel) ⟨Nat.le_of_ble_eq_true rfl, Nat.le_of_ble_eq_true rfl⟩) (hR.1 30 (by decide) (by decide)) mke_30 rfl rfl hl.1 rfl (Nat.le_of_ble_eq_true rfl) dX10_isNoDelay_47 ⟨(Nat.le_of_ble_eq_true rfl), (Nat.le_of_ble_eq_true rfl)⟩) (fun H locs hw => ?_)
        refine lv_if_ne (tgt := 75) hx hb dX10_isNoDelay_50 (by decide) (fun c_6 => ?_) (fun c_6 => ?_)
        · have hE := (if_neg c_6).symm.trans hE
          refine lv_iconst (v := 1) hx hb dX10_isNoDelay_75 (by decide) ?_
          refine lv_goto (tgt := 80) hx hb dX10_isNoDelay_76 (by decide) ?_
          exact m_iretE hx hb hr hlocks rfl hw hE (Nat.le_of_ble_eq_true rfl) (Nat.le_of_ble_eq_true rfl) dX10_isNoDelay_80
        · have hE := (if_pos c_6).symm.trans hE
          refine lv_aload_n hx hb dX10_isNoDelay_53 rfl (lv_at hl 0 rfl) ?_
          refine lv_aload_n hx hb dX10_isNoDelay_54 rfl (lv_at hl 0 rfl) ?_
          refine k_get (C := RX10) (T := TX10) (N := 9) (v := .ref (ad 33 0)) hx hb hts inB_X10 hown hK hw (hR.1 30 (by decide) (by decide)) mke_30 rfl 5 (by decide) (hts _ w_f_X10_26) (fun _ h9 => h9) rfl dX10_isNoDelay_55 ?_
          refine lv_iload_n hx hb dX10_isNoDelay_58 rfl (lv_at hl 1 rfl) ?_
          by_cases c_7 : p1 < 0 ∨ (S 2 0 0).toNatClampNeg ≤ p1.toNatClampNeg
          · exact nomatch (if_pos c_7).symm.trans hE
          have hE := (if_neg c_7).symm.trans hE
          refine k_cr0 (v := (ad 44 p1.toNatClampNeg)) hw (k_rV (f := 33) (o := 0) (As := [.int p1]) (rest := [.ref (ad 30 0)]) ⟨hx, hb, hml, hown, hts⟩ hK hO hw (ct_get_2 (SM.tr (SM.tr (SM.rf S) (sf_X10_start hx_2)) (sf_X10_refuse hx_5)) hR (i := p1.toNatClampNeg) (fun z => c_7 (Or.inl z)) rfl (Nat.not_le.mp fun z => c_7 (Or.inr z)) _ (wk.hA hw hA)) (cwV 1 hts (gB_V w_ml_X10_51 w_im_Jx4a65c_get_915e3 w_se_Jx4a65c_get_915e3 w_in_Jx4a65c w_co_Jx4a65c_get_915e3) rfl rfl rfl (by decide +kernel) ⟨Nat.le_of_ble_eq_true rfl, Nat.le_of_ble_eq_true rfl⟩) (hR.1 33 (by decide) (by decide)) (ce_l2 (SM.tr (SM.tr (SM.rf S) (sf_X10_start hx_2)) (sf_X10_refuse hx_5))) rfl rfl hl.1 rfl (Nat.le_of_ble_eq_true rfl) dX10_isNoDelay_59 ⟨(Nat.le_of_ble_eq_true rfl), (Nat.le_of_ble_eq_true rfl)⟩) (fun H locs hw => ?_)
          refine k_cast (f := 44) (o := p1.toNatClampNeg) hx hb hown (hts _ w_cl_X10_88) hK hw (hR.2.2.2.2.2.1 _ (Nat.not_le.mp fun z => c_7 (Or.inr z))) mke_44 rfl dX10_isNoDelay_62 ?_
          refine k_get (C := RX7) (T := TX7) (N := 4) (v := .int (x_5.2 41 0 p1.toNatClampNeg)) hx hb hts inB_X7 hown hK hw (hR.2.2.2.2.2.1 _ (Nat.not_le.mp fun z => c_7 (Or.inr z))) mke_44 rfl 3 (by decide) (hts _ w_f_X10_93) (fun _ h9 => h9) rfl dX10_isNoDelay_65 ?_
          refine lv_iconst (v := 3) hx hb dX10_isNoDelay_68 (by decide) ?_
          obtain ⟨x_8, hx_8, hE⟩ := ob1 hE
          refine k_ci0 hw (k_rV (f := 30) (o := 0) (As := [.int (x_5.2 41 0 p1.toNatClampNeg), .int 3]) (rest := []) ⟨hx, hb, hml, hown, hts⟩ hK hO hw (ct_X10_refuse (MR.sm (SM.tr (SM.tr (SM.rf S) (sf_X10_start hx_2)) (sf_X10_refuse hx_5)) hR) (SM.ci (SM.tr (SM.tr (SM.rf S) (sf_X10_start hx_2)) (sf_X10_refuse hx_5)) hI) hx_8 _ (wk.hA hw hA)) (cwV 2 hts (gB_V w_ml_X10_39 w_im_X10_refuse w_se_X10_refuse w_in_X10 w_co_X10_refuse) rfl rfl rfl (by decide +kernel) ⟨Nat.le_of_ble_eq_true rfl, Nat.le_of_ble_eq_true rfl⟩) (hR.1 30 (by decide) (by decide)) mke_30 rfl rfl hl.1 rfl (Nat.le_of_ble_eq_true rfl) dX10_isNoDelay_69 ⟨(Nat.le_of_ble_eq_true rfl), (Nat.le_of_ble_eq_true rfl)⟩) (fun H locs hw => ?_)
          refine lv_if_eq (tgt := 79) hx hb dX10_isNoDelay_72 (by decide) (fun c_9 => ?_) (fun c_9 => ?_)
          · have hE := (if_pos c_9).symm.trans hE
            refine lv_iconst (v := 0) hx hb dX10_isNoDelay_79 (by decide) ?_
            exact m_iretE hx hb hr hlocks rfl hw hE (Nat.le_of_ble_eq_true rfl) (Nat.le_of_ble_eq_true rfl) dX10_isNoDelay_80
          · have hE := (if_neg c_9).symm.trans hE
            refine lv_iconst (v := 1) hx hb dX10_isNoDelay_75 (by decide) ?_
            refine lv_goto (tgt := 80) hx hb dX10_isNoDelay_76 (by decide) ?_
            exact m_iretE hx hb hr hlocks rfl hw hE (Nat.le_of_ble_eq_true rfl) (Nat.le_of_ble_eq_true rfl) dX10_isNoDelay_80
      refine lv_if_ne (tgt := 45) hx hb dX10_isNoDelay_38 (by decide) (fun c_4 => ?_) (fun c_4 => ?_)
      · refine lv_iconst (v := 0) hx hb dX10_isNoDelay_45 (by decide) ?_
        exact hjc_4 _ (if_neg c_4).symm
      · refine lv_iconst (v := 1) hx hb dX10_isNoDelay_41 (by decide) ?_
        refine lv_goto (tgt := 46) hx hb dX10_isNoDelay_42 (by decide) ?_
        exact hjc_4 _ (if_pos c_4).symm
  refine lv_if_ne (tgt := 22) hx hb dX10_isNoDelay_15 (by decide) (fun c_1 => ?_) (fun c_1 => ?_)
  · refine lv_iconst (v := 0) hx hb dX10_isNoDelay_22 (by decide) ?_
    exact hjc_1 _ (if_neg c_1).symm
  · refine lv_iconst (v := 1) hx hb dX10_isNoDelay_18 (by decide) ?_
    refine lv_goto (tgt := 23) hx hb dX10_isNoDelay_19 (by decide) ?_
    exact hjc_1 _ (if_pos c_1).symm

abbrev bw_X10_late : List Cond := .code yX10_late cX10_late 3 (some .int) :: BIG
abbrev rm_X10_late : Room := { frames := 4, cells := 0, slots := 0, locals := 86 }
noncomputable def sp_X10_late (S : (Nat → Nat → Nat → Int32)) (p1 : Int32) (p2 : Int32) : Option (Int32 × (Nat → Nat → Nat → Int32)) := (sp_X10_isNoDelay S p1 p2).bind fun x_1 => (if x_1.1 = 0 then (if p1 < 0 ∨ (S 2 0 0).toNatClampNeg ≤ p1.toNatClampNeg then none else (some (((up3 x_1.2 16 0 p1.toNatClampNeg ((x_1.2 16 0 p1.toNatClampNeg) + p2)) 16 0 p1.toNatClampNeg, (up3 x_1.2 16 0 p1.toNatClampNeg ((x_1.2 16 0 p1.toNatClampNeg) + p2)))))) else (some ((0, x_1.2))))
theorem sf_X10_late {S : (Nat → Nat → Nat → Int32)} {p1 : Int32} {p2 : Int32} {v : Int32 × (Nat → Nat → Nat → Int32)} (h : sp_X10_late S p1 p2 = some v) : SM S v.2 := by
  unfold sp_X10_late at h
  obtain ⟨x_1, hx_1, h⟩ := ob1 h
  by_cases q_4 : x_1.1 = 0
  · have h := (if_pos q_4).symm.trans h
    by_cases q_5 : p1 < 0 ∨ (S 2 0 0).toNatClampNeg ≤ p1.toNatClampNeg
    · exact nomatch (if_pos q_5).symm.trans h
    have h := (if_neg q_5).symm.trans h
    have hz : SM S (up3 x_1.2 16 0 p1.toNatClampNeg ((x_1.2 16 0 p1.toNatClampNeg) + p2)) := (SM.up rfl (by decide) (SM.tr (SM.rf S) (sf_X10_isNoDelay hx_1))); cases h; exact hz
  · have h := (if_neg q_4).symm.trans h
    have hz : SM S x_1.2 := (SM.tr (SM.rf S) (sf_X10_isNoDelay hx_1)); cases h; exact hz

set_option maxHeartbeats 1000000 in
set_option maxRecDepth 100000 in
theorem ct_X10_late {l : Launch} {D : va_G} {cI cG cJ cO : ClassId} {K0 : Nat → Nat} {A : Nat → Prop} {L : List (Nat × Nat)} {ad : Nat → Nat → Nat} {ce : Nat → Nat → va_E} {cp : Nat → Nat} {S : (Nat → Nat → Nat → Int32)} (hR : MR S L cp) (hI : CI S) {p1 : Int32} {p2 : Int32} {v : Int32 × (Nat → Nat → Nat → Int32)} (hE : sp_X10_late S p1 p2 = some v) (sz : Nat) (hA : ∀ q, sz ≤ q → A q) : Met l yX10_late bw_X10_late (rm_X10_late) (kP D (ktys cI cG cJ cO) K0 A L ad (mK cI cO K0 ad cp ce S) sz [.ref (ad 30 0), .int p1, .int p2]) (kQi D A v.1 L ad (mK cI cO K0 ad cp ce v.2)) 0 0 A := by
  refine Met.ofW (cc := cX10_late) (maxL := 3) (ret := (some .int)) (by decide) rfl ?_
  intro p e s m args below meth c s₁ B hml hv_
  obtain ⟨hav, hsz, hP, hD, hK, hO⟩ := hv_
  have hx := B.exec
  have hb := B.bytes
  have hr := B.returns
  have hts : ∀ w ∈ BIG, w.before args s = true := fun w h => atoms_spec (ws := bw_X10_late) B.pre w (List.mem_cons_of_mem _ h)
  have hown : s.vm.findClass RX10 = some m.cls := findClass_of_methodNamed B.named
  have hlocks := B.notSynchronized
  subst hsz
  have hw := wk.start hP hD
  refine k_start (by rfl) hav (Nat.le_of_ble_eq_true rfl) (fun ls hl => ?_)
  have hl : lv_has ls 3 [(0, .ref (ad 30 0)), (1, .int p1), (2, .int p2)] := hl
  unfold sp_X10_late at hE
  refine lv_aload_n hx hb dX10_late_0 rfl (lv_at hl 0 rfl) ?_
  refine lv_iload_n hx hb dX10_late_1 rfl (lv_at hl 1 rfl) ?_
  refine lv_iload_n hx hb dX10_late_2 rfl (lv_at hl 2 rfl) ?_
  obtain ⟨x_1, hx_1, hE⟩ := ob1 hE
  refine k_ci0 hw (k_rV (f := 30) (o := 0) (As := [.int p1, .int p2]) (rest := []) ⟨hx, hb, hml, hown, hts⟩ hK hO hw (ct_X10_isNoDelay (MR.sm (SM.rf S) hR) (SM.ci (SM.rf S) hI) hx_1 _ (wk.hA hw hA)) (cwV 2 hts (gB_V w_ml_X10_234 w_im_X10_isNoDelay w_se_X10_isNoDelay w_in_X10 w_co_X10_isNoDelay) rfl rfl rfl (by decide +kernel) ⟨Nat.le_of_ble_eq_true rfl, Nat.le_of_ble_eq_true rfl⟩) (hR.1 30 (by decide) (by decide)) mke_30 rfl rfl hl.1 rfl (Nat.le_of_ble_eq_true rfl) dX10_late_3 ⟨(Nat.le_of_ble_eq_true rfl), (Nat.le_of_ble_eq_true rfl)⟩) (fun H locs hw => ?_)
  refine lv_if_eq (tgt := 11) hx hb dX10_late_6 (by decide) (fun c_2 => ?_) (fun c_2 => ?_)
  · have hE := (if_pos c_2).symm.trans hE
    refine lv_aload_n hx hb dX10_late_11 rfl (lv_at hl 0 rfl) ?_
    refine k_get (C := RX10) (T := TX10) (N := 9) (v := .ref (ad 33 0)) hx hb hts inB_X10 hown hK hw (hR.1 30 (by decide) (by decide)) mke_30 rfl 5 (by decide) (hts _ w_f_X10_26) (fun _ h9 => h9) rfl dX10_late_12 ?_
    refine lv_iload_n hx hb dX10_late_15 rfl (lv_at hl 1 rfl) ?_
    by_cases c_3 : p1 < 0 ∨ (S 2 0 0).toNatClampNeg ≤ p1.toNatClampNeg
    · exact nomatch (if_pos c_3).symm.trans hE
    have hE := (if_neg c_3).symm.trans hE
    refine k_cr0 (v := (ad 44 p1.toNatClampNeg)) hw (k_rV (f := 33) (o := 0) (As := [.int p1]) (rest := []) ⟨hx, hb, hml, hown, hts⟩ hK hO hw (ct_get_2 (SM.tr (SM.rf S) (sf_X10_isNoDelay hx_1)) hR (i := p1.toNatClampNeg) (fun z => c_3 (Or.inl z)) rfl (Nat.not_le.mp fun z => c_3 (Or.inr z)) _ (wk.hA hw hA)) (cwV 1 hts (gB_V w_ml_X10_51 w_im_Jx4a65c_get_915e3 w_se_Jx4a65c_get_915e3 w_in_Jx4a65c w_co_Jx4a65c_get_915e3) rfl rfl rfl (by decide +kernel) ⟨Nat.le_of_ble_eq_true rfl, Nat.le_of_ble_eq_true rfl⟩) (hR.1 33 (by decide) (by decide)) (ce_l2 (SM.tr (SM.rf S) (sf_X10_isNoDelay hx_1))) rfl rfl hl.1 rfl (Nat.le_of_ble_eq_true rfl) dX10_late_16 ⟨(Nat.le_of_ble_eq_true rfl), (Nat.le_of_ble_eq_true rfl)⟩) (fun H locs hw => ?_)
    refine k_cast (f := 44) (o := p1.toNatClampNeg) hx hb hown (hts _ w_cl_X10_88) hK hw (hR.2.2.2.2.2.1 _ (Nat.not_le.mp fun z => c_3 (Or.inr z))) mke_44 rfl dX10_late_19 ?_
    refine lv_dup hx hb dX10_late_22 rfl ?_
    refine k_get (C := RX7) (T := TX7) (N := 4) (v := .int (x_1.2 16 0 p1.toNatClampNeg)) hx hb hts inB_X7 hown hK hw (hR.2.2.2.2.2.1 _ (Nat.not_le.mp fun z => c_3 (Or.inr z))) mke_44 rfl 2 (by decide) (hts _ w_f_X10_97) (fun _ h9 => h9) rfl dX10_late_23 ?_
    refine lv_iload_n hx hb dX10_late_26 rfl (lv_at hl 2 rfl) ?_
    refine lv_iadd hx hb dX10_late_27 ?_
    refine k_put (C := RX7) (T := TX7) (N := 4) (v := .int ((x_1.2 16 0 p1.toNatClampNeg) + p2)) (ty := .int) hx hb hts inB_X7 tyX7 tyX7_ok nmX7 hown hK hw (hR.2.2.2.2.2.1 _ (Nat.not_le.mp fun z => c_3 (Or.inr z))) mke_44 rfl 2 (by decide) (hts _ w_f_X10_97) (fun _ h9 => h9) rfl (by decide +kernel) rfl rfl (Nat.le_of_ble_eq_true rfl) (mK_day (o := p1.toNatClampNeg) (v := ((x_1.2 16 0 p1.toNatClampNeg) + p2)) mcx_day) dX10_late_28 (fun H locs hw => ?_)
    refine lv_aload_n hx hb dX10_late_31 rfl (lv_at hl 0 rfl) ?_
    refine k_get (C := RX10) (T := TX10) (N := 9) (v := .ref (ad 33 0)) hx hb hts inB_X10 hown hK hw (hR.1 30 (by decide) (by decide)) mke_30 rfl 5 (by decide) (hts _ w_f_X10_26) (fun _ h9 => h9) rfl dX10_late_32 ?_
    refine lv_iload_n hx hb dX10_late_35 rfl (lv_at hl 1 rfl) ?_
    refine k_cr0 (v := (ad 44 p1.toNatClampNeg)) hw (k_rV (f := 33) (o := 0) (As := [.int p1]) (rest := []) ⟨hx, hb, hml, hown, hts⟩ hK hO hw (ct_get_2 (SM.up rfl (by decide) (SM.tr (SM.rf S) (sf_X10_isNoDelay hx_1))) hR (i := p1.toNatClampNeg) (fun z => c_3 (Or.inl z)) rfl (Nat.not_le.mp fun z => c_3 (Or.inr z)) _ (wk.hA hw hA)) (cwV 1 hts (gB_V w_ml_X10_51 w_im_Jx4a65c_get_915e3 w_se_Jx4a65c_get_915e3 w_in_Jx4a65c w_co_Jx4a65c_get_915e3) rfl rfl rfl (by decide +kernel) ⟨Nat.le_of_ble_eq_true rfl, Nat.le_of_ble_eq_true rfl⟩) (hR.1 33 (by decide) (by decide)) (ce_l2 (SM.up rfl (by decide) (SM.tr (SM.rf S) (sf_X10_isNoDelay hx_1)))) rfl rfl hl.1 rfl (Nat.le_of_ble_eq_true rfl) dX10_late_36 ⟨(Nat.le_of_ble_eq_true rfl), (Nat.le_of_ble_eq_true rfl)⟩) (fun H locs hw => ?_)
    refine k_cast (f := 44) (o := p1.toNatClampNeg) hx hb hown (hts _ w_cl_X10_88) hK hw (hR.2.2.2.2.2.1 _ (Nat.not_le.mp fun z => c_3 (Or.inr z))) mke_44 rfl dX10_late_39 ?_
    refine k_get (C := RX7) (T := TX7) (N := 4) (v := .int ((up3 x_1.2 16 0 p1.toNatClampNeg ((x_1.2 16 0 p1.toNatClampNeg) + p2)) 16 0 p1.toNatClampNeg)) hx hb hts inB_X7 hown hK hw (hR.2.2.2.2.2.1 _ (Nat.not_le.mp fun z => c_3 (Or.inr z))) mke_44 rfl 2 (by decide) (hts _ w_f_X10_97) (fun _ h9 => h9) rfl dX10_late_42 ?_
    exact m_iretE hx hb hr hlocks rfl hw hE (Nat.le_of_ble_eq_true rfl) (Nat.le_of_ble_eq_true rfl) dX10_late_45
  · have hE := (if_neg c_2).symm.trans hE
    refine lv_iconst (v := 0) hx hb dX10_late_9 (by decide) ?_
    exact m_iretE hx hb hr hlocks rfl hw hE (Nat.le_of_ble_eq_true rfl) (Nat.le_of_ble_eq_true rfl) dX10_late_10

abbrev bw_X10_isNoStep : List Cond := .code yX10_isNoStep cX10_isNoStep 3 (some .boolean) :: BIG
abbrev rm_X10_isNoStep : Room := { frames := 3, cells := 0, slots := 0, locals := 64 }
noncomputable def sp_X10_isNoStep (S : (Nat → Nat → Nat → Int32)) (p1 : Int32) (p2 : Int32) : Option (Int32 × (Nat → Nat → Nat → Int32)) := (sp_X10_isNo S p1).bind fun x_1 => (if x_1 = 0 then (if (sp_X10_isFrom p2 0 11) = 0 then ((sp_X10_start S 1 1).bind fun x_5 => (some ((x_5.1, x_5.2)))) else (if p1 < 0 ∨ (S 0 0 0).toNatClampNeg ≤ p1.toNatClampNeg then none else ((sp_X6_has S p1.toNatClampNeg p2).bind fun x_7 => ((sp_X10_start S (if x_7 = 0 then 1 else 0) 1).bind fun x_9 => (some ((x_9.1, x_9.2))))))) else ((sp_X10_start S 1 1).bind fun x_3 => (some ((x_3.1, x_3.2)))))
theorem sf_X10_isNoStep {S : (Nat → Nat → Nat → Int32)} {p1 : Int32} {p2 : Int32} {v : Int32 × (Nat → Nat → Nat → Int32)} (h : sp_X10_isNoStep S p1 p2 = some v) : SM S v.2 := by
  unfold sp_X10_isNoStep at h
  obtain ⟨x_1, hx_1, h⟩ := ob1 h
  by_cases q_10 : x_1 = 0
  · have h := (if_pos q_10).symm.trans h
    by_cases q_11 : (sp_X10_isFrom p2 0 11) = 0
    · have h := (if_pos q_11).symm.trans h
      obtain ⟨x_5, hx_5, h⟩ := ob1 h
      have hz : SM S x_5.2 := (SM.tr (SM.rf S) (sf_X10_start hx_5)); cases h; exact hz
    · have h := (if_neg q_11).symm.trans h
      by_cases q_12 : p1 < 0 ∨ (S 0 0 0).toNatClampNeg ≤ p1.toNatClampNeg
      · exact nomatch (if_pos q_12).symm.trans h
      have h := (if_neg q_12).symm.trans h
      obtain ⟨x_7, hx_7, h⟩ := ob1 h
      obtain ⟨x_9, hx_9, h⟩ := ob1 h
      have hz : SM S x_9.2 := (SM.tr (SM.rf S) (sf_X10_start hx_9)); cases h; exact hz
  · have h := (if_neg q_10).symm.trans h
    obtain ⟨x_3, hx_3, h⟩ := ob1 h
    have hz : SM S x_3.2 := (SM.tr (SM.rf S) (sf_X10_start hx_3)); cases h; exact hz

theorem bz_X10_isNoStep {S : (Nat → Nat → Nat → Int32)} {p1 : Int32} {p2 : Int32} {v : Int32 × (Nat → Nat → Nat → Int32)} (h : sp_X10_isNoStep S p1 p2 = some v) : v.1 = 0 ∨ v.1 = 1 := by
  unfold sp_X10_isNoStep at h
  obtain ⟨x_1, hx_1, h⟩ := ob1 h
  by_cases q_13 : x_1 = 0
  · have h := (if_pos q_13).symm.trans h
    by_cases q_14 : (sp_X10_isFrom p2 0 11) = 0
    · have h := (if_pos q_14).symm.trans h
      obtain ⟨x_5, hx_5, h⟩ := ob1 h
      cases h; exact bz_X10_start hx_5
    · have h := (if_neg q_14).symm.trans h
      by_cases q_15 : p1 < 0 ∨ (S 0 0 0).toNatClampNeg ≤ p1.toNatClampNeg
      · exact nomatch (if_pos q_15).symm.trans h
      have h := (if_neg q_15).symm.trans h
      obtain ⟨x_7, hx_7, h⟩ := ob1 h
      obtain ⟨x_9, hx_9, h⟩ := ob1 h
      cases h; exact bz_X10_start hx_9
  · have h := (if_neg q_13).symm.trans h
    obtain ⟨x_3, hx_3, h⟩ := ob1 h
    cases h; exact bz_X10_start hx_3

set_option maxHeartbeats 1000000 in
set_option maxRecDepth 100000 in
theorem ct_X10_isNoStep {l : Launch} {D : va_G} {cI cG cJ cO : ClassId} {K0 : Nat → Nat} {A : Nat → Prop} {L : List (Nat × Nat)} {ad : Nat → Nat → Nat} {ce : Nat → Nat → va_E} {cp : Nat → Nat} {S : (Nat → Nat → Nat → Int32)} (hR : MR S L cp) (hI : CI S) {p1 : Int32} {p2 : Int32} {v : Int32 × (Nat → Nat → Nat → Int32)} (hE : sp_X10_isNoStep S p1 p2 = some v) (sz : Nat) (hA : ∀ q, sz ≤ q → A q) : Met l yX10_isNoStep bw_X10_isNoStep (rm_X10_isNoStep) (kP D (ktys cI cG cJ cO) K0 A L ad (mK cI cO K0 ad cp ce S) sz [.ref (ad 30 0), .int p1, .int p2]) (kQi D A v.1 L ad (mK cI cO K0 ad cp ce v.2)) 0 0 A := by
  refine Met.ofW (cc := cX10_isNoStep) (maxL := 3) (ret := (some .boolean)) (by decide) rfl ?_
  intro p e s m args below meth c s₁ B hml hv_
  obtain ⟨hav, hsz, hP, hD, hK, hO⟩ := hv_
  have hx := B.exec
  have hb := B.bytes
  have hr := B.returns
  have hts : ∀ w ∈ BIG, w.before args s = true := fun w h => atoms_spec (ws := bw_X10_isNoStep) B.pre w (List.mem_cons_of_mem _ h)
  have hown : s.vm.findClass RX10 = some m.cls := findClass_of_methodNamed B.named
  have hlocks := B.notSynchronized
  subst hsz
  have hw := wk.start hP hD
  refine k_start (by rfl) hav (Nat.le_of_ble_eq_true rfl) (fun ls hl => ?_)
  have hl : lv_has ls 3 [(0, .ref (ad 30 0)), (1, .int p1), (2, .int p2)] := hl
  unfold sp_X10_isNoStep at hE
  refine lv_aload_n hx hb dX10_isNoStep_0 rfl (lv_at hl 0 rfl) ?_
  refine lv_aload_n hx hb dX10_isNoStep_1 rfl (lv_at hl 0 rfl) ?_
  refine lv_iload_n hx hb dX10_isNoStep_2 rfl (lv_at hl 1 rfl) ?_
  obtain ⟨x_1, hx_1, hE⟩ := ob1 hE
  refine k_ci0 hw (k_rV (f := 30) (o := 0) (As := [.int p1]) (rest := [.ref (ad 30 0)]) ⟨hx, hb, hml, hown, hts⟩ hK hO hw (ct_X10_isNo (MR.sm (SM.rf S) hR) (SM.ci (SM.rf S) hI) hx_1 _ (wk.hA hw hA)) (cwV 1 hts (gB_V w_ml_X10_247 w_im_X10_isNo w_se_X10_isNo w_in_X10 w_co_X10_isNo) rfl rfl rfl (by decide +kernel) ⟨Nat.le_of_ble_eq_true rfl, Nat.le_of_ble_eq_true rfl⟩) (hR.1 30 (by decide) (by decide)) mke_30 rfl rfl hl.1 rfl (Nat.le_of_ble_eq_true rfl) dX10_isNoStep_3 ⟨(Nat.le_of_ble_eq_true rfl), (Nat.le_of_ble_eq_true rfl)⟩) (fun H locs hw => ?_)
  refine lv_if_ne (tgt := 37) hx hb dX10_isNoStep_6 (by decide) (fun c_2 => ?_) (fun c_2 => ?_)
  · have hE := (if_neg c_2).symm.trans hE
    refine lv_iconst (v := 1) hx hb dX10_isNoStep_37 (by decide) ?_
    refine lv_goto (tgt := 42) hx hb dX10_isNoStep_38 (by decide) ?_
    refine lv_iconst (v := 1) hx hb dX10_isNoStep_42 (by decide) ?_
    obtain ⟨x_3, hx_3, hE⟩ := ob1 hE
    refine k_ci0 hw (k_rV (f := 30) (o := 0) (As := [.int 1, .int 1]) (rest := []) ⟨hx, hb, hml, hown, hts⟩ hK hO hw (ct_X10_start (MR.sm (SM.rf S) hR) (SM.ci (SM.rf S) hI) hx_3 _ (wk.hA hw hA)) (cwV 2 hts (gB_V w_ml_X10_186 w_im_X10_start w_se_X10_start w_in_X10 w_co_X10_start) rfl rfl rfl (by decide +kernel) ⟨Nat.le_of_ble_eq_true rfl, Nat.le_of_ble_eq_true rfl⟩) (hR.1 30 (by decide) (by decide)) mke_30 rfl rfl hl.1 rfl (Nat.le_of_ble_eq_true rfl) dX10_isNoStep_43 ⟨(Nat.le_of_ble_eq_true rfl), (Nat.le_of_ble_eq_true rfl)⟩) (fun H locs hw => ?_)
    exact m_iretE hx hb hr hlocks (k_nz (bz_X10_start hx_3)) hw hE (Nat.le_of_ble_eq_true rfl) (Nat.le_of_ble_eq_true rfl) dX10_isNoStep_46
  · have hE := (if_pos c_2).symm.trans hE
    refine lv_iload_n hx hb dX10_isNoStep_9 rfl (lv_at hl 2 rfl) ?_
    refine lv_iconst (v := 0) hx hb dX10_isNoStep_10 (by decide) ?_
    refine lv_bipush (v := 11) hx hb dX10_isNoStep_11 (by decide) ?_
    refine k_ci0 hw (k_rS (As := [.int p2, .int 0, .int 11]) (rest := [.ref (ad 30 0)]) ⟨hx, hb, hml, hown, hts⟩ hK hO hw (ct_X10_isFrom p2 0 11 _ (wk.hA hw hA)) (va_cwS 3 hts (gB_S w_ml_X10_47 w_st_X10_isFrom w_in_X10 w_co_X10_isFrom) rfl rfl rfl (by decide +kernel) ⟨Nat.le_of_ble_eq_true rfl, Nat.le_of_ble_eq_true rfl⟩) rfl hl.1 rfl (Nat.le_of_ble_eq_true rfl) dX10_isNoStep_13 ⟨(Nat.le_of_ble_eq_true rfl), (Nat.le_of_ble_eq_true rfl)⟩) (fun H locs hw => ?_)
    refine lv_if_eq (tgt := 37) hx hb dX10_isNoStep_16 (by decide) (fun c_4 => ?_) (fun c_4 => ?_)
    · have hE := (if_pos c_4).symm.trans hE
      refine lv_iconst (v := 1) hx hb dX10_isNoStep_37 (by decide) ?_
      refine lv_goto (tgt := 42) hx hb dX10_isNoStep_38 (by decide) ?_
      refine lv_iconst (v := 1) hx hb dX10_isNoStep_42 (by decide) ?_
      obtain ⟨x_5, hx_5, hE⟩ := ob1 hE
      refine k_ci0 hw (k_rV (f := 30) (o := 0) (As := [.int 1, .int 1]) (rest := []) ⟨hx, hb, hml, hown, hts⟩ hK hO hw (ct_X10_start (MR.sm (SM.rf S) hR) (SM.ci (SM.rf S) hI) hx_5 _ (wk.hA hw hA)) (cwV 2 hts (gB_V w_ml_X10_186 w_im_X10_start w_se_X10_start w_in_X10 w_co_X10_start) rfl rfl rfl (by decide +kernel) ⟨Nat.le_of_ble_eq_true rfl, Nat.le_of_ble_eq_true rfl⟩) (hR.1 30 (by decide) (by decide)) mke_30 rfl rfl hl.1 rfl (Nat.le_of_ble_eq_true rfl) dX10_isNoStep_43 ⟨(Nat.le_of_ble_eq_true rfl), (Nat.le_of_ble_eq_true rfl)⟩) (fun H locs hw => ?_)
      exact m_iretE hx hb hr hlocks (k_nz (bz_X10_start hx_5)) hw hE (Nat.le_of_ble_eq_true rfl) (Nat.le_of_ble_eq_true rfl) dX10_isNoStep_46
    · have hE := (if_neg c_4).symm.trans hE
      refine lv_aload_n hx hb dX10_isNoStep_19 rfl (lv_at hl 0 rfl) ?_
      refine k_get (C := RX10) (T := TX10) (N := 9) (v := .ref (ad 35 0)) hx hb hts inB_X10 hown hK hw (hR.1 30 (by decide) (by decide)) mke_30 rfl 7 (by decide) (hts _ w_f_X10_32) (fun _ h9 => h9) rfl dX10_isNoStep_20 ?_
      refine lv_iload_n hx hb dX10_isNoStep_23 rfl (lv_at hl 1 rfl) ?_
      by_cases c_6 : p1 < 0 ∨ (S 0 0 0).toNatClampNeg ≤ p1.toNatClampNeg
      · exact nomatch (if_pos c_6).symm.trans hE
      have hE := (if_neg c_6).symm.trans hE
      refine k_cr0 (v := (ad 46 p1.toNatClampNeg)) hw (k_rV (f := 35) (o := 0) (As := [.int p1]) (rest := [.ref (ad 30 0)]) ⟨hx, hb, hml, hown, hts⟩ hK hO hw (ct_get_4 (SM.rf S) hR (i := p1.toNatClampNeg) (fun z => c_6 (Or.inl z)) rfl (Nat.not_le.mp fun z => c_6 (Or.inr z)) _ (wk.hA hw hA)) (cwV 1 hts (gB_V w_ml_X10_51 w_im_Jx4a65c_get_915e3 w_se_Jx4a65c_get_915e3 w_in_Jx4a65c w_co_Jx4a65c_get_915e3) rfl rfl rfl (by decide +kernel) ⟨Nat.le_of_ble_eq_true rfl, Nat.le_of_ble_eq_true rfl⟩) (hR.1 35 (by decide) (by decide)) (ce_l4 (SM.rf S)) rfl rfl hl.1 rfl (Nat.le_of_ble_eq_true rfl) dX10_isNoStep_24 ⟨(Nat.le_of_ble_eq_true rfl), (Nat.le_of_ble_eq_true rfl)⟩) (fun H locs hw => ?_)
      refine k_cast (f := 46) (o := p1.toNatClampNeg) hx hb hown (hts _ w_cl_X10_64) hK hw (hR.2.2.2.2.2.2.2 46 _ (by decide) (by decide) (Nat.not_le.mp fun z => c_6 (Or.inr z))) mke_46 rfl dX10_isNoStep_27 ?_
      refine lv_iload_n hx hb dX10_isNoStep_30 rfl (lv_at hl 2 rfl) ?_
      obtain ⟨x_7, hx_7, hE⟩ := ob1 hE
      refine k_ci0 hw (k_rV (f := 46) (o := p1.toNatClampNeg) (As := [.int p2]) (rest := [.ref (ad 30 0)]) ⟨hx, hb, hml, hown, hts⟩ hK hO hw (ct_X6_has (MR.sm (SM.rf S) hR) (SM.ci (SM.rf S) hI) (by rw [SM.c4 (SM.rf S)]; exact (Nat.not_le.mp fun z => c_6 (Or.inr z))) hx_7 _ (wk.hA hw hA)) (cwV 1 hts (gB_V w_ml_X10_256 w_im_X6_has w_se_X6_has w_in_X6 w_co_X6_has) rfl rfl rfl (by decide +kernel) ⟨Nat.le_of_ble_eq_true rfl, Nat.le_of_ble_eq_true rfl⟩) (hR.2.2.2.2.2.2.2 46 _ (by decide) (by decide) (Nat.not_le.mp fun z => c_6 (Or.inr z))) mke_46 rfl rfl hl.1 rfl (Nat.le_of_ble_eq_true rfl) dX10_isNoStep_31 ⟨(Nat.le_of_ble_eq_true rfl), (Nat.le_of_ble_eq_true rfl)⟩) (fun H locs hw => ?_)
      have hjc_8 : ∀ bc_8 : Int32, bc_8 = (if x_7 = 0 then 1 else 0) → W p l e (headSpec bw_X10_isNoStep (rm_X10_isNoStep)).room s m args below meth c H locs 0 0 (MQ below (kQi D A v.1 L ad (mK cI cO K0 ad cp ce v.2)) args s 0 0 A) (F0 m 42 ls [.int bc_8, .ref (ad 30 0)]) := by
        intro bc_8 hbc_8
        subst hbc_8
        refine lv_iconst (v := 1) hx hb dX10_isNoStep_42 (by decide) ?_
        obtain ⟨x_9, hx_9, hE⟩ := ob1 hE
        refine k_ci0 hw (k_rV (f := 30) (o := 0) (As := [.int (if x_7 = 0 then 1 else 0), .int 1]) (rest := []) ⟨hx, hb, hml, hown, hts⟩ hK hO hw (ct_X10_start (MR.sm (SM.rf S) hR) (SM.ci (SM.rf S) hI) hx_9 _ (wk.hA hw hA)) (cwV 2 hts (gB_V w_ml_X10_186 w_im_X10_start w_se_X10_start w_in_X10 w_co_X10_start) rfl rfl rfl (by decide +kernel) ⟨Nat.le_of_ble_eq_true rfl, Nat.le_of_ble_eq_true rfl⟩) (hR.1 30 (by decide) (by decide)) mke_30 rfl rfl hl.1 rfl (Nat.le_of_ble_eq_true rfl) dX10_isNoStep_43 ⟨(Nat.le_of_ble_eq_true rfl), (Nat.le_of_ble_eq_true rfl)⟩) (fun H locs hw => ?_)
        exact m_iretE hx hb hr hlocks (k_nz (bz_X10_start hx_9)) hw hE (Nat.le_of_ble_eq_true rfl) (Nat.le_of_ble_eq_true rfl) dX10_isNoStep_46
      refine lv_if_ne (tgt := 41) hx hb dX10_isNoStep_34 (by decide) (fun c_8 => ?_) (fun c_8 => ?_)
      · refine lv_iconst (v := 0) hx hb dX10_isNoStep_41 (by decide) ?_
        exact hjc_8 _ (if_neg c_8).symm
      · refine lv_iconst (v := 1) hx hb dX10_isNoStep_37 (by decide) ?_
        refine lv_goto (tgt := 42) hx hb dX10_isNoStep_38 (by decide) ?_
        exact hjc_8 _ (if_pos c_8).symm

abbrev bw_X10_ofSessionNow : List Cond := .code yX10_ofSessionNow cX10_ofSessionNow 5 (some .int) :: BIG
abbrev rm_X10_ofSessionNow : Room := { frames := 4, cells := 2, slots := 8, locals := 78 }
noncomputable def sp_X10_ofSessionNow (S : (Nat → Nat → Nat → Int32)) (p1 : Int32) (p2 : Int32) : Option (Int32) := if p1 < 0 ∨ (S 3 0 0).toNatClampNeg ≤ p1.toNatClampNeg then none else ((sp_X10_seatsTaken S p1).bind fun x_2 => (if p2 < 0 ∨ 4 ≤ p2.toNatClampNeg then none else (some ((upd (upd (upd (upd (fun _ => 0) 0 (S 17 0 p1.toNatClampNeg)) 1 (S 18 0 p1.toNatClampNeg)) 2 (S 19 0 p1.toNatClampNeg)) 3 x_2) p2.toNatClampNeg))))
set_option maxHeartbeats 1000000 in
set_option maxRecDepth 100000 in
theorem ct_X10_ofSessionNow {l : Launch} {D : va_G} {cI cG cJ cO : ClassId} {K0 : Nat → Nat} {A : Nat → Prop} {L : List (Nat × Nat)} {ad : Nat → Nat → Nat} {ce : Nat → Nat → va_E} {cp : Nat → Nat} {S : (Nat → Nat → Nat → Int32)} (hR : MR S L cp) (hI : CI S) (hT : TL 64 L) {p1 : Int32} {p2 : Int32} {v : Int32} (hE : sp_X10_ofSessionNow S p1 p2 = some v) (sz : Nat) (hA : ∀ q, sz ≤ q → A q) : Met l yX10_ofSessionNow bw_X10_ofSessionNow (rm_X10_ofSessionNow) (kP D (ktys cI cG cJ cO) K0 A L ad (mK cI cO K0 ad cp ce S) sz [.ref (ad 30 0), .int p1, .int p2]) (kQi D A v L ad (mK cI cO K0 ad cp ce S)) 2 8 A := by
  refine Met.ofW (cc := cX10_ofSessionNow) (maxL := 5) (ret := (some .int)) (by decide) rfl ?_
  intro p e s m args below meth c s₁ B hml hv_
  obtain ⟨hav, hsz, hP, hD, hK, hO⟩ := hv_
  have hx := B.exec
  have hb := B.bytes
  have hr := B.returns
  have hts : ∀ w ∈ BIG, w.before args s = true := fun w h => atoms_spec (ws := bw_X10_ofSessionNow) B.pre w (List.mem_cons_of_mem _ h)
  have hown : s.vm.findClass RX10 = some m.cls := findClass_of_methodNamed B.named
  have hlocks := B.notSynchronized
  subst hsz
  have hw := wk.start hP hD
  refine k_start (by rfl) hav (Nat.le_of_ble_eq_true rfl) (fun ls hl => ?_)
  have hl : lv_has ls 5 [(0, .ref (ad 30 0)), (1, .int p1), (2, .int p2)] := hl
  unfold sp_X10_ofSessionNow at hE
  refine lv_aload_n hx hb dX10_ofSessionNow_0 rfl (lv_at hl 0 rfl) ?_
  refine k_get (C := RX10) (T := TX10) (N := 9) (v := .ref (ad 34 0)) hx hb hts inB_X10 hown hK hw (hR.1 30 (by decide) (by decide)) mke_30 rfl 6 (by decide) (hts _ w_f_X10_29) (fun _ h9 => h9) rfl dX10_ofSessionNow_1 ?_
  refine lv_iload_n hx hb dX10_ofSessionNow_4 rfl (lv_at hl 1 rfl) ?_
  by_cases c_1 : p1 < 0 ∨ (S 3 0 0).toNatClampNeg ≤ p1.toNatClampNeg
  · exact nomatch (if_pos c_1).symm.trans hE
  have hE := (if_neg c_1).symm.trans hE
  refine k_cr0 (v := (ad 45 p1.toNatClampNeg)) hw (k_rV (f := 34) (o := 0) (As := [.int p1]) (rest := []) ⟨hx, hb, hml, hown, hts⟩ hK hO hw (ct_get_3 (SM.rf S) hR (i := p1.toNatClampNeg) (fun z => c_1 (Or.inl z)) rfl (Nat.not_le.mp fun z => c_1 (Or.inr z)) _ (wk.hA hw hA)) (cwV 1 hts (gB_V w_ml_X10_51 w_im_Jx4a65c_get_915e3 w_se_Jx4a65c_get_915e3 w_in_Jx4a65c w_co_Jx4a65c_get_915e3) rfl rfl rfl (by decide +kernel) ⟨Nat.le_of_ble_eq_true rfl, Nat.le_of_ble_eq_true rfl⟩) (hR.1 34 (by decide) (by decide)) (ce_l3 (SM.rf S)) rfl rfl hl.1 rfl (Nat.le_of_ble_eq_true rfl) dX10_ofSessionNow_5 ⟨(Nat.le_of_ble_eq_true rfl), (Nat.le_of_ble_eq_true rfl)⟩) (fun H locs hw => ?_)
  refine k_cast (f := 45) (o := p1.toNatClampNeg) hx hb hown (hts _ w_cl_X10_129) hK hw (hR.2.2.2.2.2.2.1 _ (Nat.not_le.mp fun z => c_1 (Or.inr z))) mke_45 rfl dX10_ofSessionNow_8 ?_
  refine lv_astore_n (lv' := [(3, .ref (ad 45 p1.toNatClampNeg)), (0, .ref (ad 30 0)), (1, .int p1), (2, .int p2)]) hx hb dX10_ofSessionNow_11 rfl hl (by decide) rfl (fun ls hl => ?_)
  refine lv_iconst (v := 4) hx hb dX10_ofSessionNow_12 (by decide) ?_
  refine k_newi hx hb (hts _ w_ac_int) hK hw hA (n := 4) (N' := 4) (by decide) (by decide) (Nat.le_of_ble_eq_true rfl) (Nat.le_of_ble_eq_true rfl) (Nat.le_of_ble_eq_true rfl) 64 0 (TL.new hT (by decide) (by decide)) dX10_ofSessionNow_13 (fun q H hw => ?_)
  have hw := hw.tmp (Or.inr (by decide))
  have hRp := hR.push (i := (64, 0))
  show W p l e (headSpec bw_X10_ofSessionNow (rm_X10_ofSessionNow)).room s m args below meth c _ _ (0 + 1) (0 + 4) (MQ below (kQi D A v L ad (mK cI cO K0 ad cp ce S)) args s 2 8 A) (F0 m 15 ls [.ref q])
  refine lv_dup hx hb dX10_ofSessionNow_15 rfl ?_
  refine lv_iconst (v := 0) hx hb dX10_ofSessionNow_16 (by decide) ?_
  refine lv_aload_n hx hb dX10_ofSessionNow_17 rfl (lv_at hl 0 rfl) ?_
  refine k_get (C := RX8) (T := TX8) (N := 3) (v := .int (S 17 0 p1.toNatClampNeg)) hx hb hts inB_X8 hown hK hw (hRp.2.2.2.2.2.2.1 _ (Nat.not_le.mp fun z => c_1 (Or.inr z))) mke_45 rfl 0 (by decide) (hts _ w_f_X10_160) (fun _ h9 => h9) rfl dX10_ofSessionNow_18 ?_
  refine k_asti hx hb hK hw (List.mem_append_right _ (List.mem_singleton_self _)) 0 ((mK_ou (Or.inr (by decide))).trans up2_eq) rfl (by decide) rfl (by decide) (mK_itp (Or.inr (by decide))) dX10_ofSessionNow_21 (fun H locs hw => ?_)
  refine lv_dup hx hb dX10_ofSessionNow_22 rfl ?_
  refine lv_iconst (v := 1) hx hb dX10_ofSessionNow_23 (by decide) ?_
  refine lv_aload_n hx hb dX10_ofSessionNow_24 rfl (lv_at hl 0 rfl) ?_
  refine k_get (C := RX8) (T := TX8) (N := 3) (v := .int (S 18 0 p1.toNatClampNeg)) hx hb hts inB_X8 hown hK hw (hRp.2.2.2.2.2.2.1 _ (Nat.not_le.mp fun z => c_1 (Or.inr z))) mke_45 rfl 1 (by decide) (hts _ w_f_X10_131) (fun _ h9 => h9) rfl dX10_ofSessionNow_25 ?_
  refine k_asti hx hb hK hw (List.mem_append_right _ (List.mem_singleton_self _)) 0 ((mK_ou (Or.inr (by decide))).trans up2_eq) rfl (by decide) rfl (by decide) (mK_itp (Or.inr (by decide))) dX10_ofSessionNow_28 (fun H locs hw => ?_)
  refine lv_dup hx hb dX10_ofSessionNow_29 rfl ?_
  refine lv_iconst (v := 2) hx hb dX10_ofSessionNow_30 (by decide) ?_
  refine lv_aload_n hx hb dX10_ofSessionNow_31 rfl (lv_at hl 0 rfl) ?_
  refine k_get (C := RX8) (T := TX8) (N := 3) (v := .int (S 19 0 p1.toNatClampNeg)) hx hb hts inB_X8 hown hK hw (hRp.2.2.2.2.2.2.1 _ (Nat.not_le.mp fun z => c_1 (Or.inr z))) mke_45 rfl 2 (by decide) (hts _ w_f_X10_166) (fun _ h9 => h9) rfl dX10_ofSessionNow_32 ?_
  refine k_asti hx hb hK hw (List.mem_append_right _ (List.mem_singleton_self _)) 0 ((mK_ou (Or.inr (by decide))).trans up2_eq) rfl (by decide) rfl (by decide) (mK_itp (Or.inr (by decide))) dX10_ofSessionNow_35 (fun H locs hw => ?_)
  refine lv_dup hx hb dX10_ofSessionNow_36 rfl ?_
  refine lv_iconst (v := 3) hx hb dX10_ofSessionNow_37 (by decide) ?_
  refine lv_aload_n hx hb dX10_ofSessionNow_38 rfl (lv_at hl 1 rfl) ?_
  refine lv_iload_n hx hb dX10_ofSessionNow_39 rfl (lv_at hl 2 rfl) ?_
  obtain ⟨x_2, hx_2, hE⟩ := ob1 hE
  refine k_ci hw (k_rV (f := 30) (o := 0) (As := [.int p1]) (rest := [.int 3, .ref q, .ref q]) ⟨hx, hb, hml, hown, hts⟩ hK hO hw (ct_X10_seatsTaken (MR.sm (SM.rf S) hRp) (SM.ci (SM.rf S) hI) (TL.push hT (by decide) (by decide)) hx_2 _ (wk.hA hw hA)) (cwV 1 hts (gB_V w_ml_X10_163 w_im_X10_seatsTaken w_se_X10_seatsTaken w_in_X10 w_co_X10_seatsTaken) rfl rfl rfl (by decide +kernel) ⟨Nat.le_of_ble_eq_true rfl, Nat.le_of_ble_eq_true rfl⟩) (hRp.1 30 (by decide) (by decide)) mke_30 rfl rfl hl.1 rfl (Nat.le_of_ble_eq_true rfl) dX10_ofSessionNow_40 ⟨(Nat.le_of_ble_eq_true rfl), (Nat.le_of_ble_eq_true rfl)⟩) (fun H locs hw => ?_)
  refine k_asti hx hb hK hw (List.mem_append_right _ (List.mem_singleton_self _)) 0 ((mK_ou (Or.inr (by decide))).trans up2_eq) rfl (by decide) rfl (by decide) (mK_itp (Or.inr (by decide))) dX10_ofSessionNow_43 (fun H locs hw => ?_)
  refine lv_astore (lv' := [(4, .ref q), (3, .ref (ad 45 p1.toNatClampNeg)), (0, .ref (ad 30 0)), (1, .int p1), (2, .int p2)]) hx hb dX10_ofSessionNow_44 hl (by decide) rfl (fun ls hl => ?_)
  refine lv_aload hx hb dX10_ofSessionNow_46 (lv_at hl 0 rfl) ?_
  refine lv_iload_n hx hb dX10_ofSessionNow_48 rfl (lv_at hl 4 rfl) ?_
  by_cases c_3 : p2 < 0 ∨ 4 ≤ p2.toNatClampNeg
  · exact nomatch (if_pos c_3).symm.trans hE
  have hE := (if_neg c_3).symm.trans hE
  refine k_aldi hx hb hK hw (List.mem_append_right _ (List.mem_singleton_self _)) 0 ((mK_ou (Or.inr (by decide))).trans up2_eq) rfl (fun z => c_3 (Or.inl z)) rfl (Nat.not_le.mp fun z => c_3 (Or.inr z)) (v := (upd (upd (upd (upd (fun _ => 0) 0 (S 17 0 p1.toNatClampNeg)) 1 (S 18 0 p1.toNatClampNeg)) 2 (S 19 0 p1.toNatClampNeg)) 3 x_2) p2.toNatClampNeg) rfl dX10_ofSessionNow_49 ?_
  have hw := hw.untmp (Or.inr (by decide)) (TL.new hT (by decide) (by decide))
  exact m_iret hx hb hr hlocks rfl hw hE (Nat.le_of_ble_eq_true rfl) (Nat.le_of_ble_eq_true rfl) dX10_ofSessionNow_50

abbrev bw_X10_ofSession : List Cond := .code yX10_ofSession cX10_ofSession 3 (some .int) :: BIG
abbrev rm_X10_ofSession : Room := { frames := 5, cells := 2, slots := 8, locals := 102 }
noncomputable def sp_X10_ofSession (S : (Nat → Nat → Nat → Int32)) (p1 : Int32) (p2 : Int32) : Option (Int32 × (Nat → Nat → Nat → Int32)) := (sp_X10_start S (if (sp_X10_isFrom p1 0 ((S 3 0 0) - 1)) = 0 then 1 else 0) 1).bind fun x_2 => (if x_2.1 = 0 then ((sp_X10_refuse x_2.2 (if (sp_X10_isFrom p2 0 3) = 0 then 1 else 0) 2).bind fun x_5 => (if x_5.1 = 0 then ((sp_X10_ofSessionNow x_5.2 p1 p2).bind fun x_7 => (some ((x_7, x_5.2)))) else (some ((0, x_5.2))))) else (some ((0, x_2.2))))
theorem sf_X10_ofSession {S : (Nat → Nat → Nat → Int32)} {p1 : Int32} {p2 : Int32} {v : Int32 × (Nat → Nat → Nat → Int32)} (h : sp_X10_ofSession S p1 p2 = some v) : SM S v.2 := by
  unfold sp_X10_ofSession at h
  obtain ⟨x_2, hx_2, h⟩ := ob1 h
  by_cases q_8 : x_2.1 = 0
  · have h := (if_pos q_8).symm.trans h
    obtain ⟨x_5, hx_5, h⟩ := ob1 h
    by_cases q_9 : x_5.1 = 0
    · have h := (if_pos q_9).symm.trans h
      obtain ⟨x_7, hx_7, h⟩ := ob1 h
      have hz : SM S x_5.2 := (SM.tr (SM.tr (SM.rf S) (sf_X10_start hx_2)) (sf_X10_refuse hx_5)); cases h; exact hz
    · have h := (if_neg q_9).symm.trans h
      have hz : SM S x_5.2 := (SM.tr (SM.tr (SM.rf S) (sf_X10_start hx_2)) (sf_X10_refuse hx_5)); cases h; exact hz
  · have h := (if_neg q_8).symm.trans h
    have hz : SM S x_2.2 := (SM.tr (SM.rf S) (sf_X10_start hx_2)); cases h; exact hz

set_option maxHeartbeats 1000000 in
set_option maxRecDepth 100000 in
theorem ct_X10_ofSession {l : Launch} {D : va_G} {cI cG cJ cO : ClassId} {K0 : Nat → Nat} {A : Nat → Prop} {L : List (Nat × Nat)} {ad : Nat → Nat → Nat} {ce : Nat → Nat → va_E} {cp : Nat → Nat} {S : (Nat → Nat → Nat → Int32)} (hR : MR S L cp) (hI : CI S) (hT : TL 64 L) {p1 : Int32} {p2 : Int32} {v : Int32 × (Nat → Nat → Nat → Int32)} (hE : sp_X10_ofSession S p1 p2 = some v) (sz : Nat) (hA : ∀ q, sz ≤ q → A q) : Met l yX10_ofSession bw_X10_ofSession (rm_X10_ofSession) (kP D (ktys cI cG cJ cO) K0 A L ad (mK cI cO K0 ad cp ce S) sz [.ref (ad 30 0), .int p1, .int p2]) (kQi D A v.1 L ad (mK cI cO K0 ad cp ce v.2)) 2 8 A := by
  refine Met.ofW (cc := cX10_ofSession) (maxL := 3) (ret := (some .int)) (by decide) rfl ?_
  intro p e s m args below meth c s₁ B hml hv_
  obtain ⟨hav, hsz, hP, hD, hK, hO⟩ := hv_
  have hx := B.exec
  have hb := B.bytes
  have hr := B.returns
  have hts : ∀ w ∈ BIG, w.before args s = true := fun w h => atoms_spec (ws := bw_X10_ofSession) B.pre w (List.mem_cons_of_mem _ h)
  have hown : s.vm.findClass RX10 = some m.cls := findClass_of_methodNamed B.named
  have hlocks := B.notSynchronized
  subst hsz
  have hw := wk.start hP hD
  refine k_start (by rfl) hav (Nat.le_of_ble_eq_true rfl) (fun ls hl => ?_)
  have hl : lv_has ls 3 [(0, .ref (ad 30 0)), (1, .int p1), (2, .int p2)] := hl
  unfold sp_X10_ofSession at hE
  refine lv_aload_n hx hb dX10_ofSession_0 rfl (lv_at hl 0 rfl) ?_
  refine lv_iload_n hx hb dX10_ofSession_1 rfl (lv_at hl 1 rfl) ?_
  refine lv_iconst (v := 0) hx hb dX10_ofSession_2 (by decide) ?_
  refine lv_aload_n hx hb dX10_ofSession_3 rfl (lv_at hl 0 rfl) ?_
  refine k_get (C := RX10) (T := TX10) (N := 9) (v := .ref (ad 34 0)) hx hb hts inB_X10 hown hK hw (hR.1 30 (by decide) (by decide)) mke_30 rfl 6 (by decide) (hts _ w_f_X10_29) (fun _ h9 => h9) rfl dX10_ofSession_4 ?_
  refine k_ci0 hw (k_rV (f := 34) (o := 0) (As := []) (rest := [.int 0, .int p1, .ref (ad 30 0)]) ⟨hx, hb, hml, hown, hts⟩ hK hO hw (ct_size_3 (SM.rf S) hR _ (wk.hA hw hA)) (cwV 0 hts (gB_V w_ml_X10_43 w_im_Jx4a65c_size_8abf5 w_se_Jx4a65c_size_8abf5 w_in_Jx4a65c w_co_Jx4a65c_size_8abf5) rfl rfl rfl (by decide +kernel) ⟨Nat.le_of_ble_eq_true rfl, Nat.le_of_ble_eq_true rfl⟩) (hR.1 34 (by decide) (by decide)) (ce_l3 (SM.rf S)) rfl rfl hl.1 rfl (Nat.le_of_ble_eq_true rfl) dX10_ofSession_7 ⟨(Nat.le_of_ble_eq_true rfl), (Nat.le_of_ble_eq_true rfl)⟩) (fun H locs hw => ?_)
  refine lv_iconst (v := 1) hx hb dX10_ofSession_10 (by decide) ?_
  refine lv_isub hx hb dX10_ofSession_11 ?_
  refine k_ci0 hw (k_rS (As := [.int p1, .int 0, .int ((S 3 0 0) - 1)]) (rest := [.ref (ad 30 0)]) ⟨hx, hb, hml, hown, hts⟩ hK hO hw (ct_X10_isFrom p1 0 ((S 3 0 0) - 1) _ (wk.hA hw hA)) (va_cwS 3 hts (gB_S w_ml_X10_47 w_st_X10_isFrom w_in_X10 w_co_X10_isFrom) rfl rfl rfl (by decide +kernel) ⟨Nat.le_of_ble_eq_true rfl, Nat.le_of_ble_eq_true rfl⟩) rfl hl.1 rfl (Nat.le_of_ble_eq_true rfl) dX10_ofSession_12 ⟨(Nat.le_of_ble_eq_true rfl), (Nat.le_of_ble_eq_true rfl)⟩) (fun H locs hw => ?_)
  have hjc_1 : ∀ bc_1 : Int32, bc_1 = (if (sp_X10_isFrom p1 0 ((S 3 0 0) - 1)) = 0 then 1 else 0) → W p l e (headSpec bw_X10_ofSession (rm_X10_ofSession)).room s m args below meth c H locs 0 0 (MQ below (kQi D A v.1 L ad (mK cI cO K0 ad cp ce v.2)) args s 2 8 A) (F0 m 23 ls [.int bc_1, .ref (ad 30 0)]) := by
    intro bc_1 hbc_1
    subst hbc_1
    refine lv_iconst (v := 1) hx hb dX10_ofSession_23 (by decide) ?_
    obtain ⟨x_2, hx_2, hE⟩ := ob1 hE
    refine k_ci0 hw (k_rV (f := 30) (o := 0) (As := [.int (if (sp_X10_isFrom p1 0 ((S 3 0 0) - 1)) = 0 then 1 else 0), .int 1]) (rest := []) ⟨hx, hb, hml, hown, hts⟩ hK hO hw (ct_X10_start (MR.sm (SM.rf S) hR) (SM.ci (SM.rf S) hI) hx_2 _ (wk.hA hw hA)) (cwV 2 hts (gB_V w_ml_X10_186 w_im_X10_start w_se_X10_start w_in_X10 w_co_X10_start) rfl rfl rfl (by decide +kernel) ⟨Nat.le_of_ble_eq_true rfl, Nat.le_of_ble_eq_true rfl⟩) (hR.1 30 (by decide) (by decide)) mke_30 rfl rfl hl.1 rfl (Nat.le_of_ble_eq_true rfl) dX10_ofSession_24 ⟨(Nat.le_of_ble_eq_true rfl), (Nat.le_of_ble_eq_true rfl)⟩) (fun H locs hw => ?_)
    refine lv_if_ne (tgt := 52) hx hb dX10_ofSession_27 (by decide) (fun c_3 => ?_) (fun c_3 => ?_)
    · have hE := (if_neg c_3).symm.trans hE
      refine lv_iconst (v := 0) hx hb dX10_ofSession_52 (by decide) ?_
      refine lv_goto (tgt := 62) hx hb dX10_ofSession_53 (by decide) ?_
      exact m_iretE hx hb hr hlocks rfl hw hE (Nat.le_of_ble_eq_true rfl) (Nat.le_of_ble_eq_true rfl) dX10_ofSession_62
    · have hE := (if_pos c_3).symm.trans hE
      refine lv_aload_n hx hb dX10_ofSession_30 rfl (lv_at hl 0 rfl) ?_
      refine lv_iload_n hx hb dX10_ofSession_31 rfl (lv_at hl 2 rfl) ?_
      refine lv_iconst (v := 0) hx hb dX10_ofSession_32 (by decide) ?_
      refine lv_iconst (v := 3) hx hb dX10_ofSession_33 (by decide) ?_
      refine k_ci0 hw (k_rS (As := [.int p2, .int 0, .int 3]) (rest := [.ref (ad 30 0)]) ⟨hx, hb, hml, hown, hts⟩ hK hO hw (ct_X10_isFrom p2 0 3 _ (wk.hA hw hA)) (va_cwS 3 hts (gB_S w_ml_X10_47 w_st_X10_isFrom w_in_X10 w_co_X10_isFrom) rfl rfl rfl (by decide +kernel) ⟨Nat.le_of_ble_eq_true rfl, Nat.le_of_ble_eq_true rfl⟩) rfl hl.1 rfl (Nat.le_of_ble_eq_true rfl) dX10_ofSession_34 ⟨(Nat.le_of_ble_eq_true rfl), (Nat.le_of_ble_eq_true rfl)⟩) (fun H locs hw => ?_)
      have hjc_4 : ∀ bc_4 : Int32, bc_4 = (if (sp_X10_isFrom p2 0 3) = 0 then 1 else 0) → W p l e (headSpec bw_X10_ofSession (rm_X10_ofSession)).room s m args below meth c H locs 0 0 (MQ below (kQi D A v.1 L ad (mK cI cO K0 ad cp ce v.2)) args s 2 8 A) (F0 m 45 ls [.int bc_4, .ref (ad 30 0)]) := by
        intro bc_4 hbc_4
        subst hbc_4
        refine lv_iconst (v := 2) hx hb dX10_ofSession_45 (by decide) ?_
        obtain ⟨x_5, hx_5, hE⟩ := ob1 hE
        refine k_ci0 hw (k_rV (f := 30) (o := 0) (As := [.int (if (sp_X10_isFrom p2 0 3) = 0 then 1 else 0), .int 2]) (rest := []) ⟨hx, hb, hml, hown, hts⟩ hK hO hw (ct_X10_refuse (MR.sm (SM.tr (SM.rf S) (sf_X10_start hx_2)) hR) (SM.ci (SM.tr (SM.rf S) (sf_X10_start hx_2)) hI) hx_5 _ (wk.hA hw hA)) (cwV 2 hts (gB_V w_ml_X10_39 w_im_X10_refuse w_se_X10_refuse w_in_X10 w_co_X10_refuse) rfl rfl rfl (by decide +kernel) ⟨Nat.le_of_ble_eq_true rfl, Nat.le_of_ble_eq_true rfl⟩) (hR.1 30 (by decide) (by decide)) mke_30 rfl rfl hl.1 rfl (Nat.le_of_ble_eq_true rfl) dX10_ofSession_46 ⟨(Nat.le_of_ble_eq_true rfl), (Nat.le_of_ble_eq_true rfl)⟩) (fun H locs hw => ?_)
        refine lv_if_eq (tgt := 56) hx hb dX10_ofSession_49 (by decide) (fun c_6 => ?_) (fun c_6 => ?_)
        · have hE := (if_pos c_6).symm.trans hE
          refine lv_aload_n hx hb dX10_ofSession_56 rfl (lv_at hl 0 rfl) ?_
          refine lv_iload_n hx hb dX10_ofSession_57 rfl (lv_at hl 1 rfl) ?_
          refine lv_iload_n hx hb dX10_ofSession_58 rfl (lv_at hl 2 rfl) ?_
          obtain ⟨x_7, hx_7, hE⟩ := ob1 hE
          refine k_ci hw (k_rV (f := 30) (o := 0) (As := [.int p1, .int p2]) (rest := []) ⟨hx, hb, hml, hown, hts⟩ hK hO hw (ct_X10_ofSessionNow (MR.sm (SM.tr (SM.tr (SM.rf S) (sf_X10_start hx_2)) (sf_X10_refuse hx_5)) hR) (SM.ci (SM.tr (SM.tr (SM.rf S) (sf_X10_start hx_2)) (sf_X10_refuse hx_5)) hI) (TL.le hT (by decide)) hx_7 _ (wk.hA hw hA)) (cwV 2 hts (gB_V w_ml_X10_238 w_im_X10_ofSessionNow w_se_X10_ofSessionNow w_in_X10 w_co_X10_ofSessionNow) rfl rfl rfl (by decide +kernel) ⟨Nat.le_of_ble_eq_true rfl, Nat.le_of_ble_eq_true rfl⟩) (hR.1 30 (by decide) (by decide)) mke_30 rfl rfl hl.1 rfl (Nat.le_of_ble_eq_true rfl) dX10_ofSession_59 ⟨(Nat.le_of_ble_eq_true rfl), (Nat.le_of_ble_eq_true rfl)⟩) (fun H locs hw => ?_)
          exact m_iretE hx hb hr hlocks rfl hw hE (Nat.le_of_ble_eq_true rfl) (Nat.le_of_ble_eq_true rfl) dX10_ofSession_62
        · have hE := (if_neg c_6).symm.trans hE
          refine lv_iconst (v := 0) hx hb dX10_ofSession_52 (by decide) ?_
          refine lv_goto (tgt := 62) hx hb dX10_ofSession_53 (by decide) ?_
          exact m_iretE hx hb hr hlocks rfl hw hE (Nat.le_of_ble_eq_true rfl) (Nat.le_of_ble_eq_true rfl) dX10_ofSession_62
      refine lv_if_ne (tgt := 44) hx hb dX10_ofSession_37 (by decide) (fun c_4 => ?_) (fun c_4 => ?_)
      · refine lv_iconst (v := 0) hx hb dX10_ofSession_44 (by decide) ?_
        exact hjc_4 _ (if_neg c_4).symm
      · refine lv_iconst (v := 1) hx hb dX10_ofSession_40 (by decide) ?_
        refine lv_goto (tgt := 45) hx hb dX10_ofSession_41 (by decide) ?_
        exact hjc_4 _ (if_pos c_4).symm
  refine lv_if_ne (tgt := 22) hx hb dX10_ofSession_15 (by decide) (fun c_1 => ?_) (fun c_1 => ?_)
  · refine lv_iconst (v := 0) hx hb dX10_ofSession_22 (by decide) ?_
    exact hjc_1 _ (if_neg c_1).symm
  · refine lv_iconst (v := 1) hx hb dX10_ofSession_18 (by decide) ?_
    refine lv_goto (tgt := 23) hx hb dX10_ofSession_19 (by decide) ?_
    exact hjc_1 _ (if_pos c_1).symm

abbrev bw_X10_ofItemNow : List Cond := .code yX10_ofItemNow cX10_ofItemNow 7 (some .int) :: BIG
abbrev rm_X10_ofItemNow : Room := { frames := 6, cells := 1, slots := 4, locals := 129 }
noncomputable def lp_X10_ofItemNow_128 (S : (Nat → Nat → Nat → Int32)) (p1 : Int32) (p2 : Int32) (k : Nat) (i : Nat) (v3 : Int32) : Nat → Nat → Int32 → Option (Int32)
  | 0, ib, v3b => some (v3b)
  | kb + 1, ib, v3b => if S 7 0 ib = 1 then (if S 10 0 ib = p1 then ((sp_X10_isReady S i (nI ib)).bind fun x_8 => (lp_X10_ofItemNow_128 S p1 p2 k i v3 kb (ib + 1) (v3b + (if x_8 = 0 then 0 else 1)))) else (lp_X10_ofItemNow_128 S p1 p2 k i v3 kb (ib + 1) (v3b + 0))) else (lp_X10_ofItemNow_128 S p1 p2 k i v3 kb (ib + 1) (v3b + 0))
theorem lz_lp_X10_ofItemNow_128 (S : (Nat → Nat → Nat → Int32)) (p1 : Int32) (p2 : Int32) (k : Nat) (i : Nat) (v3 : Int32) (ib : Nat) (v3b : Int32) : lp_X10_ofItemNow_128 S p1 p2 k i v3 0 ib v3b = some (v3b) := rfl
theorem ls_lp_X10_ofItemNow_128 (S : (Nat → Nat → Nat → Int32)) (p1 : Int32) (p2 : Int32) (k : Nat) (i : Nat) (v3 : Int32) (kb ib : Nat) (v3b : Int32) : lp_X10_ofItemNow_128 S p1 p2 k i v3 (kb + 1) ib v3b = if S 7 0 ib = 1 then (if S 10 0 ib = p1 then ((sp_X10_isReady S i (nI ib)).bind fun x_8 => (lp_X10_ofItemNow_128 S p1 p2 k i v3 kb (ib + 1) (v3b + (if x_8 = 0 then 0 else 1)))) else (lp_X10_ofItemNow_128 S p1 p2 k i v3 kb (ib + 1) (v3b + 0))) else (lp_X10_ofItemNow_128 S p1 p2 k i v3 kb (ib + 1) (v3b + 0)) := rfl
noncomputable def lp_X10_ofItemNow_103 (S : (Nat → Nat → Nat → Int32)) (p1 : Int32) (p2 : Int32) : Nat → Nat → Int32 → Option (Int32)
  | 0, i, v3 => some (v3)
  | k + 1, i, v3 => (lp_X10_ofItemNow_128 S p1 p2 k i v3 ((S 1 0 0).toNatClampNeg) 0 v3).bind (fun w_5 => (lp_X10_ofItemNow_103 S p1 p2 k (i + 1) w_5))
theorem lz_lp_X10_ofItemNow_103 (S : (Nat → Nat → Nat → Int32)) (p1 : Int32) (p2 : Int32) (i : Nat) (v3 : Int32) : lp_X10_ofItemNow_103 S p1 p2 0 i v3 = some (v3) := rfl
theorem ls_lp_X10_ofItemNow_103 (S : (Nat → Nat → Nat → Int32)) (p1 : Int32) (p2 : Int32) (k i : Nat) (v3 : Int32) : lp_X10_ofItemNow_103 S p1 p2 (k + 1) i v3 = (lp_X10_ofItemNow_128 S p1 p2 k i v3 ((S 1 0 0).toNatClampNeg) 0 v3).bind (fun w_5 => (lp_X10_ofItemNow_103 S p1 p2 k (i + 1) w_5)) := rfl
noncomputable def lp_X10_ofItemNow_38 (S : (Nat → Nat → Nat → Int32)) (p1 : Int32) (p2 : Int32) : Nat → Nat → Int32 → Option (Int32)
  | 0, i, v3 => some (v3)
  | k + 1, i, v3 => if S 14 0 i = p1 then (if S 41 0 i = 0 then (lp_X10_ofItemNow_38 S p1 p2 k (i + 1) (v3 + (S 15 0 i))) else (lp_X10_ofItemNow_38 S p1 p2 k (i + 1) (v3 + 0))) else (lp_X10_ofItemNow_38 S p1 p2 k (i + 1) (v3 + 0))
theorem lz_lp_X10_ofItemNow_38 (S : (Nat → Nat → Nat → Int32)) (p1 : Int32) (p2 : Int32) (i : Nat) (v3 : Int32) : lp_X10_ofItemNow_38 S p1 p2 0 i v3 = some (v3) := rfl
theorem ls_lp_X10_ofItemNow_38 (S : (Nat → Nat → Nat → Int32)) (p1 : Int32) (p2 : Int32) (k i : Nat) (v3 : Int32) : lp_X10_ofItemNow_38 S p1 p2 (k + 1) i v3 = if S 14 0 i = p1 then (if S 41 0 i = 0 then (lp_X10_ofItemNow_38 S p1 p2 k (i + 1) (v3 + (S 15 0 i))) else (lp_X10_ofItemNow_38 S p1 p2 k (i + 1) (v3 + 0))) else (lp_X10_ofItemNow_38 S p1 p2 k (i + 1) (v3 + 0)) := rfl
noncomputable def sp_X10_ofItemNow (S : (Nat → Nat → Nat → Int32)) (p1 : Int32) (p2 : Int32) : Option (Int32) := if p2 = 0 then (if p1 < 0 ∨ 4 ≤ p1.toNatClampNeg then none else (some (S 13 0 p1.toNatClampNeg))) else (if p2 = 2 then ((sp_X10_comes S p1).bind fun x_13 => (some (x_13))) else (if p2 = 1 then ((lp_X10_ofItemNow_38 S p1 p2 ((S 2 0 0).toNatClampNeg) 0 0).bind (fun w_10 => (some (w_10)))) else ((lp_X10_ofItemNow_103 S p1 p2 ((S 0 0 0).toNatClampNeg) 0 0).bind (fun w_4 => (some (w_4))))))
set_option maxHeartbeats 1000000 in
set_option maxRecDepth 100000 in
theorem ct_X10_ofItemNow {l : Launch} {D : va_G} {cI cG cJ cO : ClassId} {K0 : Nat → Nat} {A : Nat → Prop} {L : List (Nat × Nat)} {ad : Nat → Nat → Nat} {ce : Nat → Nat → va_E} {cp : Nat → Nat} {S : (Nat → Nat → Nat → Int32)} (hR : MR S L cp) (hI : CI S) (hT : TL 63 L) {p1 : Int32} {p2 : Int32} {v : Int32} (hE : sp_X10_ofItemNow S p1 p2 = some v) (sz : Nat) (hA : ∀ q, sz ≤ q → A q) : Met l yX10_ofItemNow bw_X10_ofItemNow (rm_X10_ofItemNow) (kP D (ktys cI cG cJ cO) K0 A L ad (mK cI cO K0 ad cp ce S) sz [.ref (ad 30 0), .int p1, .int p2]) (kQi D A v L ad (mK cI cO K0 ad cp ce S)) 1 4 A := by
  refine Met.ofW (cc := cX10_ofItemNow) (maxL := 7) (ret := (some .int)) (by decide) rfl ?_
  intro p e s m args below meth c s₁ B hml hv_
  obtain ⟨hav, hsz, hP, hD, hK, hO⟩ := hv_
  have hx := B.exec
  have hb := B.bytes
  have hr := B.returns
  have hts : ∀ w ∈ BIG, w.before args s = true := fun w h => atoms_spec (ws := bw_X10_ofItemNow) B.pre w (List.mem_cons_of_mem _ h)
  have hown : s.vm.findClass RX10 = some m.cls := findClass_of_methodNamed B.named
  have hlocks := B.notSynchronized
  subst hsz
  have hw := wk.start hP hD
  refine k_start (by rfl) hav (Nat.le_of_ble_eq_true rfl) (fun ls hl => ?_)
  have hl : lv_has ls 7 [(0, .ref (ad 30 0)), (1, .int p1), (2, .int p2)] := hl
  unfold sp_X10_ofItemNow at hE
  refine lv_iload_n hx hb dX10_ofItemNow_0 rfl (lv_at hl 2 rfl) ?_
  refine lv_if_ne (tgt := 11) hx hb dX10_ofItemNow_1 (by decide) (fun c_1 => ?_) (fun c_1 => ?_)
  · have hE := (if_neg c_1).symm.trans hE
    refine lv_iload_n hx hb dX10_ofItemNow_11 rfl (lv_at hl 2 rfl) ?_
    refine lv_iconst (v := 2) hx hb dX10_ofItemNow_12 (by decide) ?_
    refine lv_icmp_ne (tgt := 22) hx hb dX10_ofItemNow_13 (by decide) (fun c_2 => ?_) (fun c_2 => ?_)
    · have hE := (if_neg c_2).symm.trans hE
      refine lv_iconst (v := 0) hx hb dX10_ofItemNow_22 (by decide) ?_
      refine lv_istore_n (lv' := [(3, .int 0), (0, .ref (ad 30 0)), (1, .int p1), (2, .int p2)]) hx hb dX10_ofItemNow_23 rfl hl (by decide) rfl (fun ls hl => ?_)
      refine lv_iload_n hx hb dX10_ofItemNow_24 rfl (lv_at hl 3 rfl) ?_
      refine lv_iconst (v := 1) hx hb dX10_ofItemNow_25 (by decide) ?_
      refine lv_icmp_ne (tgt := 94) hx hb dX10_ofItemNow_26 (by decide) (fun c_3 => ?_) (fun c_3 => ?_)
      · have hE := (if_neg c_3).symm.trans hE
        refine lv_aload_n hx hb dX10_ofItemNow_94 rfl (lv_at hl 1 rfl) ?_
        refine k_get (C := RX10) (T := TX10) (N := 9) (v := .ref (ad 35 0)) hx hb hts inB_X10 hown hK hw (hR.1 30 (by decide) (by decide)) mke_30 rfl 7 (by decide) (hts _ w_f_X10_32) (fun _ h9 => h9) rfl dX10_ofItemNow_95 ?_
        refine k_crn hw (k_rV (f := 35) (o := 0) (As := []) (rest := []) ⟨hx, hb, hml, hown, hts⟩ hK hO hw (ct_iter_4 (SM.rf S) hR (it := 63) (Or.inr (by decide)) (TL.new hT (by decide) (by decide)) _ (wk.hA hw hA)) (cwV 0 hts (gB_V w_ml_X10_146 w_im_Jx4a65c_iterator_32c93 w_se_Jx4a65c_iterator_32c93 w_in_Jx4a65c w_co_Jx4a65c_iterator_32c93) rfl rfl rfl (by decide +kernel) ⟨Nat.le_of_ble_eq_true rfl, Nat.le_of_ble_eq_true rfl⟩) (hR.1 35 (by decide) (by decide)) (ce_l4 (SM.rf S)) rfl rfl hl.1 rfl (Nat.le_of_ble_eq_true rfl) dX10_ofItemNow_98 ⟨(Nat.le_of_ble_eq_true rfl), (Nat.le_of_ble_eq_true rfl)⟩) (fun q H locs hw => ?_)
        have hw := hw.tmp (Or.inr (by decide))
        have hRp := hR.push (i := (63, 0))
        refine lv_astore (lv' := [(4, .ref q), (3, .int 0), (0, .ref (ad 30 0)), (1, .int p1), (2, .int p2)]) hx hb dX10_ofItemNow_101 hl (by decide) rfl (fun ls hl => ?_)
        obtain ⟨w_4, hL_103, hE⟩ := ob1 hE
        have key_103 : ∀ (k i : Nat) (v3 : Int32) (H : Heap) (locs : List Loc) (ls : Array Slot), i + k = (S 0 0 0).toNatClampNeg → lp_X10_ofItemNow_103 S p1 p2 k i v3 = some (w_4) → wk D A (L ++ [(63, 0)]) (upa ad 63 0 q) (mK cI cO K0 (upa ad 63 0 q) cp (up2 ce 63 0 (itc i (S 42 4 0) (ad 35 0))) S) s.heap H locs → lv_has ls 7 [(0, .ref (ad 30 0)), (1, .int p1), (3, .int v3), (4, .ref q)] → W p l e (headSpec bw_X10_ofItemNow (rm_X10_ofItemNow)).room s m args below meth c H locs (0 + 1) (0 + 4) (MQ below (kQi D A v L ad (mK cI cO K0 ad cp ce S)) args s 1 4 A) (F0 m 103 ls []) := by
          intro k
          induction k with
          | zero =>
            intro i v3 H locs ls hk hV hw hl
            have hV := (lz_lp_X10_ofItemNow_103 S p1 p2 i v3).symm.trans hV
            obtain rfl := (Option.some.inj hV).symm
            refine lv_aload hx hb dX10_ofItemNow_103 (lv_at hl 3 rfl) ?_
            refine k_cFi hw (k_rF (f := 63) (o := 0) (As := []) (rest := []) ⟨hx, hb, hml, hown, hts⟩ hK hO hw (ct_hn_4 (SM.rf S) hRp (it := 63) (i := i) (Or.inr (by decide)) (List.mem_append_right _ (List.mem_singleton_self _)) _ (wk.hA hw hA)) (va_cwF 0 hts (gB_F w_ml_X10_150 w_se_it_hasNext w_im_Jx35411_hasNext_aae02 w_in_Jx35411 w_co_Jx35411_hasNext_aae02) rfl rfl rfl hO.2.2.2.1.1 (by decide +kernel) ⟨by decide, by decide⟩) (List.mem_append_right _ (List.mem_singleton_self _)) ((mK_ou (Or.inr (by decide))).trans up2_eq) rfl rfl hl.1 rfl (Nat.le_of_ble_eq_true rfl) dX10_ofItemNow_105 ⟨(Nat.le_of_ble_eq_true rfl), (Nat.le_of_ble_eq_true rfl)⟩) (fun H locs hw => ?_)
            rw [if_pos (it_z (cn_eq hI.2.2.2.2.1) hk)]
            refine lv_if_eq (tgt := 206) hx hb dX10_ofItemNow_110 (by decide) (fun _ => ?_) (fun h => absurd (by decide) h)
            have hw := hw.untmp (Or.inr (by decide)) (TL.new hT (by decide) (by decide))
            refine lv_iload_n hx hb dX10_ofItemNow_206 rfl (lv_at hl 2 rfl) ?_
            exact m_iret hx hb hr hlocks rfl hw hE (Nat.le_of_ble_eq_true rfl) (Nat.le_of_ble_eq_true rfl) dX10_ofItemNow_207
          | succ k ih =>
            intro i v3 H locs ls hk hV hw hl
            have hV := (ls_lp_X10_ofItemNow_103 S p1 p2 k i v3).symm.trans hV
            have hE := hV
            refine lv_aload hx hb dX10_ofItemNow_103 (lv_at hl 3 rfl) ?_
            refine k_cFi hw (k_rF (f := 63) (o := 0) (As := []) (rest := []) ⟨hx, hb, hml, hown, hts⟩ hK hO hw (ct_hn_4 (SM.rf S) hRp (it := 63) (i := i) (Or.inr (by decide)) (List.mem_append_right _ (List.mem_singleton_self _)) _ (wk.hA hw hA)) (va_cwF 0 hts (gB_F w_ml_X10_150 w_se_it_hasNext w_im_Jx35411_hasNext_aae02 w_in_Jx35411 w_co_Jx35411_hasNext_aae02) rfl rfl rfl hO.2.2.2.1.1 (by decide +kernel) ⟨by decide, by decide⟩) (List.mem_append_right _ (List.mem_singleton_self _)) ((mK_ou (Or.inr (by decide))).trans up2_eq) rfl rfl hl.1 rfl (Nat.le_of_ble_eq_true rfl) dX10_ofItemNow_105 ⟨(Nat.le_of_ble_eq_true rfl), (Nat.le_of_ble_eq_true rfl)⟩) (fun H locs hw => ?_)
            rw [if_neg (it_s (cn_eq hI.2.2.2.2.1) hk (cn_lt _))]
            refine lv_if_eq (tgt := 206) hx hb dX10_ofItemNow_110 (by decide) (fun h => absurd h (by decide)) (fun _ => ?_)
            refine lv_aload hx hb dX10_ofItemNow_113 (lv_at hl 3 rfl) ?_
            refine k_cFr (v := (ad 46 i)) hw (k_rF (f := 63) (o := 0) (As := []) (rest := []) ⟨hx, hb, hml, hown, hts⟩ hK hO hw (ct_nx_4 (SM.rf S) hRp hI (it := 63) (i := i) (Or.inr (by decide)) (List.mem_append_right _ (List.mem_singleton_self _)) (lp_l hk) _ (wk.hA hw hA)) (va_cwF 0 hts (gB_F w_ml_X10_156 w_se_it_next w_im_Jx35411_next_0502b w_in_Jx35411 w_co_Jx35411_next_0502b) rfl rfl rfl hO.2.2.2.1.2.1 (by decide +kernel) ⟨by decide, by decide⟩) (List.mem_append_right _ (List.mem_singleton_self _)) ((mK_ou (Or.inr (by decide))).trans up2_eq) rfl rfl hl.1 rfl (Nat.le_of_ble_eq_true rfl) dX10_ofItemNow_115 ⟨(Nat.le_of_ble_eq_true rfl), (Nat.le_of_ble_eq_true rfl)⟩) (fun H locs hw => ?_)
            refine k_cast (f := 46) (o := i) hx hb hown (hts _ w_cl_X10_64) hK hw (hRp.2.2.2.2.2.2.2 46 _ (by decide) (by decide) (lp_l hk)) mke_46 rfl dX10_ofItemNow_120 ?_
            refine lv_astore (lv' := [(5, .ref (ad 46 i)), (0, .ref (ad 30 0)), (1, .int p1), (3, .int v3), (4, .ref q)]) hx hb dX10_ofItemNow_123 hl (by decide) rfl (fun ls hl => ?_)
            refine lv_iconst (v := 0) hx hb dX10_ofItemNow_125 (by decide) ?_
            refine lv_istore (lv' := [(6, .int 0), (5, .ref (ad 46 i)), (0, .ref (ad 30 0)), (1, .int p1), (3, .int v3), (4, .ref q)]) hx hb dX10_ofItemNow_126 hl (by decide) rfl (fun ls hl => ?_)
            obtain ⟨w_5, hL_128, hE⟩ := ob1 hE
            have key_128 : ∀ (kb ib : Nat) (v3b : Int32) (H : Heap) (locs : List Loc) (ls : Array Slot), ib + kb = (S 1 0 0).toNatClampNeg → lp_X10_ofItemNow_128 S p1 p2 k i v3 kb ib v3b = some (w_5) → wk D A (L ++ [(63, 0)]) (upa ad 63 0 q) (mK cI cO K0 (upa ad 63 0 q) cp (up2 ce 63 0 (itc (i + 1) (S 42 4 0) (ad 35 0))) S) s.heap H locs → lv_has ls 7 [(0, .ref (ad 30 0)), (1, .int p1), (3, .int v3b), (4, .ref q), (5, .ref (ad 46 i)), (6, .int (nI ib))] → W p l e (headSpec bw_X10_ofItemNow (rm_X10_ofItemNow)).room s m args below meth c H locs (0 + 1) (0 + 4) (MQ below (kQi D A v L ad (mK cI cO K0 ad cp ce S)) args s 1 4 A) (F0 m 128 ls []) := by
              intro kb
              induction kb with
              | zero =>
                intro ib v3b H locs ls hkb hVb hw hl
                have hVb := (lz_lp_X10_ofItemNow_128 S p1 p2 k i v3 ib v3b).symm.trans hVb
                obtain rfl := (Option.some.inj hVb).symm
                refine lv_iload hx hb dX10_ofItemNow_128 (lv_at hl 5 rfl) ?_
                refine lv_aload_n hx hb dX10_ofItemNow_130 rfl (lv_at hl 0 rfl) ?_
                refine k_get (C := RX10) (T := TX10) (N := 9) (v := .ref (ad 31 0)) hx hb hts inB_X10 hown hK hw (hRp.1 30 (by decide) (by decide)) mke_30 rfl 1 (by decide) (hts _ w_f_X10_10) (fun _ h9 => h9) rfl dX10_ofItemNow_131 ?_
                refine k_ci0 hw (k_rV (f := 31) (o := 0) (As := []) (rest := [.int (nI ib)]) ⟨hx, hb, hml, hown, hts⟩ hK hO hw (ct_size_0 (SM.rf S) hRp _ (wk.hA hw hA)) (cwV 0 hts (gB_V w_ml_X10_43 w_im_Jx4a65c_size_8abf5 w_se_Jx4a65c_size_8abf5 w_in_Jx4a65c w_co_Jx4a65c_size_8abf5) rfl rfl rfl (by decide +kernel) ⟨Nat.le_of_ble_eq_true rfl, Nat.le_of_ble_eq_true rfl⟩) (hRp.1 31 (by decide) (by decide)) (ce_l0 (SM.rf S)) rfl rfl hl.1 rfl (Nat.le_of_ble_eq_true rfl) dX10_ofItemNow_134 ⟨(Nat.le_of_ble_eq_true rfl), (Nat.le_of_ble_eq_true rfl)⟩) (fun H locs hw => ?_)
                refine lv_icmp_ge (tgt := 203) hx hb dX10_ofItemNow_137 (by decide) (fun _ => ?_) (fun h => absurd (lp_o (cn_eq hI.1.1) hkb (cn_lt _)) h)
                refine lv_goto (tgt := 103) hx hb dX10_ofItemNow_203 (by decide) ?_
                exact ih (i + 1) w_5 _ _ _ (lp_s hk) hE hw (lv_sub hl [0, 1, 2, 3] rfl)
              | succ kb ihb =>
                intro ib v3b H locs ls hkb hVb hw hl
                have hVb := (ls_lp_X10_ofItemNow_128 S p1 p2 k i v3 kb ib v3b).symm.trans hVb
                have hE := hVb
                refine lv_iload hx hb dX10_ofItemNow_128 (lv_at hl 5 rfl) ?_
                refine lv_aload_n hx hb dX10_ofItemNow_130 rfl (lv_at hl 0 rfl) ?_
                refine k_get (C := RX10) (T := TX10) (N := 9) (v := .ref (ad 31 0)) hx hb hts inB_X10 hown hK hw (hRp.1 30 (by decide) (by decide)) mke_30 rfl 1 (by decide) (hts _ w_f_X10_10) (fun _ h9 => h9) rfl dX10_ofItemNow_131 ?_
                refine k_ci0 hw (k_rV (f := 31) (o := 0) (As := []) (rest := [.int (nI ib)]) ⟨hx, hb, hml, hown, hts⟩ hK hO hw (ct_size_0 (SM.rf S) hRp _ (wk.hA hw hA)) (cwV 0 hts (gB_V w_ml_X10_43 w_im_Jx4a65c_size_8abf5 w_se_Jx4a65c_size_8abf5 w_in_Jx4a65c w_co_Jx4a65c_size_8abf5) rfl rfl rfl (by decide +kernel) ⟨Nat.le_of_ble_eq_true rfl, Nat.le_of_ble_eq_true rfl⟩) (hRp.1 31 (by decide) (by decide)) (ce_l0 (SM.rf S)) rfl rfl hl.1 rfl (Nat.le_of_ble_eq_true rfl) dX10_ofItemNow_134 ⟨(Nat.le_of_ble_eq_true rfl), (Nat.le_of_ble_eq_true rfl)⟩) (fun H locs hw => ?_)
                refine lv_icmp_ge (tgt := 203) hx hb dX10_ofItemNow_137 (by decide) (fun h => absurd h (lp_i (cn_eq hI.1.1) hkb (cn_lt _))) (fun _ => ?_)
                refine lv_iload_n hx hb dX10_ofItemNow_140 rfl (lv_at hl 2 rfl) ?_
                refine lv_aload_n hx hb dX10_ofItemNow_141 rfl (lv_at hl 0 rfl) ?_
                refine k_get (C := RX10) (T := TX10) (N := 9) (v := .ref (ad 31 0)) hx hb hts inB_X10 hown hK hw (hRp.1 30 (by decide) (by decide)) mke_30 rfl 1 (by decide) (hts _ w_f_X10_10) (fun _ h9 => h9) rfl dX10_ofItemNow_142 ?_
                refine lv_iload hx hb dX10_ofItemNow_145 (lv_at hl 5 rfl) ?_
                refine k_cr0 (v := (ad 43 ib)) hw (k_rV (f := 31) (o := 0) (As := [.int (nI ib)]) (rest := [.int v3b]) ⟨hx, hb, hml, hown, hts⟩ hK hO hw (ct_get_0 (SM.rf S) hRp (i := ib) (nI_nlt (a := ib) (b := 0) (Nat.zero_le _) (Nat.lt_trans (show ib < (S 1 0 0).toNatClampNeg from (lp_l hkb)) (cn_lt _))) (nI_clamp (Nat.lt_trans (show ib < (S 1 0 0).toNatClampNeg from (lp_l hkb)) (cn_lt _))) (show ib < (S 1 0 0).toNatClampNeg from (lp_l hkb)) _ (wk.hA hw hA)) (cwV 1 hts (gB_V w_ml_X10_51 w_im_Jx4a65c_get_915e3 w_se_Jx4a65c_get_915e3 w_in_Jx4a65c w_co_Jx4a65c_get_915e3) rfl rfl rfl (by decide +kernel) ⟨Nat.le_of_ble_eq_true rfl, Nat.le_of_ble_eq_true rfl⟩) (hRp.1 31 (by decide) (by decide)) (ce_l0 (SM.rf S)) rfl rfl hl.1 rfl (Nat.le_of_ble_eq_true rfl) dX10_ofItemNow_147 ⟨(Nat.le_of_ble_eq_true rfl), (Nat.le_of_ble_eq_true rfl)⟩) (fun H locs hw => ?_)
                refine k_cast (f := 43) (o := ib) hx hb hown (hts _ w_cl_X10_55) hK hw (hRp.2.2.2.1 _ (show ib < (S 1 0 0).toNatClampNeg from (lp_l hkb))) mke_43 rfl dX10_ofItemNow_150 ?_
                refine k_get (C := RX9) (T := TX9) (N := 4) (v := .int (S 7 0 ib)) hx hb hts inB_X9 hown hK hw (hRp.2.2.2.1 _ (show ib < (S 1 0 0).toNatClampNeg from (lp_l hkb))) mke_43 rfl 0 (by decide) (hts _ w_f_X10_60) (fun _ h9 => h9) rfl dX10_ofItemNow_153 ?_
                refine lv_iconst (v := 1) hx hb dX10_ofItemNow_156 (by decide) ?_
                refine lv_icmp_ne (tgt := 194) hx hb dX10_ofItemNow_157 (by decide) (fun c_6 => ?_) (fun c_6 => ?_)
                · have hE := (if_neg c_6).symm.trans hE
                  refine lv_iconst (v := 0) hx hb dX10_ofItemNow_194 (by decide) ?_
                  refine lv_iadd hx hb dX10_ofItemNow_195 ?_
                  refine lv_istore_n (lv' := [(3, .int (v3b + 0)), (0, .ref (ad 30 0)), (1, .int p1), (4, .ref q), (5, .ref (ad 46 i)), (6, .int (nI ib))]) hx hb dX10_ofItemNow_196 rfl hl (by decide) rfl (fun ls hl => ?_)
                  refine lv_iinc (v := (nI (ib + 1))) (lv' := [(6, .int (nI (ib + 1))), (3, .int (v3b + 0)), (0, .ref (ad 30 0)), (1, .int p1), (4, .ref q), (5, .ref (ad 46 i))]) hx hb dX10_ofItemNow_197 hl (k := 5) rfl (nI_1 _) (by decide) rfl (fun ls hl => ?_)
                  refine lv_goto (tgt := 128) hx hb dX10_ofItemNow_200 (by decide) ?_
                  exact ihb (ib + 1) (v3b + 0) _ _ _ (lp_s hkb) hE hw (lv_sub hl [2, 3, 1, 4, 5, 0] rfl)
                · have hE := (if_pos c_6).symm.trans hE
                  refine lv_aload_n hx hb dX10_ofItemNow_160 rfl (lv_at hl 0 rfl) ?_
                  refine k_get (C := RX10) (T := TX10) (N := 9) (v := .ref (ad 31 0)) hx hb hts inB_X10 hown hK hw (hRp.1 30 (by decide) (by decide)) mke_30 rfl 1 (by decide) (hts _ w_f_X10_10) (fun _ h9 => h9) rfl dX10_ofItemNow_161 ?_
                  refine lv_iload hx hb dX10_ofItemNow_164 (lv_at hl 5 rfl) ?_
                  refine k_cr0 (v := (ad 43 ib)) hw (k_rV (f := 31) (o := 0) (As := [.int (nI ib)]) (rest := [.int v3b]) ⟨hx, hb, hml, hown, hts⟩ hK hO hw (ct_get_0 (SM.rf S) hRp (i := ib) (nI_nlt (a := ib) (b := 0) (Nat.zero_le _) (Nat.lt_trans (show ib < (S 1 0 0).toNatClampNeg from (lp_l hkb)) (cn_lt _))) (nI_clamp (Nat.lt_trans (show ib < (S 1 0 0).toNatClampNeg from (lp_l hkb)) (cn_lt _))) (show ib < (S 1 0 0).toNatClampNeg from (lp_l hkb)) _ (wk.hA hw hA)) (cwV 1 hts (gB_V w_ml_X10_51 w_im_Jx4a65c_get_915e3 w_se_Jx4a65c_get_915e3 w_in_Jx4a65c w_co_Jx4a65c_get_915e3) rfl rfl rfl (by decide +kernel) ⟨Nat.le_of_ble_eq_true rfl, Nat.le_of_ble_eq_true rfl⟩) (hRp.1 31 (by decide) (by decide)) (ce_l0 (SM.rf S)) rfl rfl hl.1 rfl (Nat.le_of_ble_eq_true rfl) dX10_ofItemNow_166 ⟨(Nat.le_of_ble_eq_true rfl), (Nat.le_of_ble_eq_true rfl)⟩) (fun H locs hw => ?_)
                  refine k_cast (f := 43) (o := ib) hx hb hown (hts _ w_cl_X10_55) hK hw (hRp.2.2.2.1 _ (show ib < (S 1 0 0).toNatClampNeg from (lp_l hkb))) mke_43 rfl dX10_ofItemNow_169 ?_
                  refine k_get (C := RX9) (T := TX9) (N := 4) (v := .int (S 10 0 ib)) hx hb hts inB_X9 hown hK hw (hRp.2.2.2.1 _ (show ib < (S 1 0 0).toNatClampNeg from (lp_l hkb))) mke_43 rfl 3 (by decide) (hts _ w_f_X10_57) (fun _ h9 => h9) rfl dX10_ofItemNow_172 ?_
                  refine lv_iload_n hx hb dX10_ofItemNow_175 rfl (lv_at hl 1 rfl) ?_
                  refine lv_icmp_ne (tgt := 194) hx hb dX10_ofItemNow_176 (by decide) (fun c_7 => ?_) (fun c_7 => ?_)
                  · have hE := (if_neg c_7).symm.trans hE
                    refine lv_iconst (v := 0) hx hb dX10_ofItemNow_194 (by decide) ?_
                    refine lv_iadd hx hb dX10_ofItemNow_195 ?_
                    refine lv_istore_n (lv' := [(3, .int (v3b + 0)), (0, .ref (ad 30 0)), (1, .int p1), (4, .ref q), (5, .ref (ad 46 i)), (6, .int (nI ib))]) hx hb dX10_ofItemNow_196 rfl hl (by decide) rfl (fun ls hl => ?_)
                    refine lv_iinc (v := (nI (ib + 1))) (lv' := [(6, .int (nI (ib + 1))), (3, .int (v3b + 0)), (0, .ref (ad 30 0)), (1, .int p1), (4, .ref q), (5, .ref (ad 46 i))]) hx hb dX10_ofItemNow_197 hl (k := 5) rfl (nI_1 _) (by decide) rfl (fun ls hl => ?_)
                    refine lv_goto (tgt := 128) hx hb dX10_ofItemNow_200 (by decide) ?_
                    exact ihb (ib + 1) (v3b + 0) _ _ _ (lp_s hkb) hE hw (lv_sub hl [2, 3, 1, 4, 5, 0] rfl)
                  · have hE := (if_pos c_7).symm.trans hE
                    refine lv_aload_n hx hb dX10_ofItemNow_179 rfl (lv_at hl 0 rfl) ?_
                    refine lv_aload hx hb dX10_ofItemNow_180 (lv_at hl 4 rfl) ?_
                    refine lv_iload hx hb dX10_ofItemNow_182 (lv_at hl 5 rfl) ?_
                    obtain ⟨x_8, hx_8, hE⟩ := ob1 hE
                    refine k_ci0 hw (k_rV (f := 30) (o := 0) (As := [.ref (ad 46 i), .int (nI ib)]) (rest := [.int v3b]) ⟨hx, hb, hml, hown, hts⟩ hK hO hw (ct_X10_isReady (MR.sm (SM.rf S) hRp) (SM.ci (SM.rf S) hI) (by rw [SM.c4 (SM.rf S)]; exact (lp_l hk)) hx_8 _ (wk.hA hw hA)) (cwV 2 hts (gB_V w_ml_X10_176 w_im_X10_isReady w_se_X10_isReady w_in_X10 w_co_X10_isReady) rfl rfl rfl (by decide +kernel) ⟨Nat.le_of_ble_eq_true rfl, Nat.le_of_ble_eq_true rfl⟩) (hRp.1 30 (by decide) (by decide)) mke_30 rfl rfl hl.1 rfl (Nat.le_of_ble_eq_true rfl) dX10_ofItemNow_184 ⟨(Nat.le_of_ble_eq_true rfl), (Nat.le_of_ble_eq_true rfl)⟩) (fun H locs hw => ?_)
                    have hjc_9 : ∀ bc_9 : Int32, bc_9 = (if x_8 = 0 then 0 else 1) → W p l e (headSpec bw_X10_ofItemNow (rm_X10_ofItemNow)).room s m args below meth c H locs (0 + 1) (0 + 4) (MQ below (kQi D A v L ad (mK cI cO K0 ad cp ce S)) args s 1 4 A) (F0 m 195 ls [.int bc_9, .int v3b]) := by
                      intro bc_9 hbc_9
                      subst hbc_9
                      refine lv_iadd hx hb dX10_ofItemNow_195 ?_
                      refine lv_istore_n (lv' := [(3, .int (v3b + (if x_8 = 0 then 0 else 1))), (0, .ref (ad 30 0)), (1, .int p1), (4, .ref q), (5, .ref (ad 46 i)), (6, .int (nI ib))]) hx hb dX10_ofItemNow_196 rfl hl (by decide) rfl (fun ls hl => ?_)
                      refine lv_iinc (v := (nI (ib + 1))) (lv' := [(6, .int (nI (ib + 1))), (3, .int (v3b + (if x_8 = 0 then 0 else 1))), (0, .ref (ad 30 0)), (1, .int p1), (4, .ref q), (5, .ref (ad 46 i))]) hx hb dX10_ofItemNow_197 hl (k := 5) rfl (nI_1 _) (by decide) rfl (fun ls hl => ?_)
                      refine lv_goto (tgt := 128) hx hb dX10_ofItemNow_200 (by decide) ?_
                      exact ihb (ib + 1) (v3b + (if x_8 = 0 then 0 else 1)) _ _ _ (lp_s hkb) hE hw (lv_sub hl [2, 3, 1, 4, 5, 0] rfl)
                    refine lv_if_eq (tgt := 194) hx hb dX10_ofItemNow_187 (by decide) (fun c_9 => ?_) (fun c_9 => ?_)
                    · refine lv_iconst (v := 0) hx hb dX10_ofItemNow_194 (by decide) ?_
                      exact hjc_9 _ (if_pos c_9).symm
                    · refine lv_iconst (v := 1) hx hb dX10_ofItemNow_190 (by decide) ?_
                      refine lv_goto (tgt := 195) hx hb dX10_ofItemNow_191 (by decide) ?_
                      exact hjc_9 _ (if_neg c_9).symm
            exact key_128 ((S 1 0 0).toNatClampNeg) 0 v3 _ _ _ (Nat.zero_add _) hL_128 hw (lv_sub hl [2, 3, 4, 5, 1, 0] rfl)
        exact key_103 ((S 0 0 0).toNatClampNeg) 0 0 _ _ _ (Nat.zero_add _) hL_103 hw (lv_sub hl [2, 3, 1, 0] rfl)
      · have hE := (if_pos c_3).symm.trans hE
        refine lv_aload_n hx hb dX10_ofItemNow_29 rfl (lv_at hl 1 rfl) ?_
        refine k_get (C := RX10) (T := TX10) (N := 9) (v := .ref (ad 33 0)) hx hb hts inB_X10 hown hK hw (hR.1 30 (by decide) (by decide)) mke_30 rfl 5 (by decide) (hts _ w_f_X10_26) (fun _ h9 => h9) rfl dX10_ofItemNow_30 ?_
        refine k_crn hw (k_rV (f := 33) (o := 0) (As := []) (rest := []) ⟨hx, hb, hml, hown, hts⟩ hK hO hw (ct_iter_2 (SM.rf S) hR (it := 63) (Or.inr (by decide)) (TL.new hT (by decide) (by decide)) _ (wk.hA hw hA)) (cwV 0 hts (gB_V w_ml_X10_146 w_im_Jx4a65c_iterator_32c93 w_se_Jx4a65c_iterator_32c93 w_in_Jx4a65c w_co_Jx4a65c_iterator_32c93) rfl rfl rfl (by decide +kernel) ⟨Nat.le_of_ble_eq_true rfl, Nat.le_of_ble_eq_true rfl⟩) (hR.1 33 (by decide) (by decide)) (ce_l2 (SM.rf S)) rfl rfl hl.1 rfl (Nat.le_of_ble_eq_true rfl) dX10_ofItemNow_33 ⟨(Nat.le_of_ble_eq_true rfl), (Nat.le_of_ble_eq_true rfl)⟩) (fun q H locs hw => ?_)
        have hw := hw.tmp (Or.inr (by decide))
        have hRp := hR.push (i := (63, 0))
        refine lv_astore (lv' := [(4, .ref q), (3, .int 0), (0, .ref (ad 30 0)), (1, .int p1), (2, .int p2)]) hx hb dX10_ofItemNow_36 hl (by decide) rfl (fun ls hl => ?_)
        obtain ⟨w_10, hL_38, hE⟩ := ob1 hE
        have key_38 : ∀ (k i : Nat) (v3 : Int32) (H : Heap) (locs : List Loc) (ls : Array Slot), i + k = (S 2 0 0).toNatClampNeg → lp_X10_ofItemNow_38 S p1 p2 k i v3 = some (w_10) → wk D A (L ++ [(63, 0)]) (upa ad 63 0 q) (mK cI cO K0 (upa ad 63 0 q) cp (up2 ce 63 0 (itc i (S 42 2 0) (ad 33 0))) S) s.heap H locs → lv_has ls 7 [(1, .int p1), (3, .int v3), (4, .ref q)] → W p l e (headSpec bw_X10_ofItemNow (rm_X10_ofItemNow)).room s m args below meth c H locs (0 + 1) (0 + 4) (MQ below (kQi D A v L ad (mK cI cO K0 ad cp ce S)) args s 1 4 A) (F0 m 38 ls []) := by
          intro k
          induction k with
          | zero =>
            intro i v3 H locs ls hk hV hw hl
            have hV := (lz_lp_X10_ofItemNow_38 S p1 p2 i v3).symm.trans hV
            obtain rfl := (Option.some.inj hV).symm
            refine lv_aload hx hb dX10_ofItemNow_38 (lv_at hl 2 rfl) ?_
            refine k_cFi hw (k_rF (f := 63) (o := 0) (As := []) (rest := []) ⟨hx, hb, hml, hown, hts⟩ hK hO hw (ct_hn_2 (SM.rf S) hRp (it := 63) (i := i) (Or.inr (by decide)) (List.mem_append_right _ (List.mem_singleton_self _)) _ (wk.hA hw hA)) (va_cwF 0 hts (gB_F w_ml_X10_150 w_se_it_hasNext w_im_Jx35411_hasNext_aae02 w_in_Jx35411 w_co_Jx35411_hasNext_aae02) rfl rfl rfl hO.2.2.2.1.1 (by decide +kernel) ⟨by decide, by decide⟩) (List.mem_append_right _ (List.mem_singleton_self _)) ((mK_ou (Or.inr (by decide))).trans up2_eq) rfl rfl hl.1 rfl (Nat.le_of_ble_eq_true rfl) dX10_ofItemNow_40 ⟨(Nat.le_of_ble_eq_true rfl), (Nat.le_of_ble_eq_true rfl)⟩) (fun H locs hw => ?_)
            rw [if_pos (it_z (cn_eq hI.2.2.1.1) hk)]
            refine lv_if_eq (tgt := 92) hx hb dX10_ofItemNow_45 (by decide) (fun _ => ?_) (fun h => absurd (by decide) h)
            have hw := hw.untmp (Or.inr (by decide)) (TL.new hT (by decide) (by decide))
            refine lv_iload_n hx hb dX10_ofItemNow_92 rfl (lv_at hl 1 rfl) ?_
            exact m_iret hx hb hr hlocks rfl hw hE (Nat.le_of_ble_eq_true rfl) (Nat.le_of_ble_eq_true rfl) dX10_ofItemNow_93
          | succ k ih =>
            intro i v3 H locs ls hk hV hw hl
            have hV := (ls_lp_X10_ofItemNow_38 S p1 p2 k i v3).symm.trans hV
            have hE := hV
            refine lv_aload hx hb dX10_ofItemNow_38 (lv_at hl 2 rfl) ?_
            refine k_cFi hw (k_rF (f := 63) (o := 0) (As := []) (rest := []) ⟨hx, hb, hml, hown, hts⟩ hK hO hw (ct_hn_2 (SM.rf S) hRp (it := 63) (i := i) (Or.inr (by decide)) (List.mem_append_right _ (List.mem_singleton_self _)) _ (wk.hA hw hA)) (va_cwF 0 hts (gB_F w_ml_X10_150 w_se_it_hasNext w_im_Jx35411_hasNext_aae02 w_in_Jx35411 w_co_Jx35411_hasNext_aae02) rfl rfl rfl hO.2.2.2.1.1 (by decide +kernel) ⟨by decide, by decide⟩) (List.mem_append_right _ (List.mem_singleton_self _)) ((mK_ou (Or.inr (by decide))).trans up2_eq) rfl rfl hl.1 rfl (Nat.le_of_ble_eq_true rfl) dX10_ofItemNow_40 ⟨(Nat.le_of_ble_eq_true rfl), (Nat.le_of_ble_eq_true rfl)⟩) (fun H locs hw => ?_)
            rw [if_neg (it_s (cn_eq hI.2.2.1.1) hk (cn_lt _))]
            refine lv_if_eq (tgt := 92) hx hb dX10_ofItemNow_45 (by decide) (fun h => absurd h (by decide)) (fun _ => ?_)
            refine lv_aload hx hb dX10_ofItemNow_48 (lv_at hl 2 rfl) ?_
            refine k_cFr (v := (ad 44 i)) hw (k_rF (f := 63) (o := 0) (As := []) (rest := []) ⟨hx, hb, hml, hown, hts⟩ hK hO hw (ct_nx_2 (SM.rf S) hRp hI (it := 63) (i := i) (Or.inr (by decide)) (List.mem_append_right _ (List.mem_singleton_self _)) (lp_l hk) _ (wk.hA hw hA)) (va_cwF 0 hts (gB_F w_ml_X10_156 w_se_it_next w_im_Jx35411_next_0502b w_in_Jx35411 w_co_Jx35411_next_0502b) rfl rfl rfl hO.2.2.2.1.2.1 (by decide +kernel) ⟨by decide, by decide⟩) (List.mem_append_right _ (List.mem_singleton_self _)) ((mK_ou (Or.inr (by decide))).trans up2_eq) rfl rfl hl.1 rfl (Nat.le_of_ble_eq_true rfl) dX10_ofItemNow_50 ⟨(Nat.le_of_ble_eq_true rfl), (Nat.le_of_ble_eq_true rfl)⟩) (fun H locs hw => ?_)
            refine k_cast (f := 44) (o := i) hx hb hown (hts _ w_cl_X10_88) hK hw (hRp.2.2.2.2.2.1 _ (lp_l hk)) mke_44 rfl dX10_ofItemNow_55 ?_
            refine lv_astore (lv' := [(5, .ref (ad 44 i)), (1, .int p1), (3, .int v3), (4, .ref q)]) hx hb dX10_ofItemNow_58 hl (by decide) rfl (fun ls hl => ?_)
            refine lv_iload_n hx hb dX10_ofItemNow_60 rfl (lv_at hl 2 rfl) ?_
            refine lv_aload hx hb dX10_ofItemNow_61 (lv_at hl 0 rfl) ?_
            refine k_get (C := RX7) (T := TX7) (N := 4) (v := .int (S 14 0 i)) hx hb hts inB_X7 hown hK hw (hRp.2.2.2.2.2.1 _ (lp_l hk)) mke_44 rfl 0 (by decide) (hts _ w_f_X10_90) (fun _ h9 => h9) rfl dX10_ofItemNow_63 ?_
            refine lv_iload_n hx hb dX10_ofItemNow_66 rfl (lv_at hl 1 rfl) ?_
            refine lv_icmp_ne (tgt := 86) hx hb dX10_ofItemNow_67 (by decide) (fun c_11 => ?_) (fun c_11 => ?_)
            · have hE := (if_neg c_11).symm.trans hE
              refine lv_iconst (v := 0) hx hb dX10_ofItemNow_86 (by decide) ?_
              refine lv_iadd hx hb dX10_ofItemNow_87 ?_
              refine lv_istore_n (lv' := [(3, .int (v3 + 0)), (5, .ref (ad 44 i)), (1, .int p1), (4, .ref q)]) hx hb dX10_ofItemNow_88 rfl hl (by decide) rfl (fun ls hl => ?_)
              refine lv_goto (tgt := 38) hx hb dX10_ofItemNow_89 (by decide) ?_
              exact ih (i + 1) (v3 + 0) _ _ _ (lp_s hk) hE hw (lv_sub hl [2, 0, 3] rfl)
            · have hE := (if_pos c_11).symm.trans hE
              refine lv_aload hx hb dX10_ofItemNow_70 (lv_at hl 0 rfl) ?_
              refine k_get (C := RX7) (T := TX7) (N := 4) (v := .int (S 41 0 i)) hx hb hts inB_X7 hown hK hw (hRp.2.2.2.2.2.1 _ (lp_l hk)) mke_44 rfl 3 (by decide) (hts _ w_f_X10_93) (fun _ h9 => h9) rfl dX10_ofItemNow_72 ?_
              refine lv_if_ne (tgt := 86) hx hb dX10_ofItemNow_75 (by decide) (fun c_12 => ?_) (fun c_12 => ?_)
              · have hE := (if_neg c_12).symm.trans hE
                refine lv_iconst (v := 0) hx hb dX10_ofItemNow_86 (by decide) ?_
                refine lv_iadd hx hb dX10_ofItemNow_87 ?_
                refine lv_istore_n (lv' := [(3, .int (v3 + 0)), (5, .ref (ad 44 i)), (1, .int p1), (4, .ref q)]) hx hb dX10_ofItemNow_88 rfl hl (by decide) rfl (fun ls hl => ?_)
                refine lv_goto (tgt := 38) hx hb dX10_ofItemNow_89 (by decide) ?_
                exact ih (i + 1) (v3 + 0) _ _ _ (lp_s hk) hE hw (lv_sub hl [2, 0, 3] rfl)
              · have hE := (if_pos c_12).symm.trans hE
                refine lv_aload hx hb dX10_ofItemNow_78 (lv_at hl 0 rfl) ?_
                refine k_get (C := RX7) (T := TX7) (N := 4) (v := .int (S 15 0 i)) hx hb hts inB_X7 hown hK hw (hRp.2.2.2.2.2.1 _ (lp_l hk)) mke_44 rfl 1 (by decide) (hts _ w_f_X10_188) (fun _ h9 => h9) rfl dX10_ofItemNow_80 ?_
                refine lv_goto (tgt := 87) hx hb dX10_ofItemNow_83 (by decide) ?_
                refine lv_iadd hx hb dX10_ofItemNow_87 ?_
                refine lv_istore_n (lv' := [(3, .int (v3 + (S 15 0 i))), (5, .ref (ad 44 i)), (1, .int p1), (4, .ref q)]) hx hb dX10_ofItemNow_88 rfl hl (by decide) rfl (fun ls hl => ?_)
                refine lv_goto (tgt := 38) hx hb dX10_ofItemNow_89 (by decide) ?_
                exact ih (i + 1) (v3 + (S 15 0 i)) _ _ _ (lp_s hk) hE hw (lv_sub hl [2, 0, 3] rfl)
        exact key_38 ((S 2 0 0).toNatClampNeg) 0 0 _ _ _ (Nat.zero_add _) hL_38 hw (lv_sub hl [3, 1, 0] rfl)
    · have hE := (if_pos c_2).symm.trans hE
      refine lv_aload_n hx hb dX10_ofItemNow_16 rfl (lv_at hl 0 rfl) ?_
      refine lv_iload_n hx hb dX10_ofItemNow_17 rfl (lv_at hl 1 rfl) ?_
      obtain ⟨x_13, hx_13, hE⟩ := ob1 hE
      refine k_ci0 hw (k_rV (f := 30) (o := 0) (As := [.int p1]) (rest := []) ⟨hx, hb, hml, hown, hts⟩ hK hO hw (ct_X10_comes (MR.sm (SM.rf S) hR) (SM.ci (SM.rf S) hI) hx_13 _ (wk.hA hw hA)) (cwV 1 hts (gB_V w_ml_X10_132 w_im_X10_comes w_se_X10_comes w_in_X10 w_co_X10_comes) rfl rfl rfl (by decide +kernel) ⟨Nat.le_of_ble_eq_true rfl, Nat.le_of_ble_eq_true rfl⟩) (hR.1 30 (by decide) (by decide)) mke_30 rfl rfl hl.1 rfl (Nat.le_of_ble_eq_true rfl) dX10_ofItemNow_18 ⟨(Nat.le_of_ble_eq_true rfl), (Nat.le_of_ble_eq_true rfl)⟩) (fun H locs hw => ?_)
      exact m_iret hx hb hr hlocks rfl hw hE (Nat.le_of_ble_eq_true rfl) (Nat.le_of_ble_eq_true rfl) dX10_ofItemNow_21
  · have hE := (if_pos c_1).symm.trans hE
    refine lv_aload_n hx hb dX10_ofItemNow_4 rfl (lv_at hl 0 rfl) ?_
    refine k_get (C := RX10) (T := TX10) (N := 9) (v := .ref (ad 37 0)) hx hb hts inB_X10 hown hK hw (hR.1 30 (by decide) (by decide)) mke_30 rfl 4 (by decide) (hts _ w_f_X10_23) (fun _ h9 => h9) rfl dX10_ofItemNow_5 ?_
    refine lv_iload_n hx hb dX10_ofItemNow_8 rfl (lv_at hl 1 rfl) ?_
    by_cases c_14 : p1 < 0 ∨ 4 ≤ p1.toNatClampNeg
    · exact nomatch (if_pos c_14).symm.trans hE
    have hE := (if_neg c_14).symm.trans hE
    refine k_aldi hx hb hK hw (hR.1 37 (by decide) (by decide)) 0 mke_37 rfl (fun z => c_14 (Or.inl z)) rfl (Nat.not_le.mp fun z => c_14 (Or.inr z)) (v := S 13 0 p1.toNatClampNeg) rfl dX10_ofItemNow_9 ?_
    exact m_iret hx hb hr hlocks rfl hw hE (Nat.le_of_ble_eq_true rfl) (Nat.le_of_ble_eq_true rfl) dX10_ofItemNow_10

abbrev bw_X10_ofItem : List Cond := .code yX10_ofItem cX10_ofItem 3 (some .int) :: BIG
abbrev rm_X10_ofItem : Room := { frames := 7, cells := 1, slots := 4, locals := 155 }
noncomputable def sp_X10_ofItem (S : (Nat → Nat → Nat → Int32)) (p1 : Int32) (p2 : Int32) : Option (Int32 × (Nat → Nat → Nat → Int32)) := (sp_X10_start S (sp_X10_isNoItem p1) 1).bind fun x_1 => (if x_1.1 = 0 then ((sp_X10_refuse x_1.2 (if (sp_X10_isFrom p2 0 3) = 0 then 1 else 0) 2).bind fun x_4 => (if x_4.1 = 0 then ((sp_X10_ofItemNow x_4.2 p1 p2).bind fun x_6 => (some ((x_6, x_4.2)))) else (some ((0, x_4.2))))) else (some ((0, x_1.2))))
theorem sf_X10_ofItem {S : (Nat → Nat → Nat → Int32)} {p1 : Int32} {p2 : Int32} {v : Int32 × (Nat → Nat → Nat → Int32)} (h : sp_X10_ofItem S p1 p2 = some v) : SM S v.2 := by
  unfold sp_X10_ofItem at h
  obtain ⟨x_1, hx_1, h⟩ := ob1 h
  by_cases q_7 : x_1.1 = 0
  · have h := (if_pos q_7).symm.trans h
    obtain ⟨x_4, hx_4, h⟩ := ob1 h
    by_cases q_8 : x_4.1 = 0
    · have h := (if_pos q_8).symm.trans h
      obtain ⟨x_6, hx_6, h⟩ := ob1 h
      have hz : SM S x_4.2 := (SM.tr (SM.tr (SM.rf S) (sf_X10_start hx_1)) (sf_X10_refuse hx_4)); cases h; exact hz
    · have h := (if_neg q_8).symm.trans h
      have hz : SM S x_4.2 := (SM.tr (SM.tr (SM.rf S) (sf_X10_start hx_1)) (sf_X10_refuse hx_4)); cases h; exact hz
  · have h := (if_neg q_7).symm.trans h
    have hz : SM S x_1.2 := (SM.tr (SM.rf S) (sf_X10_start hx_1)); cases h; exact hz

set_option maxHeartbeats 1000000 in
set_option maxRecDepth 100000 in
theorem ct_X10_ofItem {l : Launch} {D : va_G} {cI cG cJ cO : ClassId} {K0 : Nat → Nat} {A : Nat → Prop} {L : List (Nat × Nat)} {ad : Nat → Nat → Nat} {ce : Nat → Nat → va_E} {cp : Nat → Nat} {S : (Nat → Nat → Nat → Int32)} (hR : MR S L cp) (hI : CI S) (hT : TL 63 L) {p1 : Int32} {p2 : Int32} {v : Int32 × (Nat → Nat → Nat → Int32)} (hE : sp_X10_ofItem S p1 p2 = some v) (sz : Nat) (hA : ∀ q, sz ≤ q → A q) : Met l yX10_ofItem bw_X10_ofItem (rm_X10_ofItem) (kP D (ktys cI cG cJ cO) K0 A L ad (mK cI cO K0 ad cp ce S) sz [.ref (ad 30 0), .int p1, .int p2]) (kQi D A v.1 L ad (mK cI cO K0 ad cp ce v.2)) 1 4 A := by
  refine Met.ofW (cc := cX10_ofItem) (maxL := 3) (ret := (some .int)) (by decide) rfl ?_
  intro p e s m args below meth c s₁ B hml hv_
  obtain ⟨hav, hsz, hP, hD, hK, hO⟩ := hv_
  have hx := B.exec
  have hb := B.bytes
  have hr := B.returns
  have hts : ∀ w ∈ BIG, w.before args s = true := fun w h => atoms_spec (ws := bw_X10_ofItem) B.pre w (List.mem_cons_of_mem _ h)
  have hown : s.vm.findClass RX10 = some m.cls := findClass_of_methodNamed B.named
  have hlocks := B.notSynchronized
  subst hsz
  have hw := wk.start hP hD
  refine k_start (by rfl) hav (Nat.le_of_ble_eq_true rfl) (fun ls hl => ?_)
  have hl : lv_has ls 3 [(0, .ref (ad 30 0)), (1, .int p1), (2, .int p2)] := hl
  unfold sp_X10_ofItem at hE
  refine lv_aload_n hx hb dX10_ofItem_0 rfl (lv_at hl 0 rfl) ?_
  refine lv_iload_n hx hb dX10_ofItem_1 rfl (lv_at hl 1 rfl) ?_
  refine k_ci0 hw (k_rS (As := [.int p1]) (rest := [.ref (ad 30 0)]) ⟨hx, hb, hml, hown, hts⟩ hK hO hw (ct_X10_isNoItem p1 _ (wk.hA hw hA)) (va_cwS 1 hts (gB_S w_ml_X10_225 w_st_X10_isNoItem w_in_X10 w_co_X10_isNoItem) rfl rfl rfl (by decide +kernel) ⟨Nat.le_of_ble_eq_true rfl, Nat.le_of_ble_eq_true rfl⟩) rfl hl.1 rfl (Nat.le_of_ble_eq_true rfl) dX10_ofItem_2 ⟨(Nat.le_of_ble_eq_true rfl), (Nat.le_of_ble_eq_true rfl)⟩) (fun H locs hw => ?_)
  refine lv_iconst (v := 1) hx hb dX10_ofItem_5 (by decide) ?_
  obtain ⟨x_1, hx_1, hE⟩ := ob1 hE
  refine k_ci0 hw (k_rV (f := 30) (o := 0) (As := [.int (sp_X10_isNoItem p1), .int 1]) (rest := []) ⟨hx, hb, hml, hown, hts⟩ hK hO hw (ct_X10_start (MR.sm (SM.rf S) hR) (SM.ci (SM.rf S) hI) hx_1 _ (wk.hA hw hA)) (cwV 2 hts (gB_V w_ml_X10_186 w_im_X10_start w_se_X10_start w_in_X10 w_co_X10_start) rfl rfl rfl (by decide +kernel) ⟨Nat.le_of_ble_eq_true rfl, Nat.le_of_ble_eq_true rfl⟩) (hR.1 30 (by decide) (by decide)) mke_30 rfl rfl hl.1 rfl (Nat.le_of_ble_eq_true rfl) dX10_ofItem_6 ⟨(Nat.le_of_ble_eq_true rfl), (Nat.le_of_ble_eq_true rfl)⟩) (fun H locs hw => ?_)
  refine lv_if_ne (tgt := 34) hx hb dX10_ofItem_9 (by decide) (fun c_2 => ?_) (fun c_2 => ?_)
  · have hE := (if_neg c_2).symm.trans hE
    refine lv_iconst (v := 0) hx hb dX10_ofItem_34 (by decide) ?_
    refine lv_goto (tgt := 44) hx hb dX10_ofItem_35 (by decide) ?_
    exact m_iretE hx hb hr hlocks rfl hw hE (Nat.le_of_ble_eq_true rfl) (Nat.le_of_ble_eq_true rfl) dX10_ofItem_44
  · have hE := (if_pos c_2).symm.trans hE
    refine lv_aload_n hx hb dX10_ofItem_12 rfl (lv_at hl 0 rfl) ?_
    refine lv_iload_n hx hb dX10_ofItem_13 rfl (lv_at hl 2 rfl) ?_
    refine lv_iconst (v := 0) hx hb dX10_ofItem_14 (by decide) ?_
    refine lv_iconst (v := 3) hx hb dX10_ofItem_15 (by decide) ?_
    refine k_ci0 hw (k_rS (As := [.int p2, .int 0, .int 3]) (rest := [.ref (ad 30 0)]) ⟨hx, hb, hml, hown, hts⟩ hK hO hw (ct_X10_isFrom p2 0 3 _ (wk.hA hw hA)) (va_cwS 3 hts (gB_S w_ml_X10_47 w_st_X10_isFrom w_in_X10 w_co_X10_isFrom) rfl rfl rfl (by decide +kernel) ⟨Nat.le_of_ble_eq_true rfl, Nat.le_of_ble_eq_true rfl⟩) rfl hl.1 rfl (Nat.le_of_ble_eq_true rfl) dX10_ofItem_16 ⟨(Nat.le_of_ble_eq_true rfl), (Nat.le_of_ble_eq_true rfl)⟩) (fun H locs hw => ?_)
    have hjc_3 : ∀ bc_3 : Int32, bc_3 = (if (sp_X10_isFrom p2 0 3) = 0 then 1 else 0) → W p l e (headSpec bw_X10_ofItem (rm_X10_ofItem)).room s m args below meth c H locs 0 0 (MQ below (kQi D A v.1 L ad (mK cI cO K0 ad cp ce v.2)) args s 1 4 A) (F0 m 27 ls [.int bc_3, .ref (ad 30 0)]) := by
      intro bc_3 hbc_3
      subst hbc_3
      refine lv_iconst (v := 2) hx hb dX10_ofItem_27 (by decide) ?_
      obtain ⟨x_4, hx_4, hE⟩ := ob1 hE
      refine k_ci0 hw (k_rV (f := 30) (o := 0) (As := [.int (if (sp_X10_isFrom p2 0 3) = 0 then 1 else 0), .int 2]) (rest := []) ⟨hx, hb, hml, hown, hts⟩ hK hO hw (ct_X10_refuse (MR.sm (SM.tr (SM.rf S) (sf_X10_start hx_1)) hR) (SM.ci (SM.tr (SM.rf S) (sf_X10_start hx_1)) hI) hx_4 _ (wk.hA hw hA)) (cwV 2 hts (gB_V w_ml_X10_39 w_im_X10_refuse w_se_X10_refuse w_in_X10 w_co_X10_refuse) rfl rfl rfl (by decide +kernel) ⟨Nat.le_of_ble_eq_true rfl, Nat.le_of_ble_eq_true rfl⟩) (hR.1 30 (by decide) (by decide)) mke_30 rfl rfl hl.1 rfl (Nat.le_of_ble_eq_true rfl) dX10_ofItem_28 ⟨(Nat.le_of_ble_eq_true rfl), (Nat.le_of_ble_eq_true rfl)⟩) (fun H locs hw => ?_)
      refine lv_if_eq (tgt := 38) hx hb dX10_ofItem_31 (by decide) (fun c_5 => ?_) (fun c_5 => ?_)
      · have hE := (if_pos c_5).symm.trans hE
        refine lv_aload_n hx hb dX10_ofItem_38 rfl (lv_at hl 0 rfl) ?_
        refine lv_iload_n hx hb dX10_ofItem_39 rfl (lv_at hl 1 rfl) ?_
        refine lv_iload_n hx hb dX10_ofItem_40 rfl (lv_at hl 2 rfl) ?_
        obtain ⟨x_6, hx_6, hE⟩ := ob1 hE
        refine k_ci hw (k_rV (f := 30) (o := 0) (As := [.int p1, .int p2]) (rest := []) ⟨hx, hb, hml, hown, hts⟩ hK hO hw (ct_X10_ofItemNow (MR.sm (SM.tr (SM.tr (SM.rf S) (sf_X10_start hx_1)) (sf_X10_refuse hx_4)) hR) (SM.ci (SM.tr (SM.tr (SM.rf S) (sf_X10_start hx_1)) (sf_X10_refuse hx_4)) hI) (TL.le hT (by decide)) hx_6 _ (wk.hA hw hA)) (cwV 2 hts (gB_V w_ml_X10_241 w_im_X10_ofItemNow w_se_X10_ofItemNow w_in_X10 w_co_X10_ofItemNow) rfl rfl rfl (by decide +kernel) ⟨Nat.le_of_ble_eq_true rfl, Nat.le_of_ble_eq_true rfl⟩) (hR.1 30 (by decide) (by decide)) mke_30 rfl rfl hl.1 rfl (Nat.le_of_ble_eq_true rfl) dX10_ofItem_41 ⟨(Nat.le_of_ble_eq_true rfl), (Nat.le_of_ble_eq_true rfl)⟩) (fun H locs hw => ?_)
        exact m_iretE hx hb hr hlocks rfl hw hE (Nat.le_of_ble_eq_true rfl) (Nat.le_of_ble_eq_true rfl) dX10_ofItem_44
      · have hE := (if_neg c_5).symm.trans hE
        refine lv_iconst (v := 0) hx hb dX10_ofItem_34 (by decide) ?_
        refine lv_goto (tgt := 44) hx hb dX10_ofItem_35 (by decide) ?_
        exact m_iretE hx hb hr hlocks rfl hw hE (Nat.le_of_ble_eq_true rfl) (Nat.le_of_ble_eq_true rfl) dX10_ofItem_44
    refine lv_if_ne (tgt := 26) hx hb dX10_ofItem_19 (by decide) (fun c_3 => ?_) (fun c_3 => ?_)
    · refine lv_iconst (v := 0) hx hb dX10_ofItem_26 (by decide) ?_
      exact hjc_3 _ (if_neg c_3).symm
    · refine lv_iconst (v := 1) hx hb dX10_ofItem_22 (by decide) ?_
      refine lv_goto (tgt := 27) hx hb dX10_ofItem_23 (by decide) ?_
      exact hjc_3 _ (if_pos c_3).symm
