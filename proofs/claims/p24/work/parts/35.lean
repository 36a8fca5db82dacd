abbrev bw_X5_rightOn : List Cond := .code yX5_rightOn cX5_rightOn 4 (some .int) :: BIG
abbrev rm_X5_rightOn : Room := { frames := 7, cells := 2, slots := 12, locals := 116 }
noncomputable def rw_X5_rightOn (S : (Nat → Nat → Nat → Int32)) (p1 : Int32) (p2 : Int32) : Nat × Int32 × (Nat → Nat → Nat → Int32) := if (sp_X5_joinerAt S p1).1 = 0 then (if p2 < 0 then ((1, 0, S)) else (if p2 < S 1 0 1 then ((0, sp_X0_dayBehind (sp_X0_foresee S ((sp_X5_joinerAt S p1).2) (S 0 0 1) (-1) 0) ((sp_X0_foresee S ((sp_X5_joinerAt S p1).2) (S 0 0 1) (-1) 0) 12 0 p2.toNatClampNeg), (sp_X0_foresee S ((sp_X5_joinerAt S p1).2) (S 0 0 1) (-1) 0))) else ((1, 0, S)))) else (((sp_X5_joinerAt S p1).1, 0, S))
/-- sealed: it unfolds by un_ alone -/
noncomputable def sp_X5_rightOn : (Nat → Nat → Nat → Int32) → Int32 → Int32 → (Nat × Int32 × (Nat → Nat → Nat → Int32)) := Classical.choose (⟨rw_X5_rightOn, rfl⟩ : ∃ f, f = rw_X5_rightOn)
theorem un_X5_rightOn (S : (Nat → Nat → Nat → Int32)) (p1 : Int32) (p2 : Int32) : sp_X5_rightOn S p1 p2 = rw_X5_rightOn S p1 p2 := (congrFun (congrFun (congrFun (Classical.choose_spec (⟨rw_X5_rightOn, rfl⟩ : ∃ f, f = rw_X5_rightOn)) S) p1) p2)
set_option maxHeartbeats 1000000 in
set_option maxRecDepth 100000 in
theorem ct_X5_rightOn {l : Launch} {D : va_G} {cI cG cJ cO : ClassId} {K0 : Nat → Nat} {A : Nat → Prop} {L : List (Nat × Nat)} {ad : Nat → Nat → Nat} {ce : Nat → Nat → va_E} (hL : ∀ f o, cid f o = true → (f, o) ∈ L) (S : (Nat → Nat → Nat → Int32)) (hI : CI S) (p1 : Int32) (p2 : Int32) (hst : l.stackTraces = false) (sz : Nat) (hA : ∀ q, sz ≤ q → A q) : vx_Met l yX5_rightOn bw_X5_rightOn rm_X5_rightOn (kP D (ktys cI cG cJ cO) K0 A L ad (cK cI cJ ad ce S) sz [.ref (ad 0 0), .int p1, .int p2]) (va_Qi (fun (r : Int32) (_ : Unit) => r = (sp_X5_rightOn S p1 p2).2.1 ∧ (sp_X5_rightOn S p1 p2).1 = 0) (fun _ t => WE D A L ad (cK cI cJ ad ce ((sp_X5_rightOn S p1 p2).2.2)) t) A) (vx_X (fun (_ : Unit) => True) (fun E _ t => kE E (sp_X5_rightOn S p1 p2).1 ∧ WE D A L ad (cK cI cJ ad ce S) t) A) 2 12 A := by
  refine vx_ofW (cc := cX5_rightOn) (maxL := 4) (ret := (some .int)) (by decide) rfl ?_
  intro p e s m args below meth c s₁ B hml hexn hv
  obtain ⟨hav, hsz, hP, hD, hK, hO⟩ := hv
  have hx := B.exec
  have hb := B.bytes
  have hr := B.returns
  have hts : ∀ w ∈ BIG, w.before args s = true := fun w h => atoms_spec (ws := bw_X5_rightOn) B.pre w (List.mem_cons_of_mem _ h)
  have hown : s.vm.findClass RX5 = some m.cls := findClass_of_methodNamed B.named
  have hlocks := B.notSynchronized
  subst hsz
  have hw := wk.start hP hD
  refine k_start (by rfl) hav (Nat.le_of_ble_eq_true rfl) (fun ls hl => ?_)
  have hl : lv_has ls 4 [(0, .ref (ad 0 0)), (1, .int p1), (2, .int p2)] := hl
  have hE : sp_X5_rightOn S p1 p2 = rw_X5_rightOn S p1 p2 := un_X5_rightOn S p1 p2
  refine lv_aload_n hx hb dX5_rightOn_0 rfl (lv_at hl 0 rfl) ?_
  refine lv_iload_n hx hb dX5_rightOn_1 rfl (lv_at hl 1 rfl) ?_
  refine x_cq hw (x_rV (As := [.int p1]) (rest := []) ⟨hx, hb, hml, hown, hts⟩ hK hO hw (ct_X5_joinerAt hL S (SF.ci (SF.rf _) hI) p1 hst _ (wk.hA hw hA)) (cwV 1 hts (gB_V w_ml_X5_179 w_im_X5_joinerAt w_se_X5_joinerAt w_in_X5 w_co_X5_joinerAt) rfl rfl rfl (by decide +kernel) ⟨by decide, by decide⟩) (hL 0 0 rfl) cke_0 rfl rfl hl.1 rfl (Nat.le_of_ble_eq_true rfl) dX5_rightOn_2 ⟨Nat.le_of_ble_eq_true rfl, Nat.le_of_ble_eq_true rfl⟩) (fun E cx q9 H locs hx9 hw hcx hvx hclx => ?_) (fun H locs x_1 hw => ?_)
  · have hE := hE.trans (if_neg hx9.ne)
    exact x_out hexn hlocks hw hcx hvx hclx (by rw [hE]; exact hx9) (Nat.le_of_ble_eq_true rfl) (Nat.le_of_ble_eq_true rfl)
  · have hE := hE.trans (if_pos x_1)
    refine lv_astore_n (lv' := [(3, .ref (ad 6 ((sp_X5_joinerAt S p1).2))), (0, .ref (ad 0 0)), (1, .int p1), (2, .int p2)]) hx hb dX5_rightOn_5 rfl hl (by decide) rfl (fun ls hl => ?_)
    refine lv_iload_n hx hb dX5_rightOn_6 rfl (lv_at hl 3 rfl) ?_
    refine lv_if_lt (tgt := 21) hx hb dX5_rightOn_7 (by decide) (fun c_2 => ?_) (fun c_2 => ?_)
    · have hE := hE.trans (if_pos c_2)
      obtain ⟨sa, hsa⟩ := hO.2.1 (RX5, 271, "no such RIGHT") (by decide +kernel)
      exact k_throwW hx hb hst hown (by decide +kernel) (by decide +kernel) (hts _ w_cl_X5_74) (hts _ w_in_java_lang_IndexOutOfBoundsException) hsa (xh_1 hts hO.2.2.1) xg_1 hO hw hl.1 hml dX5_rightOn_21 dX5_rightOn_24 dX5_rightOn_25 dX5_rightOn_28 dX5_rightOn_31 hexn (Nat.le_of_ble_eq_true rfl) (Nat.le_of_ble_eq_true rfl) (Nat.le_of_ble_eq_true rfl) (Nat.le_of_ble_eq_true rfl) hlocks (by rw [hE]; exact kE_1) (Nat.le_of_ble_eq_true rfl) (Nat.le_of_ble_eq_true rfl)
    · have hE := hE.trans (if_neg c_2)
      refine lv_iload_n hx hb dX5_rightOn_10 rfl (lv_at hl 3 rfl) ?_
      refine lv_aload_n hx hb dX5_rightOn_11 rfl (lv_at hl 1 rfl) ?_
      refine k_get (C := RX5) (T := TX5) (N := 7) (v := .ref (ad 1 0)) hx hb hts inB_X5 hown hK hw (hL 0 0 rfl) cke_0 rfl 0 (by decide) (hts _ w_f_X5_10) (fun _ h9 => h9) rfl dX5_rightOn_12 ?_
      refine k_get (C := RX2) (T := TX2) (N := 8) (v := .int (S 1 0 1)) hx hb hts inB_X2 hown hK hw (hL 1 0 rfl) cke_1 rfl 7 (by decide) (hts _ w_f_X5_249) (fun _ h9 => h9) rfl dX5_rightOn_15 ?_
      refine lv_icmp_lt (tgt := 32) hx hb dX5_rightOn_18 (by decide) (fun c_3 => ?_) (fun c_3 => ?_)
      · have hE := hE.trans (if_pos c_3)
        refine lv_aload_n hx hb dX5_rightOn_32 rfl (lv_at hl 1 rfl) ?_
        refine k_get (C := RX5) (T := TX5) (N := 7) (v := .ref (ad 4 0)) hx hb hts inB_X5 hown hK hw (hL 0 0 rfl) cke_0 rfl 3 (by decide) (hts _ w_f_X5_35) (fun _ h9 => h9) rfl dX5_rightOn_33 ?_
        refine lv_aload_n hx hb dX5_rightOn_36 rfl (lv_at hl 0 rfl) ?_
        refine lv_aload_n hx hb dX5_rightOn_37 rfl (lv_at hl 1 rfl) ?_
        refine k_get (C := RX5) (T := TX5) (N := 7) (v := .int (S 0 0 1)) hx hb hts inB_X5 hown hK hw (hL 0 0 rfl) cke_0 rfl 6 (by decide) (hts _ w_f_X5_160) (fun _ h9 => h9) rfl dX5_rightOn_38 ?_
        refine lv_iconst (v := (-1)) hx hb dX5_rightOn_41 (by decide) ?_
        refine lv_iconst (v := 0) hx hb dX5_rightOn_42 (by decide) ?_
        refine k_cv0 hw (k_rV (As := [.ref (ad 6 ((sp_X5_joinerAt S p1).2)), .int (S 0 0 1), .int (-1), .int 0]) (rest := []) ⟨hx, hb, hml, hown, hts⟩ hK hO hw (ct_X0_foresee hL S (SF.ci (SF.rf _) hI) ((sp_X5_joinerAt S p1).2) (jn_ok x_1) (S 0 0 1) (-1) 0 _ (wk.hA hw hA)) (cwV 4 hts (gB_V w_ml_X5_233 w_im_X0_foresee w_se_X0_foresee w_in_X0 w_co_X0_foresee) rfl rfl rfl (by decide +kernel) ⟨by decide, by decide⟩) (hL 4 0 rfl) cke_4 rfl rfl hl.1 rfl (Nat.le_of_ble_eq_true rfl) dX5_rightOn_43 ⟨Nat.le_of_ble_eq_true rfl, Nat.le_of_ble_eq_true rfl⟩) (fun H locs hw => ?_)
        refine lv_aload_n hx hb dX5_rightOn_46 rfl (lv_at hl 1 rfl) ?_
        refine k_get (C := RX5) (T := TX5) (N := 7) (v := .ref (ad 4 0)) hx hb hts inB_X5 hown hK hw (hL 0 0 rfl) cke_0 rfl 3 (by decide) (hts _ w_f_X5_35) (fun _ h9 => h9) rfl dX5_rightOn_47 ?_
        refine lv_aload_n hx hb dX5_rightOn_50 rfl (lv_at hl 1 rfl) ?_
        refine k_get (C := RX5) (T := TX5) (N := 7) (v := .ref (ad 1 0)) hx hb hts inB_X5 hown hK hw (hL 0 0 rfl) cke_0 rfl 0 (by decide) (hts _ w_f_X5_10) (fun _ h9 => h9) rfl dX5_rightOn_51 ?_
        refine k_get (C := RX2) (T := TX2) (N := 8) (v := .ref (ad 12 0)) hx hb hts inB_X2 hown hK hw (hL 1 0 rfl) cke_1 rfl 5 (by decide) (hts _ w_f_X5_273) (fun _ h9 => h9) rfl dX5_rightOn_54 ?_
        refine lv_iload_n hx hb dX5_rightOn_57 rfl (lv_at hl 3 rfl) ?_
        refine k_ald hx hb hK hw (hL 12 0 rfl) 0 cke_12 rfl (k_in' c_2 c_3 (CI.le2 hI (by decide))) dX5_rightOn_58 ?_
        refine k_ci0 hw (k_rV (As := [.int ((sp_X0_foresee S ((sp_X5_joinerAt S p1).2) (S 0 0 1) (-1) 0) 12 0 p2.toNatClampNeg)]) (rest := []) ⟨hx, hb, hml, hown, hts⟩ hK hO hw (ct_X0_dayBehind hL (sp_X0_foresee S ((sp_X5_joinerAt S p1).2) (S 0 0 1) (-1) 0) (SF.ci (SF.tr (SF.rf _) (sf_X0_foresee S ((sp_X5_joinerAt S p1).2) (S 0 0 1) (-1) 0)) hI) ((sp_X0_foresee S ((sp_X5_joinerAt S p1).2) (S 0 0 1) (-1) 0) 12 0 p2.toNatClampNeg) _ (wk.hA hw hA)) (cwV 1 hts (gB_V w_ml_X5_276 w_im_X0_dayBehind w_se_X0_dayBehind w_in_X0 w_co_X0_dayBehind) rfl rfl rfl (by decide +kernel) ⟨by decide, by decide⟩) (hL 4 0 rfl) cke_4 rfl rfl hl.1 rfl (Nat.le_of_ble_eq_true rfl) dX5_rightOn_59 ⟨Nat.le_of_ble_eq_true rfl, Nat.le_of_ble_eq_true rfl⟩) (fun H locs hw => ?_)
        exact x_iretE hx hb hr hlocks rfl hw hE (Nat.le_of_ble_eq_true rfl) (Nat.le_of_ble_eq_true rfl) dX5_rightOn_62
      · have hE := hE.trans (if_neg c_3)
        obtain ⟨sa, hsa⟩ := hO.2.1 (RX5, 271, "no such RIGHT") (by decide +kernel)
        exact k_throwW hx hb hst hown (by decide +kernel) (by decide +kernel) (hts _ w_cl_X5_74) (hts _ w_in_java_lang_IndexOutOfBoundsException) hsa (xh_1 hts hO.2.2.1) xg_1 hO hw hl.1 hml dX5_rightOn_21 dX5_rightOn_24 dX5_rightOn_25 dX5_rightOn_28 dX5_rightOn_31 hexn (Nat.le_of_ble_eq_true rfl) (Nat.le_of_ble_eq_true rfl) (Nat.le_of_ble_eq_true rfl) (Nat.le_of_ble_eq_true rfl) hlocks (by rw [hE]; exact kE_1) (Nat.le_of_ble_eq_true rfl) (Nat.le_of_ble_eq_true rfl)

abbrev bw_X5_next : List Cond := .code yX5_next cX5_next 2 (some .int) :: BIG
abbrev rm_X5_next : Room := { frames := 7, cells := 2, slots := 12, locals := 112 }
noncomputable def sp_X5_next (S : (Nat → Nat → Nat → Int32)) (p1 : Int32) : Nat × Int32 := if (sp_X5_joinerAt S p1).1 = 0 then ((0, sp_X5_nextStep S ((sp_X5_joinerAt S p1).2))) else (((sp_X5_joinerAt S p1).1, 0))
set_option maxHeartbeats 1000000 in
set_option maxRecDepth 100000 in
theorem ct_X5_next {l : Launch} {D : va_G} {cI cG cJ cO : ClassId} {K0 : Nat → Nat} {A : Nat → Prop} {L : List (Nat × Nat)} {ad : Nat → Nat → Nat} {ce : Nat → Nat → va_E} (hL : ∀ f o, cid f o = true → (f, o) ∈ L) (S : (Nat → Nat → Nat → Int32)) (hI : CI S) (p1 : Int32) (hst : l.stackTraces = false) (sz : Nat) (hA : ∀ q, sz ≤ q → A q) : vx_Met l yX5_next bw_X5_next rm_X5_next (kP D (ktys cI cG cJ cO) K0 A L ad (cK cI cJ ad ce S) sz [.ref (ad 0 0), .int p1]) (va_Qi (fun (r : Int32) (_ : Unit) => r = (sp_X5_next S p1).2 ∧ (sp_X5_next S p1).1 = 0) (fun _ t => WE D A L ad (cK cI cJ ad ce S) t) A) (vx_X (fun (_ : Unit) => True) (fun E _ t => kE E (sp_X5_next S p1).1 ∧ WE D A L ad (cK cI cJ ad ce S) t) A) 2 12 A := by
  refine vx_ofW (cc := cX5_next) (maxL := 2) (ret := (some .int)) (by decide) rfl ?_
  intro p e s m args below meth c s₁ B hml hexn hv
  obtain ⟨hav, hsz, hP, hD, hK, hO⟩ := hv
  have hx := B.exec
  have hb := B.bytes
  have hr := B.returns
  have hts : ∀ w ∈ BIG, w.before args s = true := fun w h => atoms_spec (ws := bw_X5_next) B.pre w (List.mem_cons_of_mem _ h)
  have hown : s.vm.findClass RX5 = some m.cls := findClass_of_methodNamed B.named
  have hlocks := B.notSynchronized
  subst hsz
  have hw := wk.start hP hD
  refine k_start (by rfl) hav (Nat.le_of_ble_eq_true rfl) (fun ls hl => ?_)
  have hl : lv_has ls 2 [(0, .ref (ad 0 0)), (1, .int p1)] := hl
  have hE : sp_X5_next S p1 = sp_X5_next S p1 := rfl
  refine lv_aload_n hx hb dX5_next_0 rfl (lv_at hl 0 rfl) ?_
  refine lv_aload_n hx hb dX5_next_1 rfl (lv_at hl 0 rfl) ?_
  refine lv_iload_n hx hb dX5_next_2 rfl (lv_at hl 1 rfl) ?_
  refine x_cq hw (x_rV (As := [.int p1]) (rest := [.ref (ad 0 0)]) ⟨hx, hb, hml, hown, hts⟩ hK hO hw (ct_X5_joinerAt hL S (SF.ci (SF.rf _) hI) p1 hst _ (wk.hA hw hA)) (cwV 1 hts (gB_V w_ml_X5_179 w_im_X5_joinerAt w_se_X5_joinerAt w_in_X5 w_co_X5_joinerAt) rfl rfl rfl (by decide +kernel) ⟨by decide, by decide⟩) (hL 0 0 rfl) cke_0 rfl rfl hl.1 rfl (Nat.le_of_ble_eq_true rfl) dX5_next_3 ⟨Nat.le_of_ble_eq_true rfl, Nat.le_of_ble_eq_true rfl⟩) (fun E cx q9 H locs hx9 hw hcx hvx hclx => ?_) (fun H locs x_1 hw => ?_)
  · have hE := hE.trans (if_neg hx9.ne)
    exact x_out hexn hlocks hw hcx hvx hclx (by rw [hE]; exact hx9) (Nat.le_of_ble_eq_true rfl) (Nat.le_of_ble_eq_true rfl)
  · have hE := hE.trans (if_pos x_1)
    refine k_ci0 hw (k_rV (As := [.ref (ad 6 ((sp_X5_joinerAt S p1).2))]) (rest := []) ⟨hx, hb, hml, hown, hts⟩ hK hO hw (ct_X5_nextStep hL S (SF.ci (SF.rf _) hI) ((sp_X5_joinerAt S p1).2) (jn_ok x_1) _ (wk.hA hw hA)) (cwV 1 hts (gB_V w_ml_X5_279 w_im_X5_nextStep w_se_X5_nextStep w_in_X5 w_co_X5_nextStep) rfl rfl rfl (by decide +kernel) ⟨by decide, by decide⟩) (hL 0 0 rfl) cke_0 rfl rfl hl.1 rfl (Nat.le_of_ble_eq_true rfl) dX5_next_6 ⟨Nat.le_of_ble_eq_true rfl, Nat.le_of_ble_eq_true rfl⟩) (fun H locs hw => ?_)
    exact x_iretP hx hb hr hlocks rfl hw hE (Nat.le_of_ble_eq_true rfl) (Nat.le_of_ble_eq_true rfl) dX5_next_9
