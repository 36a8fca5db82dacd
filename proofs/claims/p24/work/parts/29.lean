abbrev bw_X5_step : List Cond := .code yX5_step cX5_step 6 (some .int) :: BIG
abbrev rm_X5_step : Room := { frames := 6, cells := 2, slots := 12, locals := 90 }
noncomputable def rw_X5_step (S : (Nat → Nat → Nat → Int32)) (p1 : Int32) (p2 : Int32) (p3 : Int32) (p4 : Int32) : Nat × Int32 × (Nat → Nat → Nat → Int32) := if sp_X5_isWithin p1 0 3 = 0 then ((2, 0, S)) else (if sp_X5_isWithin p2 1 9 = 0 then ((2, 0, S)) else (if sp_X2_knows S p3 = 0 then ((2, 0, S)) else (if sp_X5_isOfKind p1 p4 = 0 then ((2, 0, S)) else (if (sp_X2_addStep S p1 p2 p3 p4).1 = (-1) then ((3, 0, S)) else ((0, (sp_X2_addStep S p1 p2 p3 p4).1, (sp_X2_addStep S p1 p2 p3 p4).2))))))
/-- sealed: it unfolds by un_ alone -/
noncomputable def sp_X5_step : (Nat → Nat → Nat → Int32) → Int32 → Int32 → Int32 → Int32 → (Nat × Int32 × (Nat → Nat → Nat → Int32)) := Classical.choose (⟨rw_X5_step, rfl⟩ : ∃ f, f = rw_X5_step)
theorem un_X5_step (S : (Nat → Nat → Nat → Int32)) (p1 : Int32) (p2 : Int32) (p3 : Int32) (p4 : Int32) : sp_X5_step S p1 p2 p3 p4 = rw_X5_step S p1 p2 p3 p4 := (congrFun (congrFun (congrFun (congrFun (congrFun (Classical.choose_spec (⟨rw_X5_step, rfl⟩ : ∃ f, f = rw_X5_step)) S) p1) p2) p3) p4)
set_option maxHeartbeats 1000000 in
set_option maxRecDepth 100000 in
theorem ct_X5_step {l : Launch} {D : va_G} {cI cG cJ cO : ClassId} {K0 : Nat → Nat} {A : Nat → Prop} {L : List (Nat × Nat)} {ad : Nat → Nat → Nat} {ce : Nat → Nat → va_E} (hL : ∀ f o, cid f o = true → (f, o) ∈ L) (S : (Nat → Nat → Nat → Int32)) (hI : CI S) (p1 : Int32) (p2 : Int32) (p3 : Int32) (p4 : Int32) (hst : l.stackTraces = false) (sz : Nat) (hA : ∀ q, sz ≤ q → A q) : vx_Met l yX5_step bw_X5_step rm_X5_step (kP D (ktys cI cG cJ cO) K0 A L ad (cK cI cJ ad ce S) sz [.ref (ad 0 0), .int p1, .int p2, .int p3, .int p4]) (va_Qi (fun (r : Int32) (_ : Unit) => r = (sp_X5_step S p1 p2 p3 p4).2.1 ∧ (sp_X5_step S p1 p2 p3 p4).1 = 0) (fun _ t => WE D A L ad (cK cI cJ ad ce ((sp_X5_step S p1 p2 p3 p4).2.2)) t) A) (vx_X (fun (_ : Unit) => True) (fun E _ t => kE E (sp_X5_step S p1 p2 p3 p4).1 ∧ WE D A L ad (cK cI cJ ad ce S) t) A) 2 12 A := by
  refine vx_ofW (cc := cX5_step) (maxL := 6) (ret := (some .int)) (by decide) rfl ?_
  intro p e s m args below meth c s₁ B hml hexn hv
  obtain ⟨hav, hsz, hP, hD, hK, hO⟩ := hv
  have hx := B.exec
  have hb := B.bytes
  have hr := B.returns
  have hts : ∀ w ∈ BIG, w.before args s = true := fun w h => atoms_spec (ws := bw_X5_step) B.pre w (List.mem_cons_of_mem _ h)
  have hown : s.vm.findClass RX5 = some m.cls := findClass_of_methodNamed B.named
  have hlocks := B.notSynchronized
  subst hsz
  have hw := wk.start hP hD
  refine k_start (by rfl) hav (Nat.le_of_ble_eq_true rfl) (fun ls hl => ?_)
  have hl : lv_has ls 6 [(0, .ref (ad 0 0)), (1, .int p1), (2, .int p2), (3, .int p3), (4, .int p4)] := hl
  have hE : sp_X5_step S p1 p2 p3 p4 = rw_X5_step S p1 p2 p3 p4 := un_X5_step S p1 p2 p3 p4
  refine lv_iload_n hx hb dX5_step_0 rfl (lv_at hl 1 rfl) ?_
  refine lv_iconst (v := 0) hx hb dX5_step_1 (by decide) ?_
  refine lv_iconst (v := 3) hx hb dX5_step_2 (by decide) ?_
  refine k_ci0 hw (k_rS (As := [.int p1, .int 0, .int 3]) (rest := []) ⟨hx, hb, hml, hown, hts⟩ hK hO hw (ct_X5_isWithin p1 0 3 _ (wk.hA hw hA)) (va_cwS 3 hts (gB_S w_ml_X5_46 w_st_X5_isWithin w_in_X5 w_co_X5_isWithin) rfl rfl rfl (by decide +kernel) ⟨by decide, by decide⟩) rfl hl.1 rfl (Nat.le_of_ble_eq_true rfl) dX5_step_3 ⟨Nat.le_of_ble_eq_true rfl, Nat.le_of_ble_eq_true rfl⟩) (fun H locs hw => ?_)
  refine lv_if_eq (tgt := 39) hx hb dX5_step_6 (by decide) (fun c_1 => ?_) (fun c_1 => ?_)
  · have hE := hE.trans (if_pos c_1)
    obtain ⟨sa, hsa⟩ := hO.2.1 (RX5, 60, "no STEP can be so") (by decide +kernel)
    exact k_throw hx hb hst hown (by decide +kernel) (by decide +kernel) (hts _ w_cl_X5_58) (hts _ w_in_java_lang_IllegalArgumentException) hsa (xh_2 hts hO.2.2.1) xg_2 hO hw hl.1 hml dX5_step_39 dX5_step_42 dX5_step_43 dX5_step_45 dX5_step_48 hexn (Nat.le_of_ble_eq_true rfl) (Nat.le_of_ble_eq_true rfl) (Nat.le_of_ble_eq_true rfl) (Nat.le_of_ble_eq_true rfl) hlocks (by rw [hE]; exact kE_2) (Nat.le_of_ble_eq_true rfl) (Nat.le_of_ble_eq_true rfl)
  · have hE := hE.trans (if_neg c_1)
    refine lv_iload_n hx hb dX5_step_9 rfl (lv_at hl 2 rfl) ?_
    refine lv_iconst (v := 1) hx hb dX5_step_10 (by decide) ?_
    refine lv_bipush (v := 9) hx hb dX5_step_11 (by decide) ?_
    refine k_ci0 hw (k_rS (As := [.int p2, .int 1, .int 9]) (rest := []) ⟨hx, hb, hml, hown, hts⟩ hK hO hw (ct_X5_isWithin p2 1 9 _ (wk.hA hw hA)) (va_cwS 3 hts (gB_S w_ml_X5_46 w_st_X5_isWithin w_in_X5 w_co_X5_isWithin) rfl rfl rfl (by decide +kernel) ⟨by decide, by decide⟩) rfl hl.1 rfl (Nat.le_of_ble_eq_true rfl) dX5_step_13 ⟨Nat.le_of_ble_eq_true rfl, Nat.le_of_ble_eq_true rfl⟩) (fun H locs hw => ?_)
    refine lv_if_eq (tgt := 39) hx hb dX5_step_16 (by decide) (fun c_2 => ?_) (fun c_2 => ?_)
    · have hE := hE.trans (if_pos c_2)
      obtain ⟨sa, hsa⟩ := hO.2.1 (RX5, 60, "no STEP can be so") (by decide +kernel)
      exact k_throw hx hb hst hown (by decide +kernel) (by decide +kernel) (hts _ w_cl_X5_58) (hts _ w_in_java_lang_IllegalArgumentException) hsa (xh_2 hts hO.2.2.1) xg_2 hO hw hl.1 hml dX5_step_39 dX5_step_42 dX5_step_43 dX5_step_45 dX5_step_48 hexn (Nat.le_of_ble_eq_true rfl) (Nat.le_of_ble_eq_true rfl) (Nat.le_of_ble_eq_true rfl) (Nat.le_of_ble_eq_true rfl) hlocks (by rw [hE]; exact kE_2) (Nat.le_of_ble_eq_true rfl) (Nat.le_of_ble_eq_true rfl)
    · have hE := hE.trans (if_neg c_2)
      refine lv_aload_n hx hb dX5_step_19 rfl (lv_at hl 0 rfl) ?_
      refine k_get (C := RX5) (T := TX5) (N := 7) (v := .ref (ad 1 0)) hx hb hts inB_X5 hown hK hw (hL 0 0 rfl) cke_0 rfl 0 (by decide) (hts _ w_f_X5_10) (fun _ h9 => h9) rfl dX5_step_20 ?_
      refine lv_iload_n hx hb dX5_step_23 rfl (lv_at hl 3 rfl) ?_
      refine k_ci0 hw (k_rV (As := [.int p3]) (rest := []) ⟨hx, hb, hml, hown, hts⟩ hK hO hw (ct_X2_knows hL S (SF.ci (SF.rf _) hI) p3 _ (wk.hA hw hA)) (cwV 1 hts (gB_V w_ml_X5_50 w_im_X2_knows w_se_X2_knows w_in_X2 w_co_X2_knows) rfl rfl rfl (by decide +kernel) ⟨by decide, by decide⟩) (hL 1 0 rfl) cke_1 rfl rfl hl.1 rfl (Nat.le_of_ble_eq_true rfl) dX5_step_24 ⟨Nat.le_of_ble_eq_true rfl, Nat.le_of_ble_eq_true rfl⟩) (fun H locs hw => ?_)
      refine lv_if_eq (tgt := 39) hx hb dX5_step_27 (by decide) (fun c_3 => ?_) (fun c_3 => ?_)
      · have hE := hE.trans (if_pos c_3)
        obtain ⟨sa, hsa⟩ := hO.2.1 (RX5, 60, "no STEP can be so") (by decide +kernel)
        exact k_throw hx hb hst hown (by decide +kernel) (by decide +kernel) (hts _ w_cl_X5_58) (hts _ w_in_java_lang_IllegalArgumentException) hsa (xh_2 hts hO.2.2.1) xg_2 hO hw hl.1 hml dX5_step_39 dX5_step_42 dX5_step_43 dX5_step_45 dX5_step_48 hexn (Nat.le_of_ble_eq_true rfl) (Nat.le_of_ble_eq_true rfl) (Nat.le_of_ble_eq_true rfl) (Nat.le_of_ble_eq_true rfl) hlocks (by rw [hE]; exact kE_2) (Nat.le_of_ble_eq_true rfl) (Nat.le_of_ble_eq_true rfl)
      · have hE := hE.trans (if_neg c_3)
        refine lv_iload_n hx hb dX5_step_30 rfl (lv_at hl 1 rfl) ?_
        refine lv_iload hx hb dX5_step_31 (lv_at hl 4 rfl) ?_
        refine k_ci0 hw (k_rS (As := [.int p1, .int p4]) (rest := []) ⟨hx, hb, hml, hown, hts⟩ hK hO hw (ct_X5_isOfKind p1 p4 _ (wk.hA hw hA)) (va_cwS 2 hts (gB_S w_ml_X5_54 w_st_X5_isOfKind w_in_X5 w_co_X5_isOfKind) rfl rfl rfl (by decide +kernel) ⟨by decide, by decide⟩) rfl hl.1 rfl (Nat.le_of_ble_eq_true rfl) dX5_step_33 ⟨Nat.le_of_ble_eq_true rfl, Nat.le_of_ble_eq_true rfl⟩) (fun H locs hw => ?_)
        refine lv_if_ne (tgt := 49) hx hb dX5_step_36 (by decide) (fun c_4 => ?_) (fun c_4 => ?_)
        · have hE := hE.trans (if_neg c_4)
          refine lv_aload_n hx hb dX5_step_49 rfl (lv_at hl 0 rfl) ?_
          refine k_get (C := RX5) (T := TX5) (N := 7) (v := .ref (ad 1 0)) hx hb hts inB_X5 hown hK hw (hL 0 0 rfl) cke_0 rfl 0 (by decide) (hts _ w_f_X5_10) (fun _ h9 => h9) rfl dX5_step_50 ?_
          refine lv_iload_n hx hb dX5_step_53 rfl (lv_at hl 1 rfl) ?_
          refine lv_iload_n hx hb dX5_step_54 rfl (lv_at hl 2 rfl) ?_
          refine lv_iload_n hx hb dX5_step_55 rfl (lv_at hl 3 rfl) ?_
          refine lv_iload hx hb dX5_step_56 (lv_at hl 4 rfl) ?_
          refine k_ci0 hw (k_rV (As := [.int p1, .int p2, .int p3, .int p4]) (rest := []) ⟨hx, hb, hml, hown, hts⟩ hK hO hw (ct_X2_addStep hL S (SF.ci (SF.rf _) hI) p1 p2 p3 p4 _ (wk.hA hw hA)) (cwV 4 hts (gB_V w_ml_X5_65 w_im_X2_addStep w_se_X2_addStep w_in_X2 w_co_X2_addStep) rfl rfl rfl (by decide +kernel) ⟨by decide, by decide⟩) (hL 1 0 rfl) cke_1 rfl rfl hl.1 rfl (Nat.le_of_ble_eq_true rfl) dX5_step_58 ⟨Nat.le_of_ble_eq_true rfl, Nat.le_of_ble_eq_true rfl⟩) (fun H locs hw => ?_)
          refine lv_istore (lv' := [(5, .int ((sp_X2_addStep S p1 p2 p3 p4).1)), (0, .ref (ad 0 0)), (1, .int p1), (2, .int p2), (3, .int p3), (4, .int p4)]) hx hb dX5_step_61 hl (by decide) rfl (fun ls hl => ?_)
          refine lv_iload hx hb dX5_step_63 (lv_at hl 0 rfl) ?_
          refine lv_iconst (v := (-1)) hx hb dX5_step_65 (by decide) ?_
          refine lv_icmp_ne (tgt := 79) hx hb dX5_step_66 (by decide) (fun c_5 => ?_) (fun c_5 => ?_)
          · have hE := hE.trans (if_neg c_5)
            refine lv_iload hx hb dX5_step_79 (lv_at hl 0 rfl) ?_
            exact x_iretE hx hb hr hlocks rfl hw hE (Nat.le_of_ble_eq_true rfl) (Nat.le_of_ble_eq_true rfl) dX5_step_81
          · have hE := hE.trans (if_pos c_5)
            rw [ns_X2_addStep hI c_5] at hw
            obtain ⟨sa, hsa⟩ := hO.2.1 (RX5, 71, "there are all STEPS that can be") (by decide +kernel)
            exact k_throw hx hb hst hown (by decide +kernel) (by decide +kernel) (hts _ w_cl_X5_69) (hts _ w_in_java_lang_IllegalStateException) hsa (xh_3 hts hO.2.2.1) xg_3 hO hw hl.1 hml dX5_step_69 dX5_step_72 dX5_step_73 dX5_step_75 dX5_step_78 hexn (Nat.le_of_ble_eq_true rfl) (Nat.le_of_ble_eq_true rfl) (Nat.le_of_ble_eq_true rfl) (Nat.le_of_ble_eq_true rfl) hlocks (by rw [hE]; exact kE_3) (Nat.le_of_ble_eq_true rfl) (Nat.le_of_ble_eq_true rfl)
        · have hE := hE.trans (if_pos c_4)
          obtain ⟨sa, hsa⟩ := hO.2.1 (RX5, 60, "no STEP can be so") (by decide +kernel)
          exact k_throw hx hb hst hown (by decide +kernel) (by decide +kernel) (hts _ w_cl_X5_58) (hts _ w_in_java_lang_IllegalArgumentException) hsa (xh_2 hts hO.2.2.1) xg_2 hO hw hl.1 hml dX5_step_39 dX5_step_42 dX5_step_43 dX5_step_45 dX5_step_48 hexn (Nat.le_of_ble_eq_true rfl) (Nat.le_of_ble_eq_true rfl) (Nat.le_of_ble_eq_true rfl) (Nat.le_of_ble_eq_true rfl) hlocks (by rw [hE]; exact kE_2) (Nat.le_of_ble_eq_true rfl) (Nat.le_of_ble_eq_true rfl)

abbrev bw_X5_role : List Cond := .code yX5_role cX5_role 4 (some .int) :: BIG
abbrev rm_X5_role : Room := { frames := 6, cells := 2, slots := 12, locals := 90 }
noncomputable def rw_X5_role (S : (Nat → Nat → Nat → Int32)) (p1 : Int32) (p2 : Int32) : Nat × Int32 × (Nat → Nat → Nat → Int32) := if p1 < 0 then ((1, 0, S)) else (if p1 < 4 then (if sp_X2_knows S p2 = 0 then ((2, 0, S)) else ((0, S 11 0 p1.toNatClampNeg, (up3 S 11 0 p1.toNatClampNeg p2)))) else ((1, 0, S)))
/-- sealed: it unfolds by un_ alone -/
noncomputable def sp_X5_role : (Nat → Nat → Nat → Int32) → Int32 → Int32 → (Nat × Int32 × (Nat → Nat → Nat → Int32)) := Classical.choose (⟨rw_X5_role, rfl⟩ : ∃ f, f = rw_X5_role)
theorem un_X5_role (S : (Nat → Nat → Nat → Int32)) (p1 : Int32) (p2 : Int32) : sp_X5_role S p1 p2 = rw_X5_role S p1 p2 := (congrFun (congrFun (congrFun (Classical.choose_spec (⟨rw_X5_role, rfl⟩ : ∃ f, f = rw_X5_role)) S) p1) p2)
set_option maxHeartbeats 1000000 in
set_option maxRecDepth 100000 in
theorem ct_X5_role {l : Launch} {D : va_G} {cI cG cJ cO : ClassId} {K0 : Nat → Nat} {A : Nat → Prop} {L : List (Nat × Nat)} {ad : Nat → Nat → Nat} {ce : Nat → Nat → va_E} (hL : ∀ f o, cid f o = true → (f, o) ∈ L) (S : (Nat → Nat → Nat → Int32)) (hI : CI S) (p1 : Int32) (p2 : Int32) (hst : l.stackTraces = false) (sz : Nat) (hA : ∀ q, sz ≤ q → A q) : vx_Met l yX5_role bw_X5_role rm_X5_role (kP D (ktys cI cG cJ cO) K0 A L ad (cK cI cJ ad ce S) sz [.ref (ad 0 0), .int p1, .int p2]) (va_Qi (fun (r : Int32) (_ : Unit) => r = (sp_X5_role S p1 p2).2.1 ∧ (sp_X5_role S p1 p2).1 = 0) (fun _ t => WE D A L ad (cK cI cJ ad ce ((sp_X5_role S p1 p2).2.2)) t) A) (vx_X (fun (_ : Unit) => True) (fun E _ t => kE E (sp_X5_role S p1 p2).1 ∧ WE D A L ad (cK cI cJ ad ce S) t) A) 2 12 A := by
  refine vx_ofW (cc := cX5_role) (maxL := 4) (ret := (some .int)) (by decide) rfl ?_
  intro p e s m args below meth c s₁ B hml hexn hv
  obtain ⟨hav, hsz, hP, hD, hK, hO⟩ := hv
  have hx := B.exec
  have hb := B.bytes
  have hr := B.returns
  have hts : ∀ w ∈ BIG, w.before args s = true := fun w h => atoms_spec (ws := bw_X5_role) B.pre w (List.mem_cons_of_mem _ h)
  have hown : s.vm.findClass RX5 = some m.cls := findClass_of_methodNamed B.named
  have hlocks := B.notSynchronized
  subst hsz
  have hw := wk.start hP hD
  refine k_start (by rfl) hav (Nat.le_of_ble_eq_true rfl) (fun ls hl => ?_)
  have hl : lv_has ls 4 [(0, .ref (ad 0 0)), (1, .int p1), (2, .int p2)] := hl
  have hE : sp_X5_role S p1 p2 = rw_X5_role S p1 p2 := un_X5_role S p1 p2
  refine lv_iload_n hx hb dX5_role_0 rfl (lv_at hl 1 rfl) ?_
  refine lv_if_lt (tgt := 9) hx hb dX5_role_1 (by decide) (fun c_1 => ?_) (fun c_1 => ?_)
  · have hE := hE.trans (if_pos c_1)
    obtain ⟨sa, hsa⟩ := hO.2.1 (RX5, 76, "no such ROLE") (by decide +kernel)
    exact k_throw hx hb hst hown (by decide +kernel) (by decide +kernel) (hts _ w_cl_X5_74) (hts _ w_in_java_lang_IndexOutOfBoundsException) hsa (xh_1 hts hO.2.2.1) xg_1 hO hw hl.1 hml dX5_role_9 dX5_role_12 dX5_role_13 dX5_role_15 dX5_role_18 hexn (Nat.le_of_ble_eq_true rfl) (Nat.le_of_ble_eq_true rfl) (Nat.le_of_ble_eq_true rfl) (Nat.le_of_ble_eq_true rfl) hlocks (by rw [hE]; exact kE_1) (Nat.le_of_ble_eq_true rfl) (Nat.le_of_ble_eq_true rfl)
  · have hE := hE.trans (if_neg c_1)
    refine lv_iload_n hx hb dX5_role_4 rfl (lv_at hl 1 rfl) ?_
    refine lv_iconst (v := 4) hx hb dX5_role_5 (by decide) ?_
    refine lv_icmp_lt (tgt := 19) hx hb dX5_role_6 (by decide) (fun c_2 => ?_) (fun c_2 => ?_)
    · have hE := hE.trans (if_pos c_2)
      refine lv_aload_n hx hb dX5_role_19 rfl (lv_at hl 0 rfl) ?_
      refine k_get (C := RX5) (T := TX5) (N := 7) (v := .ref (ad 1 0)) hx hb hts inB_X5 hown hK hw (hL 0 0 rfl) cke_0 rfl 0 (by decide) (hts _ w_f_X5_10) (fun _ h9 => h9) rfl dX5_role_20 ?_
      refine lv_iload_n hx hb dX5_role_23 rfl (lv_at hl 2 rfl) ?_
      refine k_ci0 hw (k_rV (As := [.int p2]) (rest := []) ⟨hx, hb, hml, hown, hts⟩ hK hO hw (ct_X2_knows hL S (SF.ci (SF.rf _) hI) p2 _ (wk.hA hw hA)) (cwV 1 hts (gB_V w_ml_X5_50 w_im_X2_knows w_se_X2_knows w_in_X2 w_co_X2_knows) rfl rfl rfl (by decide +kernel) ⟨by decide, by decide⟩) (hL 1 0 rfl) cke_1 rfl rfl hl.1 rfl (Nat.le_of_ble_eq_true rfl) dX5_role_24 ⟨Nat.le_of_ble_eq_true rfl, Nat.le_of_ble_eq_true rfl⟩) (fun H locs hw => ?_)
      refine lv_if_ne (tgt := 40) hx hb dX5_role_27 (by decide) (fun c_3 => ?_) (fun c_3 => ?_)
      · have hE := hE.trans (if_neg c_3)
        refine lv_aload_n hx hb dX5_role_40 rfl (lv_at hl 0 rfl) ?_
        refine k_get (C := RX5) (T := TX5) (N := 7) (v := .ref (ad 1 0)) hx hb hts inB_X5 hown hK hw (hL 0 0 rfl) cke_0 rfl 0 (by decide) (hts _ w_f_X5_10) (fun _ h9 => h9) rfl dX5_role_41 ?_
        refine k_get (C := RX2) (T := TX2) (N := 8) (v := .ref (ad 11 0)) hx hb hts inB_X2 hown hK hw (hL 1 0 rfl) cke_1 rfl 4 (by decide) (hts _ w_f_X5_81) (fun _ h9 => h9) rfl dX5_role_44 ?_
        refine lv_iload_n hx hb dX5_role_47 rfl (lv_at hl 1 rfl) ?_
        refine k_ald hx hb hK hw (hL 11 0 rfl) 0 cke_11 rfl (k_in' c_1 c_2 (by decide)) dX5_role_48 ?_
        refine lv_istore_n (lv' := [(3, .int (S 11 0 p1.toNatClampNeg)), (0, .ref (ad 0 0)), (1, .int p1), (2, .int p2)]) hx hb dX5_role_49 rfl hl (by decide) rfl (fun ls hl => ?_)
        refine lv_aload_n hx hb dX5_role_50 rfl (lv_at hl 1 rfl) ?_
        refine k_get (C := RX5) (T := TX5) (N := 7) (v := .ref (ad 1 0)) hx hb hts inB_X5 hown hK hw (hL 0 0 rfl) cke_0 rfl 0 (by decide) (hts _ w_f_X5_10) (fun _ h9 => h9) rfl dX5_role_51 ?_
        refine k_get (C := RX2) (T := TX2) (N := 8) (v := .ref (ad 11 0)) hx hb hts inB_X2 hown hK hw (hL 1 0 rfl) cke_1 rfl 4 (by decide) (hts _ w_f_X5_81) (fun _ h9 => h9) rfl dX5_role_54 ?_
        refine lv_iload_n hx hb dX5_role_57 rfl (lv_at hl 2 rfl) ?_
        refine lv_iload_n hx hb dX5_role_58 rfl (lv_at hl 3 rfl) ?_
        refine k_ast hx hb hK hw (hL 11 0 rfl) 0 cke_11 rfl (k_in' c_1 c_2 (by decide)) (cK_up (i := p1.toNatClampNeg) (x := p2) (by decide) rfl) dX5_role_59 (fun H locs hw => ?_)
        refine lv_iload_n hx hb dX5_role_60 rfl (lv_at hl 0 rfl) ?_
        exact x_iretE hx hb hr hlocks rfl hw hE (Nat.le_of_ble_eq_true rfl) (Nat.le_of_ble_eq_true rfl) dX5_role_61
      · have hE := hE.trans (if_pos c_3)
        obtain ⟨sa, hsa⟩ := hO.2.1 (RX5, 79, "no such set of STEPS") (by decide +kernel)
        exact k_throw hx hb hst hown (by decide +kernel) (by decide +kernel) (hts _ w_cl_X5_58) (hts _ w_in_java_lang_IllegalArgumentException) hsa (xh_2 hts hO.2.2.1) xg_2 hO hw hl.1 hml dX5_role_30 dX5_role_33 dX5_role_34 dX5_role_36 dX5_role_39 hexn (Nat.le_of_ble_eq_true rfl) (Nat.le_of_ble_eq_true rfl) (Nat.le_of_ble_eq_true rfl) (Nat.le_of_ble_eq_true rfl) hlocks (by rw [hE]; exact kE_2) (Nat.le_of_ble_eq_true rfl) (Nat.le_of_ble_eq_true rfl)
    · have hE := hE.trans (if_neg c_2)
      obtain ⟨sa, hsa⟩ := hO.2.1 (RX5, 76, "no such ROLE") (by decide +kernel)
      exact k_throw hx hb hst hown (by decide +kernel) (by decide +kernel) (hts _ w_cl_X5_74) (hts _ w_in_java_lang_IndexOutOfBoundsException) hsa (xh_1 hts hO.2.2.1) xg_1 hO hw hl.1 hml dX5_role_9 dX5_role_12 dX5_role_13 dX5_role_15 dX5_role_18 hexn (Nat.le_of_ble_eq_true rfl) (Nat.le_of_ble_eq_true rfl) (Nat.le_of_ble_eq_true rfl) (Nat.le_of_ble_eq_true rfl) hlocks (by rw [hE]; exact kE_1) (Nat.le_of_ble_eq_true rfl) (Nat.le_of_ble_eq_true rfl)

abbrev bw_X5_right : List Cond := .code yX5_right cX5_right 3 (some .int) :: BIG
abbrev rm_X5_right : Room := { frames := 6, cells := 2, slots := 12, locals := 90 }
noncomputable def rw_X5_right (S : (Nat → Nat → Nat → Int32)) (p1 : Int32) : Nat × Int32 × (Nat → Nat → Nat → Int32) := if p1 < 1 then ((2, 0, S)) else (if sp_X2_knows S p1 = 0 then ((2, 0, S)) else (if (sp_X2_addRight S p1).1 = (-1) then ((3, 0, S)) else ((0, (sp_X2_addRight S p1).1, (sp_X2_addRight S p1).2))))
/-- sealed: it unfolds by un_ alone -/
noncomputable def sp_X5_right : (Nat → Nat → Nat → Int32) → Int32 → (Nat × Int32 × (Nat → Nat → Nat → Int32)) := Classical.choose (⟨rw_X5_right, rfl⟩ : ∃ f, f = rw_X5_right)
theorem un_X5_right (S : (Nat → Nat → Nat → Int32)) (p1 : Int32) : sp_X5_right S p1 = rw_X5_right S p1 := (congrFun (congrFun (Classical.choose_spec (⟨rw_X5_right, rfl⟩ : ∃ f, f = rw_X5_right)) S) p1)
set_option maxHeartbeats 1000000 in
set_option maxRecDepth 100000 in
theorem ct_X5_right {l : Launch} {D : va_G} {cI cG cJ cO : ClassId} {K0 : Nat → Nat} {A : Nat → Prop} {L : List (Nat × Nat)} {ad : Nat → Nat → Nat} {ce : Nat → Nat → va_E} (hL : ∀ f o, cid f o = true → (f, o) ∈ L) (S : (Nat → Nat → Nat → Int32)) (hI : CI S) (p1 : Int32) (hst : l.stackTraces = false) (sz : Nat) (hA : ∀ q, sz ≤ q → A q) : vx_Met l yX5_right bw_X5_right rm_X5_right (kP D (ktys cI cG cJ cO) K0 A L ad (cK cI cJ ad ce S) sz [.ref (ad 0 0), .int p1]) (va_Qi (fun (r : Int32) (_ : Unit) => r = (sp_X5_right S p1).2.1 ∧ (sp_X5_right S p1).1 = 0) (fun _ t => WE D A L ad (cK cI cJ ad ce ((sp_X5_right S p1).2.2)) t) A) (vx_X (fun (_ : Unit) => True) (fun E _ t => kE E (sp_X5_right S p1).1 ∧ WE D A L ad (cK cI cJ ad ce S) t) A) 2 12 A := by
  refine vx_ofW (cc := cX5_right) (maxL := 3) (ret := (some .int)) (by decide) rfl ?_
  intro p e s m args below meth c s₁ B hml hexn hv
  obtain ⟨hav, hsz, hP, hD, hK, hO⟩ := hv
  have hx := B.exec
  have hb := B.bytes
  have hr := B.returns
  have hts : ∀ w ∈ BIG, w.before args s = true := fun w h => atoms_spec (ws := bw_X5_right) B.pre w (List.mem_cons_of_mem _ h)
  have hown : s.vm.findClass RX5 = some m.cls := findClass_of_methodNamed B.named
  have hlocks := B.notSynchronized
  subst hsz
  have hw := wk.start hP hD
  refine k_start (by rfl) hav (Nat.le_of_ble_eq_true rfl) (fun ls hl => ?_)
  have hl : lv_has ls 3 [(0, .ref (ad 0 0)), (1, .int p1)] := hl
  have hE : sp_X5_right S p1 = rw_X5_right S p1 := un_X5_right S p1
  refine lv_iload_n hx hb dX5_right_0 rfl (lv_at hl 1 rfl) ?_
  refine lv_iconst (v := 1) hx hb dX5_right_1 (by decide) ?_
  refine lv_icmp_lt (tgt := 16) hx hb dX5_right_2 (by decide) (fun c_1 => ?_) (fun c_1 => ?_)
  · have hE := hE.trans (if_pos c_1)
    obtain ⟨sa, hsa⟩ := hO.2.1 (RX5, 79, "no such set of STEPS") (by decide +kernel)
    exact k_throw hx hb hst hown (by decide +kernel) (by decide +kernel) (hts _ w_cl_X5_58) (hts _ w_in_java_lang_IllegalArgumentException) hsa (xh_2 hts hO.2.2.1) xg_2 hO hw hl.1 hml dX5_right_16 dX5_right_19 dX5_right_20 dX5_right_22 dX5_right_25 hexn (Nat.le_of_ble_eq_true rfl) (Nat.le_of_ble_eq_true rfl) (Nat.le_of_ble_eq_true rfl) (Nat.le_of_ble_eq_true rfl) hlocks (by rw [hE]; exact kE_2) (Nat.le_of_ble_eq_true rfl) (Nat.le_of_ble_eq_true rfl)
  · have hE := hE.trans (if_neg c_1)
    refine lv_aload_n hx hb dX5_right_5 rfl (lv_at hl 0 rfl) ?_
    refine k_get (C := RX5) (T := TX5) (N := 7) (v := .ref (ad 1 0)) hx hb hts inB_X5 hown hK hw (hL 0 0 rfl) cke_0 rfl 0 (by decide) (hts _ w_f_X5_10) (fun _ h9 => h9) rfl dX5_right_6 ?_
    refine lv_iload_n hx hb dX5_right_9 rfl (lv_at hl 1 rfl) ?_
    refine k_ci0 hw (k_rV (As := [.int p1]) (rest := []) ⟨hx, hb, hml, hown, hts⟩ hK hO hw (ct_X2_knows hL S (SF.ci (SF.rf _) hI) p1 _ (wk.hA hw hA)) (cwV 1 hts (gB_V w_ml_X5_50 w_im_X2_knows w_se_X2_knows w_in_X2 w_co_X2_knows) rfl rfl rfl (by decide +kernel) ⟨by decide, by decide⟩) (hL 1 0 rfl) cke_1 rfl rfl hl.1 rfl (Nat.le_of_ble_eq_true rfl) dX5_right_10 ⟨Nat.le_of_ble_eq_true rfl, Nat.le_of_ble_eq_true rfl⟩) (fun H locs hw => ?_)
    refine lv_if_ne (tgt := 26) hx hb dX5_right_13 (by decide) (fun c_2 => ?_) (fun c_2 => ?_)
    · have hE := hE.trans (if_neg c_2)
      refine lv_aload_n hx hb dX5_right_26 rfl (lv_at hl 0 rfl) ?_
      refine k_get (C := RX5) (T := TX5) (N := 7) (v := .ref (ad 1 0)) hx hb hts inB_X5 hown hK hw (hL 0 0 rfl) cke_0 rfl 0 (by decide) (hts _ w_f_X5_10) (fun _ h9 => h9) rfl dX5_right_27 ?_
      refine lv_iload_n hx hb dX5_right_30 rfl (lv_at hl 1 rfl) ?_
      refine k_ci0 hw (k_rV (As := [.int p1]) (rest := []) ⟨hx, hb, hml, hown, hts⟩ hK hO hw (ct_X2_addRight hL S (SF.ci (SF.rf _) hI) p1 _ (wk.hA hw hA)) (cwV 1 hts (gB_V w_ml_X5_85 w_im_X2_addRight w_se_X2_addRight w_in_X2 w_co_X2_addRight) rfl rfl rfl (by decide +kernel) ⟨by decide, by decide⟩) (hL 1 0 rfl) cke_1 rfl rfl hl.1 rfl (Nat.le_of_ble_eq_true rfl) dX5_right_31 ⟨Nat.le_of_ble_eq_true rfl, Nat.le_of_ble_eq_true rfl⟩) (fun H locs hw => ?_)
      refine lv_istore_n (lv' := [(2, .int ((sp_X2_addRight S p1).1)), (0, .ref (ad 0 0)), (1, .int p1)]) hx hb dX5_right_34 rfl hl (by decide) rfl (fun ls hl => ?_)
      refine lv_iload_n hx hb dX5_right_35 rfl (lv_at hl 0 rfl) ?_
      refine lv_iconst (v := (-1)) hx hb dX5_right_36 (by decide) ?_
      refine lv_icmp_ne (tgt := 50) hx hb dX5_right_37 (by decide) (fun c_3 => ?_) (fun c_3 => ?_)
      · have hE := hE.trans (if_neg c_3)
        refine lv_iload_n hx hb dX5_right_50 rfl (lv_at hl 0 rfl) ?_
        exact x_iretE hx hb hr hlocks rfl hw hE (Nat.le_of_ble_eq_true rfl) (Nat.le_of_ble_eq_true rfl) dX5_right_51
      · have hE := hE.trans (if_pos c_3)
        rw [ns_X2_addRight hI c_3] at hw
        obtain ⟨sa, hsa⟩ := hO.2.1 (RX5, 89, "there are all RIGHTS that can be") (by decide +kernel)
        exact k_throw hx hb hst hown (by decide +kernel) (by decide +kernel) (hts _ w_cl_X5_69) (hts _ w_in_java_lang_IllegalStateException) hsa (xh_3 hts hO.2.2.1) xg_3 hO hw hl.1 hml dX5_right_40 dX5_right_43 dX5_right_44 dX5_right_46 dX5_right_49 hexn (Nat.le_of_ble_eq_true rfl) (Nat.le_of_ble_eq_true rfl) (Nat.le_of_ble_eq_true rfl) (Nat.le_of_ble_eq_true rfl) hlocks (by rw [hE]; exact kE_3) (Nat.le_of_ble_eq_true rfl) (Nat.le_of_ble_eq_true rfl)
    · have hE := hE.trans (if_pos c_2)
      obtain ⟨sa, hsa⟩ := hO.2.1 (RX5, 79, "no such set of STEPS") (by decide +kernel)
      exact k_throw hx hb hst hown (by decide +kernel) (by decide +kernel) (hts _ w_cl_X5_58) (hts _ w_in_java_lang_IllegalArgumentException) hsa (xh_2 hts hO.2.2.1) xg_2 hO hw hl.1 hml dX5_right_16 dX5_right_19 dX5_right_20 dX5_right_22 dX5_right_25 hexn (Nat.le_of_ble_eq_true rfl) (Nat.le_of_ble_eq_true rfl) (Nat.le_of_ble_eq_true rfl) (Nat.le_of_ble_eq_true rfl) hlocks (by rw [hE]; exact kE_2) (Nat.le_of_ble_eq_true rfl) (Nat.le_of_ble_eq_true rfl)

abbrev bw_X5_stock : List Cond := .code yX5_stock cX5_stock 3 (some .int) :: BIG
abbrev rm_X5_stock : Room := { frames := 6, cells := 2, slots := 12, locals := 90 }
noncomputable def rw_X5_stock (S : (Nat → Nat → Nat → Int32)) (p1 : Int32) (p2 : Int32) : Nat × Int32 × (Nat → Nat → Nat → Int32) := if p1 < 0 then ((1, 0, S)) else (if p1 < 4 then (if sp_X5_isWithin p2 1 20 = 0 then ((2, 0, S)) else ((0, (sp_X3_putIn S p1 p2) 13 0 p1.toNatClampNeg, (sp_X3_putIn S p1 p2)))) else ((1, 0, S)))
/-- sealed: it unfolds by un_ alone -/
noncomputable def sp_X5_stock : (Nat → Nat → Nat → Int32) → Int32 → Int32 → (Nat × Int32 × (Nat → Nat → Nat → Int32)) := Classical.choose (⟨rw_X5_stock, rfl⟩ : ∃ f, f = rw_X5_stock)
theorem un_X5_stock (S : (Nat → Nat → Nat → Int32)) (p1 : Int32) (p2 : Int32) : sp_X5_stock S p1 p2 = rw_X5_stock S p1 p2 := (congrFun (congrFun (congrFun (Classical.choose_spec (⟨rw_X5_stock, rfl⟩ : ∃ f, f = rw_X5_stock)) S) p1) p2)
set_option maxHeartbeats 1000000 in
set_option maxRecDepth 100000 in
theorem ct_X5_stock {l : Launch} {D : va_G} {cI cG cJ cO : ClassId} {K0 : Nat → Nat} {A : Nat → Prop} {L : List (Nat × Nat)} {ad : Nat → Nat → Nat} {ce : Nat → Nat → va_E} (hL : ∀ f o, cid f o = true → (f, o) ∈ L) (S : (Nat → Nat → Nat → Int32)) (hI : CI S) (p1 : Int32) (p2 : Int32) (hst : l.stackTraces = false) (sz : Nat) (hA : ∀ q, sz ≤ q → A q) : vx_Met l yX5_stock bw_X5_stock rm_X5_stock (kP D (ktys cI cG cJ cO) K0 A L ad (cK cI cJ ad ce S) sz [.ref (ad 0 0), .int p1, .int p2]) (va_Qi (fun (r : Int32) (_ : Unit) => r = (sp_X5_stock S p1 p2).2.1 ∧ (sp_X5_stock S p1 p2).1 = 0) (fun _ t => WE D A L ad (cK cI cJ ad ce ((sp_X5_stock S p1 p2).2.2)) t) A) (vx_X (fun (_ : Unit) => True) (fun E _ t => kE E (sp_X5_stock S p1 p2).1 ∧ WE D A L ad (cK cI cJ ad ce S) t) A) 2 12 A := by
  refine vx_ofW (cc := cX5_stock) (maxL := 3) (ret := (some .int)) (by decide) rfl ?_
  intro p e s m args below meth c s₁ B hml hexn hv
  obtain ⟨hav, hsz, hP, hD, hK, hO⟩ := hv
  have hx := B.exec
  have hb := B.bytes
  have hr := B.returns
  have hts : ∀ w ∈ BIG, w.before args s = true := fun w h => atoms_spec (ws := bw_X5_stock) B.pre w (List.mem_cons_of_mem _ h)
  have hown : s.vm.findClass RX5 = some m.cls := findClass_of_methodNamed B.named
  have hlocks := B.notSynchronized
  subst hsz
  have hw := wk.start hP hD
  refine k_start (by rfl) hav (Nat.le_of_ble_eq_true rfl) (fun ls hl => ?_)
  have hl : lv_has ls 3 [(0, .ref (ad 0 0)), (1, .int p1), (2, .int p2)] := hl
  have hE : sp_X5_stock S p1 p2 = rw_X5_stock S p1 p2 := un_X5_stock S p1 p2
  refine lv_iload_n hx hb dX5_stock_0 rfl (lv_at hl 1 rfl) ?_
  refine lv_if_lt (tgt := 9) hx hb dX5_stock_1 (by decide) (fun c_1 => ?_) (fun c_1 => ?_)
  · have hE := hE.trans (if_pos c_1)
    obtain ⟨sa, hsa⟩ := hO.2.1 (RX5, 91, "no such ITEM") (by decide +kernel)
    exact k_throw hx hb hst hown (by decide +kernel) (by decide +kernel) (hts _ w_cl_X5_74) (hts _ w_in_java_lang_IndexOutOfBoundsException) hsa (xh_1 hts hO.2.2.1) xg_1 hO hw hl.1 hml dX5_stock_9 dX5_stock_12 dX5_stock_13 dX5_stock_15 dX5_stock_18 hexn (Nat.le_of_ble_eq_true rfl) (Nat.le_of_ble_eq_true rfl) (Nat.le_of_ble_eq_true rfl) (Nat.le_of_ble_eq_true rfl) hlocks (by rw [hE]; exact kE_1) (Nat.le_of_ble_eq_true rfl) (Nat.le_of_ble_eq_true rfl)
  · have hE := hE.trans (if_neg c_1)
    refine lv_iload_n hx hb dX5_stock_4 rfl (lv_at hl 1 rfl) ?_
    refine lv_iconst (v := 4) hx hb dX5_stock_5 (by decide) ?_
    refine lv_icmp_lt (tgt := 19) hx hb dX5_stock_6 (by decide) (fun c_2 => ?_) (fun c_2 => ?_)
    · have hE := hE.trans (if_pos c_2)
      refine lv_iload_n hx hb dX5_stock_19 rfl (lv_at hl 2 rfl) ?_
      refine lv_iconst (v := 1) hx hb dX5_stock_20 (by decide) ?_
      refine lv_bipush (v := 20) hx hb dX5_stock_21 (by decide) ?_
      refine k_ci0 hw (k_rS (As := [.int p2, .int 1, .int 20]) (rest := []) ⟨hx, hb, hml, hown, hts⟩ hK hO hw (ct_X5_isWithin p2 1 20 _ (wk.hA hw hA)) (va_cwS 3 hts (gB_S w_ml_X5_46 w_st_X5_isWithin w_in_X5 w_co_X5_isWithin) rfl rfl rfl (by decide +kernel) ⟨by decide, by decide⟩) rfl hl.1 rfl (Nat.le_of_ble_eq_true rfl) dX5_stock_23 ⟨Nat.le_of_ble_eq_true rfl, Nat.le_of_ble_eq_true rfl⟩) (fun H locs hw => ?_)
      refine lv_if_ne (tgt := 39) hx hb dX5_stock_26 (by decide) (fun c_3 => ?_) (fun c_3 => ?_)
      · have hE := hE.trans (if_neg c_3)
        refine lv_aload_n hx hb dX5_stock_39 rfl (lv_at hl 0 rfl) ?_
        refine k_get (C := RX5) (T := TX5) (N := 7) (v := .ref (ad 2 0)) hx hb hts inB_X5 hown hK hw (hL 0 0 rfl) cke_0 rfl 1 (by decide) (hts _ w_f_X5_19) (fun _ h9 => h9) rfl dX5_stock_40 ?_
        refine lv_iload_n hx hb dX5_stock_43 rfl (lv_at hl 1 rfl) ?_
        refine lv_iload_n hx hb dX5_stock_44 rfl (lv_at hl 2 rfl) ?_
        refine k_cv0 hw (k_rV (As := [.int p1, .int p2]) (rest := []) ⟨hx, hb, hml, hown, hts⟩ hK hO hw (ct_X3_putIn hL S (SF.ci (SF.rf _) hI) p1 p2 _ (wk.hA hw hA)) (cwV 2 hts (gB_V w_ml_X5_95 w_im_X3_putIn w_se_X3_putIn w_in_X3 w_co_X3_putIn) rfl rfl rfl (by decide +kernel) ⟨by decide, by decide⟩) (hL 2 0 rfl) cke_2 rfl rfl hl.1 rfl (Nat.le_of_ble_eq_true rfl) dX5_stock_45 ⟨Nat.le_of_ble_eq_true rfl, Nat.le_of_ble_eq_true rfl⟩) (fun H locs hw => ?_)
        refine lv_aload_n hx hb dX5_stock_48 rfl (lv_at hl 0 rfl) ?_
        refine k_get (C := RX5) (T := TX5) (N := 7) (v := .ref (ad 2 0)) hx hb hts inB_X5 hown hK hw (hL 0 0 rfl) cke_0 rfl 1 (by decide) (hts _ w_f_X5_19) (fun _ h9 => h9) rfl dX5_stock_49 ?_
        refine k_get (C := RX3) (T := TX3) (N := 5) (v := .ref (ad 13 0)) hx hb hts inB_X3 hown hK hw (hL 2 0 rfl) cke_2 rfl 0 (by decide) (hts _ w_f_X5_99) (fun _ h9 => h9) rfl dX5_stock_52 ?_
        refine lv_iload_n hx hb dX5_stock_55 rfl (lv_at hl 1 rfl) ?_
        refine k_ald hx hb hK hw (hL 13 0 rfl) 0 cke_13 rfl (k_in' c_1 c_2 (by decide)) dX5_stock_56 ?_
        exact x_iretE hx hb hr hlocks rfl hw hE (Nat.le_of_ble_eq_true rfl) (Nat.le_of_ble_eq_true rfl) dX5_stock_57
      · have hE := hE.trans (if_pos c_3)
        obtain ⟨sa, hsa⟩ := hO.2.1 (RX5, 93, "not so many at once") (by decide +kernel)
        exact k_throw hx hb hst hown (by decide +kernel) (by decide +kernel) (hts _ w_cl_X5_58) (hts _ w_in_java_lang_IllegalArgumentException) hsa (xh_2 hts hO.2.2.1) xg_2 hO hw hl.1 hml dX5_stock_29 dX5_stock_32 dX5_stock_33 dX5_stock_35 dX5_stock_38 hexn (Nat.le_of_ble_eq_true rfl) (Nat.le_of_ble_eq_true rfl) (Nat.le_of_ble_eq_true rfl) (Nat.le_of_ble_eq_true rfl) hlocks (by rw [hE]; exact kE_2) (Nat.le_of_ble_eq_true rfl) (Nat.le_of_ble_eq_true rfl)
    · have hE := hE.trans (if_neg c_2)
      obtain ⟨sa, hsa⟩ := hO.2.1 (RX5, 91, "no such ITEM") (by decide +kernel)
      exact k_throw hx hb hst hown (by decide +kernel) (by decide +kernel) (hts _ w_cl_X5_74) (hts _ w_in_java_lang_IndexOutOfBoundsException) hsa (xh_1 hts hO.2.2.1) xg_1 hO hw hl.1 hml dX5_stock_9 dX5_stock_12 dX5_stock_13 dX5_stock_15 dX5_stock_18 hexn (Nat.le_of_ble_eq_true rfl) (Nat.le_of_ble_eq_true rfl) (Nat.le_of_ble_eq_true rfl) (Nat.le_of_ble_eq_true rfl) hlocks (by rw [hE]; exact kE_1) (Nat.le_of_ble_eq_true rfl) (Nat.le_of_ble_eq_true rfl)

abbrev bw_X5_order : List Cond := .code yX5_order cX5_order 5 (some .int) :: BIG
abbrev rm_X5_order : Room := { frames := 6, cells := 2, slots := 12, locals := 90 }
noncomputable def rw_X5_order (S : (Nat → Nat → Nat → Int32)) (p1 : Int32) (p2 : Int32) (p3 : Int32) : Nat × Int32 × (Nat → Nat → Nat → Int32) := if p1 < 0 then ((1, 0, S)) else (if p1 < 4 then (if sp_X5_isWithin p2 1 20 = 0 then ((2, 0, S)) else (if sp_X5_isAhead S p3 = 0 then ((2, 0, S)) else (if (sp_X3_addOrder S p1 p2 p3).1 = (-1) then ((3, 0, S)) else ((0, (sp_X3_addOrder S p1 p2 p3).1, (sp_X3_addOrder S p1 p2 p3).2))))) else ((1, 0, S)))
/-- sealed: it unfolds by un_ alone -/
noncomputable def sp_X5_order : (Nat → Nat → Nat → Int32) → Int32 → Int32 → Int32 → (Nat × Int32 × (Nat → Nat → Nat → Int32)) := Classical.choose (⟨rw_X5_order, rfl⟩ : ∃ f, f = rw_X5_order)
theorem un_X5_order (S : (Nat → Nat → Nat → Int32)) (p1 : Int32) (p2 : Int32) (p3 : Int32) : sp_X5_order S p1 p2 p3 = rw_X5_order S p1 p2 p3 := (congrFun (congrFun (congrFun (congrFun (Classical.choose_spec (⟨rw_X5_order, rfl⟩ : ∃ f, f = rw_X5_order)) S) p1) p2) p3)
set_option maxHeartbeats 1000000 in
set_option maxRecDepth 100000 in
theorem ct_X5_order {l : Launch} {D : va_G} {cI cG cJ cO : ClassId} {K0 : Nat → Nat} {A : Nat → Prop} {L : List (Nat × Nat)} {ad : Nat → Nat → Nat} {ce : Nat → Nat → va_E} (hL : ∀ f o, cid f o = true → (f, o) ∈ L) (S : (Nat → Nat → Nat → Int32)) (hI : CI S) (p1 : Int32) (p2 : Int32) (p3 : Int32) (hst : l.stackTraces = false) (sz : Nat) (hA : ∀ q, sz ≤ q → A q) : vx_Met l yX5_order bw_X5_order rm_X5_order (kP D (ktys cI cG cJ cO) K0 A L ad (cK cI cJ ad ce S) sz [.ref (ad 0 0), .int p1, .int p2, .int p3]) (va_Qi (fun (r : Int32) (_ : Unit) => r = (sp_X5_order S p1 p2 p3).2.1 ∧ (sp_X5_order S p1 p2 p3).1 = 0) (fun _ t => WE D A L ad (cK cI cJ ad ce ((sp_X5_order S p1 p2 p3).2.2)) t) A) (vx_X (fun (_ : Unit) => True) (fun E _ t => kE E (sp_X5_order S p1 p2 p3).1 ∧ WE D A L ad (cK cI cJ ad ce S) t) A) 2 12 A := by
  refine vx_ofW (cc := cX5_order) (maxL := 5) (ret := (some .int)) (by decide) rfl ?_
  intro p e s m args below meth c s₁ B hml hexn hv
  obtain ⟨hav, hsz, hP, hD, hK, hO⟩ := hv
  have hx := B.exec
  have hb := B.bytes
  have hr := B.returns
  have hts : ∀ w ∈ BIG, w.before args s = true := fun w h => atoms_spec (ws := bw_X5_order) B.pre w (List.mem_cons_of_mem _ h)
  have hown : s.vm.findClass RX5 = some m.cls := findClass_of_methodNamed B.named
  have hlocks := B.notSynchronized
  subst hsz
  have hw := wk.start hP hD
  refine k_start (by rfl) hav (Nat.le_of_ble_eq_true rfl) (fun ls hl => ?_)
  have hl : lv_has ls 5 [(0, .ref (ad 0 0)), (1, .int p1), (2, .int p2), (3, .int p3)] := hl
  have hE : sp_X5_order S p1 p2 p3 = rw_X5_order S p1 p2 p3 := un_X5_order S p1 p2 p3
  refine lv_iload_n hx hb dX5_order_0 rfl (lv_at hl 1 rfl) ?_
  refine lv_if_lt (tgt := 9) hx hb dX5_order_1 (by decide) (fun c_1 => ?_) (fun c_1 => ?_)
  · have hE := hE.trans (if_pos c_1)
    obtain ⟨sa, hsa⟩ := hO.2.1 (RX5, 91, "no such ITEM") (by decide +kernel)
    exact k_throw hx hb hst hown (by decide +kernel) (by decide +kernel) (hts _ w_cl_X5_74) (hts _ w_in_java_lang_IndexOutOfBoundsException) hsa (xh_1 hts hO.2.2.1) xg_1 hO hw hl.1 hml dX5_order_9 dX5_order_12 dX5_order_13 dX5_order_15 dX5_order_18 hexn (Nat.le_of_ble_eq_true rfl) (Nat.le_of_ble_eq_true rfl) (Nat.le_of_ble_eq_true rfl) (Nat.le_of_ble_eq_true rfl) hlocks (by rw [hE]; exact kE_1) (Nat.le_of_ble_eq_true rfl) (Nat.le_of_ble_eq_true rfl)
  · have hE := hE.trans (if_neg c_1)
    refine lv_iload_n hx hb dX5_order_4 rfl (lv_at hl 1 rfl) ?_
    refine lv_iconst (v := 4) hx hb dX5_order_5 (by decide) ?_
    refine lv_icmp_lt (tgt := 19) hx hb dX5_order_6 (by decide) (fun c_2 => ?_) (fun c_2 => ?_)
    · have hE := hE.trans (if_pos c_2)
      refine lv_iload_n hx hb dX5_order_19 rfl (lv_at hl 2 rfl) ?_
      refine lv_iconst (v := 1) hx hb dX5_order_20 (by decide) ?_
      refine lv_bipush (v := 20) hx hb dX5_order_21 (by decide) ?_
      refine k_ci0 hw (k_rS (As := [.int p2, .int 1, .int 20]) (rest := []) ⟨hx, hb, hml, hown, hts⟩ hK hO hw (ct_X5_isWithin p2 1 20 _ (wk.hA hw hA)) (va_cwS 3 hts (gB_S w_ml_X5_46 w_st_X5_isWithin w_in_X5 w_co_X5_isWithin) rfl rfl rfl (by decide +kernel) ⟨by decide, by decide⟩) rfl hl.1 rfl (Nat.le_of_ble_eq_true rfl) dX5_order_23 ⟨Nat.le_of_ble_eq_true rfl, Nat.le_of_ble_eq_true rfl⟩) (fun H locs hw => ?_)
      refine lv_if_eq (tgt := 37) hx hb dX5_order_26 (by decide) (fun c_3 => ?_) (fun c_3 => ?_)
      · have hE := hE.trans (if_pos c_3)
        obtain ⟨sa, hsa⟩ := hO.2.1 (RX5, 105, "no ORDER can be so") (by decide +kernel)
        exact k_throw hx hb hst hown (by decide +kernel) (by decide +kernel) (hts _ w_cl_X5_58) (hts _ w_in_java_lang_IllegalArgumentException) hsa (xh_2 hts hO.2.2.1) xg_2 hO hw hl.1 hml dX5_order_37 dX5_order_40 dX5_order_41 dX5_order_43 dX5_order_46 hexn (Nat.le_of_ble_eq_true rfl) (Nat.le_of_ble_eq_true rfl) (Nat.le_of_ble_eq_true rfl) (Nat.le_of_ble_eq_true rfl) hlocks (by rw [hE]; exact kE_2) (Nat.le_of_ble_eq_true rfl) (Nat.le_of_ble_eq_true rfl)
      · have hE := hE.trans (if_neg c_3)
        refine lv_aload_n hx hb dX5_order_29 rfl (lv_at hl 0 rfl) ?_
        refine lv_iload_n hx hb dX5_order_30 rfl (lv_at hl 3 rfl) ?_
        refine k_ci0 hw (k_rV (As := [.int p3]) (rest := []) ⟨hx, hb, hml, hown, hts⟩ hK hO hw (ct_X5_isAhead hL S (SF.ci (SF.rf _) hI) p3 _ (wk.hA hw hA)) (cwV 1 hts (gB_V w_ml_X5_102 w_im_X5_isAhead w_se_X5_isAhead w_in_X5 w_co_X5_isAhead) rfl rfl rfl (by decide +kernel) ⟨by decide, by decide⟩) (hL 0 0 rfl) cke_0 rfl rfl hl.1 rfl (Nat.le_of_ble_eq_true rfl) dX5_order_31 ⟨Nat.le_of_ble_eq_true rfl, Nat.le_of_ble_eq_true rfl⟩) (fun H locs hw => ?_)
        refine lv_if_ne (tgt := 47) hx hb dX5_order_34 (by decide) (fun c_4 => ?_) (fun c_4 => ?_)
        · have hE := hE.trans (if_neg c_4)
          refine lv_aload_n hx hb dX5_order_47 rfl (lv_at hl 0 rfl) ?_
          refine k_get (C := RX5) (T := TX5) (N := 7) (v := .ref (ad 2 0)) hx hb hts inB_X5 hown hK hw (hL 0 0 rfl) cke_0 rfl 1 (by decide) (hts _ w_f_X5_19) (fun _ h9 => h9) rfl dX5_order_48 ?_
          refine lv_iload_n hx hb dX5_order_51 rfl (lv_at hl 1 rfl) ?_
          refine lv_iload_n hx hb dX5_order_52 rfl (lv_at hl 2 rfl) ?_
          refine lv_iload_n hx hb dX5_order_53 rfl (lv_at hl 3 rfl) ?_
          refine k_ci0 hw (k_rV (As := [.int p1, .int p2, .int p3]) (rest := []) ⟨hx, hb, hml, hown, hts⟩ hK hO hw (ct_X3_addOrder hL S (SF.ci (SF.rf _) hI) p1 p2 p3 _ (wk.hA hw hA)) (cwV 3 hts (gB_V w_ml_X5_107 w_im_X3_addOrder w_se_X3_addOrder w_in_X3 w_co_X3_addOrder) rfl rfl rfl (by decide +kernel) ⟨by decide, by decide⟩) (hL 2 0 rfl) cke_2 rfl rfl hl.1 rfl (Nat.le_of_ble_eq_true rfl) dX5_order_54 ⟨Nat.le_of_ble_eq_true rfl, Nat.le_of_ble_eq_true rfl⟩) (fun H locs hw => ?_)
          refine lv_istore (lv' := [(4, .int ((sp_X3_addOrder S p1 p2 p3).1)), (0, .ref (ad 0 0)), (1, .int p1), (2, .int p2), (3, .int p3)]) hx hb dX5_order_57 hl (by decide) rfl (fun ls hl => ?_)
          refine lv_iload hx hb dX5_order_59 (lv_at hl 0 rfl) ?_
          refine lv_iconst (v := (-1)) hx hb dX5_order_61 (by decide) ?_
          refine lv_icmp_ne (tgt := 75) hx hb dX5_order_62 (by decide) (fun c_5 => ?_) (fun c_5 => ?_)
          · have hE := hE.trans (if_neg c_5)
            refine lv_iload hx hb dX5_order_75 (lv_at hl 0 rfl) ?_
            exact x_iretE hx hb hr hlocks rfl hw hE (Nat.le_of_ble_eq_true rfl) (Nat.le_of_ble_eq_true rfl) dX5_order_77
          · have hE := hE.trans (if_pos c_5)
            rw [ns_X3_addOrder hI c_5] at hw
            obtain ⟨sa, hsa⟩ := hO.2.1 (RX5, 111, "there are all ORDERS that can be") (by decide +kernel)
            exact k_throw hx hb hst hown (by decide +kernel) (by decide +kernel) (hts _ w_cl_X5_69) (hts _ w_in_java_lang_IllegalStateException) hsa (xh_3 hts hO.2.2.1) xg_3 hO hw hl.1 hml dX5_order_65 dX5_order_68 dX5_order_69 dX5_order_71 dX5_order_74 hexn (Nat.le_of_ble_eq_true rfl) (Nat.le_of_ble_eq_true rfl) (Nat.le_of_ble_eq_true rfl) (Nat.le_of_ble_eq_true rfl) hlocks (by rw [hE]; exact kE_3) (Nat.le_of_ble_eq_true rfl) (Nat.le_of_ble_eq_true rfl)
        · have hE := hE.trans (if_pos c_4)
          obtain ⟨sa, hsa⟩ := hO.2.1 (RX5, 105, "no ORDER can be so") (by decide +kernel)
          exact k_throw hx hb hst hown (by decide +kernel) (by decide +kernel) (hts _ w_cl_X5_58) (hts _ w_in_java_lang_IllegalArgumentException) hsa (xh_2 hts hO.2.2.1) xg_2 hO hw hl.1 hml dX5_order_37 dX5_order_40 dX5_order_41 dX5_order_43 dX5_order_46 hexn (Nat.le_of_ble_eq_true rfl) (Nat.le_of_ble_eq_true rfl) (Nat.le_of_ble_eq_true rfl) (Nat.le_of_ble_eq_true rfl) hlocks (by rw [hE]; exact kE_2) (Nat.le_of_ble_eq_true rfl) (Nat.le_of_ble_eq_true rfl)
    · have hE := hE.trans (if_neg c_2)
      obtain ⟨sa, hsa⟩ := hO.2.1 (RX5, 91, "no such ITEM") (by decide +kernel)
      exact k_throw hx hb hst hown (by decide +kernel) (by decide +kernel) (hts _ w_cl_X5_74) (hts _ w_in_java_lang_IndexOutOfBoundsException) hsa (xh_1 hts hO.2.2.1) xg_1 hO hw hl.1 hml dX5_order_9 dX5_order_12 dX5_order_13 dX5_order_15 dX5_order_18 hexn (Nat.le_of_ble_eq_true rfl) (Nat.le_of_ble_eq_true rfl) (Nat.le_of_ble_eq_true rfl) (Nat.le_of_ble_eq_true rfl) hlocks (by rw [hE]; exact kE_1) (Nat.le_of_ble_eq_true rfl) (Nat.le_of_ble_eq_true rfl)

abbrev bw_X5_session : List Cond := .code yX5_session cX5_session 5 (some .int) :: BIG
abbrev rm_X5_session : Room := { frames := 6, cells := 2, slots := 12, locals := 135 }
noncomputable def rw_X5_session (S : (Nat → Nat → Nat → Int32)) (p1 : Int32) (p2 : Int32) (p3 : Int32) : Nat × Int32 × (Nat → Nat → Nat → Int32) := if p1 < 0 then ((1, 0, S)) else (if p1 < S 1 0 0 then (if S 7 0 p1.toNatClampNeg = 2 then (if sp_X5_isAhead S p2 = 0 then ((2, 0, S)) else (if sp_X5_isWithin p3 1 9 = 0 then ((2, 0, S)) else (if (sp_X4_addSession S p1 p2 p3).1 = (-1) then ((3, 0, S)) else ((0, (sp_X4_addSession S p1 p2 p3).1, (sp_X5_bookAll ((sp_X4_addSession S p1 p2 p3).2))))))) else ((2, 0, S))) else ((1, 0, S)))
/-- sealed: it unfolds by un_ alone -/
noncomputable def sp_X5_session : (Nat → Nat → Nat → Int32) → Int32 → Int32 → Int32 → (Nat × Int32 × (Nat → Nat → Nat → Int32)) := Classical.choose (⟨rw_X5_session, rfl⟩ : ∃ f, f = rw_X5_session)
theorem un_X5_session (S : (Nat → Nat → Nat → Int32)) (p1 : Int32) (p2 : Int32) (p3 : Int32) : sp_X5_session S p1 p2 p3 = rw_X5_session S p1 p2 p3 := (congrFun (congrFun (congrFun (congrFun (Classical.choose_spec (⟨rw_X5_session, rfl⟩ : ∃ f, f = rw_X5_session)) S) p1) p2) p3)
set_option maxHeartbeats 1000000 in
set_option maxRecDepth 100000 in
theorem ct_X5_session {l : Launch} {D : va_G} {cI cG cJ cO : ClassId} {K0 : Nat → Nat} {A : Nat → Prop} {L : List (Nat × Nat)} {ad : Nat → Nat → Nat} {ce : Nat → Nat → va_E} (hL : ∀ f o, cid f o = true → (f, o) ∈ L) (S : (Nat → Nat → Nat → Int32)) (hI : CI S) (p1 : Int32) (p2 : Int32) (p3 : Int32) (hst : l.stackTraces = false) (sz : Nat) (hA : ∀ q, sz ≤ q → A q) : vx_Met l yX5_session bw_X5_session rm_X5_session (kP D (ktys cI cG cJ cO) K0 A L ad (cK cI cJ ad ce S) sz [.ref (ad 0 0), .int p1, .int p2, .int p3]) (va_Qi (fun (r : Int32) (_ : Unit) => r = (sp_X5_session S p1 p2 p3).2.1 ∧ (sp_X5_session S p1 p2 p3).1 = 0) (fun _ t => WE D A L ad (cK cI cJ ad ce ((sp_X5_session S p1 p2 p3).2.2)) t) A) (vx_X (fun (_ : Unit) => True) (fun E _ t => kE E (sp_X5_session S p1 p2 p3).1 ∧ WE D A L ad (cK cI cJ ad ce S) t) A) 2 12 A := by
  refine vx_ofW (cc := cX5_session) (maxL := 5) (ret := (some .int)) (by decide) rfl ?_
  intro p e s m args below meth c s₁ B hml hexn hv
  obtain ⟨hav, hsz, hP, hD, hK, hO⟩ := hv
  have hx := B.exec
  have hb := B.bytes
  have hr := B.returns
  have hts : ∀ w ∈ BIG, w.before args s = true := fun w h => atoms_spec (ws := bw_X5_session) B.pre w (List.mem_cons_of_mem _ h)
  have hown : s.vm.findClass RX5 = some m.cls := findClass_of_methodNamed B.named
  have hlocks := B.notSynchronized
  subst hsz
  have hw := wk.start hP hD
  refine k_start (by rfl) hav (Nat.le_of_ble_eq_true rfl) (fun ls hl => ?_)
  have hl : lv_has ls 5 [(0, .ref (ad 0 0)), (1, .int p1), (2, .int p2), (3, .int p3)] := hl
  have hE : sp_X5_session S p1 p2 p3 = rw_X5_session S p1 p2 p3 := un_X5_session S p1 p2 p3
  refine lv_iload_n hx hb dX5_session_0 rfl (lv_at hl 1 rfl) ?_
  refine lv_if_lt (tgt := 15) hx hb dX5_session_1 (by decide) (fun c_1 => ?_) (fun c_1 => ?_)
  · have hE := hE.trans (if_pos c_1)
    obtain ⟨sa, hsa⟩ := hO.2.1 (RX5, 124, "no such STEP") (by decide +kernel)
    exact k_throw hx hb hst hown (by decide +kernel) (by decide +kernel) (hts _ w_cl_X5_74) (hts _ w_in_java_lang_IndexOutOfBoundsException) hsa (xh_1 hts hO.2.2.1) xg_1 hO hw hl.1 hml dX5_session_15 dX5_session_18 dX5_session_19 dX5_session_21 dX5_session_24 hexn (Nat.le_of_ble_eq_true rfl) (Nat.le_of_ble_eq_true rfl) (Nat.le_of_ble_eq_true rfl) (Nat.le_of_ble_eq_true rfl) hlocks (by rw [hE]; exact kE_1) (Nat.le_of_ble_eq_true rfl) (Nat.le_of_ble_eq_true rfl)
  · have hE := hE.trans (if_neg c_1)
    refine lv_iload_n hx hb dX5_session_4 rfl (lv_at hl 1 rfl) ?_
    refine lv_aload_n hx hb dX5_session_5 rfl (lv_at hl 0 rfl) ?_
    refine k_get (C := RX5) (T := TX5) (N := 7) (v := .ref (ad 1 0)) hx hb hts inB_X5 hown hK hw (hL 0 0 rfl) cke_0 rfl 0 (by decide) (hts _ w_f_X5_10) (fun _ h9 => h9) rfl dX5_session_6 ?_
    refine k_get (C := RX2) (T := TX2) (N := 8) (v := .int (S 1 0 0)) hx hb hts inB_X2 hown hK hw (hL 1 0 rfl) cke_1 rfl 6 (by decide) (hts _ w_f_X5_120) (fun _ h9 => h9) rfl dX5_session_9 ?_
    refine lv_icmp_lt (tgt := 25) hx hb dX5_session_12 (by decide) (fun c_2 => ?_) (fun c_2 => ?_)
    · have hE := hE.trans (if_pos c_2)
      refine lv_aload_n hx hb dX5_session_25 rfl (lv_at hl 0 rfl) ?_
      refine k_get (C := RX5) (T := TX5) (N := 7) (v := .ref (ad 1 0)) hx hb hts inB_X5 hown hK hw (hL 0 0 rfl) cke_0 rfl 0 (by decide) (hts _ w_f_X5_10) (fun _ h9 => h9) rfl dX5_session_26 ?_
      refine k_get (C := RX2) (T := TX2) (N := 8) (v := .ref (ad 7 0)) hx hb hts inB_X2 hown hK hw (hL 1 0 rfl) cke_1 rfl 0 (by decide) (hts _ w_f_X5_126) (fun _ h9 => h9) rfl dX5_session_29 ?_
      refine lv_iload_n hx hb dX5_session_32 rfl (lv_at hl 1 rfl) ?_
      refine k_ald hx hb hK hw (hL 7 0 rfl) 0 cke_7 rfl (k_in' c_1 c_2 (CI.le1 hI (by decide))) dX5_session_33 ?_
      refine lv_iconst (v := 2) hx hb dX5_session_34 (by decide) ?_
      refine lv_icmp_ne (tgt := 56) hx hb dX5_session_35 (by decide) (fun c_3 => ?_) (fun c_3 => ?_)
      · have hE := hE.trans (if_neg c_3)
        obtain ⟨sa, hsa⟩ := hO.2.1 (RX5, 129, "no SESSION can be so") (by decide +kernel)
        exact k_throw hx hb hst hown (by decide +kernel) (by decide +kernel) (hts _ w_cl_X5_58) (hts _ w_in_java_lang_IllegalArgumentException) hsa (xh_2 hts hO.2.2.1) xg_2 hO hw hl.1 hml dX5_session_56 dX5_session_59 dX5_session_60 dX5_session_62 dX5_session_65 hexn (Nat.le_of_ble_eq_true rfl) (Nat.le_of_ble_eq_true rfl) (Nat.le_of_ble_eq_true rfl) (Nat.le_of_ble_eq_true rfl) hlocks (by rw [hE]; exact kE_2) (Nat.le_of_ble_eq_true rfl) (Nat.le_of_ble_eq_true rfl)
      · have hE := hE.trans (if_pos c_3)
        refine lv_aload_n hx hb dX5_session_38 rfl (lv_at hl 0 rfl) ?_
        refine lv_iload_n hx hb dX5_session_39 rfl (lv_at hl 2 rfl) ?_
        refine k_ci0 hw (k_rV (As := [.int p2]) (rest := []) ⟨hx, hb, hml, hown, hts⟩ hK hO hw (ct_X5_isAhead hL S (SF.ci (SF.rf _) hI) p2 _ (wk.hA hw hA)) (cwV 1 hts (gB_V w_ml_X5_102 w_im_X5_isAhead w_se_X5_isAhead w_in_X5 w_co_X5_isAhead) rfl rfl rfl (by decide +kernel) ⟨by decide, by decide⟩) (hL 0 0 rfl) cke_0 rfl rfl hl.1 rfl (Nat.le_of_ble_eq_true rfl) dX5_session_40 ⟨Nat.le_of_ble_eq_true rfl, Nat.le_of_ble_eq_true rfl⟩) (fun H locs hw => ?_)
        refine lv_if_eq (tgt := 56) hx hb dX5_session_43 (by decide) (fun c_4 => ?_) (fun c_4 => ?_)
        · have hE := hE.trans (if_pos c_4)
          obtain ⟨sa, hsa⟩ := hO.2.1 (RX5, 129, "no SESSION can be so") (by decide +kernel)
          exact k_throw hx hb hst hown (by decide +kernel) (by decide +kernel) (hts _ w_cl_X5_58) (hts _ w_in_java_lang_IllegalArgumentException) hsa (xh_2 hts hO.2.2.1) xg_2 hO hw hl.1 hml dX5_session_56 dX5_session_59 dX5_session_60 dX5_session_62 dX5_session_65 hexn (Nat.le_of_ble_eq_true rfl) (Nat.le_of_ble_eq_true rfl) (Nat.le_of_ble_eq_true rfl) (Nat.le_of_ble_eq_true rfl) hlocks (by rw [hE]; exact kE_2) (Nat.le_of_ble_eq_true rfl) (Nat.le_of_ble_eq_true rfl)
        · have hE := hE.trans (if_neg c_4)
          refine lv_iload_n hx hb dX5_session_46 rfl (lv_at hl 3 rfl) ?_
          refine lv_iconst (v := 1) hx hb dX5_session_47 (by decide) ?_
          refine lv_bipush (v := 9) hx hb dX5_session_48 (by decide) ?_
          refine k_ci0 hw (k_rS (As := [.int p3, .int 1, .int 9]) (rest := []) ⟨hx, hb, hml, hown, hts⟩ hK hO hw (ct_X5_isWithin p3 1 9 _ (wk.hA hw hA)) (va_cwS 3 hts (gB_S w_ml_X5_46 w_st_X5_isWithin w_in_X5 w_co_X5_isWithin) rfl rfl rfl (by decide +kernel) ⟨by decide, by decide⟩) rfl hl.1 rfl (Nat.le_of_ble_eq_true rfl) dX5_session_50 ⟨Nat.le_of_ble_eq_true rfl, Nat.le_of_ble_eq_true rfl⟩) (fun H locs hw => ?_)
          refine lv_if_ne (tgt := 66) hx hb dX5_session_53 (by decide) (fun c_5 => ?_) (fun c_5 => ?_)
          · have hE := hE.trans (if_neg c_5)
            refine lv_aload_n hx hb dX5_session_66 rfl (lv_at hl 0 rfl) ?_
            refine k_get (C := RX5) (T := TX5) (N := 7) (v := .ref (ad 3 0)) hx hb hts inB_X5 hown hK hw (hL 0 0 rfl) cke_0 rfl 2 (by decide) (hts _ w_f_X5_26) (fun _ h9 => h9) rfl dX5_session_67 ?_
            refine lv_iload_n hx hb dX5_session_70 rfl (lv_at hl 1 rfl) ?_
            refine lv_iload_n hx hb dX5_session_71 rfl (lv_at hl 2 rfl) ?_
            refine lv_iload_n hx hb dX5_session_72 rfl (lv_at hl 3 rfl) ?_
            refine k_ci0 hw (k_rV (As := [.int p1, .int p2, .int p3]) (rest := []) ⟨hx, hb, hml, hown, hts⟩ hK hO hw (ct_X4_addSession hL S (SF.ci (SF.rf _) hI) p1 p2 p3 _ (wk.hA hw hA)) (cwV 3 hts (gB_V w_ml_X5_131 w_im_X4_addSession w_se_X4_addSession w_in_X4 w_co_X4_addSession) rfl rfl rfl (by decide +kernel) ⟨by decide, by decide⟩) (hL 3 0 rfl) cke_3 rfl rfl hl.1 rfl (Nat.le_of_ble_eq_true rfl) dX5_session_73 ⟨Nat.le_of_ble_eq_true rfl, Nat.le_of_ble_eq_true rfl⟩) (fun H locs hw => ?_)
            refine lv_istore (lv' := [(4, .int ((sp_X4_addSession S p1 p2 p3).1)), (0, .ref (ad 0 0)), (1, .int p1), (2, .int p2), (3, .int p3)]) hx hb dX5_session_76 hl (by decide) rfl (fun ls hl => ?_)
            refine lv_iload hx hb dX5_session_78 (lv_at hl 0 rfl) ?_
            refine lv_iconst (v := (-1)) hx hb dX5_session_80 (by decide) ?_
            refine lv_icmp_ne (tgt := 94) hx hb dX5_session_81 (by decide) (fun c_6 => ?_) (fun c_6 => ?_)
            · have hE := hE.trans (if_neg c_6)
              refine lv_aload_n hx hb dX5_session_94 rfl (lv_at hl 1 rfl) ?_
              refine k_cv0 hw (k_rV (As := []) (rest := []) ⟨hx, hb, hml, hown, hts⟩ hK hO hw (ct_X5_bookAll hL ((sp_X4_addSession S p1 p2 p3).2) (SF.ci (SF.rf _) (ci_X4_addSession S p1 p2 p3 (SF.ci (SF.rf _) hI))) _ (wk.hA hw hA)) (cwV 0 hts (gB_V w_ml_X5_136 w_im_X5_bookAll w_se_X5_bookAll w_in_X5 w_co_X5_bookAll) rfl rfl rfl (by decide +kernel) ⟨by decide, by decide⟩) (hL 0 0 rfl) cke_0 rfl rfl hl.1 rfl (Nat.le_of_ble_eq_true rfl) dX5_session_95 ⟨Nat.le_of_ble_eq_true rfl, Nat.le_of_ble_eq_true rfl⟩) (fun H locs hw => ?_)
              refine lv_iload hx hb dX5_session_98 (lv_at hl 0 rfl) ?_
              exact x_iretE hx hb hr hlocks rfl hw hE (Nat.le_of_ble_eq_true rfl) (Nat.le_of_ble_eq_true rfl) dX5_session_100
            · have hE := hE.trans (if_pos c_6)
              rw [ns_X4_addSession hI c_6] at hw
              obtain ⟨sa, hsa⟩ := hO.2.1 (RX5, 134, "there are all SESSIONS that can be") (by decide +kernel)
              exact k_throw hx hb hst hown (by decide +kernel) (by decide +kernel) (hts _ w_cl_X5_69) (hts _ w_in_java_lang_IllegalStateException) hsa (xh_3 hts hO.2.2.1) xg_3 hO hw hl.1 hml dX5_session_84 dX5_session_87 dX5_session_88 dX5_session_90 dX5_session_93 hexn (Nat.le_of_ble_eq_true rfl) (Nat.le_of_ble_eq_true rfl) (Nat.le_of_ble_eq_true rfl) (Nat.le_of_ble_eq_true rfl) hlocks (by rw [hE]; exact kE_3) (Nat.le_of_ble_eq_true rfl) (Nat.le_of_ble_eq_true rfl)
          · have hE := hE.trans (if_pos c_5)
            obtain ⟨sa, hsa⟩ := hO.2.1 (RX5, 129, "no SESSION can be so") (by decide +kernel)
            exact k_throw hx hb hst hown (by decide +kernel) (by decide +kernel) (hts _ w_cl_X5_58) (hts _ w_in_java_lang_IllegalArgumentException) hsa (xh_2 hts hO.2.2.1) xg_2 hO hw hl.1 hml dX5_session_56 dX5_session_59 dX5_session_60 dX5_session_62 dX5_session_65 hexn (Nat.le_of_ble_eq_true rfl) (Nat.le_of_ble_eq_true rfl) (Nat.le_of_ble_eq_true rfl) (Nat.le_of_ble_eq_true rfl) hlocks (by rw [hE]; exact kE_2) (Nat.le_of_ble_eq_true rfl) (Nat.le_of_ble_eq_true rfl)
    · have hE := hE.trans (if_neg c_2)
      obtain ⟨sa, hsa⟩ := hO.2.1 (RX5, 124, "no such STEP") (by decide +kernel)
      exact k_throw hx hb hst hown (by decide +kernel) (by decide +kernel) (hts _ w_cl_X5_74) (hts _ w_in_java_lang_IndexOutOfBoundsException) hsa (xh_1 hts hO.2.2.1) xg_1 hO hw hl.1 hml dX5_session_15 dX5_session_18 dX5_session_19 dX5_session_21 dX5_session_24 hexn (Nat.le_of_ble_eq_true rfl) (Nat.le_of_ble_eq_true rfl) (Nat.le_of_ble_eq_true rfl) (Nat.le_of_ble_eq_true rfl) hlocks (by rw [hE]; exact kE_1) (Nat.le_of_ble_eq_true rfl) (Nat.le_of_ble_eq_true rfl)

abbrev bw_X5_ofSession : List Cond := .code yX5_ofSession cX5_ofSession 3 (some .int) :: BIG
abbrev rm_X5_ofSession : Room := { frames := 6, cells := 2, slots := 12, locals := 90 }
noncomputable def sp_X5_ofSession (S : (Nat → Nat → Nat → Int32)) (p1 : Int32) (p2 : Int32) : Nat × Int32 := if p1 < 0 then ((1, 0)) else (if p1 < S 3 0 0 then (if sp_X5_isWithin p2 0 3 = 0 then ((2, 0)) else (if p2 = 0 then ((0, S 17 0 p1.toNatClampNeg)) else (if p2 = 1 then ((0, S 18 0 p1.toNatClampNeg)) else (if p2 = 2 then ((0, S 19 0 p1.toNatClampNeg)) else ((0, S 20 0 p1.toNatClampNeg)))))) else ((1, 0)))
set_option maxHeartbeats 1000000 in
set_option maxRecDepth 100000 in
theorem ct_X5_ofSession {l : Launch} {D : va_G} {cI cG cJ cO : ClassId} {K0 : Nat → Nat} {A : Nat → Prop} {L : List (Nat × Nat)} {ad : Nat → Nat → Nat} {ce : Nat → Nat → va_E} (hL : ∀ f o, cid f o = true → (f, o) ∈ L) (S : (Nat → Nat → Nat → Int32)) (hI : CI S) (p1 : Int32) (p2 : Int32) (hst : l.stackTraces = false) (sz : Nat) (hA : ∀ q, sz ≤ q → A q) : vx_Met l yX5_ofSession bw_X5_ofSession rm_X5_ofSession (kP D (ktys cI cG cJ cO) K0 A L ad (cK cI cJ ad ce S) sz [.ref (ad 0 0), .int p1, .int p2]) (va_Qi (fun (r : Int32) (_ : Unit) => r = (sp_X5_ofSession S p1 p2).2 ∧ (sp_X5_ofSession S p1 p2).1 = 0) (fun _ t => WE D A L ad (cK cI cJ ad ce S) t) A) (vx_X (fun (_ : Unit) => True) (fun E _ t => kE E (sp_X5_ofSession S p1 p2).1 ∧ WE D A L ad (cK cI cJ ad ce S) t) A) 2 12 A := by
  refine vx_ofW (cc := cX5_ofSession) (maxL := 3) (ret := (some .int)) (by decide) rfl ?_
  intro p e s m args below meth c s₁ B hml hexn hv
  obtain ⟨hav, hsz, hP, hD, hK, hO⟩ := hv
  have hx := B.exec
  have hb := B.bytes
  have hr := B.returns
  have hts : ∀ w ∈ BIG, w.before args s = true := fun w h => atoms_spec (ws := bw_X5_ofSession) B.pre w (List.mem_cons_of_mem _ h)
  have hown : s.vm.findClass RX5 = some m.cls := findClass_of_methodNamed B.named
  have hlocks := B.notSynchronized
  subst hsz
  have hw := wk.start hP hD
  refine k_start (by rfl) hav (Nat.le_of_ble_eq_true rfl) (fun ls hl => ?_)
  have hl : lv_has ls 3 [(0, .ref (ad 0 0)), (1, .int p1), (2, .int p2)] := hl
  have hE : sp_X5_ofSession S p1 p2 = sp_X5_ofSession S p1 p2 := rfl
  refine lv_iload_n hx hb dX5_ofSession_0 rfl (lv_at hl 1 rfl) ?_
  refine lv_if_lt (tgt := 15) hx hb dX5_ofSession_1 (by decide) (fun c_1 => ?_) (fun c_1 => ?_)
  · have hE := hE.trans (if_pos c_1)
    obtain ⟨sa, hsa⟩ := hO.2.1 (RX5, 142, "no such SESSION") (by decide +kernel)
    exact k_throw hx hb hst hown (by decide +kernel) (by decide +kernel) (hts _ w_cl_X5_74) (hts _ w_in_java_lang_IndexOutOfBoundsException) hsa (xh_1 hts hO.2.2.1) xg_1 hO hw hl.1 hml dX5_ofSession_15 dX5_ofSession_18 dX5_ofSession_19 dX5_ofSession_21 dX5_ofSession_24 hexn (Nat.le_of_ble_eq_true rfl) (Nat.le_of_ble_eq_true rfl) (Nat.le_of_ble_eq_true rfl) (Nat.le_of_ble_eq_true rfl) hlocks (by rw [hE]; exact kE_1) (Nat.le_of_ble_eq_true rfl) (Nat.le_of_ble_eq_true rfl)
  · have hE := hE.trans (if_neg c_1)
    refine lv_iload_n hx hb dX5_ofSession_4 rfl (lv_at hl 1 rfl) ?_
    refine lv_aload_n hx hb dX5_ofSession_5 rfl (lv_at hl 0 rfl) ?_
    refine k_get (C := RX5) (T := TX5) (N := 7) (v := .ref (ad 3 0)) hx hb hts inB_X5 hown hK hw (hL 0 0 rfl) cke_0 rfl 2 (by decide) (hts _ w_f_X5_26) (fun _ h9 => h9) rfl dX5_ofSession_6 ?_
    refine k_get (C := RX4) (T := TX4) (N := 5) (v := .int (S 3 0 0)) hx hb hts inB_X4 hown hK hw (hL 3 0 rfl) cke_3 rfl 4 (by decide) (hts _ w_f_X5_139) (fun _ h9 => h9) rfl dX5_ofSession_9 ?_
    refine lv_icmp_lt (tgt := 25) hx hb dX5_ofSession_12 (by decide) (fun c_2 => ?_) (fun c_2 => ?_)
    · have hE := hE.trans (if_pos c_2)
      refine lv_iload_n hx hb dX5_ofSession_25 rfl (lv_at hl 2 rfl) ?_
      refine lv_iconst (v := 0) hx hb dX5_ofSession_26 (by decide) ?_
      refine lv_iconst (v := 3) hx hb dX5_ofSession_27 (by decide) ?_
      refine k_ci0 hw (k_rS (As := [.int p2, .int 0, .int 3]) (rest := []) ⟨hx, hb, hml, hown, hts⟩ hK hO hw (ct_X5_isWithin p2 0 3 _ (wk.hA hw hA)) (va_cwS 3 hts (gB_S w_ml_X5_46 w_st_X5_isWithin w_in_X5 w_co_X5_isWithin) rfl rfl rfl (by decide +kernel) ⟨by decide, by decide⟩) rfl hl.1 rfl (Nat.le_of_ble_eq_true rfl) dX5_ofSession_28 ⟨Nat.le_of_ble_eq_true rfl, Nat.le_of_ble_eq_true rfl⟩) (fun H locs hw => ?_)
      refine lv_if_ne (tgt := 44) hx hb dX5_ofSession_31 (by decide) (fun c_3 => ?_) (fun c_3 => ?_)
      · have hE := hE.trans (if_neg c_3)
        refine lv_iload_n hx hb dX5_ofSession_44 rfl (lv_at hl 2 rfl) ?_
        by_cases c_6 : p2 = 0
        · have hE := hE.trans (if_pos c_6)
          refine lv_tableIn (off := 27) (tgt := 72) hx hb dX5_ofSession_45 (by rw [c_6]; decide) (by rw [c_6]; decide) (by rw [c_6]; rfl) (by decide) ?_
          refine lv_aload_n hx hb dX5_ofSession_72 rfl (lv_at hl 0 rfl) ?_
          refine k_get (C := RX5) (T := TX5) (N := 7) (v := .ref (ad 3 0)) hx hb hts inB_X5 hown hK hw (hL 0 0 rfl) cke_0 rfl 2 (by decide) (hts _ w_f_X5_26) (fun _ h9 => h9) rfl dX5_ofSession_73 ?_
          refine k_get (C := RX4) (T := TX4) (N := 5) (v := .ref (ad 17 0)) hx hb hts inB_X4 hown hK hw (hL 3 0 rfl) cke_3 rfl 0 (by decide) (hts _ w_f_X5_146) (fun _ h9 => h9) rfl dX5_ofSession_76 ?_
          refine lv_iload_n hx hb dX5_ofSession_79 rfl (lv_at hl 1 rfl) ?_
          refine k_ald hx hb hK hw (hL 17 0 rfl) 0 cke_17 rfl (k_in' c_1 c_2 (CI.le4 hI (by decide))) dX5_ofSession_80 ?_
          exact x_iretP hx hb hr hlocks rfl hw hE (Nat.le_of_ble_eq_true rfl) (Nat.le_of_ble_eq_true rfl) dX5_ofSession_81
        · have hE := hE.trans (if_neg c_6)
          by_cases c_7 : p2 = 1
          · have hE := hE.trans (if_pos c_7)
            refine lv_tableIn (off := 37) (tgt := 82) hx hb dX5_ofSession_45 (by rw [c_7]; decide) (by rw [c_7]; decide) (by rw [c_7]; rfl) (by decide) ?_
            refine lv_aload_n hx hb dX5_ofSession_82 rfl (lv_at hl 0 rfl) ?_
            refine k_get (C := RX5) (T := TX5) (N := 7) (v := .ref (ad 3 0)) hx hb hts inB_X5 hown hK hw (hL 0 0 rfl) cke_0 rfl 2 (by decide) (hts _ w_f_X5_26) (fun _ h9 => h9) rfl dX5_ofSession_83 ?_
            refine k_get (C := RX4) (T := TX4) (N := 5) (v := .ref (ad 18 0)) hx hb hts inB_X4 hown hK hw (hL 3 0 rfl) cke_3 rfl 1 (by decide) (hts _ w_f_X5_149) (fun _ h9 => h9) rfl dX5_ofSession_86 ?_
            refine lv_iload_n hx hb dX5_ofSession_89 rfl (lv_at hl 1 rfl) ?_
            refine k_ald hx hb hK hw (hL 18 0 rfl) 0 cke_18 rfl (k_in' c_1 c_2 (CI.le4 hI (by decide))) dX5_ofSession_90 ?_
            exact x_iretP hx hb hr hlocks rfl hw hE (Nat.le_of_ble_eq_true rfl) (Nat.le_of_ble_eq_true rfl) dX5_ofSession_91
          · have hE := hE.trans (if_neg c_7)
            by_cases c_8 : p2 = 2
            · have hE := hE.trans (if_pos c_8)
              refine lv_tableIn (off := 47) (tgt := 92) hx hb dX5_ofSession_45 (by rw [c_8]; decide) (by rw [c_8]; decide) (by rw [c_8]; rfl) (by decide) ?_
              refine lv_aload_n hx hb dX5_ofSession_92 rfl (lv_at hl 0 rfl) ?_
              refine k_get (C := RX5) (T := TX5) (N := 7) (v := .ref (ad 3 0)) hx hb hts inB_X5 hown hK hw (hL 0 0 rfl) cke_0 rfl 2 (by decide) (hts _ w_f_X5_26) (fun _ h9 => h9) rfl dX5_ofSession_93 ?_
              refine k_get (C := RX4) (T := TX4) (N := 5) (v := .ref (ad 19 0)) hx hb hts inB_X4 hown hK hw (hL 3 0 rfl) cke_3 rfl 2 (by decide) (hts _ w_f_X5_152) (fun _ h9 => h9) rfl dX5_ofSession_96 ?_
              refine lv_iload_n hx hb dX5_ofSession_99 rfl (lv_at hl 1 rfl) ?_
              refine k_ald hx hb hK hw (hL 19 0 rfl) 0 cke_19 rfl (k_in' c_1 c_2 (CI.le4 hI (by decide))) dX5_ofSession_100 ?_
              exact x_iretP hx hb hr hlocks rfl hw hE (Nat.le_of_ble_eq_true rfl) (Nat.le_of_ble_eq_true rfl) dX5_ofSession_101
            · have hE := hE.trans (if_neg c_8)
              refine lv_tableOut (tgt := 102) hx hb dX5_ofSession_45 (sw_out3 c_6 c_7 c_8) (by decide) ?_
              refine lv_aload_n hx hb dX5_ofSession_102 rfl (lv_at hl 0 rfl) ?_
              refine k_get (C := RX5) (T := TX5) (N := 7) (v := .ref (ad 3 0)) hx hb hts inB_X5 hown hK hw (hL 0 0 rfl) cke_0 rfl 2 (by decide) (hts _ w_f_X5_26) (fun _ h9 => h9) rfl dX5_ofSession_103 ?_
              refine k_get (C := RX4) (T := TX4) (N := 5) (v := .ref (ad 20 0)) hx hb hts inB_X4 hown hK hw (hL 3 0 rfl) cke_3 rfl 3 (by decide) (hts _ w_f_X5_155) (fun _ h9 => h9) rfl dX5_ofSession_106 ?_
              refine lv_iload_n hx hb dX5_ofSession_109 rfl (lv_at hl 1 rfl) ?_
              refine k_ald hx hb hK hw (hL 20 0 rfl) 0 cke_20 rfl (k_in' c_1 c_2 (CI.le4 hI (by decide))) dX5_ofSession_110 ?_
              exact x_iretP hx hb hr hlocks rfl hw hE (Nat.le_of_ble_eq_true rfl) (Nat.le_of_ble_eq_true rfl) dX5_ofSession_111
      · have hE := hE.trans (if_pos c_3)
        obtain ⟨sa, hsa⟩ := hO.2.1 (RX5, 144, "nothing of a SESSION is told so") (by decide +kernel)
        exact k_throw hx hb hst hown (by decide +kernel) (by decide +kernel) (hts _ w_cl_X5_58) (hts _ w_in_java_lang_IllegalArgumentException) hsa (xh_2 hts hO.2.2.1) xg_2 hO hw hl.1 hml dX5_ofSession_34 dX5_ofSession_37 dX5_ofSession_38 dX5_ofSession_40 dX5_ofSession_43 hexn (Nat.le_of_ble_eq_true rfl) (Nat.le_of_ble_eq_true rfl) (Nat.le_of_ble_eq_true rfl) (Nat.le_of_ble_eq_true rfl) hlocks (by rw [hE]; exact kE_2) (Nat.le_of_ble_eq_true rfl) (Nat.le_of_ble_eq_true rfl)
    · have hE := hE.trans (if_neg c_2)
      obtain ⟨sa, hsa⟩ := hO.2.1 (RX5, 142, "no such SESSION") (by decide +kernel)
      exact k_throw hx hb hst hown (by decide +kernel) (by decide +kernel) (hts _ w_cl_X5_74) (hts _ w_in_java_lang_IndexOutOfBoundsException) hsa (xh_1 hts hO.2.2.1) xg_1 hO hw hl.1 hml dX5_ofSession_15 dX5_ofSession_18 dX5_ofSession_19 dX5_ofSession_21 dX5_ofSession_24 hexn (Nat.le_of_ble_eq_true rfl) (Nat.le_of_ble_eq_true rfl) (Nat.le_of_ble_eq_true rfl) (Nat.le_of_ble_eq_true rfl) hlocks (by rw [hE]; exact kE_1) (Nat.le_of_ble_eq_true rfl) (Nat.le_of_ble_eq_true rfl)

abbrev rm_X5_ofSession_n : Room := { frames := 1, cells := 0, slots := 0, locals := 22 }
noncomputable def sp_X5_ofSession_n (S : (Nat → Nat → Nat → Int32)) (p1 : Int32) (p2 : Int32) : Int32 := if p2 = 0 then (S 17 0 p1.toNatClampNeg) else (if p2 = 1 then (S 18 0 p1.toNatClampNeg) else (if p2 = 2 then (S 19 0 p1.toNatClampNeg) else (S 20 0 p1.toNatClampNeg)))
set_option maxHeartbeats 1000000 in
set_option maxRecDepth 100000 in
theorem ct_X5_ofSession_n {l : Launch} {D : va_G} {cI cG cJ cO : ClassId} {K0 : Nat → Nat} {A : Nat → Prop} {L : List (Nat × Nat)} {ad : Nat → Nat → Nat} {ce : Nat → Nat → va_E} (hL : ∀ f o, cid f o = true → (f, o) ∈ L) (S : (Nat → Nat → Nat → Int32)) (hI : CI S) (p1 : Int32) (p2 : Int32) (h0 : ¬ p1 < 0) (h1 : p1 < S 3 0 0) (hv : ¬ sp_X5_isWithin p2 0 3 = 0) (sz : Nat) (hA : ∀ q, sz ≤ q → A q) : Met l yX5_ofSession bw_X5_ofSession rm_X5_ofSession_n (kP D (ktys cI cG cJ cO) K0 A L ad (cK cI cJ ad ce S) sz [.ref (ad 0 0), .int p1, .int p2]) (kQi D A (sp_X5_ofSession_n S p1 p2) L ad (cK cI cJ ad ce S)) 0 0 A := by
  refine Met.ofW (cc := cX5_ofSession) (maxL := 3) (ret := (some .int)) (by decide) rfl ?_
  intro p e s m args below meth c s₁ B hml hv
  obtain ⟨hav, hsz, hP, hD, hK, hO⟩ := hv
  have hx := B.exec
  have hb := B.bytes
  have hr := B.returns
  have hts : ∀ w ∈ BIG, w.before args s = true := fun w h => atoms_spec (ws := bw_X5_ofSession) B.pre w (List.mem_cons_of_mem _ h)
  have hown : s.vm.findClass RX5 = some m.cls := findClass_of_methodNamed B.named
  have hlocks := B.notSynchronized
  subst hsz
  have hw := wk.start hP hD
  refine k_start (by rfl) hav (Nat.le_of_ble_eq_true rfl) (fun ls hl => ?_)
  have hl : lv_has ls 3 [(0, .ref (ad 0 0)), (1, .int p1), (2, .int p2)] := hl
  have hE : sp_X5_ofSession_n S p1 p2 = sp_X5_ofSession_n S p1 p2 := rfl
  refine lv_iload_n hx hb dX5_ofSession_0 rfl (lv_at hl 1 rfl) ?_
  refine lv_if_lt (tgt := 15) hx hb dX5_ofSession_1 (by decide) (fun h => absurd h h0) (fun _ => ?_)
  refine lv_iload_n hx hb dX5_ofSession_4 rfl (lv_at hl 1 rfl) ?_
  refine lv_aload_n hx hb dX5_ofSession_5 rfl (lv_at hl 0 rfl) ?_
  refine k_get (C := RX5) (T := TX5) (N := 7) (v := .ref (ad 3 0)) hx hb hts inB_X5 hown hK hw (hL 0 0 rfl) cke_0 rfl 2 (by decide) (hts _ w_f_X5_26) (fun _ h9 => h9) rfl dX5_ofSession_6 ?_
  refine k_get (C := RX4) (T := TX4) (N := 5) (v := .int (S 3 0 0)) hx hb hts inB_X4 hown hK hw (hL 3 0 rfl) cke_3 rfl 4 (by decide) (hts _ w_f_X5_139) (fun _ h9 => h9) rfl dX5_ofSession_9 ?_
  refine lv_icmp_lt (tgt := 25) hx hb dX5_ofSession_12 (by decide) (fun _ => ?_) (fun h => absurd h1 h)
  refine lv_iload_n hx hb dX5_ofSession_25 rfl (lv_at hl 2 rfl) ?_
  refine lv_iconst (v := 0) hx hb dX5_ofSession_26 (by decide) ?_
  refine lv_iconst (v := 3) hx hb dX5_ofSession_27 (by decide) ?_
  refine k_ci0 hw (k_rS (As := [.int p2, .int 0, .int 3]) (rest := []) ⟨hx, hb, hml, hown, hts⟩ hK hO hw (ct_X5_isWithin p2 0 3 _ (wk.hA hw hA)) (va_cwS 3 hts (gB_S w_ml_X5_46 w_st_X5_isWithin w_in_X5 w_co_X5_isWithin) rfl rfl rfl (by decide +kernel) ⟨by decide, by decide⟩) rfl hl.1 rfl (Nat.le_of_ble_eq_true rfl) dX5_ofSession_28 ⟨Nat.le_of_ble_eq_true rfl, Nat.le_of_ble_eq_true rfl⟩) (fun H locs hw => ?_)
  refine lv_if_ne (tgt := 44) hx hb dX5_ofSession_31 (by decide) (fun _ => ?_) (fun h => absurd h hv)
  refine lv_iload_n hx hb dX5_ofSession_44 rfl (lv_at hl 2 rfl) ?_
  by_cases c_3 : p2 = 0
  · have hE := hE.trans (if_pos c_3)
    refine lv_tableIn (off := 27) (tgt := 72) hx hb dX5_ofSession_45 (by rw [c_3]; decide) (by rw [c_3]; decide) (by rw [c_3]; rfl) (by decide) ?_
    refine lv_aload_n hx hb dX5_ofSession_72 rfl (lv_at hl 0 rfl) ?_
    refine k_get (C := RX5) (T := TX5) (N := 7) (v := .ref (ad 3 0)) hx hb hts inB_X5 hown hK hw (hL 0 0 rfl) cke_0 rfl 2 (by decide) (hts _ w_f_X5_26) (fun _ h9 => h9) rfl dX5_ofSession_73 ?_
    refine k_get (C := RX4) (T := TX4) (N := 5) (v := .ref (ad 17 0)) hx hb hts inB_X4 hown hK hw (hL 3 0 rfl) cke_3 rfl 0 (by decide) (hts _ w_f_X5_146) (fun _ h9 => h9) rfl dX5_ofSession_76 ?_
    refine lv_iload_n hx hb dX5_ofSession_79 rfl (lv_at hl 1 rfl) ?_
    refine k_ald hx hb hK hw (hL 17 0 rfl) 0 cke_17 rfl (k_in' h0 h1 (CI.le4 hI (by decide))) dX5_ofSession_80 ?_
    exact k_iret hx hb hr hlocks rfl hw hE rfl dX5_ofSession_81
  · have hE := hE.trans (if_neg c_3)
    by_cases c_4 : p2 = 1
    · have hE := hE.trans (if_pos c_4)
      refine lv_tableIn (off := 37) (tgt := 82) hx hb dX5_ofSession_45 (by rw [c_4]; decide) (by rw [c_4]; decide) (by rw [c_4]; rfl) (by decide) ?_
      refine lv_aload_n hx hb dX5_ofSession_82 rfl (lv_at hl 0 rfl) ?_
      refine k_get (C := RX5) (T := TX5) (N := 7) (v := .ref (ad 3 0)) hx hb hts inB_X5 hown hK hw (hL 0 0 rfl) cke_0 rfl 2 (by decide) (hts _ w_f_X5_26) (fun _ h9 => h9) rfl dX5_ofSession_83 ?_
      refine k_get (C := RX4) (T := TX4) (N := 5) (v := .ref (ad 18 0)) hx hb hts inB_X4 hown hK hw (hL 3 0 rfl) cke_3 rfl 1 (by decide) (hts _ w_f_X5_149) (fun _ h9 => h9) rfl dX5_ofSession_86 ?_
      refine lv_iload_n hx hb dX5_ofSession_89 rfl (lv_at hl 1 rfl) ?_
      refine k_ald hx hb hK hw (hL 18 0 rfl) 0 cke_18 rfl (k_in' h0 h1 (CI.le4 hI (by decide))) dX5_ofSession_90 ?_
      exact k_iret hx hb hr hlocks rfl hw hE rfl dX5_ofSession_91
    · have hE := hE.trans (if_neg c_4)
      by_cases c_5 : p2 = 2
      · have hE := hE.trans (if_pos c_5)
        refine lv_tableIn (off := 47) (tgt := 92) hx hb dX5_ofSession_45 (by rw [c_5]; decide) (by rw [c_5]; decide) (by rw [c_5]; rfl) (by decide) ?_
        refine lv_aload_n hx hb dX5_ofSession_92 rfl (lv_at hl 0 rfl) ?_
        refine k_get (C := RX5) (T := TX5) (N := 7) (v := .ref (ad 3 0)) hx hb hts inB_X5 hown hK hw (hL 0 0 rfl) cke_0 rfl 2 (by decide) (hts _ w_f_X5_26) (fun _ h9 => h9) rfl dX5_ofSession_93 ?_
        refine k_get (C := RX4) (T := TX4) (N := 5) (v := .ref (ad 19 0)) hx hb hts inB_X4 hown hK hw (hL 3 0 rfl) cke_3 rfl 2 (by decide) (hts _ w_f_X5_152) (fun _ h9 => h9) rfl dX5_ofSession_96 ?_
        refine lv_iload_n hx hb dX5_ofSession_99 rfl (lv_at hl 1 rfl) ?_
        refine k_ald hx hb hK hw (hL 19 0 rfl) 0 cke_19 rfl (k_in' h0 h1 (CI.le4 hI (by decide))) dX5_ofSession_100 ?_
        exact k_iret hx hb hr hlocks rfl hw hE rfl dX5_ofSession_101
      · have hE := hE.trans (if_neg c_5)
        refine lv_tableOut (tgt := 102) hx hb dX5_ofSession_45 (sw_out3 c_3 c_4 c_5) (by decide) ?_
        refine lv_aload_n hx hb dX5_ofSession_102 rfl (lv_at hl 0 rfl) ?_
        refine k_get (C := RX5) (T := TX5) (N := 7) (v := .ref (ad 3 0)) hx hb hts inB_X5 hown hK hw (hL 0 0 rfl) cke_0 rfl 2 (by decide) (hts _ w_f_X5_26) (fun _ h9 => h9) rfl dX5_ofSession_103 ?_
        refine k_get (C := RX4) (T := TX4) (N := 5) (v := .ref (ad 20 0)) hx hb hts inB_X4 hown hK hw (hL 3 0 rfl) cke_3 rfl 3 (by decide) (hts _ w_f_X5_155) (fun _ h9 => h9) rfl dX5_ofSession_106 ?_
        refine lv_iload_n hx hb dX5_ofSession_109 rfl (lv_at hl 1 rfl) ?_
        refine k_ald hx hb hK hw (hL 20 0 rfl) 0 cke_20 rfl (k_in' h0 h1 (CI.le4 hI (by decide))) dX5_ofSession_110 ?_
        exact k_iret hx hb hr hlocks rfl hw hE rfl dX5_ofSession_111

abbrev bw_X5_ofItem : List Cond := .code yX5_ofItem cX5_ofItem 3 (some .int) :: BIG
abbrev rm_X5_ofItem : Room := { frames := 6, cells := 2, slots := 12, locals := 92 }
noncomputable def sp_X5_ofItem (S : (Nat → Nat → Nat → Int32)) (p1 : Int32) (p2 : Int32) : Nat × Int32 := if p1 < 0 then ((1, 0)) else (if p1 < 4 then (if sp_X5_isWithin p2 0 3 = 0 then ((2, 0)) else (if p2 = 0 then ((0, S 13 0 p1.toNatClampNeg)) else (if p2 = 1 then ((0, sp_X3_piecesToCome S p1 (S 0 0 1))) else (if p2 = 2 then ((0, sp_X3_earliestToCome S p1 (S 0 0 1) (-1) 0)) else ((0, sp_X5_countWaitingFor S p1)))))) else ((1, 0)))
set_option maxHeartbeats 1000000 in
set_option maxRecDepth 100000 in
theorem ct_X5_ofItem {l : Launch} {D : va_G} {cI cG cJ cO : ClassId} {K0 : Nat → Nat} {A : Nat → Prop} {L : List (Nat × Nat)} {ad : Nat → Nat → Nat} {ce : Nat → Nat → va_E} (hL : ∀ f o, cid f o = true → (f, o) ∈ L) (S : (Nat → Nat → Nat → Int32)) (hI : CI S) (p1 : Int32) (p2 : Int32) (hst : l.stackTraces = false) (sz : Nat) (hA : ∀ q, sz ≤ q → A q) : vx_Met l yX5_ofItem bw_X5_ofItem rm_X5_ofItem (kP D (ktys cI cG cJ cO) K0 A L ad (cK cI cJ ad ce S) sz [.ref (ad 0 0), .int p1, .int p2]) (va_Qi (fun (r : Int32) (_ : Unit) => r = (sp_X5_ofItem S p1 p2).2 ∧ (sp_X5_ofItem S p1 p2).1 = 0) (fun _ t => WE D A L ad (cK cI cJ ad ce S) t) A) (vx_X (fun (_ : Unit) => True) (fun E _ t => kE E (sp_X5_ofItem S p1 p2).1 ∧ WE D A L ad (cK cI cJ ad ce S) t) A) 2 12 A := by
  refine vx_ofW (cc := cX5_ofItem) (maxL := 3) (ret := (some .int)) (by decide) rfl ?_
  intro p e s m args below meth c s₁ B hml hexn hv
  obtain ⟨hav, hsz, hP, hD, hK, hO⟩ := hv
  have hx := B.exec
  have hb := B.bytes
  have hr := B.returns
  have hts : ∀ w ∈ BIG, w.before args s = true := fun w h => atoms_spec (ws := bw_X5_ofItem) B.pre w (List.mem_cons_of_mem _ h)
  have hown : s.vm.findClass RX5 = some m.cls := findClass_of_methodNamed B.named
  have hlocks := B.notSynchronized
  subst hsz
  have hw := wk.start hP hD
  refine k_start (by rfl) hav (Nat.le_of_ble_eq_true rfl) (fun ls hl => ?_)
  have hl : lv_has ls 3 [(0, .ref (ad 0 0)), (1, .int p1), (2, .int p2)] := hl
  have hE : sp_X5_ofItem S p1 p2 = sp_X5_ofItem S p1 p2 := rfl
  refine lv_iload_n hx hb dX5_ofItem_0 rfl (lv_at hl 1 rfl) ?_
  refine lv_if_lt (tgt := 9) hx hb dX5_ofItem_1 (by decide) (fun c_1 => ?_) (fun c_1 => ?_)
  · have hE := hE.trans (if_pos c_1)
    obtain ⟨sa, hsa⟩ := hO.2.1 (RX5, 91, "no such ITEM") (by decide +kernel)
    exact k_throw hx hb hst hown (by decide +kernel) (by decide +kernel) (hts _ w_cl_X5_74) (hts _ w_in_java_lang_IndexOutOfBoundsException) hsa (xh_1 hts hO.2.2.1) xg_1 hO hw hl.1 hml dX5_ofItem_9 dX5_ofItem_12 dX5_ofItem_13 dX5_ofItem_15 dX5_ofItem_18 hexn (Nat.le_of_ble_eq_true rfl) (Nat.le_of_ble_eq_true rfl) (Nat.le_of_ble_eq_true rfl) (Nat.le_of_ble_eq_true rfl) hlocks (by rw [hE]; exact kE_1) (Nat.le_of_ble_eq_true rfl) (Nat.le_of_ble_eq_true rfl)
  · have hE := hE.trans (if_neg c_1)
    refine lv_iload_n hx hb dX5_ofItem_4 rfl (lv_at hl 1 rfl) ?_
    refine lv_iconst (v := 4) hx hb dX5_ofItem_5 (by decide) ?_
    refine lv_icmp_lt (tgt := 19) hx hb dX5_ofItem_6 (by decide) (fun c_2 => ?_) (fun c_2 => ?_)
    · have hE := hE.trans (if_pos c_2)
      refine lv_iload_n hx hb dX5_ofItem_19 rfl (lv_at hl 2 rfl) ?_
      refine lv_iconst (v := 0) hx hb dX5_ofItem_20 (by decide) ?_
      refine lv_iconst (v := 3) hx hb dX5_ofItem_21 (by decide) ?_
      refine k_ci0 hw (k_rS (As := [.int p2, .int 0, .int 3]) (rest := []) ⟨hx, hb, hml, hown, hts⟩ hK hO hw (ct_X5_isWithin p2 0 3 _ (wk.hA hw hA)) (va_cwS 3 hts (gB_S w_ml_X5_46 w_st_X5_isWithin w_in_X5 w_co_X5_isWithin) rfl rfl rfl (by decide +kernel) ⟨by decide, by decide⟩) rfl hl.1 rfl (Nat.le_of_ble_eq_true rfl) dX5_ofItem_22 ⟨Nat.le_of_ble_eq_true rfl, Nat.le_of_ble_eq_true rfl⟩) (fun H locs hw => ?_)
      refine lv_if_ne (tgt := 38) hx hb dX5_ofItem_25 (by decide) (fun c_3 => ?_) (fun c_3 => ?_)
      · have hE := hE.trans (if_neg c_3)
        refine lv_iload_n hx hb dX5_ofItem_38 rfl (lv_at hl 2 rfl) ?_
        by_cases c_6 : p2 = 0
        · have hE := hE.trans (if_pos c_6)
          refine lv_tableIn (off := 25) (tgt := 64) hx hb dX5_ofItem_39 (by rw [c_6]; decide) (by rw [c_6]; decide) (by rw [c_6]; rfl) (by decide) ?_
          refine lv_aload_n hx hb dX5_ofItem_64 rfl (lv_at hl 0 rfl) ?_
          refine k_get (C := RX5) (T := TX5) (N := 7) (v := .ref (ad 2 0)) hx hb hts inB_X5 hown hK hw (hL 0 0 rfl) cke_0 rfl 1 (by decide) (hts _ w_f_X5_19) (fun _ h9 => h9) rfl dX5_ofItem_65 ?_
          refine k_get (C := RX3) (T := TX3) (N := 5) (v := .ref (ad 13 0)) hx hb hts inB_X3 hown hK hw (hL 2 0 rfl) cke_2 rfl 0 (by decide) (hts _ w_f_X5_99) (fun _ h9 => h9) rfl dX5_ofItem_68 ?_
          refine lv_iload_n hx hb dX5_ofItem_71 rfl (lv_at hl 1 rfl) ?_
          refine k_ald hx hb hK hw (hL 13 0 rfl) 0 cke_13 rfl (k_in' c_1 c_2 (by decide)) dX5_ofItem_72 ?_
          exact x_iretP hx hb hr hlocks rfl hw hE (Nat.le_of_ble_eq_true rfl) (Nat.le_of_ble_eq_true rfl) dX5_ofItem_73
        · have hE := hE.trans (if_neg c_6)
          by_cases c_7 : p2 = 1
          · have hE := hE.trans (if_pos c_7)
            refine lv_tableIn (off := 35) (tgt := 74) hx hb dX5_ofItem_39 (by rw [c_7]; decide) (by rw [c_7]; decide) (by rw [c_7]; rfl) (by decide) ?_
            refine lv_aload_n hx hb dX5_ofItem_74 rfl (lv_at hl 0 rfl) ?_
            refine k_get (C := RX5) (T := TX5) (N := 7) (v := .ref (ad 2 0)) hx hb hts inB_X5 hown hK hw (hL 0 0 rfl) cke_0 rfl 1 (by decide) (hts _ w_f_X5_19) (fun _ h9 => h9) rfl dX5_ofItem_75 ?_
            refine lv_iload_n hx hb dX5_ofItem_78 rfl (lv_at hl 1 rfl) ?_
            refine lv_aload_n hx hb dX5_ofItem_79 rfl (lv_at hl 0 rfl) ?_
            refine k_get (C := RX5) (T := TX5) (N := 7) (v := .int (S 0 0 1)) hx hb hts inB_X5 hown hK hw (hL 0 0 rfl) cke_0 rfl 6 (by decide) (hts _ w_f_X5_160) (fun _ h9 => h9) rfl dX5_ofItem_80 ?_
            refine k_ci0 hw (k_rV (As := [.int p1, .int (S 0 0 1)]) (rest := []) ⟨hx, hb, hml, hown, hts⟩ hK hO hw (ct_X3_piecesToCome hL S (SF.ci (SF.rf _) hI) p1 (S 0 0 1) _ (wk.hA hw hA)) (cwV 2 hts (gB_V w_ml_X5_163 w_im_X3_piecesToCome w_se_X3_piecesToCome w_in_X3 w_co_X3_piecesToCome) rfl rfl rfl (by decide +kernel) ⟨by decide, by decide⟩) (hL 2 0 rfl) cke_2 rfl rfl hl.1 rfl (Nat.le_of_ble_eq_true rfl) dX5_ofItem_83 ⟨Nat.le_of_ble_eq_true rfl, Nat.le_of_ble_eq_true rfl⟩) (fun H locs hw => ?_)
            exact x_iretP hx hb hr hlocks rfl hw hE (Nat.le_of_ble_eq_true rfl) (Nat.le_of_ble_eq_true rfl) dX5_ofItem_86
          · have hE := hE.trans (if_neg c_7)
            by_cases c_8 : p2 = 2
            · have hE := hE.trans (if_pos c_8)
              refine lv_tableIn (off := 48) (tgt := 87) hx hb dX5_ofItem_39 (by rw [c_8]; decide) (by rw [c_8]; decide) (by rw [c_8]; rfl) (by decide) ?_
              refine lv_aload_n hx hb dX5_ofItem_87 rfl (lv_at hl 0 rfl) ?_
              refine k_get (C := RX5) (T := TX5) (N := 7) (v := .ref (ad 2 0)) hx hb hts inB_X5 hown hK hw (hL 0 0 rfl) cke_0 rfl 1 (by decide) (hts _ w_f_X5_19) (fun _ h9 => h9) rfl dX5_ofItem_88 ?_
              refine lv_iload_n hx hb dX5_ofItem_91 rfl (lv_at hl 1 rfl) ?_
              refine lv_aload_n hx hb dX5_ofItem_92 rfl (lv_at hl 0 rfl) ?_
              refine k_get (C := RX5) (T := TX5) (N := 7) (v := .int (S 0 0 1)) hx hb hts inB_X5 hown hK hw (hL 0 0 rfl) cke_0 rfl 6 (by decide) (hts _ w_f_X5_160) (fun _ h9 => h9) rfl dX5_ofItem_93 ?_
              refine lv_iconst (v := (-1)) hx hb dX5_ofItem_96 (by decide) ?_
              refine lv_iconst (v := 0) hx hb dX5_ofItem_97 (by decide) ?_
              refine k_ci0 hw (k_rV (As := [.int p1, .int (S 0 0 1), .int (-1), .int 0]) (rest := []) ⟨hx, hb, hml, hown, hts⟩ hK hO hw (ct_X3_earliestToCome hL S (SF.ci (SF.rf _) hI) p1 (S 0 0 1) (-1) 0 _ (wk.hA hw hA)) (cwV 4 hts (gB_V w_ml_X5_166 w_im_X3_earliestToCome w_se_X3_earliestToCome w_in_X3 w_co_X3_earliestToCome) rfl rfl rfl (by decide +kernel) ⟨by decide, by decide⟩) (hL 2 0 rfl) cke_2 rfl rfl hl.1 rfl (Nat.le_of_ble_eq_true rfl) dX5_ofItem_98 ⟨Nat.le_of_ble_eq_true rfl, Nat.le_of_ble_eq_true rfl⟩) (fun H locs hw => ?_)
              exact x_iretP hx hb hr hlocks rfl hw hE (Nat.le_of_ble_eq_true rfl) (Nat.le_of_ble_eq_true rfl) dX5_ofItem_101
            · have hE := hE.trans (if_neg c_8)
              refine lv_tableOut (tgt := 102) hx hb dX5_ofItem_39 (sw_out3 c_6 c_7 c_8) (by decide) ?_
              refine lv_aload_n hx hb dX5_ofItem_102 rfl (lv_at hl 0 rfl) ?_
              refine lv_iload_n hx hb dX5_ofItem_103 rfl (lv_at hl 1 rfl) ?_
              refine k_ci0 hw (k_rV (As := [.int p1]) (rest := []) ⟨hx, hb, hml, hown, hts⟩ hK hO hw (ct_X5_countWaitingFor hL S (SF.ci (SF.rf _) hI) p1 _ (wk.hA hw hA)) (cwV 1 hts (gB_V w_ml_X5_169 w_im_X5_countWaitingFor w_se_X5_countWaitingFor w_in_X5 w_co_X5_countWaitingFor) rfl rfl rfl (by decide +kernel) ⟨by decide, by decide⟩) (hL 0 0 rfl) cke_0 rfl rfl hl.1 rfl (Nat.le_of_ble_eq_true rfl) dX5_ofItem_104 ⟨Nat.le_of_ble_eq_true rfl, Nat.le_of_ble_eq_true rfl⟩) (fun H locs hw => ?_)
              exact x_iretP hx hb hr hlocks rfl hw hE (Nat.le_of_ble_eq_true rfl) (Nat.le_of_ble_eq_true rfl) dX5_ofItem_107
      · have hE := hE.trans (if_pos c_3)
        obtain ⟨sa, hsa⟩ := hO.2.1 (RX5, 158, "nothing of an ITEM is told so") (by decide +kernel)
        exact k_throw hx hb hst hown (by decide +kernel) (by decide +kernel) (hts _ w_cl_X5_58) (hts _ w_in_java_lang_IllegalArgumentException) hsa (xh_2 hts hO.2.2.1) xg_2 hO hw hl.1 hml dX5_ofItem_28 dX5_ofItem_31 dX5_ofItem_32 dX5_ofItem_34 dX5_ofItem_37 hexn (Nat.le_of_ble_eq_true rfl) (Nat.le_of_ble_eq_true rfl) (Nat.le_of_ble_eq_true rfl) (Nat.le_of_ble_eq_true rfl) hlocks (by rw [hE]; exact kE_2) (Nat.le_of_ble_eq_true rfl) (Nat.le_of_ble_eq_true rfl)
    · have hE := hE.trans (if_neg c_2)
      obtain ⟨sa, hsa⟩ := hO.2.1 (RX5, 91, "no such ITEM") (by decide +kernel)
      exact k_throw hx hb hst hown (by decide +kernel) (by decide +kernel) (hts _ w_cl_X5_74) (hts _ w_in_java_lang_IndexOutOfBoundsException) hsa (xh_1 hts hO.2.2.1) xg_1 hO hw hl.1 hml dX5_ofItem_9 dX5_ofItem_12 dX5_ofItem_13 dX5_ofItem_15 dX5_ofItem_18 hexn (Nat.le_of_ble_eq_true rfl) (Nat.le_of_ble_eq_true rfl) (Nat.le_of_ble_eq_true rfl) (Nat.le_of_ble_eq_true rfl) hlocks (by rw [hE]; exact kE_1) (Nat.le_of_ble_eq_true rfl) (Nat.le_of_ble_eq_true rfl)

abbrev rm_X5_ofItem_n : Room := { frames := 4, cells := 0, slots := 0, locals := 92 }
noncomputable def sp_X5_ofItem_n (S : (Nat → Nat → Nat → Int32)) (p1 : Int32) (p2 : Int32) : Int32 := if p2 = 0 then (S 13 0 p1.toNatClampNeg) else (if p2 = 1 then (sp_X3_piecesToCome S p1 (S 0 0 1)) else (if p2 = 2 then (sp_X3_earliestToCome S p1 (S 0 0 1) (-1) 0) else (sp_X5_countWaitingFor S p1)))
set_option maxHeartbeats 1000000 in
set_option maxRecDepth 100000 in
theorem ct_X5_ofItem_n {l : Launch} {D : va_G} {cI cG cJ cO : ClassId} {K0 : Nat → Nat} {A : Nat → Prop} {L : List (Nat × Nat)} {ad : Nat → Nat → Nat} {ce : Nat → Nat → va_E} (hL : ∀ f o, cid f o = true → (f, o) ∈ L) (S : (Nat → Nat → Nat → Int32)) (hI : CI S) (p1 : Int32) (p2 : Int32) (h0 : ¬ p1 < 0) (h1 : p1 < 4) (hv : ¬ sp_X5_isWithin p2 0 3 = 0) (sz : Nat) (hA : ∀ q, sz ≤ q → A q) : Met l yX5_ofItem bw_X5_ofItem rm_X5_ofItem_n (kP D (ktys cI cG cJ cO) K0 A L ad (cK cI cJ ad ce S) sz [.ref (ad 0 0), .int p1, .int p2]) (kQi D A (sp_X5_ofItem_n S p1 p2) L ad (cK cI cJ ad ce S)) 0 0 A := by
  refine Met.ofW (cc := cX5_ofItem) (maxL := 3) (ret := (some .int)) (by decide) rfl ?_
  intro p e s m args below meth c s₁ B hml hv
  obtain ⟨hav, hsz, hP, hD, hK, hO⟩ := hv
  have hx := B.exec
  have hb := B.bytes
  have hr := B.returns
  have hts : ∀ w ∈ BIG, w.before args s = true := fun w h => atoms_spec (ws := bw_X5_ofItem) B.pre w (List.mem_cons_of_mem _ h)
  have hown : s.vm.findClass RX5 = some m.cls := findClass_of_methodNamed B.named
  have hlocks := B.notSynchronized
  subst hsz
  have hw := wk.start hP hD
  refine k_start (by rfl) hav (Nat.le_of_ble_eq_true rfl) (fun ls hl => ?_)
  have hl : lv_has ls 3 [(0, .ref (ad 0 0)), (1, .int p1), (2, .int p2)] := hl
  have hE : sp_X5_ofItem_n S p1 p2 = sp_X5_ofItem_n S p1 p2 := rfl
  refine lv_iload_n hx hb dX5_ofItem_0 rfl (lv_at hl 1 rfl) ?_
  refine lv_if_lt (tgt := 9) hx hb dX5_ofItem_1 (by decide) (fun h => absurd h h0) (fun _ => ?_)
  refine lv_iload_n hx hb dX5_ofItem_4 rfl (lv_at hl 1 rfl) ?_
  refine lv_iconst (v := 4) hx hb dX5_ofItem_5 (by decide) ?_
  refine lv_icmp_lt (tgt := 19) hx hb dX5_ofItem_6 (by decide) (fun _ => ?_) (fun h => absurd h1 h)
  refine lv_iload_n hx hb dX5_ofItem_19 rfl (lv_at hl 2 rfl) ?_
  refine lv_iconst (v := 0) hx hb dX5_ofItem_20 (by decide) ?_
  refine lv_iconst (v := 3) hx hb dX5_ofItem_21 (by decide) ?_
  refine k_ci0 hw (k_rS (As := [.int p2, .int 0, .int 3]) (rest := []) ⟨hx, hb, hml, hown, hts⟩ hK hO hw (ct_X5_isWithin p2 0 3 _ (wk.hA hw hA)) (va_cwS 3 hts (gB_S w_ml_X5_46 w_st_X5_isWithin w_in_X5 w_co_X5_isWithin) rfl rfl rfl (by decide +kernel) ⟨by decide, by decide⟩) rfl hl.1 rfl (Nat.le_of_ble_eq_true rfl) dX5_ofItem_22 ⟨Nat.le_of_ble_eq_true rfl, Nat.le_of_ble_eq_true rfl⟩) (fun H locs hw => ?_)
  refine lv_if_ne (tgt := 38) hx hb dX5_ofItem_25 (by decide) (fun _ => ?_) (fun h => absurd h hv)
  refine lv_iload_n hx hb dX5_ofItem_38 rfl (lv_at hl 2 rfl) ?_
  by_cases c_3 : p2 = 0
  · have hE := hE.trans (if_pos c_3)
    refine lv_tableIn (off := 25) (tgt := 64) hx hb dX5_ofItem_39 (by rw [c_3]; decide) (by rw [c_3]; decide) (by rw [c_3]; rfl) (by decide) ?_
    refine lv_aload_n hx hb dX5_ofItem_64 rfl (lv_at hl 0 rfl) ?_
    refine k_get (C := RX5) (T := TX5) (N := 7) (v := .ref (ad 2 0)) hx hb hts inB_X5 hown hK hw (hL 0 0 rfl) cke_0 rfl 1 (by decide) (hts _ w_f_X5_19) (fun _ h9 => h9) rfl dX5_ofItem_65 ?_
    refine k_get (C := RX3) (T := TX3) (N := 5) (v := .ref (ad 13 0)) hx hb hts inB_X3 hown hK hw (hL 2 0 rfl) cke_2 rfl 0 (by decide) (hts _ w_f_X5_99) (fun _ h9 => h9) rfl dX5_ofItem_68 ?_
    refine lv_iload_n hx hb dX5_ofItem_71 rfl (lv_at hl 1 rfl) ?_
    refine k_ald hx hb hK hw (hL 13 0 rfl) 0 cke_13 rfl (k_in' h0 h1 (by decide)) dX5_ofItem_72 ?_
    exact k_iret hx hb hr hlocks rfl hw hE rfl dX5_ofItem_73
  · have hE := hE.trans (if_neg c_3)
    by_cases c_4 : p2 = 1
    · have hE := hE.trans (if_pos c_4)
      refine lv_tableIn (off := 35) (tgt := 74) hx hb dX5_ofItem_39 (by rw [c_4]; decide) (by rw [c_4]; decide) (by rw [c_4]; rfl) (by decide) ?_
      refine lv_aload_n hx hb dX5_ofItem_74 rfl (lv_at hl 0 rfl) ?_
      refine k_get (C := RX5) (T := TX5) (N := 7) (v := .ref (ad 2 0)) hx hb hts inB_X5 hown hK hw (hL 0 0 rfl) cke_0 rfl 1 (by decide) (hts _ w_f_X5_19) (fun _ h9 => h9) rfl dX5_ofItem_75 ?_
      refine lv_iload_n hx hb dX5_ofItem_78 rfl (lv_at hl 1 rfl) ?_
      refine lv_aload_n hx hb dX5_ofItem_79 rfl (lv_at hl 0 rfl) ?_
      refine k_get (C := RX5) (T := TX5) (N := 7) (v := .int (S 0 0 1)) hx hb hts inB_X5 hown hK hw (hL 0 0 rfl) cke_0 rfl 6 (by decide) (hts _ w_f_X5_160) (fun _ h9 => h9) rfl dX5_ofItem_80 ?_
      refine k_ci0 hw (k_rV (As := [.int p1, .int (S 0 0 1)]) (rest := []) ⟨hx, hb, hml, hown, hts⟩ hK hO hw (ct_X3_piecesToCome hL S (SF.ci (SF.rf _) hI) p1 (S 0 0 1) _ (wk.hA hw hA)) (cwV 2 hts (gB_V w_ml_X5_163 w_im_X3_piecesToCome w_se_X3_piecesToCome w_in_X3 w_co_X3_piecesToCome) rfl rfl rfl (by decide +kernel) ⟨by decide, by decide⟩) (hL 2 0 rfl) cke_2 rfl rfl hl.1 rfl (Nat.le_of_ble_eq_true rfl) dX5_ofItem_83 ⟨Nat.le_of_ble_eq_true rfl, Nat.le_of_ble_eq_true rfl⟩) (fun H locs hw => ?_)
      exact k_iret hx hb hr hlocks rfl hw hE rfl dX5_ofItem_86
    · have hE := hE.trans (if_neg c_4)
      by_cases c_5 : p2 = 2
      · have hE := hE.trans (if_pos c_5)
        refine lv_tableIn (off := 48) (tgt := 87) hx hb dX5_ofItem_39 (by rw [c_5]; decide) (by rw [c_5]; decide) (by rw [c_5]; rfl) (by decide) ?_
        refine lv_aload_n hx hb dX5_ofItem_87 rfl (lv_at hl 0 rfl) ?_
        refine k_get (C := RX5) (T := TX5) (N := 7) (v := .ref (ad 2 0)) hx hb hts inB_X5 hown hK hw (hL 0 0 rfl) cke_0 rfl 1 (by decide) (hts _ w_f_X5_19) (fun _ h9 => h9) rfl dX5_ofItem_88 ?_
        refine lv_iload_n hx hb dX5_ofItem_91 rfl (lv_at hl 1 rfl) ?_
        refine lv_aload_n hx hb dX5_ofItem_92 rfl (lv_at hl 0 rfl) ?_
        refine k_get (C := RX5) (T := TX5) (N := 7) (v := .int (S 0 0 1)) hx hb hts inB_X5 hown hK hw (hL 0 0 rfl) cke_0 rfl 6 (by decide) (hts _ w_f_X5_160) (fun _ h9 => h9) rfl dX5_ofItem_93 ?_
        refine lv_iconst (v := (-1)) hx hb dX5_ofItem_96 (by decide) ?_
        refine lv_iconst (v := 0) hx hb dX5_ofItem_97 (by decide) ?_
        refine k_ci0 hw (k_rV (As := [.int p1, .int (S 0 0 1), .int (-1), .int 0]) (rest := []) ⟨hx, hb, hml, hown, hts⟩ hK hO hw (ct_X3_earliestToCome hL S (SF.ci (SF.rf _) hI) p1 (S 0 0 1) (-1) 0 _ (wk.hA hw hA)) (cwV 4 hts (gB_V w_ml_X5_166 w_im_X3_earliestToCome w_se_X3_earliestToCome w_in_X3 w_co_X3_earliestToCome) rfl rfl rfl (by decide +kernel) ⟨by decide, by decide⟩) (hL 2 0 rfl) cke_2 rfl rfl hl.1 rfl (Nat.le_of_ble_eq_true rfl) dX5_ofItem_98 ⟨Nat.le_of_ble_eq_true rfl, Nat.le_of_ble_eq_true rfl⟩) (fun H locs hw => ?_)
        exact k_iret hx hb hr hlocks rfl hw hE rfl dX5_ofItem_101
      · have hE := hE.trans (if_neg c_5)
        refine lv_tableOut (tgt := 102) hx hb dX5_ofItem_39 (sw_out3 c_3 c_4 c_5) (by decide) ?_
        refine lv_aload_n hx hb dX5_ofItem_102 rfl (lv_at hl 0 rfl) ?_
        refine lv_iload_n hx hb dX5_ofItem_103 rfl (lv_at hl 1 rfl) ?_
        refine k_ci0 hw (k_rV (As := [.int p1]) (rest := []) ⟨hx, hb, hml, hown, hts⟩ hK hO hw (ct_X5_countWaitingFor hL S (SF.ci (SF.rf _) hI) p1 _ (wk.hA hw hA)) (cwV 1 hts (gB_V w_ml_X5_169 w_im_X5_countWaitingFor w_se_X5_countWaitingFor w_in_X5 w_co_X5_countWaitingFor) rfl rfl rfl (by decide +kernel) ⟨by decide, by decide⟩) (hL 0 0 rfl) cke_0 rfl rfl hl.1 rfl (Nat.le_of_ble_eq_true rfl) dX5_ofItem_104 ⟨Nat.le_of_ble_eq_true rfl, Nat.le_of_ble_eq_true rfl⟩) (fun H locs hw => ?_)
        exact k_iret hx hb hr hlocks rfl hw hE rfl dX5_ofItem_107
