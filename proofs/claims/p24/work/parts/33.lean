abbrev bw_X5_ofStep : List Cond := .code yX5_ofStep cX5_ofStep 5 (some .int) :: BIG
abbrev rm_X5_ofStep : Room := { frames := 7, cells := 2, slots := 12, locals := 116 }
noncomputable def rw_X5_ofStep (S : (Nat → Nat → Nat → Int32)) (p1 : Int32) (p2 : Int32) (p3 : Int32) : Nat × Int32 × (Nat → Nat → Nat → Int32) := if (sp_X5_joinerAt S p1).1 = 0 then (if p2 < 0 then ((1, 0, S)) else (if 12 ≤ p2 then ((1, 0, S)) else (if sp_X5_has (S 6 ((sp_X5_joinerAt S p1).2) 0) p2 = 0 then ((1, 0, S)) else (if sp_X5_isWithin p3 0 5 = 0 then ((2, 0, S)) else ((0, sp_X5_foreseenOfStep (sp_X0_foresee S ((sp_X5_joinerAt S p1).2) (S 0 0 1) (-1) 0) ((sp_X5_joinerAt S p1).2) p2 p3, (sp_X0_foresee S ((sp_X5_joinerAt S p1).2) (S 0 0 1) (-1) 0))))))) else (((sp_X5_joinerAt S p1).1, 0, S))
/-- sealed: it unfolds by un_ alone -/
noncomputable def sp_X5_ofStep : (Nat → Nat → Nat → Int32) → Int32 → Int32 → Int32 → (Nat × Int32 × (Nat → Nat → Nat → Int32)) := Classical.choose (⟨rw_X5_ofStep, rfl⟩ : ∃ f, f = rw_X5_ofStep)
theorem un_X5_ofStep (S : (Nat → Nat → Nat → Int32)) (p1 : Int32) (p2 : Int32) (p3 : Int32) : sp_X5_ofStep S p1 p2 p3 = rw_X5_ofStep S p1 p2 p3 := (congrFun (congrFun (congrFun (congrFun (Classical.choose_spec (⟨rw_X5_ofStep, rfl⟩ : ∃ f, f = rw_X5_ofStep)) S) p1) p2) p3)
set_option maxHeartbeats 1000000 in
set_option maxRecDepth 100000 in
theorem ct_X5_ofStep {l : Launch} {D : va_G} {cI cG cJ cO : ClassId} {K0 : Nat → Nat} {A : Nat → Prop} {L : List (Nat × Nat)} {ad : Nat → Nat → Nat} {ce : Nat → Nat → va_E} (hL : ∀ f o, cid f o = true → (f, o) ∈ L) (S : (Nat → Nat → Nat → Int32)) (hI : CI S) (p1 : Int32) (p2 : Int32) (p3 : Int32) (hst : l.stackTraces = false) (sz : Nat) (hA : ∀ q, sz ≤ q → A q) : vx_Met l yX5_ofStep bw_X5_ofStep rm_X5_ofStep (kP D (ktys cI cG cJ cO) K0 A L ad (cK cI cJ ad ce S) sz [.ref (ad 0 0), .int p1, .int p2, .int p3]) (va_Qi (fun (r : Int32) (_ : Unit) => r = (sp_X5_ofStep S p1 p2 p3).2.1 ∧ (sp_X5_ofStep S p1 p2 p3).1 = 0) (fun _ t => WE D A L ad (cK cI cJ ad ce ((sp_X5_ofStep S p1 p2 p3).2.2)) t) A) (vx_X (fun (_ : Unit) => True) (fun E _ t => kE E (sp_X5_ofStep S p1 p2 p3).1 ∧ WE D A L ad (cK cI cJ ad ce S) t) A) 2 12 A := by
  refine vx_ofW (cc := cX5_ofStep) (maxL := 5) (ret := (some .int)) (by decide) rfl ?_
  intro p e s m args below meth c s₁ B hml hexn hv
  obtain ⟨hav, hsz, hP, hD, hK, hO⟩ := hv
  have hx := B.exec
  have hb := B.bytes
  have hr := B.returns
  have hts : ∀ w ∈ BIG, w.before args s = true := fun w h => atoms_spec (ws := bw_X5_ofStep) B.pre w (List.mem_cons_of_mem _ h)
  have hown : s.vm.findClass RX5 = some m.cls := findClass_of_methodNamed B.named
  have hlocks := B.notSynchronized
  subst hsz
  have hw := wk.start hP hD
  refine k_start (by rfl) hav (Nat.le_of_ble_eq_true rfl) (fun ls hl => ?_)
  have hl : lv_has ls 5 [(0, .ref (ad 0 0)), (1, .int p1), (2, .int p2), (3, .int p3)] := hl
  have hE : sp_X5_ofStep S p1 p2 p3 = rw_X5_ofStep S p1 p2 p3 := un_X5_ofStep S p1 p2 p3
  refine lv_aload_n hx hb dX5_ofStep_0 rfl (lv_at hl 0 rfl) ?_
  refine lv_iload_n hx hb dX5_ofStep_1 rfl (lv_at hl 1 rfl) ?_
  refine x_cq hw (x_rV (As := [.int p1]) (rest := []) ⟨hx, hb, hml, hown, hts⟩ hK hO hw (ct_X5_joinerAt hL S (SF.ci (SF.rf _) hI) p1 hst _ (wk.hA hw hA)) (cwV 1 hts (gB_V w_ml_X5_179 w_im_X5_joinerAt w_se_X5_joinerAt w_in_X5 w_co_X5_joinerAt) rfl rfl rfl (by decide +kernel) ⟨by decide, by decide⟩) (hL 0 0 rfl) cke_0 rfl rfl hl.1 rfl (Nat.le_of_ble_eq_true rfl) dX5_ofStep_2 ⟨Nat.le_of_ble_eq_true rfl, Nat.le_of_ble_eq_true rfl⟩) (fun E cx q9 H locs hx9 hw hcx hvx hclx => ?_) (fun H locs x_1 hw => ?_)
  · have hE := hE.trans (if_neg hx9.ne)
    exact x_out hexn hlocks hw hcx hvx hclx (by rw [hE]; exact hx9) (Nat.le_of_ble_eq_true rfl) (Nat.le_of_ble_eq_true rfl)
  · have hE := hE.trans (if_pos x_1)
    refine lv_astore (lv' := [(4, .ref (ad 6 ((sp_X5_joinerAt S p1).2))), (0, .ref (ad 0 0)), (1, .int p1), (2, .int p2), (3, .int p3)]) hx hb dX5_ofStep_5 hl (by decide) rfl (fun ls hl => ?_)
    refine lv_iload_n hx hb dX5_ofStep_7 rfl (lv_at hl 3 rfl) ?_
    refine lv_if_lt (tgt := 29) hx hb dX5_ofStep_8 (by decide) (fun c_2 => ?_) (fun c_2 => ?_)
    · have hE := hE.trans (if_pos c_2)
      obtain ⟨sa, hsa⟩ := hO.2.1 (RX5, 229, "no such STEP of that JOINER") (by decide +kernel)
      exact k_throw hx hb hst hown (by decide +kernel) (by decide +kernel) (hts _ w_cl_X5_74) (hts _ w_in_java_lang_IndexOutOfBoundsException) hsa (xh_1 hts hO.2.2.1) xg_1 hO hw hl.1 hml dX5_ofStep_29 dX5_ofStep_32 dX5_ofStep_33 dX5_ofStep_35 dX5_ofStep_38 hexn (Nat.le_of_ble_eq_true rfl) (Nat.le_of_ble_eq_true rfl) (Nat.le_of_ble_eq_true rfl) (Nat.le_of_ble_eq_true rfl) hlocks (by rw [hE]; exact kE_1) (Nat.le_of_ble_eq_true rfl) (Nat.le_of_ble_eq_true rfl)
    · have hE := hE.trans (if_neg c_2)
      refine lv_iload_n hx hb dX5_ofStep_11 rfl (lv_at hl 3 rfl) ?_
      refine lv_bipush (v := 12) hx hb dX5_ofStep_12 (by decide) ?_
      refine lv_icmp_ge (tgt := 29) hx hb dX5_ofStep_14 (by decide) (fun c_3 => ?_) (fun c_3 => ?_)
      · have hE := hE.trans (if_pos c_3)
        obtain ⟨sa, hsa⟩ := hO.2.1 (RX5, 229, "no such STEP of that JOINER") (by decide +kernel)
        exact k_throw hx hb hst hown (by decide +kernel) (by decide +kernel) (hts _ w_cl_X5_74) (hts _ w_in_java_lang_IndexOutOfBoundsException) hsa (xh_1 hts hO.2.2.1) xg_1 hO hw hl.1 hml dX5_ofStep_29 dX5_ofStep_32 dX5_ofStep_33 dX5_ofStep_35 dX5_ofStep_38 hexn (Nat.le_of_ble_eq_true rfl) (Nat.le_of_ble_eq_true rfl) (Nat.le_of_ble_eq_true rfl) (Nat.le_of_ble_eq_true rfl) hlocks (by rw [hE]; exact kE_1) (Nat.le_of_ble_eq_true rfl) (Nat.le_of_ble_eq_true rfl)
      · have hE := hE.trans (if_neg c_3)
        refine lv_aload hx hb dX5_ofStep_17 (lv_at hl 0 rfl) ?_
        refine k_get (C := RX1) (T := TX1) (N := 8) (v := .int (S 6 ((sp_X5_joinerAt S p1).2) 0)) hx hb hts inB_X1 hown hK hw (hL 6 ((sp_X5_joinerAt S p1).2) (cidJ6 (jn_ok x_1))) cke_6 rfl 5 (by decide) (hts _ w_f_X5_183) (fun _ h9 => h9) rfl dX5_ofStep_19 ?_
        refine lv_iload_n hx hb dX5_ofStep_22 rfl (lv_at hl 3 rfl) ?_
        refine k_ci0 hw (k_rS (As := [.int (S 6 ((sp_X5_joinerAt S p1).2) 0), .int p2]) (rest := []) ⟨hx, hb, hml, hown, hts⟩ hK hO hw (ct_X5_has (S 6 ((sp_X5_joinerAt S p1).2) 0) p2 _ (wk.hA hw hA)) (va_cwS 2 hts (gB_S w_ml_X5_226 w_st_X5_has w_in_X5 w_co_X5_has) rfl rfl rfl (by decide +kernel) ⟨by decide, by decide⟩) rfl hl.1 rfl (Nat.le_of_ble_eq_true rfl) dX5_ofStep_23 ⟨Nat.le_of_ble_eq_true rfl, Nat.le_of_ble_eq_true rfl⟩) (fun H locs hw => ?_)
        refine lv_if_ne (tgt := 39) hx hb dX5_ofStep_26 (by decide) (fun c_4 => ?_) (fun c_4 => ?_)
        · have hE := hE.trans (if_neg c_4)
          refine lv_iload_n hx hb dX5_ofStep_39 rfl (lv_at hl 4 rfl) ?_
          refine lv_iconst (v := 0) hx hb dX5_ofStep_40 (by decide) ?_
          refine lv_iconst (v := 5) hx hb dX5_ofStep_41 (by decide) ?_
          refine k_ci0 hw (k_rS (As := [.int p3, .int 0, .int 5]) (rest := []) ⟨hx, hb, hml, hown, hts⟩ hK hO hw (ct_X5_isWithin p3 0 5 _ (wk.hA hw hA)) (va_cwS 3 hts (gB_S w_ml_X5_46 w_st_X5_isWithin w_in_X5 w_co_X5_isWithin) rfl rfl rfl (by decide +kernel) ⟨by decide, by decide⟩) rfl hl.1 rfl (Nat.le_of_ble_eq_true rfl) dX5_ofStep_42 ⟨Nat.le_of_ble_eq_true rfl, Nat.le_of_ble_eq_true rfl⟩) (fun H locs hw => ?_)
          refine lv_if_ne (tgt := 58) hx hb dX5_ofStep_45 (by decide) (fun c_5 => ?_) (fun c_5 => ?_)
          · have hE := hE.trans (if_neg c_5)
            refine lv_aload_n hx hb dX5_ofStep_58 rfl (lv_at hl 1 rfl) ?_
            refine k_get (C := RX5) (T := TX5) (N := 7) (v := .ref (ad 4 0)) hx hb hts inB_X5 hown hK hw (hL 0 0 rfl) cke_0 rfl 3 (by decide) (hts _ w_f_X5_35) (fun _ h9 => h9) rfl dX5_ofStep_59 ?_
            refine lv_aload hx hb dX5_ofStep_62 (lv_at hl 0 rfl) ?_
            refine lv_aload_n hx hb dX5_ofStep_64 rfl (lv_at hl 1 rfl) ?_
            refine k_get (C := RX5) (T := TX5) (N := 7) (v := .int (S 0 0 1)) hx hb hts inB_X5 hown hK hw (hL 0 0 rfl) cke_0 rfl 6 (by decide) (hts _ w_f_X5_160) (fun _ h9 => h9) rfl dX5_ofStep_65 ?_
            refine lv_iconst (v := (-1)) hx hb dX5_ofStep_68 (by decide) ?_
            refine lv_iconst (v := 0) hx hb dX5_ofStep_69 (by decide) ?_
            refine k_cv0 hw (k_rV (As := [.ref (ad 6 ((sp_X5_joinerAt S p1).2)), .int (S 0 0 1), .int (-1), .int 0]) (rest := []) ⟨hx, hb, hml, hown, hts⟩ hK hO hw (ct_X0_foresee hL S (SF.ci (SF.rf _) hI) ((sp_X5_joinerAt S p1).2) (jn_ok x_1) (S 0 0 1) (-1) 0 _ (wk.hA hw hA)) (cwV 4 hts (gB_V w_ml_X5_233 w_im_X0_foresee w_se_X0_foresee w_in_X0 w_co_X0_foresee) rfl rfl rfl (by decide +kernel) ⟨by decide, by decide⟩) (hL 4 0 rfl) cke_4 rfl rfl hl.1 rfl (Nat.le_of_ble_eq_true rfl) dX5_ofStep_70 ⟨Nat.le_of_ble_eq_true rfl, Nat.le_of_ble_eq_true rfl⟩) (fun H locs hw => ?_)
            refine lv_aload_n hx hb dX5_ofStep_73 rfl (lv_at hl 1 rfl) ?_
            refine lv_aload hx hb dX5_ofStep_74 (lv_at hl 0 rfl) ?_
            refine lv_iload_n hx hb dX5_ofStep_76 rfl (lv_at hl 3 rfl) ?_
            refine lv_iload_n hx hb dX5_ofStep_77 rfl (lv_at hl 4 rfl) ?_
            refine k_ci0 hw (k_rV (As := [.ref (ad 6 ((sp_X5_joinerAt S p1).2)), .int p2, .int p3]) (rest := []) ⟨hx, hb, hml, hown, hts⟩ hK hO hw (ct_X5_foreseenOfStep hL (sp_X0_foresee S ((sp_X5_joinerAt S p1).2) (S 0 0 1) (-1) 0) (SF.ci (SF.tr (SF.rf _) (sf_X0_foresee S ((sp_X5_joinerAt S p1).2) (S 0 0 1) (-1) 0)) hI) ((sp_X5_joinerAt S p1).2) (jn_ok x_1) p2 p3 _ (wk.hA hw hA)) (cwV 3 hts (gB_V w_ml_X5_237 w_im_X5_foreseenOfStep w_se_X5_foreseenOfStep w_in_X5 w_co_X5_foreseenOfStep) rfl rfl rfl (by decide +kernel) ⟨by decide, by decide⟩) (hL 0 0 rfl) cke_0 rfl rfl hl.1 rfl (Nat.le_of_ble_eq_true rfl) dX5_ofStep_78 ⟨Nat.le_of_ble_eq_true rfl, Nat.le_of_ble_eq_true rfl⟩) (fun H locs hw => ?_)
            exact x_iretE hx hb hr hlocks rfl hw hE (Nat.le_of_ble_eq_true rfl) (Nat.le_of_ble_eq_true rfl) dX5_ofStep_81
          · have hE := hE.trans (if_pos c_5)
            obtain ⟨sa, hsa⟩ := hO.2.1 (RX5, 231, "nothing of a STEP is told so") (by decide +kernel)
            exact k_throw hx hb hst hown (by decide +kernel) (by decide +kernel) (hts _ w_cl_X5_58) (hts _ w_in_java_lang_IllegalArgumentException) hsa (xh_2 hts hO.2.2.1) xg_2 hO hw hl.1 hml dX5_ofStep_48 dX5_ofStep_51 dX5_ofStep_52 dX5_ofStep_54 dX5_ofStep_57 hexn (Nat.le_of_ble_eq_true rfl) (Nat.le_of_ble_eq_true rfl) (Nat.le_of_ble_eq_true rfl) (Nat.le_of_ble_eq_true rfl) hlocks (by rw [hE]; exact kE_2) (Nat.le_of_ble_eq_true rfl) (Nat.le_of_ble_eq_true rfl)
        · have hE := hE.trans (if_pos c_4)
          obtain ⟨sa, hsa⟩ := hO.2.1 (RX5, 229, "no such STEP of that JOINER") (by decide +kernel)
          exact k_throw hx hb hst hown (by decide +kernel) (by decide +kernel) (hts _ w_cl_X5_74) (hts _ w_in_java_lang_IndexOutOfBoundsException) hsa (xh_1 hts hO.2.2.1) xg_1 hO hw hl.1 hml dX5_ofStep_29 dX5_ofStep_32 dX5_ofStep_33 dX5_ofStep_35 dX5_ofStep_38 hexn (Nat.le_of_ble_eq_true rfl) (Nat.le_of_ble_eq_true rfl) (Nat.le_of_ble_eq_true rfl) (Nat.le_of_ble_eq_true rfl) hlocks (by rw [hE]; exact kE_1) (Nat.le_of_ble_eq_true rfl) (Nat.le_of_ble_eq_true rfl)

abbrev bw_X5_ofJoiner : List Cond := .code yX5_ofJoiner cX5_ofJoiner 4 (some .int) :: BIG
abbrev rm_X5_ofJoiner : Room := { frames := 7, cells := 2, slots := 12, locals := 116 }
noncomputable def rw_X5_ofJoiner (S : (Nat → Nat → Nat → Int32)) (p1 : Int32) (p2 : Int32) : Nat × Int32 × (Nat → Nat → Nat → Int32) := if (sp_X5_joinerAt S p1).1 = 0 then (if sp_X5_isWithin p2 0 6 = 0 then ((2, 0, S)) else ((0, sp_X5_foreseenOfJoiner (sp_X0_foresee S ((sp_X5_joinerAt S p1).2) (S 0 0 1) (-1) 0) ((sp_X5_joinerAt S p1).2) p2, (sp_X0_foresee S ((sp_X5_joinerAt S p1).2) (S 0 0 1) (-1) 0)))) else (((sp_X5_joinerAt S p1).1, 0, S))
/-- sealed: it unfolds by un_ alone -/
noncomputable def sp_X5_ofJoiner : (Nat → Nat → Nat → Int32) → Int32 → Int32 → (Nat × Int32 × (Nat → Nat → Nat → Int32)) := Classical.choose (⟨rw_X5_ofJoiner, rfl⟩ : ∃ f, f = rw_X5_ofJoiner)
theorem un_X5_ofJoiner (S : (Nat → Nat → Nat → Int32)) (p1 : Int32) (p2 : Int32) : sp_X5_ofJoiner S p1 p2 = rw_X5_ofJoiner S p1 p2 := (congrFun (congrFun (congrFun (Classical.choose_spec (⟨rw_X5_ofJoiner, rfl⟩ : ∃ f, f = rw_X5_ofJoiner)) S) p1) p2)
set_option maxHeartbeats 1000000 in
set_option maxRecDepth 100000 in
theorem ct_X5_ofJoiner {l : Launch} {D : va_G} {cI cG cJ cO : ClassId} {K0 : Nat → Nat} {A : Nat → Prop} {L : List (Nat × Nat)} {ad : Nat → Nat → Nat} {ce : Nat → Nat → va_E} (hL : ∀ f o, cid f o = true → (f, o) ∈ L) (S : (Nat → Nat → Nat → Int32)) (hI : CI S) (p1 : Int32) (p2 : Int32) (hst : l.stackTraces = false) (sz : Nat) (hA : ∀ q, sz ≤ q → A q) : vx_Met l yX5_ofJoiner bw_X5_ofJoiner rm_X5_ofJoiner (kP D (ktys cI cG cJ cO) K0 A L ad (cK cI cJ ad ce S) sz [.ref (ad 0 0), .int p1, .int p2]) (va_Qi (fun (r : Int32) (_ : Unit) => r = (sp_X5_ofJoiner S p1 p2).2.1 ∧ (sp_X5_ofJoiner S p1 p2).1 = 0) (fun _ t => WE D A L ad (cK cI cJ ad ce ((sp_X5_ofJoiner S p1 p2).2.2)) t) A) (vx_X (fun (_ : Unit) => True) (fun E _ t => kE E (sp_X5_ofJoiner S p1 p2).1 ∧ WE D A L ad (cK cI cJ ad ce S) t) A) 2 12 A := by
  refine vx_ofW (cc := cX5_ofJoiner) (maxL := 4) (ret := (some .int)) (by decide) rfl ?_
  intro p e s m args below meth c s₁ B hml hexn hv
  obtain ⟨hav, hsz, hP, hD, hK, hO⟩ := hv
  have hx := B.exec
  have hb := B.bytes
  have hr := B.returns
  have hts : ∀ w ∈ BIG, w.before args s = true := fun w h => atoms_spec (ws := bw_X5_ofJoiner) B.pre w (List.mem_cons_of_mem _ h)
  have hown : s.vm.findClass RX5 = some m.cls := findClass_of_methodNamed B.named
  have hlocks := B.notSynchronized
  subst hsz
  have hw := wk.start hP hD
  refine k_start (by rfl) hav (Nat.le_of_ble_eq_true rfl) (fun ls hl => ?_)
  have hl : lv_has ls 4 [(0, .ref (ad 0 0)), (1, .int p1), (2, .int p2)] := hl
  have hE : sp_X5_ofJoiner S p1 p2 = rw_X5_ofJoiner S p1 p2 := un_X5_ofJoiner S p1 p2
  refine lv_aload_n hx hb dX5_ofJoiner_0 rfl (lv_at hl 0 rfl) ?_
  refine lv_iload_n hx hb dX5_ofJoiner_1 rfl (lv_at hl 1 rfl) ?_
  refine x_cq hw (x_rV (As := [.int p1]) (rest := []) ⟨hx, hb, hml, hown, hts⟩ hK hO hw (ct_X5_joinerAt hL S (SF.ci (SF.rf _) hI) p1 hst _ (wk.hA hw hA)) (cwV 1 hts (gB_V w_ml_X5_179 w_im_X5_joinerAt w_se_X5_joinerAt w_in_X5 w_co_X5_joinerAt) rfl rfl rfl (by decide +kernel) ⟨by decide, by decide⟩) (hL 0 0 rfl) cke_0 rfl rfl hl.1 rfl (Nat.le_of_ble_eq_true rfl) dX5_ofJoiner_2 ⟨Nat.le_of_ble_eq_true rfl, Nat.le_of_ble_eq_true rfl⟩) (fun E cx q9 H locs hx9 hw hcx hvx hclx => ?_) (fun H locs x_1 hw => ?_)
  · have hE := hE.trans (if_neg hx9.ne)
    exact x_out hexn hlocks hw hcx hvx hclx (by rw [hE]; exact hx9) (Nat.le_of_ble_eq_true rfl) (Nat.le_of_ble_eq_true rfl)
  · have hE := hE.trans (if_pos x_1)
    refine lv_astore_n (lv' := [(3, .ref (ad 6 ((sp_X5_joinerAt S p1).2))), (0, .ref (ad 0 0)), (1, .int p1), (2, .int p2)]) hx hb dX5_ofJoiner_5 rfl hl (by decide) rfl (fun ls hl => ?_)
    refine lv_iload_n hx hb dX5_ofJoiner_6 rfl (lv_at hl 3 rfl) ?_
    refine lv_iconst (v := 0) hx hb dX5_ofJoiner_7 (by decide) ?_
    refine lv_bipush (v := 6) hx hb dX5_ofJoiner_8 (by decide) ?_
    refine k_ci0 hw (k_rS (As := [.int p2, .int 0, .int 6]) (rest := []) ⟨hx, hb, hml, hown, hts⟩ hK hO hw (ct_X5_isWithin p2 0 6 _ (wk.hA hw hA)) (va_cwS 3 hts (gB_S w_ml_X5_46 w_st_X5_isWithin w_in_X5 w_co_X5_isWithin) rfl rfl rfl (by decide +kernel) ⟨by decide, by decide⟩) rfl hl.1 rfl (Nat.le_of_ble_eq_true rfl) dX5_ofJoiner_10 ⟨Nat.le_of_ble_eq_true rfl, Nat.le_of_ble_eq_true rfl⟩) (fun H locs hw => ?_)
    refine lv_if_ne (tgt := 26) hx hb dX5_ofJoiner_13 (by decide) (fun c_2 => ?_) (fun c_2 => ?_)
    · have hE := hE.trans (if_neg c_2)
      refine lv_aload_n hx hb dX5_ofJoiner_26 rfl (lv_at hl 1 rfl) ?_
      refine k_get (C := RX5) (T := TX5) (N := 7) (v := .ref (ad 4 0)) hx hb hts inB_X5 hown hK hw (hL 0 0 rfl) cke_0 rfl 3 (by decide) (hts _ w_f_X5_35) (fun _ h9 => h9) rfl dX5_ofJoiner_27 ?_
      refine lv_aload_n hx hb dX5_ofJoiner_30 rfl (lv_at hl 0 rfl) ?_
      refine lv_aload_n hx hb dX5_ofJoiner_31 rfl (lv_at hl 1 rfl) ?_
      refine k_get (C := RX5) (T := TX5) (N := 7) (v := .int (S 0 0 1)) hx hb hts inB_X5 hown hK hw (hL 0 0 rfl) cke_0 rfl 6 (by decide) (hts _ w_f_X5_160) (fun _ h9 => h9) rfl dX5_ofJoiner_32 ?_
      refine lv_iconst (v := (-1)) hx hb dX5_ofJoiner_35 (by decide) ?_
      refine lv_iconst (v := 0) hx hb dX5_ofJoiner_36 (by decide) ?_
      refine k_cv0 hw (k_rV (As := [.ref (ad 6 ((sp_X5_joinerAt S p1).2)), .int (S 0 0 1), .int (-1), .int 0]) (rest := []) ⟨hx, hb, hml, hown, hts⟩ hK hO hw (ct_X0_foresee hL S (SF.ci (SF.rf _) hI) ((sp_X5_joinerAt S p1).2) (jn_ok x_1) (S 0 0 1) (-1) 0 _ (wk.hA hw hA)) (cwV 4 hts (gB_V w_ml_X5_233 w_im_X0_foresee w_se_X0_foresee w_in_X0 w_co_X0_foresee) rfl rfl rfl (by decide +kernel) ⟨by decide, by decide⟩) (hL 4 0 rfl) cke_4 rfl rfl hl.1 rfl (Nat.le_of_ble_eq_true rfl) dX5_ofJoiner_37 ⟨Nat.le_of_ble_eq_true rfl, Nat.le_of_ble_eq_true rfl⟩) (fun H locs hw => ?_)
      refine lv_aload_n hx hb dX5_ofJoiner_40 rfl (lv_at hl 1 rfl) ?_
      refine lv_aload_n hx hb dX5_ofJoiner_41 rfl (lv_at hl 0 rfl) ?_
      refine lv_iload_n hx hb dX5_ofJoiner_42 rfl (lv_at hl 3 rfl) ?_
      refine k_ci0 hw (k_rV (As := [.ref (ad 6 ((sp_X5_joinerAt S p1).2)), .int p2]) (rest := []) ⟨hx, hb, hml, hown, hts⟩ hK hO hw (ct_X5_foreseenOfJoiner hL (sp_X0_foresee S ((sp_X5_joinerAt S p1).2) (S 0 0 1) (-1) 0) (SF.ci (SF.tr (SF.rf _) (sf_X0_foresee S ((sp_X5_joinerAt S p1).2) (S 0 0 1) (-1) 0)) hI) ((sp_X5_joinerAt S p1).2) (jn_ok x_1) p2 _ (wk.hA hw hA)) (cwV 2 hts (gB_V w_ml_X5_243 w_im_X5_foreseenOfJoiner w_se_X5_foreseenOfJoiner w_in_X5 w_co_X5_foreseenOfJoiner) rfl rfl rfl (by decide +kernel) ⟨by decide, by decide⟩) (hL 0 0 rfl) cke_0 rfl rfl hl.1 rfl (Nat.le_of_ble_eq_true rfl) dX5_ofJoiner_43 ⟨Nat.le_of_ble_eq_true rfl, Nat.le_of_ble_eq_true rfl⟩) (fun H locs hw => ?_)
      exact x_iretE hx hb hr hlocks rfl hw hE (Nat.le_of_ble_eq_true rfl) (Nat.le_of_ble_eq_true rfl) dX5_ofJoiner_46
    · have hE := hE.trans (if_pos c_2)
      obtain ⟨sa, hsa⟩ := hO.2.1 (RX5, 241, "nothing of a JOINER is told so") (by decide +kernel)
      exact k_throw hx hb hst hown (by decide +kernel) (by decide +kernel) (hts _ w_cl_X5_58) (hts _ w_in_java_lang_IllegalArgumentException) hsa (xh_2 hts hO.2.2.1) xg_2 hO hw hl.1 hml dX5_ofJoiner_16 dX5_ofJoiner_19 dX5_ofJoiner_20 dX5_ofJoiner_22 dX5_ofJoiner_25 hexn (Nat.le_of_ble_eq_true rfl) (Nat.le_of_ble_eq_true rfl) (Nat.le_of_ble_eq_true rfl) (Nat.le_of_ble_eq_true rfl) hlocks (by rw [hE]; exact kE_2) (Nat.le_of_ble_eq_true rfl) (Nat.le_of_ble_eq_true rfl)
