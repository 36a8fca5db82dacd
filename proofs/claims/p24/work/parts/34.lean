abbrev bw_X5_many : List Cond := .code yX5_many cX5_many 2 (some .int) :: BIG
abbrev rm_X5_many : Room := { frames := 6, cells := 2, slots := 12, locals := 90 }
noncomputable def sp_X5_many (S : (Nat → Nat → Nat → Int32)) (p1 : Int32) : Nat × Int32 := if sp_X5_isWithin p1 0 10 = 0 then ((2, 0)) else (if p1 = 0 then ((0, S 1 0 0)) else (if p1 = 1 then ((0, S 1 0 1)) else (if p1 = 2 then ((0, S 2 0 0)) else (if p1 = 3 then ((0, S 3 0 0)) else (if p1 = 4 then ((0, S 0 0 0)) else (if p1 = 5 then ((0, sp_X5_countLeft S)) else (if p1 = 6 then ((0, sp_X5_countStepsIn S 2)) else (if p1 = 7 then ((0, sp_X5_countStepsIn S 1)) else (if p1 = 8 then ((0, sp_X5_countRights S)) else (if p1 = 9 then ((0, sp_X4_seatsTaken S)) else ((0, S 0 0 1))))))))))))
set_option maxHeartbeats 1000000 in
set_option maxRecDepth 100000 in
theorem ct_X5_many {l : Launch} {D : va_G} {cI cG cJ cO : ClassId} {K0 : Nat → Nat} {A : Nat → Prop} {L : List (Nat × Nat)} {ad : Nat → Nat → Nat} {ce : Nat → Nat → va_E} (hL : ∀ f o, cid f o = true → (f, o) ∈ L) (S : (Nat → Nat → Nat → Int32)) (hI : CI S) (p1 : Int32) (hst : l.stackTraces = false) (sz : Nat) (hA : ∀ q, sz ≤ q → A q) : vx_Met l yX5_many bw_X5_many rm_X5_many (kP D (ktys cI cG cJ cO) K0 A L ad (cK cI cJ ad ce S) sz [.ref (ad 0 0), .int p1]) (va_Qi (fun (r : Int32) (_ : Unit) => r = (sp_X5_many S p1).2 ∧ (sp_X5_many S p1).1 = 0) (fun _ t => WE D A L ad (cK cI cJ ad ce S) t) A) (vx_X (fun (_ : Unit) => True) (fun E _ t => kE E (sp_X5_many S p1).1 ∧ WE D A L ad (cK cI cJ ad ce S) t) A) 2 12 A := by
  refine vx_ofW (cc := cX5_many) (maxL := 2) (ret := (some .int)) (by decide) rfl ?_
  intro p e s m args below meth c s₁ B hml hexn hv
  obtain ⟨hav, hsz, hP, hD, hK, hO⟩ := hv
  have hx := B.exec
  have hb := B.bytes
  have hr := B.returns
  have hts : ∀ w ∈ BIG, w.before args s = true := fun w h => atoms_spec (ws := bw_X5_many) B.pre w (List.mem_cons_of_mem _ h)
  have hown : s.vm.findClass RX5 = some m.cls := findClass_of_methodNamed B.named
  have hlocks := B.notSynchronized
  subst hsz
  have hw := wk.start hP hD
  refine k_start (by rfl) hav (Nat.le_of_ble_eq_true rfl) (fun ls hl => ?_)
  have hl : lv_has ls 2 [(0, .ref (ad 0 0)), (1, .int p1)] := hl
  have hE : sp_X5_many S p1 = sp_X5_many S p1 := rfl
  refine lv_iload_n hx hb dX5_many_0 rfl (lv_at hl 1 rfl) ?_
  refine lv_iconst (v := 0) hx hb dX5_many_1 (by decide) ?_
  refine lv_bipush (v := 10) hx hb dX5_many_2 (by decide) ?_
  refine k_ci0 hw (k_rS (As := [.int p1, .int 0, .int 10]) (rest := []) ⟨hx, hb, hml, hown, hts⟩ hK hO hw (ct_X5_isWithin p1 0 10 _ (wk.hA hw hA)) (va_cwS 3 hts (gB_S w_ml_X5_46 w_st_X5_isWithin w_in_X5 w_co_X5_isWithin) rfl rfl rfl (by decide +kernel) ⟨by decide, by decide⟩) rfl hl.1 rfl (Nat.le_of_ble_eq_true rfl) dX5_many_4 ⟨Nat.le_of_ble_eq_true rfl, Nat.le_of_ble_eq_true rfl⟩) (fun H locs hw => ?_)
  refine lv_if_ne (tgt := 20) hx hb dX5_many_7 (by decide) (fun c_1 => ?_) (fun c_1 => ?_)
  · have hE := hE.trans (if_neg c_1)
    refine lv_iload_n hx hb dX5_many_20 rfl (lv_at hl 1 rfl) ?_
    by_cases c_4 : p1 = 0
    · have hE := hE.trans (if_pos c_4)
      refine lv_tableIn (off := 55) (tgt := 76) hx hb dX5_many_21 (by rw [c_4]; decide) (by rw [c_4]; decide) (by rw [c_4]; rfl) (by decide) ?_
      refine lv_aload_n hx hb dX5_many_76 rfl (lv_at hl 0 rfl) ?_
      refine k_get (C := RX5) (T := TX5) (N := 7) (v := .ref (ad 1 0)) hx hb hts inB_X5 hown hK hw (hL 0 0 rfl) cke_0 rfl 0 (by decide) (hts _ w_f_X5_10) (fun _ h9 => h9) rfl dX5_many_77 ?_
      refine k_get (C := RX2) (T := TX2) (N := 8) (v := .int (S 1 0 0)) hx hb hts inB_X2 hown hK hw (hL 1 0 rfl) cke_1 rfl 6 (by decide) (hts _ w_f_X5_120) (fun _ h9 => h9) rfl dX5_many_80 ?_
      exact x_iretP hx hb hr hlocks rfl hw hE (Nat.le_of_ble_eq_true rfl) (Nat.le_of_ble_eq_true rfl) dX5_many_83
    · have hE := hE.trans (if_neg c_4)
      by_cases c_5 : p1 = 1
      · have hE := hE.trans (if_pos c_5)
        refine lv_tableIn (off := 63) (tgt := 84) hx hb dX5_many_21 (by rw [c_5]; decide) (by rw [c_5]; decide) (by rw [c_5]; rfl) (by decide) ?_
        refine lv_aload_n hx hb dX5_many_84 rfl (lv_at hl 0 rfl) ?_
        refine k_get (C := RX5) (T := TX5) (N := 7) (v := .ref (ad 1 0)) hx hb hts inB_X5 hown hK hw (hL 0 0 rfl) cke_0 rfl 0 (by decide) (hts _ w_f_X5_10) (fun _ h9 => h9) rfl dX5_many_85 ?_
        refine k_get (C := RX2) (T := TX2) (N := 8) (v := .int (S 1 0 1)) hx hb hts inB_X2 hown hK hw (hL 1 0 rfl) cke_1 rfl 7 (by decide) (hts _ w_f_X5_249) (fun _ h9 => h9) rfl dX5_many_88 ?_
        exact x_iretP hx hb hr hlocks rfl hw hE (Nat.le_of_ble_eq_true rfl) (Nat.le_of_ble_eq_true rfl) dX5_many_91
      · have hE := hE.trans (if_neg c_5)
        by_cases c_6 : p1 = 2
        · have hE := hE.trans (if_pos c_6)
          refine lv_tableIn (off := 71) (tgt := 92) hx hb dX5_many_21 (by rw [c_6]; decide) (by rw [c_6]; decide) (by rw [c_6]; rfl) (by decide) ?_
          refine lv_aload_n hx hb dX5_many_92 rfl (lv_at hl 0 rfl) ?_
          refine k_get (C := RX5) (T := TX5) (N := 7) (v := .ref (ad 2 0)) hx hb hts inB_X5 hown hK hw (hL 0 0 rfl) cke_0 rfl 1 (by decide) (hts _ w_f_X5_19) (fun _ h9 => h9) rfl dX5_many_93 ?_
          refine k_get (C := RX3) (T := TX3) (N := 5) (v := .int (S 2 0 0)) hx hb hts inB_X3 hown hK hw (hL 2 0 rfl) cke_2 rfl 4 (by decide) (hts _ w_f_X5_252) (fun _ h9 => h9) rfl dX5_many_96 ?_
          exact x_iretP hx hb hr hlocks rfl hw hE (Nat.le_of_ble_eq_true rfl) (Nat.le_of_ble_eq_true rfl) dX5_many_99
        · have hE := hE.trans (if_neg c_6)
          by_cases c_7 : p1 = 3
          · have hE := hE.trans (if_pos c_7)
            refine lv_tableIn (off := 79) (tgt := 100) hx hb dX5_many_21 (by rw [c_7]; decide) (by rw [c_7]; decide) (by rw [c_7]; rfl) (by decide) ?_
            refine lv_aload_n hx hb dX5_many_100 rfl (lv_at hl 0 rfl) ?_
            refine k_get (C := RX5) (T := TX5) (N := 7) (v := .ref (ad 3 0)) hx hb hts inB_X5 hown hK hw (hL 0 0 rfl) cke_0 rfl 2 (by decide) (hts _ w_f_X5_26) (fun _ h9 => h9) rfl dX5_many_101 ?_
            refine k_get (C := RX4) (T := TX4) (N := 5) (v := .int (S 3 0 0)) hx hb hts inB_X4 hown hK hw (hL 3 0 rfl) cke_3 rfl 4 (by decide) (hts _ w_f_X5_139) (fun _ h9 => h9) rfl dX5_many_104 ?_
            exact x_iretP hx hb hr hlocks rfl hw hE (Nat.le_of_ble_eq_true rfl) (Nat.le_of_ble_eq_true rfl) dX5_many_107
          · have hE := hE.trans (if_neg c_7)
            by_cases c_8 : p1 = 4
            · have hE := hE.trans (if_pos c_8)
              refine lv_tableIn (off := 87) (tgt := 108) hx hb dX5_many_21 (by rw [c_8]; decide) (by rw [c_8]; decide) (by rw [c_8]; rfl) (by decide) ?_
              refine lv_aload_n hx hb dX5_many_108 rfl (lv_at hl 0 rfl) ?_
              refine k_get (C := RX5) (T := TX5) (N := 7) (v := .int (S 0 0 0)) hx hb hts inB_X5 hown hK hw (hL 0 0 rfl) cke_0 rfl 5 (by decide) (hts _ w_f_X5_174) (fun _ h9 => h9) rfl dX5_many_109 ?_
              exact x_iretP hx hb hr hlocks rfl hw hE (Nat.le_of_ble_eq_true rfl) (Nat.le_of_ble_eq_true rfl) dX5_many_112
            · have hE := hE.trans (if_neg c_8)
              by_cases c_9 : p1 = 5
              · have hE := hE.trans (if_pos c_9)
                refine lv_tableIn (off := 92) (tgt := 113) hx hb dX5_many_21 (by rw [c_9]; decide) (by rw [c_9]; decide) (by rw [c_9]; rfl) (by decide) ?_
                refine lv_aload_n hx hb dX5_many_113 rfl (lv_at hl 0 rfl) ?_
                refine k_ci0 hw (k_rV (As := []) (rest := []) ⟨hx, hb, hml, hown, hts⟩ hK hO hw (ct_X5_countLeft hL S (SF.ci (SF.rf _) hI) _ (wk.hA hw hA)) (cwV 0 hts (gB_V w_ml_X5_255 w_im_X5_countLeft w_se_X5_countLeft w_in_X5 w_co_X5_countLeft) rfl rfl rfl (by decide +kernel) ⟨by decide, by decide⟩) (hL 0 0 rfl) cke_0 rfl rfl hl.1 rfl (Nat.le_of_ble_eq_true rfl) dX5_many_114 ⟨Nat.le_of_ble_eq_true rfl, Nat.le_of_ble_eq_true rfl⟩) (fun H locs hw => ?_)
                exact x_iretP hx hb hr hlocks rfl hw hE (Nat.le_of_ble_eq_true rfl) (Nat.le_of_ble_eq_true rfl) dX5_many_117
              · have hE := hE.trans (if_neg c_9)
                by_cases c_10 : p1 = 6
                · have hE := hE.trans (if_pos c_10)
                  refine lv_tableIn (off := 97) (tgt := 118) hx hb dX5_many_21 (by rw [c_10]; decide) (by rw [c_10]; decide) (by rw [c_10]; rfl) (by decide) ?_
                  refine lv_aload_n hx hb dX5_many_118 rfl (lv_at hl 0 rfl) ?_
                  refine lv_iconst (v := 2) hx hb dX5_many_119 (by decide) ?_
                  refine k_ci0 hw (k_rV (As := [.int 2]) (rest := []) ⟨hx, hb, hml, hown, hts⟩ hK hO hw (ct_X5_countStepsIn hL S (SF.ci (SF.rf _) hI) 2 _ (wk.hA hw hA)) (cwV 1 hts (gB_V w_ml_X5_259 w_im_X5_countStepsIn w_se_X5_countStepsIn w_in_X5 w_co_X5_countStepsIn) rfl rfl rfl (by decide +kernel) ⟨by decide, by decide⟩) (hL 0 0 rfl) cke_0 rfl rfl hl.1 rfl (Nat.le_of_ble_eq_true rfl) dX5_many_120 ⟨Nat.le_of_ble_eq_true rfl, Nat.le_of_ble_eq_true rfl⟩) (fun H locs hw => ?_)
                  exact x_iretP hx hb hr hlocks rfl hw hE (Nat.le_of_ble_eq_true rfl) (Nat.le_of_ble_eq_true rfl) dX5_many_123
                · have hE := hE.trans (if_neg c_10)
                  by_cases c_11 : p1 = 7
                  · have hE := hE.trans (if_pos c_11)
                    refine lv_tableIn (off := 103) (tgt := 124) hx hb dX5_many_21 (by rw [c_11]; decide) (by rw [c_11]; decide) (by rw [c_11]; rfl) (by decide) ?_
                    refine lv_aload_n hx hb dX5_many_124 rfl (lv_at hl 0 rfl) ?_
                    refine lv_iconst (v := 1) hx hb dX5_many_125 (by decide) ?_
                    refine k_ci0 hw (k_rV (As := [.int 1]) (rest := []) ⟨hx, hb, hml, hown, hts⟩ hK hO hw (ct_X5_countStepsIn hL S (SF.ci (SF.rf _) hI) 1 _ (wk.hA hw hA)) (cwV 1 hts (gB_V w_ml_X5_259 w_im_X5_countStepsIn w_se_X5_countStepsIn w_in_X5 w_co_X5_countStepsIn) rfl rfl rfl (by decide +kernel) ⟨by decide, by decide⟩) (hL 0 0 rfl) cke_0 rfl rfl hl.1 rfl (Nat.le_of_ble_eq_true rfl) dX5_many_126 ⟨Nat.le_of_ble_eq_true rfl, Nat.le_of_ble_eq_true rfl⟩) (fun H locs hw => ?_)
                    exact x_iretP hx hb hr hlocks rfl hw hE (Nat.le_of_ble_eq_true rfl) (Nat.le_of_ble_eq_true rfl) dX5_many_129
                  · have hE := hE.trans (if_neg c_11)
                    by_cases c_12 : p1 = 8
                    · have hE := hE.trans (if_pos c_12)
                      refine lv_tableIn (off := 109) (tgt := 130) hx hb dX5_many_21 (by rw [c_12]; decide) (by rw [c_12]; decide) (by rw [c_12]; rfl) (by decide) ?_
                      refine lv_aload_n hx hb dX5_many_130 rfl (lv_at hl 0 rfl) ?_
                      refine k_ci0 hw (k_rV (As := []) (rest := []) ⟨hx, hb, hml, hown, hts⟩ hK hO hw (ct_X5_countRights hL S (SF.ci (SF.rf _) hI) _ (wk.hA hw hA)) (cwV 0 hts (gB_V w_ml_X5_262 w_im_X5_countRights w_se_X5_countRights w_in_X5 w_co_X5_countRights) rfl rfl rfl (by decide +kernel) ⟨by decide, by decide⟩) (hL 0 0 rfl) cke_0 rfl rfl hl.1 rfl (Nat.le_of_ble_eq_true rfl) dX5_many_131 ⟨Nat.le_of_ble_eq_true rfl, Nat.le_of_ble_eq_true rfl⟩) (fun H locs hw => ?_)
                      exact x_iretP hx hb hr hlocks rfl hw hE (Nat.le_of_ble_eq_true rfl) (Nat.le_of_ble_eq_true rfl) dX5_many_134
                    · have hE := hE.trans (if_neg c_12)
                      by_cases c_13 : p1 = 9
                      · have hE := hE.trans (if_pos c_13)
                        refine lv_tableIn (off := 114) (tgt := 135) hx hb dX5_many_21 (by rw [c_13]; decide) (by rw [c_13]; decide) (by rw [c_13]; rfl) (by decide) ?_
                        refine lv_aload_n hx hb dX5_many_135 rfl (lv_at hl 0 rfl) ?_
                        refine k_get (C := RX5) (T := TX5) (N := 7) (v := .ref (ad 3 0)) hx hb hts inB_X5 hown hK hw (hL 0 0 rfl) cke_0 rfl 2 (by decide) (hts _ w_f_X5_26) (fun _ h9 => h9) rfl dX5_many_136 ?_
                        refine k_ci0 hw (k_rV (As := []) (rest := []) ⟨hx, hb, hml, hown, hts⟩ hK hO hw (ct_X4_seatsTaken hL S (SF.ci (SF.rf _) hI) _ (wk.hA hw hA)) (cwV 0 hts (gB_V w_ml_X5_265 w_im_X4_seatsTaken w_se_X4_seatsTaken w_in_X4 w_co_X4_seatsTaken) rfl rfl rfl (by decide +kernel) ⟨by decide, by decide⟩) (hL 3 0 rfl) cke_3 rfl rfl hl.1 rfl (Nat.le_of_ble_eq_true rfl) dX5_many_139 ⟨Nat.le_of_ble_eq_true rfl, Nat.le_of_ble_eq_true rfl⟩) (fun H locs hw => ?_)
                        exact x_iretP hx hb hr hlocks rfl hw hE (Nat.le_of_ble_eq_true rfl) (Nat.le_of_ble_eq_true rfl) dX5_many_142
                      · have hE := hE.trans (if_neg c_13)
                        refine lv_tableOut (tgt := 143) hx hb dX5_many_21 (sw_out10 c_4 c_5 c_6 c_7 c_8 c_9 c_10 c_11 c_12 c_13) (by decide) ?_
                        refine lv_aload_n hx hb dX5_many_143 rfl (lv_at hl 0 rfl) ?_
                        refine k_get (C := RX5) (T := TX5) (N := 7) (v := .int (S 0 0 1)) hx hb hts inB_X5 hown hK hw (hL 0 0 rfl) cke_0 rfl 6 (by decide) (hts _ w_f_X5_160) (fun _ h9 => h9) rfl dX5_many_144 ?_
                        exact x_iretP hx hb hr hlocks rfl hw hE (Nat.le_of_ble_eq_true rfl) (Nat.le_of_ble_eq_true rfl) dX5_many_147
  · have hE := hE.trans (if_pos c_1)
    obtain ⟨sa, hsa⟩ := hO.2.1 (RX5, 247, "nothing is counted so") (by decide +kernel)
    exact k_throw hx hb hst hown (by decide +kernel) (by decide +kernel) (hts _ w_cl_X5_58) (hts _ w_in_java_lang_IllegalArgumentException) hsa (xh_2 hts hO.2.2.1) xg_2 hO hw hl.1 hml dX5_many_10 dX5_many_13 dX5_many_14 dX5_many_16 dX5_many_19 hexn (Nat.le_of_ble_eq_true rfl) (Nat.le_of_ble_eq_true rfl) (Nat.le_of_ble_eq_true rfl) (Nat.le_of_ble_eq_true rfl) hlocks (by rw [hE]; exact kE_2) (Nat.le_of_ble_eq_true rfl) (Nat.le_of_ble_eq_true rfl)

abbrev rm_X5_many_n : Room := { frames := 3, cells := 0, slots := 0, locals := 69 }
noncomputable def sp_X5_many_n (S : (Nat → Nat → Nat → Int32)) (p1 : Int32) : Int32 := if p1 = 0 then (S 1 0 0) else (if p1 = 1 then (S 1 0 1) else (if p1 = 2 then (S 2 0 0) else (if p1 = 3 then (S 3 0 0) else (if p1 = 4 then (S 0 0 0) else (if p1 = 5 then (sp_X5_countLeft S) else (if p1 = 6 then (sp_X5_countStepsIn S 2) else (if p1 = 7 then (sp_X5_countStepsIn S 1) else (if p1 = 8 then (sp_X5_countRights S) else (if p1 = 9 then (sp_X4_seatsTaken S) else (S 0 0 1))))))))))
set_option maxHeartbeats 1000000 in
set_option maxRecDepth 100000 in
theorem ct_X5_many_n {l : Launch} {D : va_G} {cI cG cJ cO : ClassId} {K0 : Nat → Nat} {A : Nat → Prop} {L : List (Nat × Nat)} {ad : Nat → Nat → Nat} {ce : Nat → Nat → va_E} (hL : ∀ f o, cid f o = true → (f, o) ∈ L) (S : (Nat → Nat → Nat → Int32)) (hI : CI S) (p1 : Int32) (hv : ¬ sp_X5_isWithin p1 0 10 = 0) (sz : Nat) (hA : ∀ q, sz ≤ q → A q) : Met l yX5_many bw_X5_many rm_X5_many_n (kP D (ktys cI cG cJ cO) K0 A L ad (cK cI cJ ad ce S) sz [.ref (ad 0 0), .int p1]) (kQi D A (sp_X5_many_n S p1) L ad (cK cI cJ ad ce S)) 0 0 A := by
  refine Met.ofW (cc := cX5_many) (maxL := 2) (ret := (some .int)) (by decide) rfl ?_
  intro p e s m args below meth c s₁ B hml hv
  obtain ⟨hav, hsz, hP, hD, hK, hO⟩ := hv
  have hx := B.exec
  have hb := B.bytes
  have hr := B.returns
  have hts : ∀ w ∈ BIG, w.before args s = true := fun w h => atoms_spec (ws := bw_X5_many) B.pre w (List.mem_cons_of_mem _ h)
  have hown : s.vm.findClass RX5 = some m.cls := findClass_of_methodNamed B.named
  have hlocks := B.notSynchronized
  subst hsz
  have hw := wk.start hP hD
  refine k_start (by rfl) hav (Nat.le_of_ble_eq_true rfl) (fun ls hl => ?_)
  have hl : lv_has ls 2 [(0, .ref (ad 0 0)), (1, .int p1)] := hl
  have hE : sp_X5_many_n S p1 = sp_X5_many_n S p1 := rfl
  refine lv_iload_n hx hb dX5_many_0 rfl (lv_at hl 1 rfl) ?_
  refine lv_iconst (v := 0) hx hb dX5_many_1 (by decide) ?_
  refine lv_bipush (v := 10) hx hb dX5_many_2 (by decide) ?_
  refine k_ci0 hw (k_rS (As := [.int p1, .int 0, .int 10]) (rest := []) ⟨hx, hb, hml, hown, hts⟩ hK hO hw (ct_X5_isWithin p1 0 10 _ (wk.hA hw hA)) (va_cwS 3 hts (gB_S w_ml_X5_46 w_st_X5_isWithin w_in_X5 w_co_X5_isWithin) rfl rfl rfl (by decide +kernel) ⟨by decide, by decide⟩) rfl hl.1 rfl (Nat.le_of_ble_eq_true rfl) dX5_many_4 ⟨Nat.le_of_ble_eq_true rfl, Nat.le_of_ble_eq_true rfl⟩) (fun H locs hw => ?_)
  refine lv_if_ne (tgt := 20) hx hb dX5_many_7 (by decide) (fun _ => ?_) (fun h => absurd h hv)
  refine lv_iload_n hx hb dX5_many_20 rfl (lv_at hl 1 rfl) ?_
  by_cases c_3 : p1 = 0
  · have hE := hE.trans (if_pos c_3)
    refine lv_tableIn (off := 55) (tgt := 76) hx hb dX5_many_21 (by rw [c_3]; decide) (by rw [c_3]; decide) (by rw [c_3]; rfl) (by decide) ?_
    refine lv_aload_n hx hb dX5_many_76 rfl (lv_at hl 0 rfl) ?_
    refine k_get (C := RX5) (T := TX5) (N := 7) (v := .ref (ad 1 0)) hx hb hts inB_X5 hown hK hw (hL 0 0 rfl) cke_0 rfl 0 (by decide) (hts _ w_f_X5_10) (fun _ h9 => h9) rfl dX5_many_77 ?_
    refine k_get (C := RX2) (T := TX2) (N := 8) (v := .int (S 1 0 0)) hx hb hts inB_X2 hown hK hw (hL 1 0 rfl) cke_1 rfl 6 (by decide) (hts _ w_f_X5_120) (fun _ h9 => h9) rfl dX5_many_80 ?_
    exact k_iret hx hb hr hlocks rfl hw hE rfl dX5_many_83
  · have hE := hE.trans (if_neg c_3)
    by_cases c_4 : p1 = 1
    · have hE := hE.trans (if_pos c_4)
      refine lv_tableIn (off := 63) (tgt := 84) hx hb dX5_many_21 (by rw [c_4]; decide) (by rw [c_4]; decide) (by rw [c_4]; rfl) (by decide) ?_
      refine lv_aload_n hx hb dX5_many_84 rfl (lv_at hl 0 rfl) ?_
      refine k_get (C := RX5) (T := TX5) (N := 7) (v := .ref (ad 1 0)) hx hb hts inB_X5 hown hK hw (hL 0 0 rfl) cke_0 rfl 0 (by decide) (hts _ w_f_X5_10) (fun _ h9 => h9) rfl dX5_many_85 ?_
      refine k_get (C := RX2) (T := TX2) (N := 8) (v := .int (S 1 0 1)) hx hb hts inB_X2 hown hK hw (hL 1 0 rfl) cke_1 rfl 7 (by decide) (hts _ w_f_X5_249) (fun _ h9 => h9) rfl dX5_many_88 ?_
      exact k_iret hx hb hr hlocks rfl hw hE rfl dX5_many_91
    · have hE := hE.trans (if_neg c_4)
      by_cases c_5 : p1 = 2
      · have hE := hE.trans (if_pos c_5)
        refine lv_tableIn (off := 71) (tgt := 92) hx hb dX5_many_21 (by rw [c_5]; decide) (by rw [c_5]; decide) (by rw [c_5]; rfl) (by decide) ?_
        refine lv_aload_n hx hb dX5_many_92 rfl (lv_at hl 0 rfl) ?_
        refine k_get (C := RX5) (T := TX5) (N := 7) (v := .ref (ad 2 0)) hx hb hts inB_X5 hown hK hw (hL 0 0 rfl) cke_0 rfl 1 (by decide) (hts _ w_f_X5_19) (fun _ h9 => h9) rfl dX5_many_93 ?_
        refine k_get (C := RX3) (T := TX3) (N := 5) (v := .int (S 2 0 0)) hx hb hts inB_X3 hown hK hw (hL 2 0 rfl) cke_2 rfl 4 (by decide) (hts _ w_f_X5_252) (fun _ h9 => h9) rfl dX5_many_96 ?_
        exact k_iret hx hb hr hlocks rfl hw hE rfl dX5_many_99
      · have hE := hE.trans (if_neg c_5)
        by_cases c_6 : p1 = 3
        · have hE := hE.trans (if_pos c_6)
          refine lv_tableIn (off := 79) (tgt := 100) hx hb dX5_many_21 (by rw [c_6]; decide) (by rw [c_6]; decide) (by rw [c_6]; rfl) (by decide) ?_
          refine lv_aload_n hx hb dX5_many_100 rfl (lv_at hl 0 rfl) ?_
          refine k_get (C := RX5) (T := TX5) (N := 7) (v := .ref (ad 3 0)) hx hb hts inB_X5 hown hK hw (hL 0 0 rfl) cke_0 rfl 2 (by decide) (hts _ w_f_X5_26) (fun _ h9 => h9) rfl dX5_many_101 ?_
          refine k_get (C := RX4) (T := TX4) (N := 5) (v := .int (S 3 0 0)) hx hb hts inB_X4 hown hK hw (hL 3 0 rfl) cke_3 rfl 4 (by decide) (hts _ w_f_X5_139) (fun _ h9 => h9) rfl dX5_many_104 ?_
          exact k_iret hx hb hr hlocks rfl hw hE rfl dX5_many_107
        · have hE := hE.trans (if_neg c_6)
          by_cases c_7 : p1 = 4
          · have hE := hE.trans (if_pos c_7)
            refine lv_tableIn (off := 87) (tgt := 108) hx hb dX5_many_21 (by rw [c_7]; decide) (by rw [c_7]; decide) (by rw [c_7]; rfl) (by decide) ?_
            refine lv_aload_n hx hb dX5_many_108 rfl (lv_at hl 0 rfl) ?_
            refine k_get (C := RX5) (T := TX5) (N := 7) (v := .int (S 0 0 0)) hx hb hts inB_X5 hown hK hw (hL 0 0 rfl) cke_0 rfl 5 (by decide) (hts _ w_f_X5_174) (fun _ h9 => h9) rfl dX5_many_109 ?_
            exact k_iret hx hb hr hlocks rfl hw hE rfl dX5_many_112
          · have hE := hE.trans (if_neg c_7)
            by_cases c_8 : p1 = 5
            · have hE := hE.trans (if_pos c_8)
              refine lv_tableIn (off := 92) (tgt := 113) hx hb dX5_many_21 (by rw [c_8]; decide) (by rw [c_8]; decide) (by rw [c_8]; rfl) (by decide) ?_
              refine lv_aload_n hx hb dX5_many_113 rfl (lv_at hl 0 rfl) ?_
              refine k_ci0 hw (k_rV (As := []) (rest := []) ⟨hx, hb, hml, hown, hts⟩ hK hO hw (ct_X5_countLeft hL S (SF.ci (SF.rf _) hI) _ (wk.hA hw hA)) (cwV 0 hts (gB_V w_ml_X5_255 w_im_X5_countLeft w_se_X5_countLeft w_in_X5 w_co_X5_countLeft) rfl rfl rfl (by decide +kernel) ⟨by decide, by decide⟩) (hL 0 0 rfl) cke_0 rfl rfl hl.1 rfl (Nat.le_of_ble_eq_true rfl) dX5_many_114 ⟨Nat.le_of_ble_eq_true rfl, Nat.le_of_ble_eq_true rfl⟩) (fun H locs hw => ?_)
              exact k_iret hx hb hr hlocks rfl hw hE rfl dX5_many_117
            · have hE := hE.trans (if_neg c_8)
              by_cases c_9 : p1 = 6
              · have hE := hE.trans (if_pos c_9)
                refine lv_tableIn (off := 97) (tgt := 118) hx hb dX5_many_21 (by rw [c_9]; decide) (by rw [c_9]; decide) (by rw [c_9]; rfl) (by decide) ?_
                refine lv_aload_n hx hb dX5_many_118 rfl (lv_at hl 0 rfl) ?_
                refine lv_iconst (v := 2) hx hb dX5_many_119 (by decide) ?_
                refine k_ci0 hw (k_rV (As := [.int 2]) (rest := []) ⟨hx, hb, hml, hown, hts⟩ hK hO hw (ct_X5_countStepsIn hL S (SF.ci (SF.rf _) hI) 2 _ (wk.hA hw hA)) (cwV 1 hts (gB_V w_ml_X5_259 w_im_X5_countStepsIn w_se_X5_countStepsIn w_in_X5 w_co_X5_countStepsIn) rfl rfl rfl (by decide +kernel) ⟨by decide, by decide⟩) (hL 0 0 rfl) cke_0 rfl rfl hl.1 rfl (Nat.le_of_ble_eq_true rfl) dX5_many_120 ⟨Nat.le_of_ble_eq_true rfl, Nat.le_of_ble_eq_true rfl⟩) (fun H locs hw => ?_)
                exact k_iret hx hb hr hlocks rfl hw hE rfl dX5_many_123
              · have hE := hE.trans (if_neg c_9)
                by_cases c_10 : p1 = 7
                · have hE := hE.trans (if_pos c_10)
                  refine lv_tableIn (off := 103) (tgt := 124) hx hb dX5_many_21 (by rw [c_10]; decide) (by rw [c_10]; decide) (by rw [c_10]; rfl) (by decide) ?_
                  refine lv_aload_n hx hb dX5_many_124 rfl (lv_at hl 0 rfl) ?_
                  refine lv_iconst (v := 1) hx hb dX5_many_125 (by decide) ?_
                  refine k_ci0 hw (k_rV (As := [.int 1]) (rest := []) ⟨hx, hb, hml, hown, hts⟩ hK hO hw (ct_X5_countStepsIn hL S (SF.ci (SF.rf _) hI) 1 _ (wk.hA hw hA)) (cwV 1 hts (gB_V w_ml_X5_259 w_im_X5_countStepsIn w_se_X5_countStepsIn w_in_X5 w_co_X5_countStepsIn) rfl rfl rfl (by decide +kernel) ⟨by decide, by decide⟩) (hL 0 0 rfl) cke_0 rfl rfl hl.1 rfl (Nat.le_of_ble_eq_true rfl) dX5_many_126 ⟨Nat.le_of_ble_eq_true rfl, Nat.le_of_ble_eq_true rfl⟩) (fun H locs hw => ?_)
                  exact k_iret hx hb hr hlocks rfl hw hE rfl dX5_many_129
                · have hE := hE.trans (if_neg c_10)
                  by_cases c_11 : p1 = 8
                  · have hE := hE.trans (if_pos c_11)
                    refine lv_tableIn (off := 109) (tgt := 130) hx hb dX5_many_21 (by rw [c_11]; decide) (by rw [c_11]; decide) (by rw [c_11]; rfl) (by decide) ?_
                    refine lv_aload_n hx hb dX5_many_130 rfl (lv_at hl 0 rfl) ?_
                    refine k_ci0 hw (k_rV (As := []) (rest := []) ⟨hx, hb, hml, hown, hts⟩ hK hO hw (ct_X5_countRights hL S (SF.ci (SF.rf _) hI) _ (wk.hA hw hA)) (cwV 0 hts (gB_V w_ml_X5_262 w_im_X5_countRights w_se_X5_countRights w_in_X5 w_co_X5_countRights) rfl rfl rfl (by decide +kernel) ⟨by decide, by decide⟩) (hL 0 0 rfl) cke_0 rfl rfl hl.1 rfl (Nat.le_of_ble_eq_true rfl) dX5_many_131 ⟨Nat.le_of_ble_eq_true rfl, Nat.le_of_ble_eq_true rfl⟩) (fun H locs hw => ?_)
                    exact k_iret hx hb hr hlocks rfl hw hE rfl dX5_many_134
                  · have hE := hE.trans (if_neg c_11)
                    by_cases c_12 : p1 = 9
                    · have hE := hE.trans (if_pos c_12)
                      refine lv_tableIn (off := 114) (tgt := 135) hx hb dX5_many_21 (by rw [c_12]; decide) (by rw [c_12]; decide) (by rw [c_12]; rfl) (by decide) ?_
                      refine lv_aload_n hx hb dX5_many_135 rfl (lv_at hl 0 rfl) ?_
                      refine k_get (C := RX5) (T := TX5) (N := 7) (v := .ref (ad 3 0)) hx hb hts inB_X5 hown hK hw (hL 0 0 rfl) cke_0 rfl 2 (by decide) (hts _ w_f_X5_26) (fun _ h9 => h9) rfl dX5_many_136 ?_
                      refine k_ci0 hw (k_rV (As := []) (rest := []) ⟨hx, hb, hml, hown, hts⟩ hK hO hw (ct_X4_seatsTaken hL S (SF.ci (SF.rf _) hI) _ (wk.hA hw hA)) (cwV 0 hts (gB_V w_ml_X5_265 w_im_X4_seatsTaken w_se_X4_seatsTaken w_in_X4 w_co_X4_seatsTaken) rfl rfl rfl (by decide +kernel) ⟨by decide, by decide⟩) (hL 3 0 rfl) cke_3 rfl rfl hl.1 rfl (Nat.le_of_ble_eq_true rfl) dX5_many_139 ⟨Nat.le_of_ble_eq_true rfl, Nat.le_of_ble_eq_true rfl⟩) (fun H locs hw => ?_)
                      exact k_iret hx hb hr hlocks rfl hw hE rfl dX5_many_142
                    · have hE := hE.trans (if_neg c_12)
                      refine lv_tableOut (tgt := 143) hx hb dX5_many_21 (sw_out10 c_3 c_4 c_5 c_6 c_7 c_8 c_9 c_10 c_11 c_12) (by decide) ?_
                      refine lv_aload_n hx hb dX5_many_143 rfl (lv_at hl 0 rfl) ?_
                      refine k_get (C := RX5) (T := TX5) (N := 7) (v := .int (S 0 0 1)) hx hb hts inB_X5 hown hK hw (hL 0 0 rfl) cke_0 rfl 6 (by decide) (hts _ w_f_X5_160) (fun _ h9 => h9) rfl dX5_many_144 ?_
                      exact k_iret hx hb hr hlocks rfl hw hE rfl dX5_many_147
