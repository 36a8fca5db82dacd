abbrev bw_X5_foreseenOfStep : List Cond := .code yX5_foreseenOfStep cX5_foreseenOfStep 4 (some .int) :: BIG
abbrev rm_X5_foreseenOfStep : Room := { frames := 2, cells := 0, slots := 0, locals := 48 }
noncomputable def sp_X5_foreseenOfStep (S : (Nat → Nat → Nat → Int32)) (j : Nat) (p2 : Int32) (p3 : Int32) : Int32 := if p2 < 0 then ((-1)) else (if p2 < 12 then (if p3 = 0 then (S 24 j p2.toNatClampNeg) else (if p3 = 1 then (S 22 0 p2.toNatClampNeg) else (if p3 = 2 then (S 23 0 p2.toNatClampNeg) else (if p3 = 3 then (S 27 j p2.toNatClampNeg) else (if p3 = 4 then (sp_X2_lengthFor S j p2) else (S 28 j p2.toNatClampNeg)))))) else ((-1)))
set_option maxHeartbeats 1000000 in
set_option maxRecDepth 100000 in
theorem ct_X5_foreseenOfStep {l : Launch} {D : va_G} {cI cG cJ cO : ClassId} {K0 : Nat → Nat} {A : Nat → Prop} {L : List (Nat × Nat)} {ad : Nat → Nat → Nat} {ce : Nat → Nat → va_E} (hL : ∀ f o, cid f o = true → (f, o) ∈ L) (S : (Nat → Nat → Nat → Int32)) (hI : CI S) (j : Nat) (hj : j < 8) (p2 : Int32) (p3 : Int32) (sz : Nat) (hA : ∀ q, sz ≤ q → A q) : Met l yX5_foreseenOfStep bw_X5_foreseenOfStep rm_X5_foreseenOfStep (kP D (ktys cI cG cJ cO) K0 A L ad (cK cI cJ ad ce S) sz [.ref (ad 0 0), .ref (ad 6 j), .int p2, .int p3]) (kQi D A (sp_X5_foreseenOfStep S j p2 p3) L ad (cK cI cJ ad ce S)) 0 0 A := by
  refine Met.ofW (cc := cX5_foreseenOfStep) (maxL := 4) (ret := (some .int)) (by decide) rfl ?_
  intro p e s m args below meth c s₁ B hml hv
  obtain ⟨hav, hsz, hP, hD, hK, hO⟩ := hv
  have hx := B.exec
  have hb := B.bytes
  have hr := B.returns
  have hts : ∀ w ∈ BIG, w.before args s = true := fun w h => atoms_spec (ws := bw_X5_foreseenOfStep) B.pre w (List.mem_cons_of_mem _ h)
  have hown : s.vm.findClass RX5 = some m.cls := findClass_of_methodNamed B.named
  have hlocks := B.notSynchronized
  subst hsz
  have hw := wk.start hP hD
  refine k_start (by rfl) hav (Nat.le_of_ble_eq_true rfl) (fun ls hl => ?_)
  have hl : lv_has ls 4 [(0, .ref (ad 0 0)), (1, .ref (ad 6 j)), (2, .int p2), (3, .int p3)] := hl
  have hE : sp_X5_foreseenOfStep S j p2 p3 = sp_X5_foreseenOfStep S j p2 p3 := rfl
  refine lv_iload_n hx hb dX5_foreseenOfStep_0 rfl (lv_at hl 2 rfl) ?_
  refine lv_if_lt (tgt := 10) hx hb dX5_foreseenOfStep_1 (by decide) (fun c_1 => ?_) (fun c_1 => ?_)
  · have hE := hE.trans (if_pos c_1)
    refine lv_iconst (v := (-1)) hx hb dX5_foreseenOfStep_10 (by decide) ?_
    exact k_iret hx hb hr hlocks rfl hw hE rfl dX5_foreseenOfStep_11
  · have hE := hE.trans (if_neg c_1)
    refine lv_iload_n hx hb dX5_foreseenOfStep_4 rfl (lv_at hl 2 rfl) ?_
    refine lv_bipush (v := 12) hx hb dX5_foreseenOfStep_5 (by decide) ?_
    refine lv_icmp_lt (tgt := 12) hx hb dX5_foreseenOfStep_7 (by decide) (fun c_2 => ?_) (fun c_2 => ?_)
    · have hE := hE.trans (if_pos c_2)
      refine lv_iload_n hx hb dX5_foreseenOfStep_12 rfl (lv_at hl 3 rfl) ?_
      by_cases c_5 : p3 = 0
      · have hE := hE.trans (if_pos c_5)
        refine lv_tableIn (off := 35) (tgt := 48) hx hb dX5_foreseenOfStep_13 (by rw [c_5]; decide) (by rw [c_5]; decide) (by rw [c_5]; rfl) (by decide) ?_
        refine lv_aload_n hx hb dX5_foreseenOfStep_48 rfl (lv_at hl 1 rfl) ?_
        refine k_get (C := RX1) (T := TX1) (N := 8) (v := .ref (ad 24 j)) hx hb hts inB_X1 hown hK hw (hL 6 j (cidJ6 hj)) cke_6 rfl 0 (by decide) (hts _ w_f_X5_195) (fun _ h9 => h9) rfl dX5_foreseenOfStep_49 ?_
        refine lv_iload_n hx hb dX5_foreseenOfStep_52 rfl (lv_at hl 2 rfl) ?_
        refine k_ald hx hb hK hw (hL 24 j (cidJ24 hj)) 0 cke_24 rfl (k_in' c_1 c_2 (by decide)) dX5_foreseenOfStep_53 ?_
        exact k_iret hx hb hr hlocks rfl hw hE rfl dX5_foreseenOfStep_54
      · have hE := hE.trans (if_neg c_5)
        by_cases c_6 : p3 = 1
        · have hE := hE.trans (if_pos c_6)
          refine lv_tableIn (off := 42) (tgt := 55) hx hb dX5_foreseenOfStep_13 (by rw [c_6]; decide) (by rw [c_6]; decide) (by rw [c_6]; rfl) (by decide) ?_
          refine lv_aload_n hx hb dX5_foreseenOfStep_55 rfl (lv_at hl 0 rfl) ?_
          refine k_get (C := RX5) (T := TX5) (N := 7) (v := .ref (ad 4 0)) hx hb hts inB_X5 hown hK hw (hL 0 0 rfl) cke_0 rfl 3 (by decide) (hts _ w_f_X5_35) (fun _ h9 => h9) rfl dX5_foreseenOfStep_56 ?_
          refine k_get (C := RX0) (T := TX0) (N := 7) (v := .ref (ad 22 0)) hx hb hts inB_X0 hown hK hw (hL 4 0 rfl) cke_4 rfl 4 (by decide) (hts _ w_f_X5_362) (fun _ h9 => h9) rfl dX5_foreseenOfStep_59 ?_
          refine lv_iload_n hx hb dX5_foreseenOfStep_62 rfl (lv_at hl 2 rfl) ?_
          refine k_ald hx hb hK hw (hL 22 0 rfl) 0 cke_22 rfl (k_in' c_1 c_2 (by decide)) dX5_foreseenOfStep_63 ?_
          exact k_iret hx hb hr hlocks rfl hw hE rfl dX5_foreseenOfStep_64
        · have hE := hE.trans (if_neg c_6)
          by_cases c_7 : p3 = 2
          · have hE := hE.trans (if_pos c_7)
            refine lv_tableIn (off := 52) (tgt := 65) hx hb dX5_foreseenOfStep_13 (by rw [c_7]; decide) (by rw [c_7]; decide) (by rw [c_7]; rfl) (by decide) ?_
            refine lv_aload_n hx hb dX5_foreseenOfStep_65 rfl (lv_at hl 0 rfl) ?_
            refine k_get (C := RX5) (T := TX5) (N := 7) (v := .ref (ad 4 0)) hx hb hts inB_X5 hown hK hw (hL 0 0 rfl) cke_0 rfl 3 (by decide) (hts _ w_f_X5_35) (fun _ h9 => h9) rfl dX5_foreseenOfStep_66 ?_
            refine k_get (C := RX0) (T := TX0) (N := 7) (v := .ref (ad 23 0)) hx hb hts inB_X0 hown hK hw (hL 4 0 rfl) cke_4 rfl 5 (by decide) (hts _ w_f_X5_369) (fun _ h9 => h9) rfl dX5_foreseenOfStep_69 ?_
            refine lv_iload_n hx hb dX5_foreseenOfStep_72 rfl (lv_at hl 2 rfl) ?_
            refine k_ald hx hb hK hw (hL 23 0 rfl) 0 cke_23 rfl (k_in' c_1 c_2 (by decide)) dX5_foreseenOfStep_73 ?_
            exact k_iret hx hb hr hlocks rfl hw hE rfl dX5_foreseenOfStep_74
          · have hE := hE.trans (if_neg c_7)
            by_cases c_8 : p3 = 3
            · have hE := hE.trans (if_pos c_8)
              refine lv_tableIn (off := 62) (tgt := 75) hx hb dX5_foreseenOfStep_13 (by rw [c_8]; decide) (by rw [c_8]; decide) (by rw [c_8]; rfl) (by decide) ?_
              refine lv_aload_n hx hb dX5_foreseenOfStep_75 rfl (lv_at hl 1 rfl) ?_
              refine k_get (C := RX1) (T := TX1) (N := 8) (v := .ref (ad 27 j)) hx hb hts inB_X1 hown hK hw (hL 6 j (cidJ6 hj)) cke_6 rfl 3 (by decide) (hts _ w_f_X5_198) (fun _ h9 => h9) rfl dX5_foreseenOfStep_76 ?_
              refine lv_iload_n hx hb dX5_foreseenOfStep_79 rfl (lv_at hl 2 rfl) ?_
              refine k_ald hx hb hK hw (hL 27 j (cidJ27 hj)) 0 cke_27 rfl (k_in' c_1 c_2 (by decide)) dX5_foreseenOfStep_80 ?_
              exact k_iret hx hb hr hlocks rfl hw hE rfl dX5_foreseenOfStep_81
            · have hE := hE.trans (if_neg c_8)
              by_cases c_9 : p3 = 4
              · have hE := hE.trans (if_pos c_9)
                refine lv_tableIn (off := 69) (tgt := 82) hx hb dX5_foreseenOfStep_13 (by rw [c_9]; decide) (by rw [c_9]; decide) (by rw [c_9]; rfl) (by decide) ?_
                refine lv_aload_n hx hb dX5_foreseenOfStep_82 rfl (lv_at hl 0 rfl) ?_
                refine k_get (C := RX5) (T := TX5) (N := 7) (v := .ref (ad 1 0)) hx hb hts inB_X5 hown hK hw (hL 0 0 rfl) cke_0 rfl 0 (by decide) (hts _ w_f_X5_10) (fun _ h9 => h9) rfl dX5_foreseenOfStep_83 ?_
                refine lv_aload_n hx hb dX5_foreseenOfStep_86 rfl (lv_at hl 1 rfl) ?_
                refine lv_iload_n hx hb dX5_foreseenOfStep_87 rfl (lv_at hl 2 rfl) ?_
                refine k_ci0 hw (k_rV (As := [.ref (ad 6 j), .int p2]) (rest := []) ⟨hx, hb, hml, hown, hts⟩ hK hO hw (ct_X2_lengthFor hL S (SF.ci (SF.rf _) hI) j hj p2 _ (wk.hA hw hA)) (cwV 2 hts (gB_V w_ml_X5_330 w_im_X2_lengthFor w_se_X2_lengthFor w_in_X2 w_co_X2_lengthFor) rfl rfl rfl (by decide +kernel) ⟨by decide, by decide⟩) (hL 1 0 rfl) cke_1 rfl rfl hl.1 rfl (Nat.le_of_ble_eq_true rfl) dX5_foreseenOfStep_88 ⟨Nat.le_of_ble_eq_true rfl, Nat.le_of_ble_eq_true rfl⟩) (fun H locs hw => ?_)
                exact k_iret hx hb hr hlocks rfl hw hE rfl dX5_foreseenOfStep_91
              · have hE := hE.trans (if_neg c_9)
                refine lv_tableOut (tgt := 92) hx hb dX5_foreseenOfStep_13 (sw_out5 c_5 c_6 c_7 c_8 c_9) (by decide) ?_
                refine lv_aload_n hx hb dX5_foreseenOfStep_92 rfl (lv_at hl 1 rfl) ?_
                refine k_get (C := RX1) (T := TX1) (N := 8) (v := .ref (ad 28 j)) hx hb hts inB_X1 hown hK hw (hL 6 j (cidJ6 hj)) cke_6 rfl 4 (by decide) (hts _ w_f_X5_348) (fun _ h9 => h9) rfl dX5_foreseenOfStep_93 ?_
                refine lv_iload_n hx hb dX5_foreseenOfStep_96 rfl (lv_at hl 2 rfl) ?_
                refine k_ald hx hb hK hw (hL 28 j (cidJ28 hj)) 0 cke_28 rfl (k_in' c_1 c_2 (by decide)) dX5_foreseenOfStep_97 ?_
                exact k_iret hx hb hr hlocks rfl hw hE rfl dX5_foreseenOfStep_98
    · have hE := hE.trans (if_neg c_2)
      refine lv_iconst (v := (-1)) hx hb dX5_foreseenOfStep_10 (by decide) ?_
      exact k_iret hx hb hr hlocks rfl hw hE rfl dX5_foreseenOfStep_11

abbrev bw_X5_foreseenOfJoiner : List Cond := .code yX5_foreseenOfJoiner cX5_foreseenOfJoiner 3 (some .int) :: BIG
abbrev rm_X5_foreseenOfJoiner : Room := { frames := 2, cells := 0, slots := 0, locals := 47 }
noncomputable def sp_X5_foreseenOfJoiner (S : (Nat → Nat → Nat → Int32)) (j : Nat) (p2 : Int32) : Int32 := if p2 = 0 then (S 6 j 0) else (if p2 = 1 then (S 6 j 1) else (if p2 = 2 then (sp_X1_countIn S j 2) else (if p2 = 3 then (sp_X1_countIn S j 1) else (if p2 = 4 then (sp_X2_rightsOf S j) else (if p2 = 5 then (if S 6 j 2 = 0 then (0) else (1)) else (sp_X0_greatestEnd S (S 6 j 0)))))))
set_option maxHeartbeats 1000000 in
set_option maxRecDepth 100000 in
theorem ct_X5_foreseenOfJoiner {l : Launch} {D : va_G} {cI cG cJ cO : ClassId} {K0 : Nat → Nat} {A : Nat → Prop} {L : List (Nat × Nat)} {ad : Nat → Nat → Nat} {ce : Nat → Nat → va_E} (hL : ∀ f o, cid f o = true → (f, o) ∈ L) (S : (Nat → Nat → Nat → Int32)) (hI : CI S) (j : Nat) (hj : j < 8) (p2 : Int32) (sz : Nat) (hA : ∀ q, sz ≤ q → A q) : Met l yX5_foreseenOfJoiner bw_X5_foreseenOfJoiner rm_X5_foreseenOfJoiner (kP D (ktys cI cG cJ cO) K0 A L ad (cK cI cJ ad ce S) sz [.ref (ad 0 0), .ref (ad 6 j), .int p2]) (kQi D A (sp_X5_foreseenOfJoiner S j p2) L ad (cK cI cJ ad ce S)) 0 0 A := by
  refine Met.ofW (cc := cX5_foreseenOfJoiner) (maxL := 3) (ret := (some .int)) (by decide) rfl ?_
  intro p e s m args below meth c s₁ B hml hv
  obtain ⟨hav, hsz, hP, hD, hK, hO⟩ := hv
  have hx := B.exec
  have hb := B.bytes
  have hr := B.returns
  have hts : ∀ w ∈ BIG, w.before args s = true := fun w h => atoms_spec (ws := bw_X5_foreseenOfJoiner) B.pre w (List.mem_cons_of_mem _ h)
  have hown : s.vm.findClass RX5 = some m.cls := findClass_of_methodNamed B.named
  have hlocks := B.notSynchronized
  subst hsz
  have hw := wk.start hP hD
  refine k_start (by rfl) hav (Nat.le_of_ble_eq_true rfl) (fun ls hl => ?_)
  have hl : lv_has ls 3 [(0, .ref (ad 0 0)), (1, .ref (ad 6 j)), (2, .int p2)] := hl
  have hE : sp_X5_foreseenOfJoiner S j p2 = sp_X5_foreseenOfJoiner S j p2 := rfl
  refine lv_iload_n hx hb dX5_foreseenOfJoiner_0 rfl (lv_at hl 2 rfl) ?_
  by_cases c_3 : p2 = 0
  · have hE := hE.trans (if_pos c_3)
    refine lv_tableIn (off := 39) (tgt := 40) hx hb dX5_foreseenOfJoiner_1 (by rw [c_3]; decide) (by rw [c_3]; decide) (by rw [c_3]; rfl) (by decide) ?_
    refine lv_aload_n hx hb dX5_foreseenOfJoiner_40 rfl (lv_at hl 1 rfl) ?_
    refine k_get (C := RX1) (T := TX1) (N := 8) (v := .int (S 6 j 0)) hx hb hts inB_X1 hown hK hw (hL 6 j (cidJ6 hj)) cke_6 rfl 5 (by decide) (hts _ w_f_X5_183) (fun _ h9 => h9) rfl dX5_foreseenOfJoiner_41 ?_
    exact k_iret hx hb hr hlocks rfl hw hE rfl dX5_foreseenOfJoiner_44
  · have hE := hE.trans (if_neg c_3)
    by_cases c_4 : p2 = 1
    · have hE := hE.trans (if_pos c_4)
      refine lv_tableIn (off := 44) (tgt := 45) hx hb dX5_foreseenOfJoiner_1 (by rw [c_4]; decide) (by rw [c_4]; decide) (by rw [c_4]; rfl) (by decide) ?_
      refine lv_aload_n hx hb dX5_foreseenOfJoiner_45 rfl (lv_at hl 1 rfl) ?_
      refine k_get (C := RX1) (T := TX1) (N := 8) (v := .int (S 6 j 1)) hx hb hts inB_X1 hown hK hw (hL 6 j (cidJ6 hj)) cke_6 rfl 6 (by decide) (hts _ w_f_X5_186) (fun _ h9 => h9) rfl dX5_foreseenOfJoiner_46 ?_
      exact k_iret hx hb hr hlocks rfl hw hE rfl dX5_foreseenOfJoiner_49
    · have hE := hE.trans (if_neg c_4)
      by_cases c_5 : p2 = 2
      · have hE := hE.trans (if_pos c_5)
        refine lv_tableIn (off := 49) (tgt := 50) hx hb dX5_foreseenOfJoiner_1 (by rw [c_5]; decide) (by rw [c_5]; decide) (by rw [c_5]; rfl) (by decide) ?_
        refine lv_aload_n hx hb dX5_foreseenOfJoiner_50 rfl (lv_at hl 1 rfl) ?_
        refine lv_iconst (v := 2) hx hb dX5_foreseenOfJoiner_51 (by decide) ?_
        refine k_ci0 hw (k_rV (As := [.int 2]) (rest := []) ⟨hx, hb, hml, hown, hts⟩ hK hO hw (ct_X1_countIn hL S (SF.ci (SF.rf _) hI) j hj 2 _ (wk.hA hw hA)) (cwV 1 hts (gB_V w_ml_X5_205 w_im_X1_countIn w_se_X1_countIn w_in_X1 w_co_X1_countIn) rfl rfl rfl (by decide +kernel) ⟨by decide, by decide⟩) (hL 6 j (cidJ6 hj)) cke_6 rfl rfl hl.1 rfl (Nat.le_of_ble_eq_true rfl) dX5_foreseenOfJoiner_52 ⟨Nat.le_of_ble_eq_true rfl, Nat.le_of_ble_eq_true rfl⟩) (fun H locs hw => ?_)
        exact k_iret hx hb hr hlocks rfl hw hE rfl dX5_foreseenOfJoiner_55
      · have hE := hE.trans (if_neg c_5)
        by_cases c_6 : p2 = 3
        · have hE := hE.trans (if_pos c_6)
          refine lv_tableIn (off := 55) (tgt := 56) hx hb dX5_foreseenOfJoiner_1 (by rw [c_6]; decide) (by rw [c_6]; decide) (by rw [c_6]; rfl) (by decide) ?_
          refine lv_aload_n hx hb dX5_foreseenOfJoiner_56 rfl (lv_at hl 1 rfl) ?_
          refine lv_iconst (v := 1) hx hb dX5_foreseenOfJoiner_57 (by decide) ?_
          refine k_ci0 hw (k_rV (As := [.int 1]) (rest := []) ⟨hx, hb, hml, hown, hts⟩ hK hO hw (ct_X1_countIn hL S (SF.ci (SF.rf _) hI) j hj 1 _ (wk.hA hw hA)) (cwV 1 hts (gB_V w_ml_X5_205 w_im_X1_countIn w_se_X1_countIn w_in_X1 w_co_X1_countIn) rfl rfl rfl (by decide +kernel) ⟨by decide, by decide⟩) (hL 6 j (cidJ6 hj)) cke_6 rfl rfl hl.1 rfl (Nat.le_of_ble_eq_true rfl) dX5_foreseenOfJoiner_58 ⟨Nat.le_of_ble_eq_true rfl, Nat.le_of_ble_eq_true rfl⟩) (fun H locs hw => ?_)
          exact k_iret hx hb hr hlocks rfl hw hE rfl dX5_foreseenOfJoiner_61
        · have hE := hE.trans (if_neg c_6)
          by_cases c_7 : p2 = 4
          · have hE := hE.trans (if_pos c_7)
            refine lv_tableIn (off := 61) (tgt := 62) hx hb dX5_foreseenOfJoiner_1 (by rw [c_7]; decide) (by rw [c_7]; decide) (by rw [c_7]; rfl) (by decide) ?_
            refine lv_aload_n hx hb dX5_foreseenOfJoiner_62 rfl (lv_at hl 0 rfl) ?_
            refine k_get (C := RX5) (T := TX5) (N := 7) (v := .ref (ad 1 0)) hx hb hts inB_X5 hown hK hw (hL 0 0 rfl) cke_0 rfl 0 (by decide) (hts _ w_f_X5_10) (fun _ h9 => h9) rfl dX5_foreseenOfJoiner_63 ?_
            refine lv_aload_n hx hb dX5_foreseenOfJoiner_66 rfl (lv_at hl 1 rfl) ?_
            refine k_ci0 hw (k_rV (As := [.ref (ad 6 j)]) (rest := []) ⟨hx, hb, hml, hown, hts⟩ hK hO hw (ct_X2_rightsOf hL S (SF.ci (SF.rf _) hI) j hj _ (wk.hA hw hA)) (cwV 1 hts (gB_V w_ml_X5_372 w_im_X2_rightsOf w_se_X2_rightsOf w_in_X2 w_co_X2_rightsOf) rfl rfl rfl (by decide +kernel) ⟨by decide, by decide⟩) (hL 1 0 rfl) cke_1 rfl rfl hl.1 rfl (Nat.le_of_ble_eq_true rfl) dX5_foreseenOfJoiner_67 ⟨Nat.le_of_ble_eq_true rfl, Nat.le_of_ble_eq_true rfl⟩) (fun H locs hw => ?_)
            exact k_iret hx hb hr hlocks rfl hw hE rfl dX5_foreseenOfJoiner_70
          · have hE := hE.trans (if_neg c_7)
            by_cases c_8 : p2 = 5
            · have hE := hE.trans (if_pos c_8)
              refine lv_tableIn (off := 70) (tgt := 71) hx hb dX5_foreseenOfJoiner_1 (by rw [c_8]; decide) (by rw [c_8]; decide) (by rw [c_8]; rfl) (by decide) ?_
              refine lv_aload_n hx hb dX5_foreseenOfJoiner_71 rfl (lv_at hl 1 rfl) ?_
              refine k_get (C := RX1) (T := TX1) (N := 8) (v := .int (S 6 j 2)) hx hb hts inB_X1 hown hK hw (hL 6 j (cidJ6 hj)) cke_6 rfl 7 (by decide) (hts _ w_f_X5_189) (fun _ h9 => h9) rfl dX5_foreseenOfJoiner_72 ?_
              refine lv_if_eq (tgt := 82) hx hb dX5_foreseenOfJoiner_75 (by decide) (fun c_9 => ?_) (fun c_9 => ?_)
              · have hE := hE.trans (if_pos c_9)
                refine lv_iconst (v := 0) hx hb dX5_foreseenOfJoiner_82 (by decide) ?_
                exact k_iret hx hb hr hlocks rfl hw hE rfl dX5_foreseenOfJoiner_83
              · have hE := hE.trans (if_neg c_9)
                refine lv_iconst (v := 1) hx hb dX5_foreseenOfJoiner_78 (by decide) ?_
                refine lv_goto (tgt := 83) hx hb dX5_foreseenOfJoiner_79 (by decide) ?_
                exact k_iret hx hb hr hlocks rfl hw hE rfl dX5_foreseenOfJoiner_83
            · have hE := hE.trans (if_neg c_8)
              refine lv_tableOut (tgt := 84) hx hb dX5_foreseenOfJoiner_1 (sw_out6 c_3 c_4 c_5 c_6 c_7 c_8) (by decide) ?_
              refine lv_aload_n hx hb dX5_foreseenOfJoiner_84 rfl (lv_at hl 0 rfl) ?_
              refine k_get (C := RX5) (T := TX5) (N := 7) (v := .ref (ad 4 0)) hx hb hts inB_X5 hown hK hw (hL 0 0 rfl) cke_0 rfl 3 (by decide) (hts _ w_f_X5_35) (fun _ h9 => h9) rfl dX5_foreseenOfJoiner_85 ?_
              refine lv_aload_n hx hb dX5_foreseenOfJoiner_88 rfl (lv_at hl 1 rfl) ?_
              refine k_get (C := RX1) (T := TX1) (N := 8) (v := .int (S 6 j 0)) hx hb hts inB_X1 hown hK hw (hL 6 j (cidJ6 hj)) cke_6 rfl 5 (by decide) (hts _ w_f_X5_183) (fun _ h9 => h9) rfl dX5_foreseenOfJoiner_89 ?_
              refine k_ci0 hw (k_rV (As := [.int (S 6 j 0)]) (rest := []) ⟨hx, hb, hml, hown, hts⟩ hK hO hw (ct_X0_greatestEnd hL S (SF.ci (SF.rf _) hI) (S 6 j 0) _ (wk.hA hw hA)) (cwV 1 hts (gB_V w_ml_X5_268 w_im_X0_greatestEnd w_se_X0_greatestEnd w_in_X0 w_co_X0_greatestEnd) rfl rfl rfl (by decide +kernel) ⟨by decide, by decide⟩) (hL 4 0 rfl) cke_4 rfl rfl hl.1 rfl (Nat.le_of_ble_eq_true rfl) dX5_foreseenOfJoiner_92 ⟨Nat.le_of_ble_eq_true rfl, Nat.le_of_ble_eq_true rfl⟩) (fun H locs hw => ?_)
              exact k_iret hx hb hr hlocks rfl hw hE rfl dX5_foreseenOfJoiner_95

abbrev bw_X5_nextStep : List Cond := .code yX5_nextStep cX5_nextStep 4 (some .int) :: BIG
abbrev rm_X5_nextStep : Room := { frames := 2, cells := 0, slots := 0, locals := 45 }
noncomputable def lp_X5_nextStep_11 (S : (Nat → Nat → Nat → Int32)) (j : Nat) : Nat → Nat → Int32
  | 0, i => (-1)
  | k + 1, i => if sp_X1_isIn S j (nI i) 0 = 0 then (if sp_X1_isIn S j (nI i) 1 = 0 then (lp_X5_nextStep_11 S j k (i + 1)) else (if sp_X2_needsAreDone S j (nI i) = 0 then (lp_X5_nextStep_11 S j k (i + 1)) else (nI i))) else (if sp_X2_needsAreDone S j (nI i) = 0 then (lp_X5_nextStep_11 S j k (i + 1)) else (nI i))
noncomputable def sp_X5_nextStep (S : (Nat → Nat → Nat → Int32)) (j : Nat) : Int32 := if S 6 j 2 = 0 then (lp_X5_nextStep_11 S j 12 0) else ((-1))
set_option maxHeartbeats 1000000 in
set_option maxRecDepth 100000 in
theorem ct_X5_nextStep {l : Launch} {D : va_G} {cI cG cJ cO : ClassId} {K0 : Nat → Nat} {A : Nat → Prop} {L : List (Nat × Nat)} {ad : Nat → Nat → Nat} {ce : Nat → Nat → va_E} (hL : ∀ f o, cid f o = true → (f, o) ∈ L) (S : (Nat → Nat → Nat → Int32)) (hI : CI S) (j : Nat) (hj : j < 8) (sz : Nat) (hA : ∀ q, sz ≤ q → A q) : Met l yX5_nextStep bw_X5_nextStep rm_X5_nextStep (kP D (ktys cI cG cJ cO) K0 A L ad (cK cI cJ ad ce S) sz [.ref (ad 0 0), .ref (ad 6 j)]) (kQi D A (sp_X5_nextStep S j) L ad (cK cI cJ ad ce S)) 0 0 A := by
  refine Met.ofW (cc := cX5_nextStep) (maxL := 4) (ret := (some .int)) (by decide) rfl ?_
  intro p e s m args below meth c s₁ B hml hv
  obtain ⟨hav, hsz, hP, hD, hK, hO⟩ := hv
  have hx := B.exec
  have hb := B.bytes
  have hr := B.returns
  have hts : ∀ w ∈ BIG, w.before args s = true := fun w h => atoms_spec (ws := bw_X5_nextStep) B.pre w (List.mem_cons_of_mem _ h)
  have hown : s.vm.findClass RX5 = some m.cls := findClass_of_methodNamed B.named
  have hlocks := B.notSynchronized
  subst hsz
  have hw := wk.start hP hD
  refine k_start (by rfl) hav (Nat.le_of_ble_eq_true rfl) (fun ls hl => ?_)
  have hl : lv_has ls 4 [(0, .ref (ad 0 0)), (1, .ref (ad 6 j))] := hl
  have hE : sp_X5_nextStep S j = sp_X5_nextStep S j := rfl
  refine lv_aload_n hx hb dX5_nextStep_0 rfl (lv_at hl 1 rfl) ?_
  refine k_get (C := RX1) (T := TX1) (N := 8) (v := .int (S 6 j 2)) hx hb hts inB_X1 hown hK hw (hL 6 j (cidJ6 hj)) cke_6 rfl 7 (by decide) (hts _ w_f_X5_189) (fun _ h9 => h9) rfl dX5_nextStep_1 ?_
  refine lv_if_eq (tgt := 9) hx hb dX5_nextStep_4 (by decide) (fun c_1 => ?_) (fun c_1 => ?_)
  · have hE := hE.trans (if_pos c_1)
    refine lv_iconst (v := 0) hx hb dX5_nextStep_9 (by decide) ?_
    refine lv_istore_n (lv' := [(2, .int 0), (0, .ref (ad 0 0)), (1, .ref (ad 6 j))]) hx hb dX5_nextStep_10 rfl hl (by decide) rfl (fun ls hl => ?_)
    have key_11 : ∀ (k i : Nat) (H : Heap) (locs : List Loc) (ls : Array Slot), i + k = 12 → sp_X5_nextStep S j = lp_X5_nextStep_11 S j k i → wk D A L ad (cK cI cJ ad ce S) s.heap H locs → lv_has ls 4 [(0, .ref (ad 0 0)), (1, .ref (ad 6 j)), (2, .int (nI i))] → W p l e (headSpec bw_X5_nextStep rm_X5_nextStep).room s m args below meth c H locs 0 0 (MQ below (kQi D A (sp_X5_nextStep S j) L ad (cK cI cJ ad ce S)) args s 0 0 A) (F0 m 11 ls []) := by
      intro k
      induction k with
      | zero =>
        intro i H locs ls hk hE hw hl
        refine lv_iload_n hx hb dX5_nextStep_11 rfl (lv_at hl 2 rfl) ?_
        refine lv_bipush (v := 12) hx hb dX5_nextStep_12 (by decide) ?_
        refine lv_icmp_ge (tgt := 65) hx hb dX5_nextStep_14 (by decide) (fun _ => ?_) (fun h => absurd (lp_o rfl hk (by decide)) h)
        refine lv_iconst (v := (-1)) hx hb dX5_nextStep_65 (by decide) ?_
        exact k_iret hx hb hr hlocks rfl hw hE rfl dX5_nextStep_66
      | succ k ih =>
        intro i H locs ls hk hE hw hl
        refine lv_iload_n hx hb dX5_nextStep_11 rfl (lv_at hl 2 rfl) ?_
        refine lv_bipush (v := 12) hx hb dX5_nextStep_12 (by decide) ?_
        refine lv_icmp_ge (tgt := 65) hx hb dX5_nextStep_14 (by decide) (fun h => absurd h (lp_i rfl hk (by decide))) (fun _ => ?_)
        refine lv_aload_n hx hb dX5_nextStep_17 rfl (lv_at hl 1 rfl) ?_
        refine lv_iload_n hx hb dX5_nextStep_18 rfl (lv_at hl 2 rfl) ?_
        refine lv_iconst (v := 0) hx hb dX5_nextStep_19 (by decide) ?_
        refine k_ci0 hw (k_rV (As := [.int (nI i), .int 0]) (rest := []) ⟨hx, hb, hml, hown, hts⟩ hK hO hw (ct_X1_isIn hL S (SF.ci (SF.rf _) hI) j hj (nI i) 0 _ (wk.hA hw hA)) (cwV 2 hts (gB_V w_ml_X5_336 w_im_X1_isIn w_se_X1_isIn w_in_X1 w_co_X1_isIn) rfl rfl rfl (by decide +kernel) ⟨by decide, by decide⟩) (hL 6 j (cidJ6 hj)) cke_6 rfl rfl hl.1 rfl (Nat.le_of_ble_eq_true rfl) dX5_nextStep_20 ⟨Nat.le_of_ble_eq_true rfl, Nat.le_of_ble_eq_true rfl⟩) (fun H locs hw => ?_)
        refine lv_if_ne (tgt := 35) hx hb dX5_nextStep_23 (by decide) (fun c_2 => ?_) (fun c_2 => ?_)
        · have hE := hE.trans (if_neg c_2)
          refine lv_iconst (v := 1) hx hb dX5_nextStep_35 (by decide) ?_
          refine lv_goto (tgt := 40) hx hb dX5_nextStep_36 (by decide) ?_
          refine lv_istore_n (lv' := [(3, .int 1), (0, .ref (ad 0 0)), (1, .ref (ad 6 j)), (2, .int (nI i))]) hx hb dX5_nextStep_40 rfl hl (by decide) rfl (fun ls hl => ?_)
          refine lv_iload_n hx hb dX5_nextStep_41 rfl (lv_at hl 0 rfl) ?_
          refine lv_if_eq (tgt := 59) hx hb dX5_nextStep_42 (by decide) (fun h => absurd h (by decide)) (fun _ => ?_)
          refine lv_aload_n hx hb dX5_nextStep_45 rfl (lv_at hl 1 rfl) ?_
          refine k_get (C := RX5) (T := TX5) (N := 7) (v := .ref (ad 1 0)) hx hb hts inB_X5 hown hK hw (hL 0 0 rfl) cke_0 rfl 0 (by decide) (hts _ w_f_X5_10) (fun _ h9 => h9) rfl dX5_nextStep_46 ?_
          refine lv_aload_n hx hb dX5_nextStep_49 rfl (lv_at hl 2 rfl) ?_
          refine lv_iload_n hx hb dX5_nextStep_50 rfl (lv_at hl 3 rfl) ?_
          refine k_ci0 hw (k_rV (As := [.ref (ad 6 j), .int (nI i)]) (rest := []) ⟨hx, hb, hml, hown, hts⟩ hK hO hw (ct_X2_needsAreDone hL S (SF.ci (SF.rf _) hI) j hj (nI i) _ (wk.hA hw hA)) (cwV 2 hts (gB_V w_ml_X5_339 w_im_X2_needsAreDone w_se_X2_needsAreDone w_in_X2 w_co_X2_needsAreDone) rfl rfl rfl (by decide +kernel) ⟨by decide, by decide⟩) (hL 1 0 rfl) cke_1 rfl rfl hl.1 rfl (Nat.le_of_ble_eq_true rfl) dX5_nextStep_51 ⟨Nat.le_of_ble_eq_true rfl, Nat.le_of_ble_eq_true rfl⟩) (fun H locs hw => ?_)
          refine lv_if_eq (tgt := 59) hx hb dX5_nextStep_54 (by decide) (fun c_3 => ?_) (fun c_3 => ?_)
          · have hE := hE.trans (if_pos c_3)
            refine lv_iinc (v := (nI (i + 1))) (lv' := [(2, .int (nI (i + 1))), (3, .int 1), (0, .ref (ad 0 0)), (1, .ref (ad 6 j))]) hx hb dX5_nextStep_59 hl (k := 3) rfl (nI_1 _) (by decide) rfl (fun ls hl => ?_)
            refine lv_goto (tgt := 11) hx hb dX5_nextStep_62 (by decide) ?_
            exact ih (i + 1) _ _ _ (lp_s hk) hE hw (lv_sub hl [2, 3, 0] rfl)
          · have hE := hE.trans (if_neg c_3)
            refine lv_iload_n hx hb dX5_nextStep_57 rfl (lv_at hl 3 rfl) ?_
            exact k_iret hx hb hr hlocks rfl hw hE rfl dX5_nextStep_58
        · have hE := hE.trans (if_pos c_2)
          refine lv_aload_n hx hb dX5_nextStep_26 rfl (lv_at hl 1 rfl) ?_
          refine lv_iload_n hx hb dX5_nextStep_27 rfl (lv_at hl 2 rfl) ?_
          refine lv_iconst (v := 1) hx hb dX5_nextStep_28 (by decide) ?_
          refine k_ci0 hw (k_rV (As := [.int (nI i), .int 1]) (rest := []) ⟨hx, hb, hml, hown, hts⟩ hK hO hw (ct_X1_isIn hL S (SF.ci (SF.rf _) hI) j hj (nI i) 1 _ (wk.hA hw hA)) (cwV 2 hts (gB_V w_ml_X5_336 w_im_X1_isIn w_se_X1_isIn w_in_X1 w_co_X1_isIn) rfl rfl rfl (by decide +kernel) ⟨by decide, by decide⟩) (hL 6 j (cidJ6 hj)) cke_6 rfl rfl hl.1 rfl (Nat.le_of_ble_eq_true rfl) dX5_nextStep_29 ⟨Nat.le_of_ble_eq_true rfl, Nat.le_of_ble_eq_true rfl⟩) (fun H locs hw => ?_)
          refine lv_if_eq (tgt := 39) hx hb dX5_nextStep_32 (by decide) (fun c_4 => ?_) (fun c_4 => ?_)
          · have hE := hE.trans (if_pos c_4)
            refine lv_iconst (v := 0) hx hb dX5_nextStep_39 (by decide) ?_
            refine lv_istore_n (lv' := [(3, .int 0), (0, .ref (ad 0 0)), (1, .ref (ad 6 j)), (2, .int (nI i))]) hx hb dX5_nextStep_40 rfl hl (by decide) rfl (fun ls hl => ?_)
            refine lv_iload_n hx hb dX5_nextStep_41 rfl (lv_at hl 0 rfl) ?_
            refine lv_if_eq (tgt := 59) hx hb dX5_nextStep_42 (by decide) (fun _ => ?_) (fun h => absurd (by decide) h)
            refine lv_iinc (v := (nI (i + 1))) (lv' := [(2, .int (nI (i + 1))), (3, .int 0), (0, .ref (ad 0 0)), (1, .ref (ad 6 j))]) hx hb dX5_nextStep_59 hl (k := 3) rfl (nI_1 _) (by decide) rfl (fun ls hl => ?_)
            refine lv_goto (tgt := 11) hx hb dX5_nextStep_62 (by decide) ?_
            exact ih (i + 1) _ _ _ (lp_s hk) hE hw (lv_sub hl [2, 3, 0] rfl)
          · have hE := hE.trans (if_neg c_4)
            refine lv_iconst (v := 1) hx hb dX5_nextStep_35 (by decide) ?_
            refine lv_goto (tgt := 40) hx hb dX5_nextStep_36 (by decide) ?_
            refine lv_istore_n (lv' := [(3, .int 1), (0, .ref (ad 0 0)), (1, .ref (ad 6 j)), (2, .int (nI i))]) hx hb dX5_nextStep_40 rfl hl (by decide) rfl (fun ls hl => ?_)
            refine lv_iload_n hx hb dX5_nextStep_41 rfl (lv_at hl 0 rfl) ?_
            refine lv_if_eq (tgt := 59) hx hb dX5_nextStep_42 (by decide) (fun h => absurd h (by decide)) (fun _ => ?_)
            refine lv_aload_n hx hb dX5_nextStep_45 rfl (lv_at hl 1 rfl) ?_
            refine k_get (C := RX5) (T := TX5) (N := 7) (v := .ref (ad 1 0)) hx hb hts inB_X5 hown hK hw (hL 0 0 rfl) cke_0 rfl 0 (by decide) (hts _ w_f_X5_10) (fun _ h9 => h9) rfl dX5_nextStep_46 ?_
            refine lv_aload_n hx hb dX5_nextStep_49 rfl (lv_at hl 2 rfl) ?_
            refine lv_iload_n hx hb dX5_nextStep_50 rfl (lv_at hl 3 rfl) ?_
            refine k_ci0 hw (k_rV (As := [.ref (ad 6 j), .int (nI i)]) (rest := []) ⟨hx, hb, hml, hown, hts⟩ hK hO hw (ct_X2_needsAreDone hL S (SF.ci (SF.rf _) hI) j hj (nI i) _ (wk.hA hw hA)) (cwV 2 hts (gB_V w_ml_X5_339 w_im_X2_needsAreDone w_se_X2_needsAreDone w_in_X2 w_co_X2_needsAreDone) rfl rfl rfl (by decide +kernel) ⟨by decide, by decide⟩) (hL 1 0 rfl) cke_1 rfl rfl hl.1 rfl (Nat.le_of_ble_eq_true rfl) dX5_nextStep_51 ⟨Nat.le_of_ble_eq_true rfl, Nat.le_of_ble_eq_true rfl⟩) (fun H locs hw => ?_)
            refine lv_if_eq (tgt := 59) hx hb dX5_nextStep_54 (by decide) (fun c_5 => ?_) (fun c_5 => ?_)
            · have hE := hE.trans (if_pos c_5)
              refine lv_iinc (v := (nI (i + 1))) (lv' := [(2, .int (nI (i + 1))), (3, .int 1), (0, .ref (ad 0 0)), (1, .ref (ad 6 j))]) hx hb dX5_nextStep_59 hl (k := 3) rfl (nI_1 _) (by decide) rfl (fun ls hl => ?_)
              refine lv_goto (tgt := 11) hx hb dX5_nextStep_62 (by decide) ?_
              exact ih (i + 1) _ _ _ (lp_s hk) hE hw (lv_sub hl [2, 3, 0] rfl)
            · have hE := hE.trans (if_neg c_5)
              refine lv_iload_n hx hb dX5_nextStep_57 rfl (lv_at hl 3 rfl) ?_
              exact k_iret hx hb hr hlocks rfl hw hE rfl dX5_nextStep_58
    exact key_11 12 0 _ _ _ (Nat.zero_add _) hE hw (lv_sub hl [1, 2, 0] rfl)
  · have hE := hE.trans (if_neg c_1)
    refine lv_iconst (v := (-1)) hx hb dX5_nextStep_7 (by decide) ?_
    exact k_iret hx hb hr hlocks rfl hw hE rfl dX5_nextStep_8

abbrev bw_X5_countWaitingOn : List Cond := .code yX5_countWaitingOn cX5_countWaitingOn 6 (some .int) :: BIG
abbrev rm_X5_countWaitingOn : Room := { frames := 1, cells := 0, slots := 0, locals := 23 }
noncomputable def lp_X5_countWaitingOn_10 (S : (Nat → Nat → Nat → Int32)) (j : Nat) (p2 : Int32) : Nat → Nat → Int32 → Int32
  | 0, i, v4 => (v4)
  | k + 1, i, v4 => if sp_X5_has (S 6 j 0) (nI i) = 0 then (lp_X5_countWaitingOn_10 S j p2 k (i + 1) v4) else (if (S 9 0 i) &&& v4 = 0 then (lp_X5_countWaitingOn_10 S j p2 k (i + 1) v4) else (lp_X5_countWaitingOn_10 S j p2 k (i + 1) (v4 ||| (1 <<< ((nI i) &&& 31)))))
theorem lz_lp_X5_countWaitingOn_10 (S : (Nat → Nat → Nat → Int32)) (j : Nat) (p2 : Int32) (i : Nat) (v4 : Int32) : lp_X5_countWaitingOn_10 S j p2 0 i v4 = (v4) := rfl
noncomputable def sp_X5_countWaitingOn (S : (Nat → Nat → Nat → Int32)) (j : Nat) (p2 : Int32) : Int32 := sp_J6_bitCount_0f7a4 (((lp_X5_countWaitingOn_10 S j p2 12 0 (1 <<< (p2 &&& 31))) &&& ((1 <<< (p2 &&& 31)) ^^^ (-1))) &&& ((sp_X1_stepsIn S j 2) ^^^ (-1)))
set_option maxHeartbeats 1000000 in
set_option maxRecDepth 100000 in
theorem ct_X5_countWaitingOn {l : Launch} {D : va_G} {cI cG cJ cO : ClassId} {K0 : Nat → Nat} {A : Nat → Prop} {L : List (Nat × Nat)} {ad : Nat → Nat → Nat} {ce : Nat → Nat → va_E} (hL : ∀ f o, cid f o = true → (f, o) ∈ L) (S : (Nat → Nat → Nat → Int32)) (hI : CI S) (j : Nat) (hj : j < 8) (p2 : Int32) (sz : Nat) (hA : ∀ q, sz ≤ q → A q) : Met l yX5_countWaitingOn bw_X5_countWaitingOn rm_X5_countWaitingOn (kP D (ktys cI cG cJ cO) K0 A L ad (cK cI cJ ad ce S) sz [.ref (ad 0 0), .ref (ad 6 j), .int p2]) (kQi D A (sp_X5_countWaitingOn S j p2) L ad (cK cI cJ ad ce S)) 0 0 A := by
  refine Met.ofW (cc := cX5_countWaitingOn) (maxL := 6) (ret := (some .int)) (by decide) rfl ?_
  intro p e s m args below meth c s₁ B hml hv
  obtain ⟨hav, hsz, hP, hD, hK, hO⟩ := hv
  have hx := B.exec
  have hb := B.bytes
  have hr := B.returns
  have hts : ∀ w ∈ BIG, w.before args s = true := fun w h => atoms_spec (ws := bw_X5_countWaitingOn) B.pre w (List.mem_cons_of_mem _ h)
  have hown : s.vm.findClass RX5 = some m.cls := findClass_of_methodNamed B.named
  have hlocks := B.notSynchronized
  subst hsz
  have hw := wk.start hP hD
  refine k_start (by rfl) hav (Nat.le_of_ble_eq_true rfl) (fun ls hl => ?_)
  have hl : lv_has ls 6 [(0, .ref (ad 0 0)), (1, .ref (ad 6 j)), (2, .int p2)] := hl
  have hE : sp_X5_countWaitingOn S j p2 = sp_J6_bitCount_0f7a4 (((lp_X5_countWaitingOn_10 S j p2 12 0 (1 <<< (p2 &&& 31))) &&& ((1 <<< (p2 &&& 31)) ^^^ (-1))) &&& ((sp_X1_stepsIn S j 2) ^^^ (-1))) := by unfold sp_X5_countWaitingOn; rfl
  refine lv_iconst (v := 1) hx hb dX5_countWaitingOn_0 (by decide) ?_
  refine lv_iload_n hx hb dX5_countWaitingOn_1 rfl (lv_at hl 2 rfl) ?_
  refine lv_ishl hx hb dX5_countWaitingOn_2 ?_
  refine lv_istore_n (lv' := [(3, .int (1 <<< (p2 &&& 31))), (0, .ref (ad 0 0)), (1, .ref (ad 6 j)), (2, .int p2)]) hx hb dX5_countWaitingOn_3 rfl hl (by decide) rfl (fun ls hl => ?_)
  refine lv_iload_n hx hb dX5_countWaitingOn_4 rfl (lv_at hl 0 rfl) ?_
  refine lv_istore (lv' := [(4, .int (1 <<< (p2 &&& 31))), (3, .int (1 <<< (p2 &&& 31))), (0, .ref (ad 0 0)), (1, .ref (ad 6 j)), (2, .int p2)]) hx hb dX5_countWaitingOn_5 hl (by decide) rfl (fun ls hl => ?_)
  refine lv_iconst (v := 0) hx hb dX5_countWaitingOn_7 (by decide) ?_
  refine lv_istore (lv' := [(5, .int 0), (4, .int (1 <<< (p2 &&& 31))), (3, .int (1 <<< (p2 &&& 31))), (0, .ref (ad 0 0)), (1, .ref (ad 6 j)), (2, .int p2)]) hx hb dX5_countWaitingOn_8 hl (by decide) rfl (fun ls hl => ?_)
  have key_10 : ∀ (k i : Nat) (v4 : Int32) (H : Heap) (locs : List Loc) (ls : Array Slot), i + k = 12 → (lp_X5_countWaitingOn_10 S j p2 12 0 (1 <<< (p2 &&& 31))) = lp_X5_countWaitingOn_10 S j p2 k i v4 → wk D A L ad (cK cI cJ ad ce S) s.heap H locs → lv_has ls 6 [(0, .ref (ad 0 0)), (1, .ref (ad 6 j)), (2, .int p2), (3, .int (1 <<< (p2 &&& 31))), (4, .int v4), (5, .int (nI i))] → W p l e (headSpec bw_X5_countWaitingOn rm_X5_countWaitingOn).room s m args below meth c H locs 0 0 (MQ below (kQi D A (sp_X5_countWaitingOn S j p2) L ad (cK cI cJ ad ce S)) args s 0 0 A) (F0 m 10 ls []) := by
    intro k
    induction k with
    | zero =>
      intro i v4 H locs ls hk hV hw hl
      have hV := hV.trans (lz_lp_X5_countWaitingOn_10 S j p2 i v4)
      obtain rfl : v4 = (lp_X5_countWaitingOn_10 S j p2 12 0 (1 <<< (p2 &&& 31))) := hV.symm
      refine lv_iload hx hb dX5_countWaitingOn_10 (lv_at hl 5 rfl) ?_
      refine lv_bipush (v := 12) hx hb dX5_countWaitingOn_12 (by decide) ?_
      refine lv_icmp_ge (tgt := 60) hx hb dX5_countWaitingOn_14 (by decide) (fun _ => ?_) (fun h => absurd (lp_o rfl hk (by decide)) h)
      refine lv_iload hx hb dX5_countWaitingOn_60 (lv_at hl 4 rfl) ?_
      refine lv_iload_n hx hb dX5_countWaitingOn_62 rfl (lv_at hl 3 rfl) ?_
      refine lv_iconst (v := (-1)) hx hb dX5_countWaitingOn_63 (by decide) ?_
      refine lv_ixor hx hb dX5_countWaitingOn_64 ?_
      refine lv_iand hx hb dX5_countWaitingOn_65 ?_
      refine lv_aload_n hx hb dX5_countWaitingOn_66 rfl (lv_at hl 1 rfl) ?_
      refine lv_iconst (v := 2) hx hb dX5_countWaitingOn_67 (by decide) ?_
      refine k_ci0 hw (k_rV (As := [.int 2]) (rest := [.int ((lp_X5_countWaitingOn_10 S j p2 12 0 (1 <<< (p2 &&& 31))) &&& ((1 <<< (p2 &&& 31)) ^^^ (-1)))]) ⟨hx, hb, hml, hown, hts⟩ hK hO hw (ct_X1_stepsIn hL S (SF.ci (SF.rf _) hI) j hj 2 _ (wk.hA hw hA)) (cwV 1 hts (gB_V w_ml_X5_378 w_im_X1_stepsIn w_se_X1_stepsIn w_in_X1 w_co_X1_stepsIn) rfl rfl rfl (by decide +kernel) ⟨by decide, by decide⟩) (hL 6 j (cidJ6 hj)) cke_6 rfl rfl hl.1 rfl (Nat.le_of_ble_eq_true rfl) dX5_countWaitingOn_68 ⟨Nat.le_of_ble_eq_true rfl, Nat.le_of_ble_eq_true rfl⟩) (fun H locs hw => ?_)
      refine lv_iconst (v := (-1)) hx hb dX5_countWaitingOn_71 (by decide) ?_
      refine lv_ixor hx hb dX5_countWaitingOn_72 ?_
      refine lv_iand hx hb dX5_countWaitingOn_73 ?_
      refine k_ci0 hw (k_rS (As := [.int (((lp_X5_countWaitingOn_10 S j p2 12 0 (1 <<< (p2 &&& 31))) &&& ((1 <<< (p2 &&& 31)) ^^^ (-1))) &&& ((sp_X1_stepsIn S j 2) ^^^ (-1)))]) (rest := []) ⟨hx, hb, hml, hown, hts⟩ hK hO hw (ct_J6_bitCount_0f7a4 (((lp_X5_countWaitingOn_10 S j p2 12 0 (1 <<< (p2 &&& 31))) &&& ((1 <<< (p2 &&& 31)) ^^^ (-1))) &&& ((sp_X1_stepsIn S j 2) ^^^ (-1))) _ (wk.hA hw hA)) (va_cwS 1 hts (gB_S w_ml_X5_381 w_st_J6_bitCount_0f7a4 w_in_J6 w_co_J6_bitCount_0f7a4) rfl rfl rfl (by decide +kernel) ⟨by decide, by decide⟩) rfl hl.1 rfl (Nat.le_of_ble_eq_true rfl) dX5_countWaitingOn_74 ⟨Nat.le_of_ble_eq_true rfl, Nat.le_of_ble_eq_true rfl⟩) (fun H locs hw => ?_)
      exact k_iret hx hb hr hlocks rfl hw hE rfl dX5_countWaitingOn_77
    | succ k ih =>
      intro i v4 H locs ls hk hV hw hl
      refine lv_iload hx hb dX5_countWaitingOn_10 (lv_at hl 5 rfl) ?_
      refine lv_bipush (v := 12) hx hb dX5_countWaitingOn_12 (by decide) ?_
      refine lv_icmp_ge (tgt := 60) hx hb dX5_countWaitingOn_14 (by decide) (fun h => absurd h (lp_i rfl hk (by decide))) (fun _ => ?_)
      refine lv_aload_n hx hb dX5_countWaitingOn_17 rfl (lv_at hl 1 rfl) ?_
      refine k_get (C := RX1) (T := TX1) (N := 8) (v := .int (S 6 j 0)) hx hb hts inB_X1 hown hK hw (hL 6 j (cidJ6 hj)) cke_6 rfl 5 (by decide) (hts _ w_f_X5_183) (fun _ h9 => h9) rfl dX5_countWaitingOn_18 ?_
      refine lv_iload hx hb dX5_countWaitingOn_21 (lv_at hl 5 rfl) ?_
      refine k_ci0 hw (k_rS (As := [.int (S 6 j 0), .int (nI i)]) (rest := []) ⟨hx, hb, hml, hown, hts⟩ hK hO hw (ct_X5_has (S 6 j 0) (nI i) _ (wk.hA hw hA)) (va_cwS 2 hts (gB_S w_ml_X5_226 w_st_X5_has w_in_X5 w_co_X5_has) rfl rfl rfl (by decide +kernel) ⟨by decide, by decide⟩) rfl hl.1 rfl (Nat.le_of_ble_eq_true rfl) dX5_countWaitingOn_23 ⟨Nat.le_of_ble_eq_true rfl, Nat.le_of_ble_eq_true rfl⟩) (fun H locs hw => ?_)
      refine lv_if_eq (tgt := 54) hx hb dX5_countWaitingOn_26 (by decide) (fun c_1 => ?_) (fun c_1 => ?_)
      · have hV := hV.trans (if_pos c_1)
        refine lv_iinc (v := (nI (i + 1))) (lv' := [(5, .int (nI (i + 1))), (0, .ref (ad 0 0)), (1, .ref (ad 6 j)), (2, .int p2), (3, .int (1 <<< (p2 &&& 31))), (4, .int v4)]) hx hb dX5_countWaitingOn_54 hl (k := 5) rfl (nI_1 _) (by decide) rfl (fun ls hl => ?_)
        refine lv_goto (tgt := 10) hx hb dX5_countWaitingOn_57 (by decide) ?_
        exact ih (i + 1) v4 _ _ _ (lp_s hk) hV hw (lv_sub hl [1, 2, 3, 4, 5, 0] rfl)
      · have hV := hV.trans (if_neg c_1)
        refine lv_aload_n hx hb dX5_countWaitingOn_29 rfl (lv_at hl 0 rfl) ?_
        refine k_get (C := RX5) (T := TX5) (N := 7) (v := .ref (ad 1 0)) hx hb hts inB_X5 hown hK hw (hL 0 0 rfl) cke_0 rfl 0 (by decide) (hts _ w_f_X5_10) (fun _ h9 => h9) rfl dX5_countWaitingOn_30 ?_
        refine k_get (C := RX2) (T := TX2) (N := 8) (v := .ref (ad 9 0)) hx hb hts inB_X2 hown hK hw (hL 1 0 rfl) cke_1 rfl 2 (by decide) (hts _ w_f_X5_375) (fun _ h9 => h9) rfl dX5_countWaitingOn_33 ?_
        refine lv_iload hx hb dX5_countWaitingOn_36 (lv_at hl 5 rfl) ?_
        refine k_aldn hx hb hK hw (hL 9 0 rfl) 0 cke_9 rfl (lp_l hk) (by decide) dX5_countWaitingOn_38 ?_
        refine lv_iload hx hb dX5_countWaitingOn_39 (lv_at hl 4 rfl) ?_
        refine lv_iand hx hb dX5_countWaitingOn_41 ?_
        refine lv_if_eq (tgt := 54) hx hb dX5_countWaitingOn_42 (by decide) (fun c_2 => ?_) (fun c_2 => ?_)
        · have hV := hV.trans (if_pos c_2)
          refine lv_iinc (v := (nI (i + 1))) (lv' := [(5, .int (nI (i + 1))), (0, .ref (ad 0 0)), (1, .ref (ad 6 j)), (2, .int p2), (3, .int (1 <<< (p2 &&& 31))), (4, .int v4)]) hx hb dX5_countWaitingOn_54 hl (k := 5) rfl (nI_1 _) (by decide) rfl (fun ls hl => ?_)
          refine lv_goto (tgt := 10) hx hb dX5_countWaitingOn_57 (by decide) ?_
          exact ih (i + 1) v4 _ _ _ (lp_s hk) hV hw (lv_sub hl [1, 2, 3, 4, 5, 0] rfl)
        · have hV := hV.trans (if_neg c_2)
          refine lv_iload hx hb dX5_countWaitingOn_45 (lv_at hl 4 rfl) ?_
          refine lv_iconst (v := 1) hx hb dX5_countWaitingOn_47 (by decide) ?_
          refine lv_iload hx hb dX5_countWaitingOn_48 (lv_at hl 5 rfl) ?_
          refine lv_ishl hx hb dX5_countWaitingOn_50 ?_
          refine lv_ior hx hb dX5_countWaitingOn_51 ?_
          refine lv_istore (lv' := [(4, .int (v4 ||| (1 <<< ((nI i) &&& 31)))), (0, .ref (ad 0 0)), (1, .ref (ad 6 j)), (2, .int p2), (3, .int (1 <<< (p2 &&& 31))), (5, .int (nI i))]) hx hb dX5_countWaitingOn_52 hl (by decide) rfl (fun ls hl => ?_)
          refine lv_iinc (v := (nI (i + 1))) (lv' := [(5, .int (nI (i + 1))), (4, .int (v4 ||| (1 <<< ((nI i) &&& 31)))), (0, .ref (ad 0 0)), (1, .ref (ad 6 j)), (2, .int p2), (3, .int (1 <<< (p2 &&& 31)))]) hx hb dX5_countWaitingOn_54 hl (k := 5) rfl (nI_1 _) (by decide) rfl (fun ls hl => ?_)
          refine lv_goto (tgt := 10) hx hb dX5_countWaitingOn_57 (by decide) ?_
          exact ih (i + 1) (v4 ||| (1 <<< ((nI i) &&& 31))) _ _ _ (lp_s hk) hV hw (lv_sub hl [2, 3, 4, 5, 1, 0] rfl)
  exact key_10 12 0 (1 <<< (p2 &&& 31)) _ _ _ (Nat.zero_add _) rfl hw (lv_sub hl [3, 4, 5, 2, 1, 0] rfl)

abbrev bw_X5_countWaitingFor : List Cond := .code yX5_countWaitingFor cX5_countWaitingFor 6 (some .int) :: BIG
abbrev rm_X5_countWaitingFor : Room := { frames := 3, cells := 0, slots := 0, locals := 67 }
noncomputable def lp_X5_countWaitingFor_22 (S : (Nat → Nat → Nat → Int32)) (p1 : Int32) (k : Nat) (i : Nat) (v2 : Int32) : Nat → Nat → Int32 → Int32
  | 0, ib, v2b => (v2b)
  | kb + 1, ib, v2b => if S 7 0 ib = 1 then (if S 10 0 ib = p1 then (if sp_X5_isReady S i (nI ib) = 0 then (lp_X5_countWaitingFor_22 S p1 k i v2 kb (ib + 1) v2b) else (lp_X5_countWaitingFor_22 S p1 k i v2 kb (ib + 1) (v2b + 1))) else (lp_X5_countWaitingFor_22 S p1 k i v2 kb (ib + 1) v2b)) else (lp_X5_countWaitingFor_22 S p1 k i v2 kb (ib + 1) v2b)
theorem lz_lp_X5_countWaitingFor_22 (S : (Nat → Nat → Nat → Int32)) (p1 : Int32) (k : Nat) (i : Nat) (v2 : Int32) (ib : Nat) (v2b : Int32) : lp_X5_countWaitingFor_22 S p1 k i v2 0 ib v2b = (v2b) := rfl
noncomputable def lp_X5_countWaitingFor_4 (S : (Nat → Nat → Nat → Int32)) (p1 : Int32) : Nat → Nat → Int32 → Int32
  | 0, i, v2 => (v2)
  | k + 1, i, v2 => lp_X5_countWaitingFor_4 S p1 k (i + 1) (lp_X5_countWaitingFor_22 S p1 k i v2 12 0 v2)
theorem lz_lp_X5_countWaitingFor_4 (S : (Nat → Nat → Nat → Int32)) (p1 : Int32) (i : Nat) (v2 : Int32) : lp_X5_countWaitingFor_4 S p1 0 i v2 = (v2) := rfl
theorem ls_lp_X5_countWaitingFor_4 (S : (Nat → Nat → Nat → Int32)) (p1 : Int32) (k i : Nat) (v2 : Int32) : lp_X5_countWaitingFor_4 S p1 (k + 1) i v2 = lp_X5_countWaitingFor_4 S p1 k (i + 1) (lp_X5_countWaitingFor_22 S p1 k i v2 12 0 v2) := rfl
noncomputable def sp_X5_countWaitingFor (S : (Nat → Nat → Nat → Int32)) (p1 : Int32) : Int32 := (lp_X5_countWaitingFor_4 S p1 ((S 0 0 0).toNatClampNeg) 0 0)
set_option maxHeartbeats 1000000 in
set_option maxRecDepth 100000 in
theorem ct_X5_countWaitingFor {l : Launch} {D : va_G} {cI cG cJ cO : ClassId} {K0 : Nat → Nat} {A : Nat → Prop} {L : List (Nat × Nat)} {ad : Nat → Nat → Nat} {ce : Nat → Nat → va_E} (hL : ∀ f o, cid f o = true → (f, o) ∈ L) (S : (Nat → Nat → Nat → Int32)) (hI : CI S) (p1 : Int32) (sz : Nat) (hA : ∀ q, sz ≤ q → A q) : Met l yX5_countWaitingFor bw_X5_countWaitingFor rm_X5_countWaitingFor (kP D (ktys cI cG cJ cO) K0 A L ad (cK cI cJ ad ce S) sz [.ref (ad 0 0), .int p1]) (kQi D A (sp_X5_countWaitingFor S p1) L ad (cK cI cJ ad ce S)) 0 0 A := by
  refine Met.ofW (cc := cX5_countWaitingFor) (maxL := 6) (ret := (some .int)) (by decide) rfl ?_
  intro p e s m args below meth c s₁ B hml hv
  obtain ⟨hav, hsz, hP, hD, hK, hO⟩ := hv
  have hx := B.exec
  have hb := B.bytes
  have hr := B.returns
  have hts : ∀ w ∈ BIG, w.before args s = true := fun w h => atoms_spec (ws := bw_X5_countWaitingFor) B.pre w (List.mem_cons_of_mem _ h)
  have hown : s.vm.findClass RX5 = some m.cls := findClass_of_methodNamed B.named
  have hlocks := B.notSynchronized
  subst hsz
  have hw := wk.start hP hD
  refine k_start (by rfl) hav (Nat.le_of_ble_eq_true rfl) (fun ls hl => ?_)
  have hl : lv_has ls 6 [(0, .ref (ad 0 0)), (1, .int p1)] := hl
  have hE : sp_X5_countWaitingFor S p1 = (lp_X5_countWaitingFor_4 S p1 ((S 0 0 0).toNatClampNeg) 0 0) := by unfold sp_X5_countWaitingFor; rfl
  refine lv_iconst (v := 0) hx hb dX5_countWaitingFor_0 (by decide) ?_
  refine lv_istore_n (lv' := [(2, .int 0), (0, .ref (ad 0 0)), (1, .int p1)]) hx hb dX5_countWaitingFor_1 rfl hl (by decide) rfl (fun ls hl => ?_)
  refine lv_iconst (v := 0) hx hb dX5_countWaitingFor_2 (by decide) ?_
  refine lv_istore_n (lv' := [(3, .int 0), (2, .int 0), (0, .ref (ad 0 0)), (1, .int p1)]) hx hb dX5_countWaitingFor_3 rfl hl (by decide) rfl (fun ls hl => ?_)
  have key_4 : ∀ (k i : Nat) (v2 : Int32) (H : Heap) (locs : List Loc) (ls : Array Slot), i + k = (S 0 0 0).toNatClampNeg → (lp_X5_countWaitingFor_4 S p1 ((S 0 0 0).toNatClampNeg) 0 0) = lp_X5_countWaitingFor_4 S p1 k i v2 → wk D A L ad (cK cI cJ ad ce S) s.heap H locs → lv_has ls 6 [(0, .ref (ad 0 0)), (1, .int p1), (2, .int v2), (3, .int (nI i))] → W p l e (headSpec bw_X5_countWaitingFor rm_X5_countWaitingFor).room s m args below meth c H locs 0 0 (MQ below (kQi D A (sp_X5_countWaitingFor S p1) L ad (cK cI cJ ad ce S)) args s 0 0 A) (F0 m 4 ls []) := by
    intro k
    induction k with
    | zero =>
      intro i v2 H locs ls hk hV hw hl
      have hV := hV.trans (lz_lp_X5_countWaitingFor_4 S p1 i v2)
      obtain rfl : v2 = (lp_X5_countWaitingFor_4 S p1 ((S 0 0 0).toNatClampNeg) 0 0) := hV.symm
      refine lv_iload_n hx hb dX5_countWaitingFor_4 rfl (lv_at hl 3 rfl) ?_
      refine lv_aload_n hx hb dX5_countWaitingFor_5 rfl (lv_at hl 0 rfl) ?_
      refine k_get (C := RX5) (T := TX5) (N := 7) (v := .int (S 0 0 0)) hx hb hts inB_X5 hown hK hw (hL 0 0 rfl) cke_0 rfl 5 (by decide) (hts _ w_f_X5_174) (fun _ h9 => h9) rfl dX5_countWaitingFor_6 ?_
      refine lv_icmp_ge (tgt := 83) hx hb dX5_countWaitingFor_9 (by decide) (fun _ => ?_) (fun h => absurd (lp_o (SF.b5 (SF.rf _) hI) hk (cn_lt _)) h)
      refine lv_iload_n hx hb dX5_countWaitingFor_83 rfl (lv_at hl 2 rfl) ?_
      exact k_iret hx hb hr hlocks rfl hw hE rfl dX5_countWaitingFor_84
    | succ k ih =>
      intro i v2 H locs ls hk hV hw hl
      have hV := hV.trans (ls_lp_X5_countWaitingFor_4 S p1 k i v2)
      refine lv_iload_n hx hb dX5_countWaitingFor_4 rfl (lv_at hl 3 rfl) ?_
      refine lv_aload_n hx hb dX5_countWaitingFor_5 rfl (lv_at hl 0 rfl) ?_
      refine k_get (C := RX5) (T := TX5) (N := 7) (v := .int (S 0 0 0)) hx hb hts inB_X5 hown hK hw (hL 0 0 rfl) cke_0 rfl 5 (by decide) (hts _ w_f_X5_174) (fun _ h9 => h9) rfl dX5_countWaitingFor_6 ?_
      refine lv_icmp_ge (tgt := 83) hx hb dX5_countWaitingFor_9 (by decide) (fun h => absurd h (lp_i (SF.b5 (SF.rf _) hI) hk (cn_lt _))) (fun _ => ?_)
      refine lv_aload_n hx hb dX5_countWaitingFor_12 rfl (lv_at hl 0 rfl) ?_
      refine lv_iload_n hx hb dX5_countWaitingFor_13 rfl (lv_at hl 3 rfl) ?_
      refine k_cr0 hw (k_rV (As := [.int (nI i)]) (rest := []) ⟨hx, hb, hml, hown, hts⟩ hK hO hw (ct_X5_joinerAt_n hL S (SF.ci (SF.rf _) hI) i (SF.q5 (SF.rf _) (lp_l hk)) _ (wk.hA hw hA)) (cwV 1 hts (gB_V w_ml_X5_179 w_im_X5_joinerAt w_se_X5_joinerAt w_in_X5 w_co_X5_joinerAt) rfl rfl rfl (by decide +kernel) ⟨by decide, by decide⟩) (hL 0 0 rfl) cke_0 rfl rfl hl.1 rfl (Nat.le_of_ble_eq_true rfl) dX5_countWaitingFor_14 ⟨Nat.le_of_ble_eq_true rfl, Nat.le_of_ble_eq_true rfl⟩) (fun H locs hw => ?_)
      refine lv_astore (lv' := [(4, .ref (ad 6 i)), (0, .ref (ad 0 0)), (1, .int p1), (2, .int v2), (3, .int (nI i))]) hx hb dX5_countWaitingFor_17 hl (by decide) rfl (fun ls hl => ?_)
      refine lv_iconst (v := 0) hx hb dX5_countWaitingFor_19 (by decide) ?_
      refine lv_istore (lv' := [(5, .int 0), (4, .ref (ad 6 i)), (0, .ref (ad 0 0)), (1, .int p1), (2, .int v2), (3, .int (nI i))]) hx hb dX5_countWaitingFor_20 hl (by decide) rfl (fun ls hl => ?_)
      have key_22 : ∀ (kb ib : Nat) (v2b : Int32) (H : Heap) (locs : List Loc) (ls : Array Slot), ib + kb = 12 → (lp_X5_countWaitingFor_22 S p1 k i v2 12 0 v2) = lp_X5_countWaitingFor_22 S p1 k i v2 kb ib v2b → wk D A L ad (cK cI cJ ad ce S) s.heap H locs → lv_has ls 6 [(0, .ref (ad 0 0)), (1, .int p1), (2, .int v2b), (3, .int (nI i)), (4, .ref (ad 6 i)), (5, .int (nI ib))] → W p l e (headSpec bw_X5_countWaitingFor rm_X5_countWaitingFor).room s m args below meth c H locs 0 0 (MQ below (kQi D A (sp_X5_countWaitingFor S p1) L ad (cK cI cJ ad ce S)) args s 0 0 A) (F0 m 22 ls []) := by
        intro kb
        induction kb with
        | zero =>
          intro ib v2b H locs ls hkb hVb hw hl
          have hVb := hVb.trans (lz_lp_X5_countWaitingFor_22 S p1 k i v2 ib v2b)
          obtain rfl : v2b = (lp_X5_countWaitingFor_22 S p1 k i v2 12 0 v2) := hVb.symm
          refine lv_iload hx hb dX5_countWaitingFor_22 (lv_at hl 5 rfl) ?_
          refine lv_bipush (v := 12) hx hb dX5_countWaitingFor_24 (by decide) ?_
          refine lv_icmp_ge (tgt := 77) hx hb dX5_countWaitingFor_26 (by decide) (fun _ => ?_) (fun h => absurd (lp_o rfl hkb (by decide)) h)
          refine lv_iinc (v := (nI (i + 1))) (lv' := [(3, .int (nI (i + 1))), (0, .ref (ad 0 0)), (1, .int p1), (2, .int (lp_X5_countWaitingFor_22 S p1 k i v2 12 0 v2)), (4, .ref (ad 6 i)), (5, .int (nI ib))]) hx hb dX5_countWaitingFor_77 hl (k := 3) rfl (nI_1 _) (by decide) rfl (fun ls hl => ?_)
          refine lv_goto (tgt := 4) hx hb dX5_countWaitingFor_80 (by decide) ?_
          exact ih (i + 1) (lp_X5_countWaitingFor_22 S p1 k i v2 12 0 v2) _ _ _ (lp_s hk) hV hw (lv_sub hl [1, 2, 3, 0] rfl)
        | succ kb ihb =>
          intro ib v2b H locs ls hkb hVb hw hl
          refine lv_iload hx hb dX5_countWaitingFor_22 (lv_at hl 5 rfl) ?_
          refine lv_bipush (v := 12) hx hb dX5_countWaitingFor_24 (by decide) ?_
          refine lv_icmp_ge (tgt := 77) hx hb dX5_countWaitingFor_26 (by decide) (fun h => absurd h (lp_i rfl hkb (by decide))) (fun _ => ?_)
          refine lv_aload_n hx hb dX5_countWaitingFor_29 rfl (lv_at hl 0 rfl) ?_
          refine k_get (C := RX5) (T := TX5) (N := 7) (v := .ref (ad 1 0)) hx hb hts inB_X5 hown hK hw (hL 0 0 rfl) cke_0 rfl 0 (by decide) (hts _ w_f_X5_10) (fun _ h9 => h9) rfl dX5_countWaitingFor_30 ?_
          refine k_get (C := RX2) (T := TX2) (N := 8) (v := .ref (ad 7 0)) hx hb hts inB_X2 hown hK hw (hL 1 0 rfl) cke_1 rfl 0 (by decide) (hts _ w_f_X5_126) (fun _ h9 => h9) rfl dX5_countWaitingFor_33 ?_
          refine lv_iload hx hb dX5_countWaitingFor_36 (lv_at hl 5 rfl) ?_
          refine k_aldn hx hb hK hw (hL 7 0 rfl) 0 cke_7 rfl (lp_l hkb) (by decide) dX5_countWaitingFor_38 ?_
          refine lv_iconst (v := 1) hx hb dX5_countWaitingFor_39 (by decide) ?_
          refine lv_icmp_ne (tgt := 71) hx hb dX5_countWaitingFor_40 (by decide) (fun c_1 => ?_) (fun c_1 => ?_)
          · have hVb := hVb.trans (if_neg c_1)
            refine lv_iinc (v := (nI (ib + 1))) (lv' := [(5, .int (nI (ib + 1))), (0, .ref (ad 0 0)), (1, .int p1), (2, .int v2b), (3, .int (nI i)), (4, .ref (ad 6 i))]) hx hb dX5_countWaitingFor_71 hl (k := 5) rfl (nI_1 _) (by decide) rfl (fun ls hl => ?_)
            refine lv_goto (tgt := 22) hx hb dX5_countWaitingFor_74 (by decide) ?_
            exact ihb (ib + 1) v2b _ _ _ (lp_s hkb) hVb hw (lv_sub hl [1, 2, 3, 4, 5, 0] rfl)
          · have hVb := hVb.trans (if_pos c_1)
            refine lv_aload_n hx hb dX5_countWaitingFor_43 rfl (lv_at hl 0 rfl) ?_
            refine k_get (C := RX5) (T := TX5) (N := 7) (v := .ref (ad 1 0)) hx hb hts inB_X5 hown hK hw (hL 0 0 rfl) cke_0 rfl 0 (by decide) (hts _ w_f_X5_10) (fun _ h9 => h9) rfl dX5_countWaitingFor_44 ?_
            refine k_get (C := RX2) (T := TX2) (N := 8) (v := .ref (ad 10 0)) hx hb hts inB_X2 hown hK hw (hL 1 0 rfl) cke_1 rfl 3 (by decide) (hts _ w_f_X5_321) (fun _ h9 => h9) rfl dX5_countWaitingFor_47 ?_
            refine lv_iload hx hb dX5_countWaitingFor_50 (lv_at hl 5 rfl) ?_
            refine k_aldn hx hb hK hw (hL 10 0 rfl) 0 cke_10 rfl (lp_l hkb) (by decide) dX5_countWaitingFor_52 ?_
            refine lv_iload_n hx hb dX5_countWaitingFor_53 rfl (lv_at hl 1 rfl) ?_
            refine lv_icmp_ne (tgt := 71) hx hb dX5_countWaitingFor_54 (by decide) (fun c_2 => ?_) (fun c_2 => ?_)
            · have hVb := hVb.trans (if_neg c_2)
              refine lv_iinc (v := (nI (ib + 1))) (lv' := [(5, .int (nI (ib + 1))), (0, .ref (ad 0 0)), (1, .int p1), (2, .int v2b), (3, .int (nI i)), (4, .ref (ad 6 i))]) hx hb dX5_countWaitingFor_71 hl (k := 5) rfl (nI_1 _) (by decide) rfl (fun ls hl => ?_)
              refine lv_goto (tgt := 22) hx hb dX5_countWaitingFor_74 (by decide) ?_
              exact ihb (ib + 1) v2b _ _ _ (lp_s hkb) hVb hw (lv_sub hl [1, 2, 3, 4, 5, 0] rfl)
            · have hVb := hVb.trans (if_pos c_2)
              refine lv_aload_n hx hb dX5_countWaitingFor_57 rfl (lv_at hl 0 rfl) ?_
              refine lv_aload hx hb dX5_countWaitingFor_58 (lv_at hl 4 rfl) ?_
              refine lv_iload hx hb dX5_countWaitingFor_60 (lv_at hl 5 rfl) ?_
              refine k_ci0 hw (k_rV (As := [.ref (ad 6 i), .int (nI ib)]) (rest := []) ⟨hx, hb, hml, hown, hts⟩ hK hO hw (ct_X5_isReady hL S (SF.ci (SF.rf _) hI) i (Nat.lt_of_lt_of_le (lp_l hk) (CI.n5 hI)) (nI ib) _ (wk.hA hw hA)) (cwV 2 hts (gB_V w_ml_X5_314 w_im_X5_isReady w_se_X5_isReady w_in_X5 w_co_X5_isReady) rfl rfl rfl (by decide +kernel) ⟨by decide, by decide⟩) (hL 0 0 rfl) cke_0 rfl rfl hl.1 rfl (Nat.le_of_ble_eq_true rfl) dX5_countWaitingFor_62 ⟨Nat.le_of_ble_eq_true rfl, Nat.le_of_ble_eq_true rfl⟩) (fun H locs hw => ?_)
              refine lv_if_eq (tgt := 71) hx hb dX5_countWaitingFor_65 (by decide) (fun c_3 => ?_) (fun c_3 => ?_)
              · have hVb := hVb.trans (if_pos c_3)
                refine lv_iinc (v := (nI (ib + 1))) (lv' := [(5, .int (nI (ib + 1))), (0, .ref (ad 0 0)), (1, .int p1), (2, .int v2b), (3, .int (nI i)), (4, .ref (ad 6 i))]) hx hb dX5_countWaitingFor_71 hl (k := 5) rfl (nI_1 _) (by decide) rfl (fun ls hl => ?_)
                refine lv_goto (tgt := 22) hx hb dX5_countWaitingFor_74 (by decide) ?_
                exact ihb (ib + 1) v2b _ _ _ (lp_s hkb) hVb hw (lv_sub hl [1, 2, 3, 4, 5, 0] rfl)
              · have hVb := hVb.trans (if_neg c_3)
                refine lv_iinc (v := (v2b + 1)) (lv' := [(2, .int (v2b + 1)), (0, .ref (ad 0 0)), (1, .int p1), (3, .int (nI i)), (4, .ref (ad 6 i)), (5, .int (nI ib))]) hx hb dX5_countWaitingFor_68 hl (k := 2) rfl rfl (by decide) rfl (fun ls hl => ?_)
                refine lv_iinc (v := (nI (ib + 1))) (lv' := [(5, .int (nI (ib + 1))), (2, .int (v2b + 1)), (0, .ref (ad 0 0)), (1, .int p1), (3, .int (nI i)), (4, .ref (ad 6 i))]) hx hb dX5_countWaitingFor_71 hl (k := 5) rfl (nI_1 _) (by decide) rfl (fun ls hl => ?_)
                refine lv_goto (tgt := 22) hx hb dX5_countWaitingFor_74 (by decide) ?_
                exact ihb (ib + 1) (v2b + 1) _ _ _ (lp_s hkb) hVb hw (lv_sub hl [2, 3, 1, 4, 5, 0] rfl)
      exact key_22 12 0 v2 _ _ _ (Nat.zero_add _) rfl hw (lv_sub hl [2, 3, 4, 5, 1, 0] rfl)
  exact key_4 ((S 0 0 0).toNatClampNeg) 0 0 _ _ _ (Nat.zero_add _) rfl hw (lv_sub hl [2, 3, 1, 0] rfl)

abbrev bw_X5_countLeft : List Cond := .code yX5_countLeft cX5_countLeft 3 (some .int) :: BIG
abbrev rm_X5_countLeft : Room := { frames := 1, cells := 0, slots := 0, locals := 22 }
noncomputable def lp_X5_countLeft_4 (S : (Nat → Nat → Nat → Int32)) : Nat → Nat → Int32 → Int32
  | 0, i, v1 => (v1)
  | k + 1, i, v1 => if S 6 i 2 = 0 then (lp_X5_countLeft_4 S k (i + 1) v1) else (lp_X5_countLeft_4 S k (i + 1) (v1 + 1))
theorem lz_lp_X5_countLeft_4 (S : (Nat → Nat → Nat → Int32)) (i : Nat) (v1 : Int32) : lp_X5_countLeft_4 S 0 i v1 = (v1) := rfl
noncomputable def sp_X5_countLeft (S : (Nat → Nat → Nat → Int32)) : Int32 := (lp_X5_countLeft_4 S ((S 0 0 0).toNatClampNeg) 0 0)
set_option maxHeartbeats 1000000 in
set_option maxRecDepth 100000 in
theorem ct_X5_countLeft {l : Launch} {D : va_G} {cI cG cJ cO : ClassId} {K0 : Nat → Nat} {A : Nat → Prop} {L : List (Nat × Nat)} {ad : Nat → Nat → Nat} {ce : Nat → Nat → va_E} (hL : ∀ f o, cid f o = true → (f, o) ∈ L) (S : (Nat → Nat → Nat → Int32)) (hI : CI S) (sz : Nat) (hA : ∀ q, sz ≤ q → A q) : Met l yX5_countLeft bw_X5_countLeft rm_X5_countLeft (kP D (ktys cI cG cJ cO) K0 A L ad (cK cI cJ ad ce S) sz [.ref (ad 0 0)]) (kQi D A (sp_X5_countLeft S) L ad (cK cI cJ ad ce S)) 0 0 A := by
  refine Met.ofW (cc := cX5_countLeft) (maxL := 3) (ret := (some .int)) (by decide) rfl ?_
  intro p e s m args below meth c s₁ B hml hv
  obtain ⟨hav, hsz, hP, hD, hK, hO⟩ := hv
  have hx := B.exec
  have hb := B.bytes
  have hr := B.returns
  have hts : ∀ w ∈ BIG, w.before args s = true := fun w h => atoms_spec (ws := bw_X5_countLeft) B.pre w (List.mem_cons_of_mem _ h)
  have hown : s.vm.findClass RX5 = some m.cls := findClass_of_methodNamed B.named
  have hlocks := B.notSynchronized
  subst hsz
  have hw := wk.start hP hD
  refine k_start (by rfl) hav (Nat.le_of_ble_eq_true rfl) (fun ls hl => ?_)
  have hl : lv_has ls 3 [(0, .ref (ad 0 0))] := hl
  have hE : sp_X5_countLeft S = (lp_X5_countLeft_4 S ((S 0 0 0).toNatClampNeg) 0 0) := by unfold sp_X5_countLeft; rfl
  refine lv_iconst (v := 0) hx hb dX5_countLeft_0 (by decide) ?_
  refine lv_istore_n (lv' := [(1, .int 0), (0, .ref (ad 0 0))]) hx hb dX5_countLeft_1 rfl hl (by decide) rfl (fun ls hl => ?_)
  refine lv_iconst (v := 0) hx hb dX5_countLeft_2 (by decide) ?_
  refine lv_istore_n (lv' := [(2, .int 0), (1, .int 0), (0, .ref (ad 0 0))]) hx hb dX5_countLeft_3 rfl hl (by decide) rfl (fun ls hl => ?_)
  have key_4 : ∀ (k i : Nat) (v1 : Int32) (H : Heap) (locs : List Loc) (ls : Array Slot), i + k = (S 0 0 0).toNatClampNeg → (lp_X5_countLeft_4 S ((S 0 0 0).toNatClampNeg) 0 0) = lp_X5_countLeft_4 S k i v1 → wk D A L ad (cK cI cJ ad ce S) s.heap H locs → lv_has ls 3 [(0, .ref (ad 0 0)), (1, .int v1), (2, .int (nI i))] → W p l e (headSpec bw_X5_countLeft rm_X5_countLeft).room s m args below meth c H locs 0 0 (MQ below (kQi D A (sp_X5_countLeft S) L ad (cK cI cJ ad ce S)) args s 0 0 A) (F0 m 4 ls []) := by
    intro k
    induction k with
    | zero =>
      intro i v1 H locs ls hk hV hw hl
      have hV := hV.trans (lz_lp_X5_countLeft_4 S i v1)
      obtain rfl : v1 = (lp_X5_countLeft_4 S ((S 0 0 0).toNatClampNeg) 0 0) := hV.symm
      refine lv_iload_n hx hb dX5_countLeft_4 rfl (lv_at hl 2 rfl) ?_
      refine lv_aload_n hx hb dX5_countLeft_5 rfl (lv_at hl 0 rfl) ?_
      refine k_get (C := RX5) (T := TX5) (N := 7) (v := .int (S 0 0 0)) hx hb hts inB_X5 hown hK hw (hL 0 0 rfl) cke_0 rfl 5 (by decide) (hts _ w_f_X5_174) (fun _ h9 => h9) rfl dX5_countLeft_6 ?_
      refine lv_icmp_ge (tgt := 32) hx hb dX5_countLeft_9 (by decide) (fun _ => ?_) (fun h => absurd (lp_o (SF.b5 (SF.rf _) hI) hk (cn_lt _)) h)
      refine lv_iload_n hx hb dX5_countLeft_32 rfl (lv_at hl 1 rfl) ?_
      exact k_iret hx hb hr hlocks rfl hw hE rfl dX5_countLeft_33
    | succ k ih =>
      intro i v1 H locs ls hk hV hw hl
      refine lv_iload_n hx hb dX5_countLeft_4 rfl (lv_at hl 2 rfl) ?_
      refine lv_aload_n hx hb dX5_countLeft_5 rfl (lv_at hl 0 rfl) ?_
      refine k_get (C := RX5) (T := TX5) (N := 7) (v := .int (S 0 0 0)) hx hb hts inB_X5 hown hK hw (hL 0 0 rfl) cke_0 rfl 5 (by decide) (hts _ w_f_X5_174) (fun _ h9 => h9) rfl dX5_countLeft_6 ?_
      refine lv_icmp_ge (tgt := 32) hx hb dX5_countLeft_9 (by decide) (fun h => absurd h (lp_i (SF.b5 (SF.rf _) hI) hk (cn_lt _))) (fun _ => ?_)
      refine lv_aload_n hx hb dX5_countLeft_12 rfl (lv_at hl 0 rfl) ?_
      refine lv_iload_n hx hb dX5_countLeft_13 rfl (lv_at hl 2 rfl) ?_
      refine k_cr0 hw (k_rV (As := [.int (nI i)]) (rest := []) ⟨hx, hb, hml, hown, hts⟩ hK hO hw (ct_X5_joinerAt_n hL S (SF.ci (SF.rf _) hI) i (SF.q5 (SF.rf _) (lp_l hk)) _ (wk.hA hw hA)) (cwV 1 hts (gB_V w_ml_X5_179 w_im_X5_joinerAt w_se_X5_joinerAt w_in_X5 w_co_X5_joinerAt) rfl rfl rfl (by decide +kernel) ⟨by decide, by decide⟩) (hL 0 0 rfl) cke_0 rfl rfl hl.1 rfl (Nat.le_of_ble_eq_true rfl) dX5_countLeft_14 ⟨Nat.le_of_ble_eq_true rfl, Nat.le_of_ble_eq_true rfl⟩) (fun H locs hw => ?_)
      refine k_get (C := RX1) (T := TX1) (N := 8) (v := .int (S 6 i 2)) hx hb hts inB_X1 hown hK hw (hL 6 i (cidJ6 (Nat.lt_of_lt_of_le (lp_l hk) (CI.n5 hI)))) cke_6 rfl 7 (by decide) (hts _ w_f_X5_189) (fun _ h9 => h9) rfl dX5_countLeft_17 ?_
      refine lv_if_eq (tgt := 26) hx hb dX5_countLeft_20 (by decide) (fun c_1 => ?_) (fun c_1 => ?_)
      · have hV := hV.trans (if_pos c_1)
        refine lv_iinc (v := (nI (i + 1))) (lv' := [(2, .int (nI (i + 1))), (0, .ref (ad 0 0)), (1, .int v1)]) hx hb dX5_countLeft_26 hl (k := 2) rfl (nI_1 _) (by decide) rfl (fun ls hl => ?_)
        refine lv_goto (tgt := 4) hx hb dX5_countLeft_29 (by decide) ?_
        exact ih (i + 1) v1 _ _ _ (lp_s hk) hV hw (lv_sub hl [1, 2, 0] rfl)
      · have hV := hV.trans (if_neg c_1)
        refine lv_iinc (v := (v1 + 1)) (lv' := [(1, .int (v1 + 1)), (0, .ref (ad 0 0)), (2, .int (nI i))]) hx hb dX5_countLeft_23 hl (k := 1) rfl rfl (by decide) rfl (fun ls hl => ?_)
        refine lv_iinc (v := (nI (i + 1))) (lv' := [(2, .int (nI (i + 1))), (1, .int (v1 + 1)), (0, .ref (ad 0 0))]) hx hb dX5_countLeft_26 hl (k := 2) rfl (nI_1 _) (by decide) rfl (fun ls hl => ?_)
        refine lv_goto (tgt := 4) hx hb dX5_countLeft_29 (by decide) ?_
        exact ih (i + 1) (v1 + 1) _ _ _ (lp_s hk) hV hw (lv_sub hl [2, 1, 0] rfl)
  exact key_4 ((S 0 0 0).toNatClampNeg) 0 0 _ _ _ (Nat.zero_add _) rfl hw (lv_sub hl [2, 1, 0] rfl)

abbrev bw_X5_countStepsIn : List Cond := .code yX5_countStepsIn cX5_countStepsIn 4 (some .int) :: BIG
abbrev rm_X5_countStepsIn : Room := { frames := 2, cells := 0, slots := 0, locals := 44 }
noncomputable def lp_X5_countStepsIn_4 (S : (Nat → Nat → Nat → Int32)) (p1 : Int32) : Nat → Nat → Int32 → Int32
  | 0, i, v2 => (v2)
  | k + 1, i, v2 => lp_X5_countStepsIn_4 S p1 k (i + 1) (v2 + (sp_X1_countIn S i p1))
theorem lz_lp_X5_countStepsIn_4 (S : (Nat → Nat → Nat → Int32)) (p1 : Int32) (i : Nat) (v2 : Int32) : lp_X5_countStepsIn_4 S p1 0 i v2 = (v2) := rfl
theorem ls_lp_X5_countStepsIn_4 (S : (Nat → Nat → Nat → Int32)) (p1 : Int32) (k i : Nat) (v2 : Int32) : lp_X5_countStepsIn_4 S p1 (k + 1) i v2 = lp_X5_countStepsIn_4 S p1 k (i + 1) (v2 + (sp_X1_countIn S i p1)) := rfl
noncomputable def sp_X5_countStepsIn (S : (Nat → Nat → Nat → Int32)) (p1 : Int32) : Int32 := (lp_X5_countStepsIn_4 S p1 ((S 0 0 0).toNatClampNeg) 0 0)
set_option maxHeartbeats 1000000 in
set_option maxRecDepth 100000 in
theorem ct_X5_countStepsIn {l : Launch} {D : va_G} {cI cG cJ cO : ClassId} {K0 : Nat → Nat} {A : Nat → Prop} {L : List (Nat × Nat)} {ad : Nat → Nat → Nat} {ce : Nat → Nat → va_E} (hL : ∀ f o, cid f o = true → (f, o) ∈ L) (S : (Nat → Nat → Nat → Int32)) (hI : CI S) (p1 : Int32) (sz : Nat) (hA : ∀ q, sz ≤ q → A q) : Met l yX5_countStepsIn bw_X5_countStepsIn rm_X5_countStepsIn (kP D (ktys cI cG cJ cO) K0 A L ad (cK cI cJ ad ce S) sz [.ref (ad 0 0), .int p1]) (kQi D A (sp_X5_countStepsIn S p1) L ad (cK cI cJ ad ce S)) 0 0 A := by
  refine Met.ofW (cc := cX5_countStepsIn) (maxL := 4) (ret := (some .int)) (by decide) rfl ?_
  intro p e s m args below meth c s₁ B hml hv
  obtain ⟨hav, hsz, hP, hD, hK, hO⟩ := hv
  have hx := B.exec
  have hb := B.bytes
  have hr := B.returns
  have hts : ∀ w ∈ BIG, w.before args s = true := fun w h => atoms_spec (ws := bw_X5_countStepsIn) B.pre w (List.mem_cons_of_mem _ h)
  have hown : s.vm.findClass RX5 = some m.cls := findClass_of_methodNamed B.named
  have hlocks := B.notSynchronized
  subst hsz
  have hw := wk.start hP hD
  refine k_start (by rfl) hav (Nat.le_of_ble_eq_true rfl) (fun ls hl => ?_)
  have hl : lv_has ls 4 [(0, .ref (ad 0 0)), (1, .int p1)] := hl
  have hE : sp_X5_countStepsIn S p1 = (lp_X5_countStepsIn_4 S p1 ((S 0 0 0).toNatClampNeg) 0 0) := by unfold sp_X5_countStepsIn; rfl
  refine lv_iconst (v := 0) hx hb dX5_countStepsIn_0 (by decide) ?_
  refine lv_istore_n (lv' := [(2, .int 0), (0, .ref (ad 0 0)), (1, .int p1)]) hx hb dX5_countStepsIn_1 rfl hl (by decide) rfl (fun ls hl => ?_)
  refine lv_iconst (v := 0) hx hb dX5_countStepsIn_2 (by decide) ?_
  refine lv_istore_n (lv' := [(3, .int 0), (2, .int 0), (0, .ref (ad 0 0)), (1, .int p1)]) hx hb dX5_countStepsIn_3 rfl hl (by decide) rfl (fun ls hl => ?_)
  have key_4 : ∀ (k i : Nat) (v2 : Int32) (H : Heap) (locs : List Loc) (ls : Array Slot), i + k = (S 0 0 0).toNatClampNeg → (lp_X5_countStepsIn_4 S p1 ((S 0 0 0).toNatClampNeg) 0 0) = lp_X5_countStepsIn_4 S p1 k i v2 → wk D A L ad (cK cI cJ ad ce S) s.heap H locs → lv_has ls 4 [(0, .ref (ad 0 0)), (1, .int p1), (2, .int v2), (3, .int (nI i))] → W p l e (headSpec bw_X5_countStepsIn rm_X5_countStepsIn).room s m args below meth c H locs 0 0 (MQ below (kQi D A (sp_X5_countStepsIn S p1) L ad (cK cI cJ ad ce S)) args s 0 0 A) (F0 m 4 ls []) := by
    intro k
    induction k with
    | zero =>
      intro i v2 H locs ls hk hV hw hl
      have hV := hV.trans (lz_lp_X5_countStepsIn_4 S p1 i v2)
      obtain rfl : v2 = (lp_X5_countStepsIn_4 S p1 ((S 0 0 0).toNatClampNeg) 0 0) := hV.symm
      refine lv_iload_n hx hb dX5_countStepsIn_4 rfl (lv_at hl 3 rfl) ?_
      refine lv_aload_n hx hb dX5_countStepsIn_5 rfl (lv_at hl 0 rfl) ?_
      refine k_get (C := RX5) (T := TX5) (N := 7) (v := .int (S 0 0 0)) hx hb hts inB_X5 hown hK hw (hL 0 0 rfl) cke_0 rfl 5 (by decide) (hts _ w_f_X5_174) (fun _ h9 => h9) rfl dX5_countStepsIn_6 ?_
      refine lv_icmp_ge (tgt := 30) hx hb dX5_countStepsIn_9 (by decide) (fun _ => ?_) (fun h => absurd (lp_o (SF.b5 (SF.rf _) hI) hk (cn_lt _)) h)
      refine lv_iload_n hx hb dX5_countStepsIn_30 rfl (lv_at hl 2 rfl) ?_
      exact k_iret hx hb hr hlocks rfl hw hE rfl dX5_countStepsIn_31
    | succ k ih =>
      intro i v2 H locs ls hk hV hw hl
      have hV := hV.trans (ls_lp_X5_countStepsIn_4 S p1 k i v2)
      refine lv_iload_n hx hb dX5_countStepsIn_4 rfl (lv_at hl 3 rfl) ?_
      refine lv_aload_n hx hb dX5_countStepsIn_5 rfl (lv_at hl 0 rfl) ?_
      refine k_get (C := RX5) (T := TX5) (N := 7) (v := .int (S 0 0 0)) hx hb hts inB_X5 hown hK hw (hL 0 0 rfl) cke_0 rfl 5 (by decide) (hts _ w_f_X5_174) (fun _ h9 => h9) rfl dX5_countStepsIn_6 ?_
      refine lv_icmp_ge (tgt := 30) hx hb dX5_countStepsIn_9 (by decide) (fun h => absurd h (lp_i (SF.b5 (SF.rf _) hI) hk (cn_lt _))) (fun _ => ?_)
      refine lv_iload_n hx hb dX5_countStepsIn_12 rfl (lv_at hl 2 rfl) ?_
      refine lv_aload_n hx hb dX5_countStepsIn_13 rfl (lv_at hl 0 rfl) ?_
      refine lv_iload_n hx hb dX5_countStepsIn_14 rfl (lv_at hl 3 rfl) ?_
      refine k_cr0 hw (k_rV (As := [.int (nI i)]) (rest := [.int v2]) ⟨hx, hb, hml, hown, hts⟩ hK hO hw (ct_X5_joinerAt_n hL S (SF.ci (SF.rf _) hI) i (SF.q5 (SF.rf _) (lp_l hk)) _ (wk.hA hw hA)) (cwV 1 hts (gB_V w_ml_X5_179 w_im_X5_joinerAt w_se_X5_joinerAt w_in_X5 w_co_X5_joinerAt) rfl rfl rfl (by decide +kernel) ⟨by decide, by decide⟩) (hL 0 0 rfl) cke_0 rfl rfl hl.1 rfl (Nat.le_of_ble_eq_true rfl) dX5_countStepsIn_15 ⟨Nat.le_of_ble_eq_true rfl, Nat.le_of_ble_eq_true rfl⟩) (fun H locs hw => ?_)
      refine lv_iload_n hx hb dX5_countStepsIn_18 rfl (lv_at hl 1 rfl) ?_
      refine k_ci0 hw (k_rV (As := [.int p1]) (rest := [.int v2]) ⟨hx, hb, hml, hown, hts⟩ hK hO hw (ct_X1_countIn hL S (SF.ci (SF.rf _) hI) i (Nat.lt_of_lt_of_le (lp_l hk) (CI.n5 hI)) p1 _ (wk.hA hw hA)) (cwV 1 hts (gB_V w_ml_X5_205 w_im_X1_countIn w_se_X1_countIn w_in_X1 w_co_X1_countIn) rfl rfl rfl (by decide +kernel) ⟨by decide, by decide⟩) (hL 6 i (cidJ6 (Nat.lt_of_lt_of_le (lp_l hk) (CI.n5 hI)))) cke_6 rfl rfl hl.1 rfl (Nat.le_of_ble_eq_true rfl) dX5_countStepsIn_19 ⟨Nat.le_of_ble_eq_true rfl, Nat.le_of_ble_eq_true rfl⟩) (fun H locs hw => ?_)
      refine lv_iadd hx hb dX5_countStepsIn_22 ?_
      refine lv_istore_n (lv' := [(2, .int (v2 + (sp_X1_countIn S i p1))), (0, .ref (ad 0 0)), (1, .int p1), (3, .int (nI i))]) hx hb dX5_countStepsIn_23 rfl hl (by decide) rfl (fun ls hl => ?_)
      refine lv_iinc (v := (nI (i + 1))) (lv' := [(3, .int (nI (i + 1))), (2, .int (v2 + (sp_X1_countIn S i p1))), (0, .ref (ad 0 0)), (1, .int p1)]) hx hb dX5_countStepsIn_24 hl (k := 3) rfl (nI_1 _) (by decide) rfl (fun ls hl => ?_)
      refine lv_goto (tgt := 4) hx hb dX5_countStepsIn_27 (by decide) ?_
      exact ih (i + 1) (v2 + (sp_X1_countIn S i p1)) _ _ _ (lp_s hk) hV hw (lv_sub hl [2, 3, 1, 0] rfl)
  exact key_4 ((S 0 0 0).toNatClampNeg) 0 0 _ _ _ (Nat.zero_add _) rfl hw (lv_sub hl [2, 3, 1, 0] rfl)

abbrev bw_X5_countRights : List Cond := .code yX5_countRights cX5_countRights 3 (some .int) :: BIG
abbrev rm_X5_countRights : Room := { frames := 2, cells := 0, slots := 0, locals := 47 }
noncomputable def lp_X5_countRights_4 (S : (Nat → Nat → Nat → Int32)) : Nat → Nat → Int32 → Int32
  | 0, i, v1 => (v1)
  | k + 1, i, v1 => lp_X5_countRights_4 S k (i + 1) (v1 + (sp_J6_bitCount_0f7a4 (sp_X2_rightsOf S i)))
theorem lz_lp_X5_countRights_4 (S : (Nat → Nat → Nat → Int32)) (i : Nat) (v1 : Int32) : lp_X5_countRights_4 S 0 i v1 = (v1) := rfl
theorem ls_lp_X5_countRights_4 (S : (Nat → Nat → Nat → Int32)) (k i : Nat) (v1 : Int32) : lp_X5_countRights_4 S (k + 1) i v1 = lp_X5_countRights_4 S k (i + 1) (v1 + (sp_J6_bitCount_0f7a4 (sp_X2_rightsOf S i))) := rfl
noncomputable def sp_X5_countRights (S : (Nat → Nat → Nat → Int32)) : Int32 := (lp_X5_countRights_4 S ((S 0 0 0).toNatClampNeg) 0 0)
set_option maxHeartbeats 1000000 in
set_option maxRecDepth 100000 in
theorem ct_X5_countRights {l : Launch} {D : va_G} {cI cG cJ cO : ClassId} {K0 : Nat → Nat} {A : Nat → Prop} {L : List (Nat × Nat)} {ad : Nat → Nat → Nat} {ce : Nat → Nat → va_E} (hL : ∀ f o, cid f o = true → (f, o) ∈ L) (S : (Nat → Nat → Nat → Int32)) (hI : CI S) (sz : Nat) (hA : ∀ q, sz ≤ q → A q) : Met l yX5_countRights bw_X5_countRights rm_X5_countRights (kP D (ktys cI cG cJ cO) K0 A L ad (cK cI cJ ad ce S) sz [.ref (ad 0 0)]) (kQi D A (sp_X5_countRights S) L ad (cK cI cJ ad ce S)) 0 0 A := by
  refine Met.ofW (cc := cX5_countRights) (maxL := 3) (ret := (some .int)) (by decide) rfl ?_
  intro p e s m args below meth c s₁ B hml hv
  obtain ⟨hav, hsz, hP, hD, hK, hO⟩ := hv
  have hx := B.exec
  have hb := B.bytes
  have hr := B.returns
  have hts : ∀ w ∈ BIG, w.before args s = true := fun w h => atoms_spec (ws := bw_X5_countRights) B.pre w (List.mem_cons_of_mem _ h)
  have hown : s.vm.findClass RX5 = some m.cls := findClass_of_methodNamed B.named
  have hlocks := B.notSynchronized
  subst hsz
  have hw := wk.start hP hD
  refine k_start (by rfl) hav (Nat.le_of_ble_eq_true rfl) (fun ls hl => ?_)
  have hl : lv_has ls 3 [(0, .ref (ad 0 0))] := hl
  have hE : sp_X5_countRights S = (lp_X5_countRights_4 S ((S 0 0 0).toNatClampNeg) 0 0) := by unfold sp_X5_countRights; rfl
  refine lv_iconst (v := 0) hx hb dX5_countRights_0 (by decide) ?_
  refine lv_istore_n (lv' := [(1, .int 0), (0, .ref (ad 0 0))]) hx hb dX5_countRights_1 rfl hl (by decide) rfl (fun ls hl => ?_)
  refine lv_iconst (v := 0) hx hb dX5_countRights_2 (by decide) ?_
  refine lv_istore_n (lv' := [(2, .int 0), (1, .int 0), (0, .ref (ad 0 0))]) hx hb dX5_countRights_3 rfl hl (by decide) rfl (fun ls hl => ?_)
  have key_4 : ∀ (k i : Nat) (v1 : Int32) (H : Heap) (locs : List Loc) (ls : Array Slot), i + k = (S 0 0 0).toNatClampNeg → (lp_X5_countRights_4 S ((S 0 0 0).toNatClampNeg) 0 0) = lp_X5_countRights_4 S k i v1 → wk D A L ad (cK cI cJ ad ce S) s.heap H locs → lv_has ls 3 [(0, .ref (ad 0 0)), (1, .int v1), (2, .int (nI i))] → W p l e (headSpec bw_X5_countRights rm_X5_countRights).room s m args below meth c H locs 0 0 (MQ below (kQi D A (sp_X5_countRights S) L ad (cK cI cJ ad ce S)) args s 0 0 A) (F0 m 4 ls []) := by
    intro k
    induction k with
    | zero =>
      intro i v1 H locs ls hk hV hw hl
      have hV := hV.trans (lz_lp_X5_countRights_4 S i v1)
      obtain rfl : v1 = (lp_X5_countRights_4 S ((S 0 0 0).toNatClampNeg) 0 0) := hV.symm
      refine lv_iload_n hx hb dX5_countRights_4 rfl (lv_at hl 2 rfl) ?_
      refine lv_aload_n hx hb dX5_countRights_5 rfl (lv_at hl 0 rfl) ?_
      refine k_get (C := RX5) (T := TX5) (N := 7) (v := .int (S 0 0 0)) hx hb hts inB_X5 hown hK hw (hL 0 0 rfl) cke_0 rfl 5 (by decide) (hts _ w_f_X5_174) (fun _ h9 => h9) rfl dX5_countRights_6 ?_
      refine lv_icmp_ge (tgt := 36) hx hb dX5_countRights_9 (by decide) (fun _ => ?_) (fun h => absurd (lp_o (SF.b5 (SF.rf _) hI) hk (cn_lt _)) h)
      refine lv_iload_n hx hb dX5_countRights_36 rfl (lv_at hl 1 rfl) ?_
      exact k_iret hx hb hr hlocks rfl hw hE rfl dX5_countRights_37
    | succ k ih =>
      intro i v1 H locs ls hk hV hw hl
      have hV := hV.trans (ls_lp_X5_countRights_4 S k i v1)
      refine lv_iload_n hx hb dX5_countRights_4 rfl (lv_at hl 2 rfl) ?_
      refine lv_aload_n hx hb dX5_countRights_5 rfl (lv_at hl 0 rfl) ?_
      refine k_get (C := RX5) (T := TX5) (N := 7) (v := .int (S 0 0 0)) hx hb hts inB_X5 hown hK hw (hL 0 0 rfl) cke_0 rfl 5 (by decide) (hts _ w_f_X5_174) (fun _ h9 => h9) rfl dX5_countRights_6 ?_
      refine lv_icmp_ge (tgt := 36) hx hb dX5_countRights_9 (by decide) (fun h => absurd h (lp_i (SF.b5 (SF.rf _) hI) hk (cn_lt _))) (fun _ => ?_)
      refine lv_iload_n hx hb dX5_countRights_12 rfl (lv_at hl 1 rfl) ?_
      refine lv_aload_n hx hb dX5_countRights_13 rfl (lv_at hl 0 rfl) ?_
      refine k_get (C := RX5) (T := TX5) (N := 7) (v := .ref (ad 1 0)) hx hb hts inB_X5 hown hK hw (hL 0 0 rfl) cke_0 rfl 0 (by decide) (hts _ w_f_X5_10) (fun _ h9 => h9) rfl dX5_countRights_14 ?_
      refine lv_aload_n hx hb dX5_countRights_17 rfl (lv_at hl 0 rfl) ?_
      refine lv_iload_n hx hb dX5_countRights_18 rfl (lv_at hl 2 rfl) ?_
      refine k_cr0 hw (k_rV (As := [.int (nI i)]) (rest := [.ref (ad 1 0), .int v1]) ⟨hx, hb, hml, hown, hts⟩ hK hO hw (ct_X5_joinerAt_n hL S (SF.ci (SF.rf _) hI) i (SF.q5 (SF.rf _) (lp_l hk)) _ (wk.hA hw hA)) (cwV 1 hts (gB_V w_ml_X5_179 w_im_X5_joinerAt w_se_X5_joinerAt w_in_X5 w_co_X5_joinerAt) rfl rfl rfl (by decide +kernel) ⟨by decide, by decide⟩) (hL 0 0 rfl) cke_0 rfl rfl hl.1 rfl (Nat.le_of_ble_eq_true rfl) dX5_countRights_19 ⟨Nat.le_of_ble_eq_true rfl, Nat.le_of_ble_eq_true rfl⟩) (fun H locs hw => ?_)
      refine k_ci0 hw (k_rV (As := [.ref (ad 6 i)]) (rest := [.int v1]) ⟨hx, hb, hml, hown, hts⟩ hK hO hw (ct_X2_rightsOf hL S (SF.ci (SF.rf _) hI) i (Nat.lt_of_lt_of_le (lp_l hk) (CI.n5 hI)) _ (wk.hA hw hA)) (cwV 1 hts (gB_V w_ml_X5_372 w_im_X2_rightsOf w_se_X2_rightsOf w_in_X2 w_co_X2_rightsOf) rfl rfl rfl (by decide +kernel) ⟨by decide, by decide⟩) (hL 1 0 rfl) cke_1 rfl rfl hl.1 rfl (Nat.le_of_ble_eq_true rfl) dX5_countRights_22 ⟨Nat.le_of_ble_eq_true rfl, Nat.le_of_ble_eq_true rfl⟩) (fun H locs hw => ?_)
      refine k_ci0 hw (k_rS (As := [.int (sp_X2_rightsOf S i)]) (rest := [.int v1]) ⟨hx, hb, hml, hown, hts⟩ hK hO hw (ct_J6_bitCount_0f7a4 (sp_X2_rightsOf S i) _ (wk.hA hw hA)) (va_cwS 1 hts (gB_S w_ml_X5_381 w_st_J6_bitCount_0f7a4 w_in_J6 w_co_J6_bitCount_0f7a4) rfl rfl rfl (by decide +kernel) ⟨by decide, by decide⟩) rfl hl.1 rfl (Nat.le_of_ble_eq_true rfl) dX5_countRights_25 ⟨Nat.le_of_ble_eq_true rfl, Nat.le_of_ble_eq_true rfl⟩) (fun H locs hw => ?_)
      refine lv_iadd hx hb dX5_countRights_28 ?_
      refine lv_istore_n (lv' := [(1, .int (v1 + (sp_J6_bitCount_0f7a4 (sp_X2_rightsOf S i)))), (0, .ref (ad 0 0)), (2, .int (nI i))]) hx hb dX5_countRights_29 rfl hl (by decide) rfl (fun ls hl => ?_)
      refine lv_iinc (v := (nI (i + 1))) (lv' := [(2, .int (nI (i + 1))), (1, .int (v1 + (sp_J6_bitCount_0f7a4 (sp_X2_rightsOf S i)))), (0, .ref (ad 0 0))]) hx hb dX5_countRights_30 hl (k := 2) rfl (nI_1 _) (by decide) rfl (fun ls hl => ?_)
      refine lv_goto (tgt := 4) hx hb dX5_countRights_33 (by decide) ?_
      exact ih (i + 1) (v1 + (sp_J6_bitCount_0f7a4 (sp_X2_rightsOf S i))) _ _ _ (lp_s hk) hV hw (lv_sub hl [2, 1, 0] rfl)
  exact key_4 ((S 0 0 0).toNatClampNeg) 0 0 _ _ _ (Nat.zero_add _) rfl hw (lv_sub hl [2, 1, 0] rfl)
