abbrev bw_X5_isReady : List Cond := .code yX5_isReady cX5_isReady 3 (some .boolean) :: BIG
abbrev rm_X5_isReady : Room := { frames := 2, cells := 0, slots := 0, locals := 45 }
noncomputable def sp_X5_isReady (S : (Nat → Nat → Nat → Int32)) (j : Nat) (p2 : Int32) : Int32 := if S 6 j 2 = 0 then (if S 0 0 1 < S 6 j 1 then (0) else (if sp_X1_isIn S j p2 0 = 0 then (0) else (if sp_X2_needsAreDone S j p2 = 0 then (0) else (1)))) else (0)
set_option maxHeartbeats 1000000 in
set_option maxRecDepth 100000 in
theorem ct_X5_isReady {l : Launch} {D : va_G} {cI cG cJ cO : ClassId} {K0 : Nat → Nat} {A : Nat → Prop} {L : List (Nat × Nat)} {ad : Nat → Nat → Nat} {ce : Nat → Nat → va_E} (hL : ∀ f o, cid f o = true → (f, o) ∈ L) (S : (Nat → Nat → Nat → Int32)) (hI : CI S) (j : Nat) (hj : j < 8) (p2 : Int32) (sz : Nat) (hA : ∀ q, sz ≤ q → A q) : Met l yX5_isReady bw_X5_isReady rm_X5_isReady (kP D (ktys cI cG cJ cO) K0 A L ad (cK cI cJ ad ce S) sz [.ref (ad 0 0), .ref (ad 6 j), .int p2]) (kQi D A (sp_X5_isReady S j p2) L ad (cK cI cJ ad ce S)) 0 0 A := by
  refine Met.ofW (cc := cX5_isReady) (maxL := 3) (ret := (some .boolean)) (by decide) rfl ?_
  intro p e s m args below meth c s₁ B hml hv
  obtain ⟨hav, hsz, hP, hD, hK, hO⟩ := hv
  have hx := B.exec
  have hb := B.bytes
  have hr := B.returns
  have hts : ∀ w ∈ BIG, w.before args s = true := fun w h => atoms_spec (ws := bw_X5_isReady) B.pre w (List.mem_cons_of_mem _ h)
  have hown : s.vm.findClass RX5 = some m.cls := findClass_of_methodNamed B.named
  have hlocks := B.notSynchronized
  subst hsz
  have hw := wk.start hP hD
  refine k_start (by rfl) hav (Nat.le_of_ble_eq_true rfl) (fun ls hl => ?_)
  have hl : lv_has ls 3 [(0, .ref (ad 0 0)), (1, .ref (ad 6 j)), (2, .int p2)] := hl
  have hE : sp_X5_isReady S j p2 = sp_X5_isReady S j p2 := rfl
  refine lv_aload_n hx hb dX5_isReady_0 rfl (lv_at hl 1 rfl) ?_
  refine k_get (C := RX1) (T := TX1) (N := 8) (v := .int (S 6 j 2)) hx hb hts inB_X1 hown hK hw (hL 6 j (cidJ6 hj)) cke_6 rfl 7 (by decide) (hts _ w_f_X5_189) (fun _ h9 => h9) rfl dX5_isReady_1 ?_
  refine lv_if_ne (tgt := 43) hx hb dX5_isReady_4 (by decide) (fun c_1 => ?_) (fun c_1 => ?_)
  · have hE := hE.trans (if_neg c_1)
    refine lv_iconst (v := 0) hx hb dX5_isReady_43 (by decide) ?_
    exact k_iret hx hb hr hlocks rfl hw hE rfl dX5_isReady_44
  · have hE := hE.trans (if_pos c_1)
    refine lv_aload_n hx hb dX5_isReady_7 rfl (lv_at hl 1 rfl) ?_
    refine k_get (C := RX1) (T := TX1) (N := 8) (v := .int (S 6 j 1)) hx hb hts inB_X1 hown hK hw (hL 6 j (cidJ6 hj)) cke_6 rfl 6 (by decide) (hts _ w_f_X5_186) (fun _ h9 => h9) rfl dX5_isReady_8 ?_
    refine lv_aload_n hx hb dX5_isReady_11 rfl (lv_at hl 0 rfl) ?_
    refine k_get (C := RX5) (T := TX5) (N := 7) (v := .int (S 0 0 1)) hx hb hts inB_X5 hown hK hw (hL 0 0 rfl) cke_0 rfl 6 (by decide) (hts _ w_f_X5_160) (fun _ h9 => h9) rfl dX5_isReady_12 ?_
    refine lv_icmp_gt (tgt := 43) hx hb dX5_isReady_15 (by decide) (fun c_2 => ?_) (fun c_2 => ?_)
    · have hE := hE.trans (if_pos c_2)
      refine lv_iconst (v := 0) hx hb dX5_isReady_43 (by decide) ?_
      exact k_iret hx hb hr hlocks rfl hw hE rfl dX5_isReady_44
    · have hE := hE.trans (if_neg c_2)
      refine lv_aload_n hx hb dX5_isReady_18 rfl (lv_at hl 1 rfl) ?_
      refine lv_iload_n hx hb dX5_isReady_19 rfl (lv_at hl 2 rfl) ?_
      refine lv_iconst (v := 0) hx hb dX5_isReady_20 (by decide) ?_
      refine k_ci0 hw (k_rV (As := [.int p2, .int 0]) (rest := []) ⟨hx, hb, hml, hown, hts⟩ hK hO hw (ct_X1_isIn hL S (SF.ci (SF.rf _) hI) j hj p2 0 _ (wk.hA hw hA)) (cwV 2 hts (gB_V w_ml_X5_336 w_im_X1_isIn w_se_X1_isIn w_in_X1 w_co_X1_isIn) rfl rfl rfl (by decide +kernel) ⟨by decide, by decide⟩) (hL 6 j (cidJ6 hj)) cke_6 rfl rfl hl.1 rfl (Nat.le_of_ble_eq_true rfl) dX5_isReady_21 ⟨Nat.le_of_ble_eq_true rfl, Nat.le_of_ble_eq_true rfl⟩) (fun H locs hw => ?_)
      refine lv_if_eq (tgt := 43) hx hb dX5_isReady_24 (by decide) (fun c_3 => ?_) (fun c_3 => ?_)
      · have hE := hE.trans (if_pos c_3)
        refine lv_iconst (v := 0) hx hb dX5_isReady_43 (by decide) ?_
        exact k_iret hx hb hr hlocks rfl hw hE rfl dX5_isReady_44
      · have hE := hE.trans (if_neg c_3)
        refine lv_aload_n hx hb dX5_isReady_27 rfl (lv_at hl 0 rfl) ?_
        refine k_get (C := RX5) (T := TX5) (N := 7) (v := .ref (ad 1 0)) hx hb hts inB_X5 hown hK hw (hL 0 0 rfl) cke_0 rfl 0 (by decide) (hts _ w_f_X5_10) (fun _ h9 => h9) rfl dX5_isReady_28 ?_
        refine lv_aload_n hx hb dX5_isReady_31 rfl (lv_at hl 1 rfl) ?_
        refine lv_iload_n hx hb dX5_isReady_32 rfl (lv_at hl 2 rfl) ?_
        refine k_ci0 hw (k_rV (As := [.ref (ad 6 j), .int p2]) (rest := []) ⟨hx, hb, hml, hown, hts⟩ hK hO hw (ct_X2_needsAreDone hL S (SF.ci (SF.rf _) hI) j hj p2 _ (wk.hA hw hA)) (cwV 2 hts (gB_V w_ml_X5_339 w_im_X2_needsAreDone w_se_X2_needsAreDone w_in_X2 w_co_X2_needsAreDone) rfl rfl rfl (by decide +kernel) ⟨by decide, by decide⟩) (hL 1 0 rfl) cke_1 rfl rfl hl.1 rfl (Nat.le_of_ble_eq_true rfl) dX5_isReady_33 ⟨Nat.le_of_ble_eq_true rfl, Nat.le_of_ble_eq_true rfl⟩) (fun H locs hw => ?_)
        refine lv_if_eq (tgt := 43) hx hb dX5_isReady_36 (by decide) (fun c_4 => ?_) (fun c_4 => ?_)
        · have hE := hE.trans (if_pos c_4)
          refine lv_iconst (v := 0) hx hb dX5_isReady_43 (by decide) ?_
          exact k_iret hx hb hr hlocks rfl hw hE rfl dX5_isReady_44
        · have hE := hE.trans (if_neg c_4)
          refine lv_iconst (v := 1) hx hb dX5_isReady_39 (by decide) ?_
          refine lv_goto (tgt := 44) hx hb dX5_isReady_40 (by decide) ?_
          exact k_iret hx hb hr hlocks rfl hw hE rfl dX5_isReady_44

theorem bz_X5_isReady (S : (Nat → Nat → Nat → Int32)) (j : Nat) (p2 : Int32) : sp_X5_isReady S j p2 = 0 ∨ sp_X5_isReady S j p2 = 1 := by
  unfold sp_X5_isReady
  repeat' split
  all_goals first | exact Or.inl rfl | exact Or.inr rfl | exact bz_X5_has _ _ | exact bz_X5_isWithin _ _ _ | exact bz_X5_isOfKind _ _ | exact bz_X1_isIn _ _ _ _ | exact bz_X3_hasPiece _ _ | exact bz_X2_knows _ _ | exact bz_X2_needsAreDone _ _ _ | exact bz_X5_isAhead _ _ | skip

abbrev bw_X5_canBegin : List Cond := .code yX5_canBegin cX5_canBegin 3 (some .boolean) :: BIG
abbrev rm_X5_canBegin : Room := { frames := 1, cells := 0, slots := 0, locals := 21 }
noncomputable def sp_X5_canBegin (S : (Nat → Nat → Nat → Int32)) (j : Nat) (p2 : Int32) : Int32 := if p2 < 0 then (0) else (if p2 < 12 then (if S 7 0 p2.toNatClampNeg = 1 then (sp_X3_hasPiece S (S 10 0 p2.toNatClampNeg)) else (if S 7 0 p2.toNatClampNeg = 2 then (if sp_X4_dayOf S (S 27 j p2.toNatClampNeg) = S 0 0 1 then (1) else (0)) else (1))) else (0))
set_option maxHeartbeats 1000000 in
set_option maxRecDepth 100000 in
theorem ct_X5_canBegin {l : Launch} {D : va_G} {cI cG cJ cO : ClassId} {K0 : Nat → Nat} {A : Nat → Prop} {L : List (Nat × Nat)} {ad : Nat → Nat → Nat} {ce : Nat → Nat → va_E} (hL : ∀ f o, cid f o = true → (f, o) ∈ L) (S : (Nat → Nat → Nat → Int32)) (hI : CI S) (j : Nat) (hj : j < 8) (p2 : Int32) (sz : Nat) (hA : ∀ q, sz ≤ q → A q) : Met l yX5_canBegin bw_X5_canBegin rm_X5_canBegin (kP D (ktys cI cG cJ cO) K0 A L ad (cK cI cJ ad ce S) sz [.ref (ad 0 0), .ref (ad 6 j), .int p2]) (kQi D A (sp_X5_canBegin S j p2) L ad (cK cI cJ ad ce S)) 0 0 A := by
  refine Met.ofW (cc := cX5_canBegin) (maxL := 3) (ret := (some .boolean)) (by decide) rfl ?_
  intro p e s m args below meth c s₁ B hml hv
  obtain ⟨hav, hsz, hP, hD, hK, hO⟩ := hv
  have hx := B.exec
  have hb := B.bytes
  have hr := B.returns
  have hts : ∀ w ∈ BIG, w.before args s = true := fun w h => atoms_spec (ws := bw_X5_canBegin) B.pre w (List.mem_cons_of_mem _ h)
  have hown : s.vm.findClass RX5 = some m.cls := findClass_of_methodNamed B.named
  have hlocks := B.notSynchronized
  subst hsz
  have hw := wk.start hP hD
  refine k_start (by rfl) hav (Nat.le_of_ble_eq_true rfl) (fun ls hl => ?_)
  have hl : lv_has ls 3 [(0, .ref (ad 0 0)), (1, .ref (ad 6 j)), (2, .int p2)] := hl
  have hE : sp_X5_canBegin S j p2 = sp_X5_canBegin S j p2 := rfl
  refine lv_iload_n hx hb dX5_canBegin_0 rfl (lv_at hl 2 rfl) ?_
  refine lv_if_lt (tgt := 10) hx hb dX5_canBegin_1 (by decide) (fun c_1 => ?_) (fun c_1 => ?_)
  · have hE := hE.trans (if_pos c_1)
    refine lv_iconst (v := 0) hx hb dX5_canBegin_10 (by decide) ?_
    exact k_iret hx hb hr hlocks rfl hw hE rfl dX5_canBegin_11
  · have hE := hE.trans (if_neg c_1)
    refine lv_iload_n hx hb dX5_canBegin_4 rfl (lv_at hl 2 rfl) ?_
    refine lv_bipush (v := 12) hx hb dX5_canBegin_5 (by decide) ?_
    refine lv_icmp_lt (tgt := 12) hx hb dX5_canBegin_7 (by decide) (fun c_2 => ?_) (fun c_2 => ?_)
    · have hE := hE.trans (if_pos c_2)
      refine lv_aload_n hx hb dX5_canBegin_12 rfl (lv_at hl 0 rfl) ?_
      refine k_get (C := RX5) (T := TX5) (N := 7) (v := .ref (ad 1 0)) hx hb hts inB_X5 hown hK hw (hL 0 0 rfl) cke_0 rfl 0 (by decide) (hts _ w_f_X5_10) (fun _ h9 => h9) rfl dX5_canBegin_13 ?_
      refine k_get (C := RX2) (T := TX2) (N := 8) (v := .ref (ad 7 0)) hx hb hts inB_X2 hown hK hw (hL 1 0 rfl) cke_1 rfl 0 (by decide) (hts _ w_f_X5_126) (fun _ h9 => h9) rfl dX5_canBegin_16 ?_
      refine lv_iload_n hx hb dX5_canBegin_19 rfl (lv_at hl 2 rfl) ?_
      refine k_ald hx hb hK hw (hL 7 0 rfl) 0 cke_7 rfl (k_in' c_1 c_2 (by decide)) dX5_canBegin_20 ?_
      refine lv_iconst (v := 1) hx hb dX5_canBegin_21 (by decide) ?_
      refine lv_icmp_ne (tgt := 42) hx hb dX5_canBegin_22 (by decide) (fun c_3 => ?_) (fun c_3 => ?_)
      · have hE := hE.trans (if_neg c_3)
        refine lv_aload_n hx hb dX5_canBegin_42 rfl (lv_at hl 0 rfl) ?_
        refine k_get (C := RX5) (T := TX5) (N := 7) (v := .ref (ad 1 0)) hx hb hts inB_X5 hown hK hw (hL 0 0 rfl) cke_0 rfl 0 (by decide) (hts _ w_f_X5_10) (fun _ h9 => h9) rfl dX5_canBegin_43 ?_
        refine k_get (C := RX2) (T := TX2) (N := 8) (v := .ref (ad 7 0)) hx hb hts inB_X2 hown hK hw (hL 1 0 rfl) cke_1 rfl 0 (by decide) (hts _ w_f_X5_126) (fun _ h9 => h9) rfl dX5_canBegin_46 ?_
        refine lv_iload_n hx hb dX5_canBegin_49 rfl (lv_at hl 2 rfl) ?_
        refine k_ald hx hb hK hw (hL 7 0 rfl) 0 cke_7 rfl (k_in' c_1 c_2 (by decide)) dX5_canBegin_50 ?_
        refine lv_iconst (v := 2) hx hb dX5_canBegin_51 (by decide) ?_
        refine lv_icmp_ne (tgt := 75) hx hb dX5_canBegin_52 (by decide) (fun c_4 => ?_) (fun c_4 => ?_)
        · have hE := hE.trans (if_neg c_4)
          refine lv_iconst (v := 1) hx hb dX5_canBegin_75 (by decide) ?_
          refine lv_goto (tgt := 80) hx hb dX5_canBegin_76 (by decide) ?_
          exact k_iret hx hb hr hlocks rfl hw hE rfl dX5_canBegin_80
        · have hE := hE.trans (if_pos c_4)
          refine lv_aload_n hx hb dX5_canBegin_55 rfl (lv_at hl 0 rfl) ?_
          refine k_get (C := RX5) (T := TX5) (N := 7) (v := .ref (ad 3 0)) hx hb hts inB_X5 hown hK hw (hL 0 0 rfl) cke_0 rfl 2 (by decide) (hts _ w_f_X5_26) (fun _ h9 => h9) rfl dX5_canBegin_56 ?_
          refine lv_aload_n hx hb dX5_canBegin_59 rfl (lv_at hl 1 rfl) ?_
          refine k_get (C := RX1) (T := TX1) (N := 8) (v := .ref (ad 27 j)) hx hb hts inB_X1 hown hK hw (hL 6 j (cidJ6 hj)) cke_6 rfl 3 (by decide) (hts _ w_f_X5_198) (fun _ h9 => h9) rfl dX5_canBegin_60 ?_
          refine lv_iload_n hx hb dX5_canBegin_63 rfl (lv_at hl 2 rfl) ?_
          refine k_ald hx hb hK hw (hL 27 j (cidJ27 hj)) 0 cke_27 rfl (k_in' c_1 c_2 (by decide)) dX5_canBegin_64 ?_
          refine k_ci0 hw (k_rV (As := [.int (S 27 j p2.toNatClampNeg)]) (rest := []) ⟨hx, hb, hml, hown, hts⟩ hK hO hw (ct_X4_dayOf hL S (SF.ci (SF.rf _) hI) (S 27 j p2.toNatClampNeg) _ (wk.hA hw hA)) (cwV 1 hts (gB_V w_ml_X5_345 w_im_X4_dayOf w_se_X4_dayOf w_in_X4 w_co_X4_dayOf) rfl rfl rfl (by decide +kernel) ⟨by decide, by decide⟩) (hL 3 0 rfl) cke_3 rfl rfl hl.1 rfl (Nat.le_of_ble_eq_true rfl) dX5_canBegin_65 ⟨Nat.le_of_ble_eq_true rfl, Nat.le_of_ble_eq_true rfl⟩) (fun H locs hw => ?_)
          refine lv_aload_n hx hb dX5_canBegin_68 rfl (lv_at hl 0 rfl) ?_
          refine k_get (C := RX5) (T := TX5) (N := 7) (v := .int (S 0 0 1)) hx hb hts inB_X5 hown hK hw (hL 0 0 rfl) cke_0 rfl 6 (by decide) (hts _ w_f_X5_160) (fun _ h9 => h9) rfl dX5_canBegin_69 ?_
          refine lv_icmp_ne (tgt := 79) hx hb dX5_canBegin_72 (by decide) (fun c_5 => ?_) (fun c_5 => ?_)
          · have hE := hE.trans (if_neg c_5)
            refine lv_iconst (v := 0) hx hb dX5_canBegin_79 (by decide) ?_
            exact k_iret hx hb hr hlocks rfl hw hE rfl dX5_canBegin_80
          · have hE := hE.trans (if_pos c_5)
            refine lv_iconst (v := 1) hx hb dX5_canBegin_75 (by decide) ?_
            refine lv_goto (tgt := 80) hx hb dX5_canBegin_76 (by decide) ?_
            exact k_iret hx hb hr hlocks rfl hw hE rfl dX5_canBegin_80
      · have hE := hE.trans (if_pos c_3)
        refine lv_aload_n hx hb dX5_canBegin_25 rfl (lv_at hl 0 rfl) ?_
        refine k_get (C := RX5) (T := TX5) (N := 7) (v := .ref (ad 2 0)) hx hb hts inB_X5 hown hK hw (hL 0 0 rfl) cke_0 rfl 1 (by decide) (hts _ w_f_X5_19) (fun _ h9 => h9) rfl dX5_canBegin_26 ?_
        refine lv_aload_n hx hb dX5_canBegin_29 rfl (lv_at hl 0 rfl) ?_
        refine k_get (C := RX5) (T := TX5) (N := 7) (v := .ref (ad 1 0)) hx hb hts inB_X5 hown hK hw (hL 0 0 rfl) cke_0 rfl 0 (by decide) (hts _ w_f_X5_10) (fun _ h9 => h9) rfl dX5_canBegin_30 ?_
        refine k_get (C := RX2) (T := TX2) (N := 8) (v := .ref (ad 10 0)) hx hb hts inB_X2 hown hK hw (hL 1 0 rfl) cke_1 rfl 3 (by decide) (hts _ w_f_X5_321) (fun _ h9 => h9) rfl dX5_canBegin_33 ?_
        refine lv_iload_n hx hb dX5_canBegin_36 rfl (lv_at hl 2 rfl) ?_
        refine k_ald hx hb hK hw (hL 10 0 rfl) 0 cke_10 rfl (k_in' c_1 c_2 (by decide)) dX5_canBegin_37 ?_
        refine k_ci0 hw (k_rV (As := [.int (S 10 0 p2.toNatClampNeg)]) (rest := []) ⟨hx, hb, hml, hown, hts⟩ hK hO hw (ct_X3_hasPiece hL S (SF.ci (SF.rf _) hI) (S 10 0 p2.toNatClampNeg) _ (wk.hA hw hA)) (cwV 1 hts (gB_V w_ml_X5_342 w_im_X3_hasPiece w_se_X3_hasPiece w_in_X3 w_co_X3_hasPiece) rfl rfl rfl (by decide +kernel) ⟨by decide, by decide⟩) (hL 2 0 rfl) cke_2 rfl rfl hl.1 rfl (Nat.le_of_ble_eq_true rfl) dX5_canBegin_38 ⟨Nat.le_of_ble_eq_true rfl, Nat.le_of_ble_eq_true rfl⟩) (fun H locs hw => ?_)
        exact k_iret hx hb hr hlocks (k_nz (bz_X3_hasPiece _ _)) hw hE rfl dX5_canBegin_41
    · have hE := hE.trans (if_neg c_2)
      refine lv_iconst (v := 0) hx hb dX5_canBegin_10 (by decide) ?_
      exact k_iret hx hb hr hlocks rfl hw hE rfl dX5_canBegin_11

theorem bz_X5_canBegin (S : (Nat → Nat → Nat → Int32)) (j : Nat) (p2 : Int32) : sp_X5_canBegin S j p2 = 0 ∨ sp_X5_canBegin S j p2 = 1 := by
  unfold sp_X5_canBegin
  repeat' split
  all_goals first | exact Or.inl rfl | exact Or.inr rfl | exact bz_X5_has _ _ | exact bz_X5_isWithin _ _ _ | exact bz_X5_isOfKind _ _ | exact bz_X1_isIn _ _ _ _ | exact bz_X3_hasPiece _ _ | exact bz_X2_knows _ _ | exact bz_X2_needsAreDone _ _ _ | exact bz_X5_isAhead _ _ | exact bz_X5_isReady _ _ _ | skip

abbrev bw_X5_beginSteps : List Cond := .code yX5_beginSteps cX5_beginSteps 3 none :: BIG
abbrev rm_X5_beginSteps : Room := { frames := 3, cells := 0, slots := 0, locals := 67 }
noncomputable def lp_X5_beginSteps_2 (j : Nat) : Nat → Nat → (Nat → Nat → Nat → Int32) → (Nat → Nat → Nat → Int32)
  | 0, i, Sx => (Sx)
  | k + 1, i, Sx => if sp_X5_isReady Sx j (nI i) = 0 then (lp_X5_beginSteps_2 j k (i + 1) Sx) else (if sp_X5_canBegin Sx j (nI i) = 0 then (lp_X5_beginSteps_2 j k (i + 1) Sx) else (if Sx 7 0 i = 1 then (lp_X5_beginSteps_2 j k (i + 1) (up3 (up3 (up3 (sp_X3_takeOne Sx (Sx 10 0 i)) 26 j i (sp_X2_lengthFor (sp_X3_takeOne Sx (Sx 10 0 i)) j (nI i))) 25 j i ((sp_X3_takeOne Sx (Sx 10 0 i)) 0 0 1)) 24 j i 1)) else (lp_X5_beginSteps_2 j k (i + 1) (up3 (up3 (up3 Sx 26 j i (sp_X2_lengthFor Sx j (nI i))) 25 j i (Sx 0 0 1)) 24 j i 1))))
theorem lz_lp_X5_beginSteps_2 (j : Nat) (i : Nat) (Sx : (Nat → Nat → Nat → Int32)) : lp_X5_beginSteps_2 j 0 i Sx = (Sx) := rfl
theorem sfl_lp_X5_beginSteps_2 (j : Nat) : ∀ (k i : Nat) (Sx T : (Nat → Nat → Nat → Int32)), SF T Sx → SF T ((lp_X5_beginSteps_2 j k i Sx)) := by
  intro k
  induction k with
  | zero => intro i Sx T h; exact h
  | succ k ih => 
    intro i Sx T h
    unfold lp_X5_beginSteps_2
    by_cases q_4 : sp_X5_isReady Sx j (nI i) = 0
    · rw [if_pos q_4]
      exact ih (i + 1) Sx T h
    · rw [if_neg q_4]
      by_cases q_5 : sp_X5_canBegin Sx j (nI i) = 0
      · rw [if_pos q_5]
        exact ih (i + 1) Sx T h
      · rw [if_neg q_5]
        by_cases q_6 : Sx 7 0 i = 1
        · rw [if_pos q_6]
          exact ih (i + 1) (up3 (up3 (up3 (sp_X3_takeOne Sx (Sx 10 0 i)) 26 j i (sp_X2_lengthFor (sp_X3_takeOne Sx (Sx 10 0 i)) j (nI i))) 25 j i ((sp_X3_takeOne Sx (Sx 10 0 i)) 0 0 1)) 24 j i 1) T (SF.up (by decide) (SF.up (by decide) (SF.up (by decide) (SF.tr h (sf_X3_takeOne Sx (Sx 10 0 i))))))
        · rw [if_neg q_6]
          exact ih (i + 1) (up3 (up3 (up3 Sx 26 j i (sp_X2_lengthFor Sx j (nI i))) 25 j i (Sx 0 0 1)) 24 j i 1) T (SF.up (by decide) (SF.up (by decide) (SF.up (by decide) h)))

noncomputable def rw_X5_beginSteps (S : (Nat → Nat → Nat → Int32)) (j : Nat) : (Nat → Nat → Nat → Int32) := (lp_X5_beginSteps_2 j 12 0 S)
/-- sealed: it unfolds by un_ alone -/
noncomputable def sp_X5_beginSteps : (Nat → Nat → Nat → Int32) → Nat → ((Nat → Nat → Nat → Int32)) := Classical.choose (⟨rw_X5_beginSteps, rfl⟩ : ∃ f, f = rw_X5_beginSteps)
theorem un_X5_beginSteps (S : (Nat → Nat → Nat → Int32)) (j : Nat) : sp_X5_beginSteps S j = rw_X5_beginSteps S j := (congrFun (congrFun (Classical.choose_spec (⟨rw_X5_beginSteps, rfl⟩ : ∃ f, f = rw_X5_beginSteps)) S) j)
theorem sf_X5_beginSteps (S : (Nat → Nat → Nat → Int32)) (j : Nat) : SF S (sp_X5_beginSteps S j) := by
  rw [un_X5_beginSteps]
  unfold rw_X5_beginSteps
  exact (sfl_lp_X5_beginSteps_2 j 12 0 S _ (SF.rf _))

set_option maxHeartbeats 1000000 in
set_option maxRecDepth 100000 in
theorem ct_X5_beginSteps {l : Launch} {D : va_G} {cI cG cJ cO : ClassId} {K0 : Nat → Nat} {A : Nat → Prop} {L : List (Nat × Nat)} {ad : Nat → Nat → Nat} {ce : Nat → Nat → va_E} (hL : ∀ f o, cid f o = true → (f, o) ∈ L) (S : (Nat → Nat → Nat → Int32)) (hI : CI S) (j : Nat) (hj : j < 8) (sz : Nat) (hA : ∀ q, sz ≤ q → A q) : Met l yX5_beginSteps bw_X5_beginSteps rm_X5_beginSteps (kP D (ktys cI cG cJ cO) K0 A L ad (cK cI cJ ad ce S) sz [.ref (ad 0 0), .ref (ad 6 j)]) (kQv D A L ad (cK cI cJ ad ce (sp_X5_beginSteps S j))) 0 0 A := by
  refine Met.ofW (cc := cX5_beginSteps) (maxL := 3) (ret := none) (by decide) rfl ?_
  intro p e s m args below meth c s₁ B hml hv
  obtain ⟨hav, hsz, hP, hD, hK, hO⟩ := hv
  have hx := B.exec
  have hb := B.bytes
  have hr := B.returns
  have hts : ∀ w ∈ BIG, w.before args s = true := fun w h => atoms_spec (ws := bw_X5_beginSteps) B.pre w (List.mem_cons_of_mem _ h)
  have hown : s.vm.findClass RX5 = some m.cls := findClass_of_methodNamed B.named
  have hlocks := B.notSynchronized
  subst hsz
  have hw := wk.start hP hD
  refine k_start (by rfl) hav (Nat.le_of_ble_eq_true rfl) (fun ls hl => ?_)
  have hl : lv_has ls 3 [(0, .ref (ad 0 0)), (1, .ref (ad 6 j))] := hl
  have hE : sp_X5_beginSteps S j = (lp_X5_beginSteps_2 j 12 0 S) := un_X5_beginSteps S j
  refine lv_iconst (v := 0) hx hb dX5_beginSteps_0 (by decide) ?_
  refine lv_istore_n (lv' := [(2, .int 0), (0, .ref (ad 0 0)), (1, .ref (ad 6 j))]) hx hb dX5_beginSteps_1 rfl hl (by decide) rfl (fun ls hl => ?_)
  have key_2 : ∀ (k i : Nat) (Sx : (Nat → Nat → Nat → Int32)) (H : Heap) (locs : List Loc) (ls : Array Slot), i + k = 12 → SF S Sx → (lp_X5_beginSteps_2 j 12 0 S) = lp_X5_beginSteps_2 j k i Sx → wk D A L ad (cK cI cJ ad ce Sx) s.heap H locs → lv_has ls 3 [(0, .ref (ad 0 0)), (1, .ref (ad 6 j)), (2, .int (nI i))] → W p l e (headSpec bw_X5_beginSteps rm_X5_beginSteps).room s m args below meth c H locs 0 0 (MQ below (kQv D A L ad (cK cI cJ ad ce (sp_X5_beginSteps S j))) args s 0 0 A) (F0 m 2 ls []) := by
    intro k
    induction k with
    | zero =>
      intro i Sx H locs ls hk hsf hV hw hl
      have hV := hV.trans (lz_lp_X5_beginSteps_2 j i Sx)
      subst hV
      refine lv_iload_n hx hb dX5_beginSteps_2 rfl (lv_at hl 2 rfl) ?_
      refine lv_bipush (v := 12) hx hb dX5_beginSteps_3 (by decide) ?_
      refine lv_icmp_ge (tgt := 93) hx hb dX5_beginSteps_5 (by decide) (fun _ => ?_) (fun h => absurd (lp_o rfl hk (by decide)) h)
      exact k_vretE hx hb hr hlocks hw hE dX5_beginSteps_93
    | succ k ih =>
      intro i Sx H locs ls hk hsf hV hw hl
      refine lv_iload_n hx hb dX5_beginSteps_2 rfl (lv_at hl 2 rfl) ?_
      refine lv_bipush (v := 12) hx hb dX5_beginSteps_3 (by decide) ?_
      refine lv_icmp_ge (tgt := 93) hx hb dX5_beginSteps_5 (by decide) (fun h => absurd h (lp_i rfl hk (by decide))) (fun _ => ?_)
      refine lv_aload_n hx hb dX5_beginSteps_8 rfl (lv_at hl 0 rfl) ?_
      refine lv_aload_n hx hb dX5_beginSteps_9 rfl (lv_at hl 1 rfl) ?_
      refine lv_iload_n hx hb dX5_beginSteps_10 rfl (lv_at hl 2 rfl) ?_
      refine k_ci0 hw (k_rV (As := [.ref (ad 6 j), .int (nI i)]) (rest := []) ⟨hx, hb, hml, hown, hts⟩ hK hO hw (ct_X5_isReady hL Sx (SF.ci hsf hI) j hj (nI i) _ (wk.hA hw hA)) (cwV 2 hts (gB_V w_ml_X5_314 w_im_X5_isReady w_se_X5_isReady w_in_X5 w_co_X5_isReady) rfl rfl rfl (by decide +kernel) ⟨by decide, by decide⟩) (hL 0 0 rfl) cke_0 rfl rfl hl.1 rfl (Nat.le_of_ble_eq_true rfl) dX5_beginSteps_11 ⟨Nat.le_of_ble_eq_true rfl, Nat.le_of_ble_eq_true rfl⟩) (fun H locs hw => ?_)
      refine lv_if_eq (tgt := 87) hx hb dX5_beginSteps_14 (by decide) (fun c_1 => ?_) (fun c_1 => ?_)
      · have hV := hV.trans (if_pos c_1)
        refine lv_iinc (v := (nI (i + 1))) (lv' := [(2, .int (nI (i + 1))), (0, .ref (ad 0 0)), (1, .ref (ad 6 j))]) hx hb dX5_beginSteps_87 hl (k := 2) rfl (nI_1 _) (by decide) rfl (fun ls hl => ?_)
        refine lv_goto (tgt := 2) hx hb dX5_beginSteps_90 (by decide) ?_
        exact ih (i + 1) Sx _ _ _ (lp_s hk) hsf hV hw (lv_sub hl [1, 2, 0] rfl)
      · have hV := hV.trans (if_neg c_1)
        refine lv_aload_n hx hb dX5_beginSteps_17 rfl (lv_at hl 0 rfl) ?_
        refine lv_aload_n hx hb dX5_beginSteps_18 rfl (lv_at hl 1 rfl) ?_
        refine lv_iload_n hx hb dX5_beginSteps_19 rfl (lv_at hl 2 rfl) ?_
        refine k_ci0 hw (k_rV (As := [.ref (ad 6 j), .int (nI i)]) (rest := []) ⟨hx, hb, hml, hown, hts⟩ hK hO hw (ct_X5_canBegin hL Sx (SF.ci hsf hI) j hj (nI i) _ (wk.hA hw hA)) (cwV 2 hts (gB_V w_ml_X5_318 w_im_X5_canBegin w_se_X5_canBegin w_in_X5 w_co_X5_canBegin) rfl rfl rfl (by decide +kernel) ⟨by decide, by decide⟩) (hL 0 0 rfl) cke_0 rfl rfl hl.1 rfl (Nat.le_of_ble_eq_true rfl) dX5_beginSteps_20 ⟨Nat.le_of_ble_eq_true rfl, Nat.le_of_ble_eq_true rfl⟩) (fun H locs hw => ?_)
        refine lv_if_eq (tgt := 87) hx hb dX5_beginSteps_23 (by decide) (fun c_2 => ?_) (fun c_2 => ?_)
        · have hV := hV.trans (if_pos c_2)
          refine lv_iinc (v := (nI (i + 1))) (lv' := [(2, .int (nI (i + 1))), (0, .ref (ad 0 0)), (1, .ref (ad 6 j))]) hx hb dX5_beginSteps_87 hl (k := 2) rfl (nI_1 _) (by decide) rfl (fun ls hl => ?_)
          refine lv_goto (tgt := 2) hx hb dX5_beginSteps_90 (by decide) ?_
          exact ih (i + 1) Sx _ _ _ (lp_s hk) hsf hV hw (lv_sub hl [1, 2, 0] rfl)
        · have hV := hV.trans (if_neg c_2)
          refine lv_aload_n hx hb dX5_beginSteps_26 rfl (lv_at hl 0 rfl) ?_
          refine k_get (C := RX5) (T := TX5) (N := 7) (v := .ref (ad 1 0)) hx hb hts inB_X5 hown hK hw (hL 0 0 rfl) cke_0 rfl 0 (by decide) (hts _ w_f_X5_10) (fun _ h9 => h9) rfl dX5_beginSteps_27 ?_
          refine k_get (C := RX2) (T := TX2) (N := 8) (v := .ref (ad 7 0)) hx hb hts inB_X2 hown hK hw (hL 1 0 rfl) cke_1 rfl 0 (by decide) (hts _ w_f_X5_126) (fun _ h9 => h9) rfl dX5_beginSteps_30 ?_
          refine lv_iload_n hx hb dX5_beginSteps_33 rfl (lv_at hl 2 rfl) ?_
          refine k_aldn hx hb hK hw (hL 7 0 rfl) 0 cke_7 rfl (lp_l hk) (by decide) dX5_beginSteps_34 ?_
          refine lv_iconst (v := 1) hx hb dX5_beginSteps_35 (by decide) ?_
          refine lv_icmp_ne (tgt := 55) hx hb dX5_beginSteps_36 (by decide) (fun c_3 => ?_) (fun c_3 => ?_)
          · have hV := hV.trans (if_neg c_3)
            refine lv_aload_n hx hb dX5_beginSteps_55 rfl (lv_at hl 1 rfl) ?_
            refine k_get (C := RX1) (T := TX1) (N := 8) (v := .ref (ad 26 j)) hx hb hts inB_X1 hown hK hw (hL 6 j (cidJ6 hj)) cke_6 rfl 2 (by decide) (hts _ w_f_X5_327) (fun _ h9 => h9) rfl dX5_beginSteps_56 ?_
            refine lv_iload_n hx hb dX5_beginSteps_59 rfl (lv_at hl 2 rfl) ?_
            refine lv_aload_n hx hb dX5_beginSteps_60 rfl (lv_at hl 0 rfl) ?_
            refine k_get (C := RX5) (T := TX5) (N := 7) (v := .ref (ad 1 0)) hx hb hts inB_X5 hown hK hw (hL 0 0 rfl) cke_0 rfl 0 (by decide) (hts _ w_f_X5_10) (fun _ h9 => h9) rfl dX5_beginSteps_61 ?_
            refine lv_aload_n hx hb dX5_beginSteps_64 rfl (lv_at hl 1 rfl) ?_
            refine lv_iload_n hx hb dX5_beginSteps_65 rfl (lv_at hl 2 rfl) ?_
            refine k_ci0 hw (k_rV (As := [.ref (ad 6 j), .int (nI i)]) (rest := [.int (nI i), .ref (ad 26 j)]) ⟨hx, hb, hml, hown, hts⟩ hK hO hw (ct_X2_lengthFor hL Sx (SF.ci hsf hI) j hj (nI i) _ (wk.hA hw hA)) (cwV 2 hts (gB_V w_ml_X5_330 w_im_X2_lengthFor w_se_X2_lengthFor w_in_X2 w_co_X2_lengthFor) rfl rfl rfl (by decide +kernel) ⟨by decide, by decide⟩) (hL 1 0 rfl) cke_1 rfl rfl hl.1 rfl (Nat.le_of_ble_eq_true rfl) dX5_beginSteps_66 ⟨Nat.le_of_ble_eq_true rfl, Nat.le_of_ble_eq_true rfl⟩) (fun H locs hw => ?_)
            refine k_astn hx hb hK hw (hL 26 j (cidJ26 hj)) 0 cke_26 rfl (lp_l hk) (by decide) (cK_up (i := i) (x := (sp_X2_lengthFor Sx j (nI i))) (by decide) rfl) dX5_beginSteps_69 (fun H locs hw => ?_)
            refine lv_aload_n hx hb dX5_beginSteps_70 rfl (lv_at hl 1 rfl) ?_
            refine k_get (C := RX1) (T := TX1) (N := 8) (v := .ref (ad 25 j)) hx hb hts inB_X1 hown hK hw (hL 6 j (cidJ6 hj)) cke_6 rfl 1 (by decide) (hts _ w_f_X5_333) (fun _ h9 => h9) rfl dX5_beginSteps_71 ?_
            refine lv_iload_n hx hb dX5_beginSteps_74 rfl (lv_at hl 2 rfl) ?_
            refine lv_aload_n hx hb dX5_beginSteps_75 rfl (lv_at hl 0 rfl) ?_
            refine k_get (C := RX5) (T := TX5) (N := 7) (v := .int (Sx 0 0 1)) hx hb hts inB_X5 hown hK hw (hL 0 0 rfl) cke_0 rfl 6 (by decide) (hts _ w_f_X5_160) (fun _ h9 => h9) rfl dX5_beginSteps_76 ?_
            refine k_astn hx hb hK hw (hL 25 j (cidJ25 hj)) 0 cke_25 rfl (lp_l hk) (by decide) (cK_up (i := i) (x := (Sx 0 0 1)) (by decide) rfl) dX5_beginSteps_79 (fun H locs hw => ?_)
            refine lv_aload_n hx hb dX5_beginSteps_80 rfl (lv_at hl 1 rfl) ?_
            refine k_get (C := RX1) (T := TX1) (N := 8) (v := .ref (ad 24 j)) hx hb hts inB_X1 hown hK hw (hL 6 j (cidJ6 hj)) cke_6 rfl 0 (by decide) (hts _ w_f_X5_195) (fun _ h9 => h9) rfl dX5_beginSteps_81 ?_
            refine lv_iload_n hx hb dX5_beginSteps_84 rfl (lv_at hl 2 rfl) ?_
            refine lv_iconst (v := 1) hx hb dX5_beginSteps_85 (by decide) ?_
            refine k_astn hx hb hK hw (hL 24 j (cidJ24 hj)) 0 cke_24 rfl (lp_l hk) (by decide) (cK_up (i := i) (x := 1) (by decide) rfl) dX5_beginSteps_86 (fun H locs hw => ?_)
            refine lv_iinc (v := (nI (i + 1))) (lv' := [(2, .int (nI (i + 1))), (0, .ref (ad 0 0)), (1, .ref (ad 6 j))]) hx hb dX5_beginSteps_87 hl (k := 2) rfl (nI_1 _) (by decide) rfl (fun ls hl => ?_)
            refine lv_goto (tgt := 2) hx hb dX5_beginSteps_90 (by decide) ?_
            exact ih (i + 1) (up3 (up3 (up3 Sx 26 j i (sp_X2_lengthFor Sx j (nI i))) 25 j i (Sx 0 0 1)) 24 j i 1) _ _ _ (lp_s hk) (SF.up (by decide) (SF.up (by decide) (SF.up (by decide) hsf))) hV hw (lv_sub hl [1, 2, 0] rfl)
          · have hV := hV.trans (if_pos c_3)
            refine lv_aload_n hx hb dX5_beginSteps_39 rfl (lv_at hl 0 rfl) ?_
            refine k_get (C := RX5) (T := TX5) (N := 7) (v := .ref (ad 2 0)) hx hb hts inB_X5 hown hK hw (hL 0 0 rfl) cke_0 rfl 1 (by decide) (hts _ w_f_X5_19) (fun _ h9 => h9) rfl dX5_beginSteps_40 ?_
            refine lv_aload_n hx hb dX5_beginSteps_43 rfl (lv_at hl 0 rfl) ?_
            refine k_get (C := RX5) (T := TX5) (N := 7) (v := .ref (ad 1 0)) hx hb hts inB_X5 hown hK hw (hL 0 0 rfl) cke_0 rfl 0 (by decide) (hts _ w_f_X5_10) (fun _ h9 => h9) rfl dX5_beginSteps_44 ?_
            refine k_get (C := RX2) (T := TX2) (N := 8) (v := .ref (ad 10 0)) hx hb hts inB_X2 hown hK hw (hL 1 0 rfl) cke_1 rfl 3 (by decide) (hts _ w_f_X5_321) (fun _ h9 => h9) rfl dX5_beginSteps_47 ?_
            refine lv_iload_n hx hb dX5_beginSteps_50 rfl (lv_at hl 2 rfl) ?_
            refine k_aldn hx hb hK hw (hL 10 0 rfl) 0 cke_10 rfl (lp_l hk) (by decide) dX5_beginSteps_51 ?_
            refine k_cv0 hw (k_rV (As := [.int (Sx 10 0 i)]) (rest := []) ⟨hx, hb, hml, hown, hts⟩ hK hO hw (ct_X3_takeOne hL Sx (SF.ci hsf hI) (Sx 10 0 i) _ (wk.hA hw hA)) (cwV 1 hts (gB_V w_ml_X5_324 w_im_X3_takeOne w_se_X3_takeOne w_in_X3 w_co_X3_takeOne) rfl rfl rfl (by decide +kernel) ⟨by decide, by decide⟩) (hL 2 0 rfl) cke_2 rfl rfl hl.1 rfl (Nat.le_of_ble_eq_true rfl) dX5_beginSteps_52 ⟨Nat.le_of_ble_eq_true rfl, Nat.le_of_ble_eq_true rfl⟩) (fun H locs hw => ?_)
            refine lv_aload_n hx hb dX5_beginSteps_55 rfl (lv_at hl 1 rfl) ?_
            refine k_get (C := RX1) (T := TX1) (N := 8) (v := .ref (ad 26 j)) hx hb hts inB_X1 hown hK hw (hL 6 j (cidJ6 hj)) cke_6 rfl 2 (by decide) (hts _ w_f_X5_327) (fun _ h9 => h9) rfl dX5_beginSteps_56 ?_
            refine lv_iload_n hx hb dX5_beginSteps_59 rfl (lv_at hl 2 rfl) ?_
            refine lv_aload_n hx hb dX5_beginSteps_60 rfl (lv_at hl 0 rfl) ?_
            refine k_get (C := RX5) (T := TX5) (N := 7) (v := .ref (ad 1 0)) hx hb hts inB_X5 hown hK hw (hL 0 0 rfl) cke_0 rfl 0 (by decide) (hts _ w_f_X5_10) (fun _ h9 => h9) rfl dX5_beginSteps_61 ?_
            refine lv_aload_n hx hb dX5_beginSteps_64 rfl (lv_at hl 1 rfl) ?_
            refine lv_iload_n hx hb dX5_beginSteps_65 rfl (lv_at hl 2 rfl) ?_
            refine k_ci0 hw (k_rV (As := [.ref (ad 6 j), .int (nI i)]) (rest := [.int (nI i), .ref (ad 26 j)]) ⟨hx, hb, hml, hown, hts⟩ hK hO hw (ct_X2_lengthFor hL (sp_X3_takeOne Sx (Sx 10 0 i)) (SF.ci (SF.tr hsf (sf_X3_takeOne Sx (Sx 10 0 i))) hI) j hj (nI i) _ (wk.hA hw hA)) (cwV 2 hts (gB_V w_ml_X5_330 w_im_X2_lengthFor w_se_X2_lengthFor w_in_X2 w_co_X2_lengthFor) rfl rfl rfl (by decide +kernel) ⟨by decide, by decide⟩) (hL 1 0 rfl) cke_1 rfl rfl hl.1 rfl (Nat.le_of_ble_eq_true rfl) dX5_beginSteps_66 ⟨Nat.le_of_ble_eq_true rfl, Nat.le_of_ble_eq_true rfl⟩) (fun H locs hw => ?_)
            refine k_astn hx hb hK hw (hL 26 j (cidJ26 hj)) 0 cke_26 rfl (lp_l hk) (by decide) (cK_up (i := i) (x := (sp_X2_lengthFor (sp_X3_takeOne Sx (Sx 10 0 i)) j (nI i))) (by decide) rfl) dX5_beginSteps_69 (fun H locs hw => ?_)
            refine lv_aload_n hx hb dX5_beginSteps_70 rfl (lv_at hl 1 rfl) ?_
            refine k_get (C := RX1) (T := TX1) (N := 8) (v := .ref (ad 25 j)) hx hb hts inB_X1 hown hK hw (hL 6 j (cidJ6 hj)) cke_6 rfl 1 (by decide) (hts _ w_f_X5_333) (fun _ h9 => h9) rfl dX5_beginSteps_71 ?_
            refine lv_iload_n hx hb dX5_beginSteps_74 rfl (lv_at hl 2 rfl) ?_
            refine lv_aload_n hx hb dX5_beginSteps_75 rfl (lv_at hl 0 rfl) ?_
            refine k_get (C := RX5) (T := TX5) (N := 7) (v := .int ((sp_X3_takeOne Sx (Sx 10 0 i)) 0 0 1)) hx hb hts inB_X5 hown hK hw (hL 0 0 rfl) cke_0 rfl 6 (by decide) (hts _ w_f_X5_160) (fun _ h9 => h9) rfl dX5_beginSteps_76 ?_
            refine k_astn hx hb hK hw (hL 25 j (cidJ25 hj)) 0 cke_25 rfl (lp_l hk) (by decide) (cK_up (i := i) (x := ((sp_X3_takeOne Sx (Sx 10 0 i)) 0 0 1)) (by decide) rfl) dX5_beginSteps_79 (fun H locs hw => ?_)
            refine lv_aload_n hx hb dX5_beginSteps_80 rfl (lv_at hl 1 rfl) ?_
            refine k_get (C := RX1) (T := TX1) (N := 8) (v := .ref (ad 24 j)) hx hb hts inB_X1 hown hK hw (hL 6 j (cidJ6 hj)) cke_6 rfl 0 (by decide) (hts _ w_f_X5_195) (fun _ h9 => h9) rfl dX5_beginSteps_81 ?_
            refine lv_iload_n hx hb dX5_beginSteps_84 rfl (lv_at hl 2 rfl) ?_
            refine lv_iconst (v := 1) hx hb dX5_beginSteps_85 (by decide) ?_
            refine k_astn hx hb hK hw (hL 24 j (cidJ24 hj)) 0 cke_24 rfl (lp_l hk) (by decide) (cK_up (i := i) (x := 1) (by decide) rfl) dX5_beginSteps_86 (fun H locs hw => ?_)
            refine lv_iinc (v := (nI (i + 1))) (lv' := [(2, .int (nI (i + 1))), (0, .ref (ad 0 0)), (1, .ref (ad 6 j))]) hx hb dX5_beginSteps_87 hl (k := 2) rfl (nI_1 _) (by decide) rfl (fun ls hl => ?_)
            refine lv_goto (tgt := 2) hx hb dX5_beginSteps_90 (by decide) ?_
            exact ih (i + 1) (up3 (up3 (up3 (sp_X3_takeOne Sx (Sx 10 0 i)) 26 j i (sp_X2_lengthFor (sp_X3_takeOne Sx (Sx 10 0 i)) j (nI i))) 25 j i ((sp_X3_takeOne Sx (Sx 10 0 i)) 0 0 1)) 24 j i 1) _ _ _ (lp_s hk) (SF.up (by decide) (SF.up (by decide) (SF.up (by decide) (SF.tr hsf (sf_X3_takeOne Sx (Sx 10 0 i)))))) hV hw (lv_sub hl [1, 2, 0] rfl)
  exact key_2 12 0 S _ _ _ (Nat.zero_add _) (SF.rf _) rfl hw (lv_sub hl [1, 2, 0] rfl)

abbrev bw_X5_loseSessions : List Cond := .code yX5_loseSessions cX5_loseSessions 3 none :: BIG
abbrev rm_X5_loseSessions : Room := { frames := 1, cells := 0, slots := 0, locals := 21 }
noncomputable def lp_X5_loseSessions_2 (j : Nat) : Nat → Nat → (Nat → Nat → Nat → Int32) → (Nat → Nat → Nat → Int32)
  | 0, i, Sx => (Sx)
  | k + 1, i, Sx => if Sx 24 j i = 0 then (if sp_X4_dayOf Sx (Sx 27 j i) = Sx 0 0 1 then (lp_X5_loseSessions_2 j k (i + 1) (up3 (up3 (sp_X4_release Sx (Sx 27 j i)) 27 j i (-1)) 28 j i (((sp_X4_release Sx (Sx 27 j i)) 28 j i) + 1))) else (lp_X5_loseSessions_2 j k (i + 1) Sx)) else (lp_X5_loseSessions_2 j k (i + 1) Sx)
theorem lz_lp_X5_loseSessions_2 (j : Nat) (i : Nat) (Sx : (Nat → Nat → Nat → Int32)) : lp_X5_loseSessions_2 j 0 i Sx = (Sx) := rfl
theorem sfl_lp_X5_loseSessions_2 (j : Nat) : ∀ (k i : Nat) (Sx T : (Nat → Nat → Nat → Int32)), SF T Sx → SF T ((lp_X5_loseSessions_2 j k i Sx)) := by
  intro k
  induction k with
  | zero => intro i Sx T h; exact h
  | succ k ih => 
    intro i Sx T h
    unfold lp_X5_loseSessions_2
    by_cases q_3 : Sx 24 j i = 0
    · rw [if_pos q_3]
      by_cases q_4 : sp_X4_dayOf Sx (Sx 27 j i) = Sx 0 0 1
      · rw [if_pos q_4]
        exact ih (i + 1) (up3 (up3 (sp_X4_release Sx (Sx 27 j i)) 27 j i (-1)) 28 j i (((sp_X4_release Sx (Sx 27 j i)) 28 j i) + 1)) T (SF.up (by decide) (SF.up (by decide) (SF.tr h (sf_X4_release Sx (Sx 27 j i)))))
      · rw [if_neg q_4]
        exact ih (i + 1) Sx T h
    · rw [if_neg q_3]
      exact ih (i + 1) Sx T h

noncomputable def rw_X5_loseSessions (S : (Nat → Nat → Nat → Int32)) (j : Nat) : (Nat → Nat → Nat → Int32) := (lp_X5_loseSessions_2 j 12 0 S)
/-- sealed: it unfolds by un_ alone -/
noncomputable def sp_X5_loseSessions : (Nat → Nat → Nat → Int32) → Nat → ((Nat → Nat → Nat → Int32)) := Classical.choose (⟨rw_X5_loseSessions, rfl⟩ : ∃ f, f = rw_X5_loseSessions)
theorem un_X5_loseSessions (S : (Nat → Nat → Nat → Int32)) (j : Nat) : sp_X5_loseSessions S j = rw_X5_loseSessions S j := (congrFun (congrFun (Classical.choose_spec (⟨rw_X5_loseSessions, rfl⟩ : ∃ f, f = rw_X5_loseSessions)) S) j)
theorem sf_X5_loseSessions (S : (Nat → Nat → Nat → Int32)) (j : Nat) : SF S (sp_X5_loseSessions S j) := by
  rw [un_X5_loseSessions]
  unfold rw_X5_loseSessions
  exact (sfl_lp_X5_loseSessions_2 j 12 0 S _ (SF.rf _))

set_option maxHeartbeats 1000000 in
set_option maxRecDepth 100000 in
theorem ct_X5_loseSessions {l : Launch} {D : va_G} {cI cG cJ cO : ClassId} {K0 : Nat → Nat} {A : Nat → Prop} {L : List (Nat × Nat)} {ad : Nat → Nat → Nat} {ce : Nat → Nat → va_E} (hL : ∀ f o, cid f o = true → (f, o) ∈ L) (S : (Nat → Nat → Nat → Int32)) (hI : CI S) (j : Nat) (hj : j < 8) (sz : Nat) (hA : ∀ q, sz ≤ q → A q) : Met l yX5_loseSessions bw_X5_loseSessions rm_X5_loseSessions (kP D (ktys cI cG cJ cO) K0 A L ad (cK cI cJ ad ce S) sz [.ref (ad 0 0), .ref (ad 6 j)]) (kQv D A L ad (cK cI cJ ad ce (sp_X5_loseSessions S j))) 0 0 A := by
  refine Met.ofW (cc := cX5_loseSessions) (maxL := 3) (ret := none) (by decide) rfl ?_
  intro p e s m args below meth c s₁ B hml hv
  obtain ⟨hav, hsz, hP, hD, hK, hO⟩ := hv
  have hx := B.exec
  have hb := B.bytes
  have hr := B.returns
  have hts : ∀ w ∈ BIG, w.before args s = true := fun w h => atoms_spec (ws := bw_X5_loseSessions) B.pre w (List.mem_cons_of_mem _ h)
  have hown : s.vm.findClass RX5 = some m.cls := findClass_of_methodNamed B.named
  have hlocks := B.notSynchronized
  subst hsz
  have hw := wk.start hP hD
  refine k_start (by rfl) hav (Nat.le_of_ble_eq_true rfl) (fun ls hl => ?_)
  have hl : lv_has ls 3 [(0, .ref (ad 0 0)), (1, .ref (ad 6 j))] := hl
  have hE : sp_X5_loseSessions S j = (lp_X5_loseSessions_2 j 12 0 S) := un_X5_loseSessions S j
  refine lv_iconst (v := 0) hx hb dX5_loseSessions_0 (by decide) ?_
  refine lv_istore_n (lv' := [(2, .int 0), (0, .ref (ad 0 0)), (1, .ref (ad 6 j))]) hx hb dX5_loseSessions_1 rfl hl (by decide) rfl (fun ls hl => ?_)
  have key_2 : ∀ (k i : Nat) (Sx : (Nat → Nat → Nat → Int32)) (H : Heap) (locs : List Loc) (ls : Array Slot), i + k = 12 → SF S Sx → (lp_X5_loseSessions_2 j 12 0 S) = lp_X5_loseSessions_2 j k i Sx → wk D A L ad (cK cI cJ ad ce Sx) s.heap H locs → lv_has ls 3 [(0, .ref (ad 0 0)), (1, .ref (ad 6 j)), (2, .int (nI i))] → W p l e (headSpec bw_X5_loseSessions rm_X5_loseSessions).room s m args below meth c H locs 0 0 (MQ below (kQv D A L ad (cK cI cJ ad ce (sp_X5_loseSessions S j))) args s 0 0 A) (F0 m 2 ls []) := by
    intro k
    induction k with
    | zero =>
      intro i Sx H locs ls hk hsf hV hw hl
      have hV := hV.trans (lz_lp_X5_loseSessions_2 j i Sx)
      subst hV
      refine lv_iload_n hx hb dX5_loseSessions_2 rfl (lv_at hl 2 rfl) ?_
      refine lv_bipush (v := 12) hx hb dX5_loseSessions_3 (by decide) ?_
      refine lv_icmp_ge (tgt := 73) hx hb dX5_loseSessions_5 (by decide) (fun _ => ?_) (fun h => absurd (lp_o rfl hk (by decide)) h)
      exact k_vretE hx hb hr hlocks hw hE dX5_loseSessions_73
    | succ k ih =>
      intro i Sx H locs ls hk hsf hV hw hl
      refine lv_iload_n hx hb dX5_loseSessions_2 rfl (lv_at hl 2 rfl) ?_
      refine lv_bipush (v := 12) hx hb dX5_loseSessions_3 (by decide) ?_
      refine lv_icmp_ge (tgt := 73) hx hb dX5_loseSessions_5 (by decide) (fun h => absurd h (lp_i rfl hk (by decide))) (fun _ => ?_)
      refine lv_aload_n hx hb dX5_loseSessions_8 rfl (lv_at hl 1 rfl) ?_
      refine k_get (C := RX1) (T := TX1) (N := 8) (v := .ref (ad 24 j)) hx hb hts inB_X1 hown hK hw (hL 6 j (cidJ6 hj)) cke_6 rfl 0 (by decide) (hts _ w_f_X5_195) (fun _ h9 => h9) rfl dX5_loseSessions_9 ?_
      refine lv_iload_n hx hb dX5_loseSessions_12 rfl (lv_at hl 2 rfl) ?_
      refine k_aldn hx hb hK hw (hL 24 j (cidJ24 hj)) 0 cke_24 rfl (lp_l hk) (by decide) dX5_loseSessions_13 ?_
      refine lv_if_ne (tgt := 67) hx hb dX5_loseSessions_14 (by decide) (fun c_1 => ?_) (fun c_1 => ?_)
      · have hV := hV.trans (if_neg c_1)
        refine lv_iinc (v := (nI (i + 1))) (lv' := [(2, .int (nI (i + 1))), (0, .ref (ad 0 0)), (1, .ref (ad 6 j))]) hx hb dX5_loseSessions_67 hl (k := 2) rfl (nI_1 _) (by decide) rfl (fun ls hl => ?_)
        refine lv_goto (tgt := 2) hx hb dX5_loseSessions_70 (by decide) ?_
        exact ih (i + 1) Sx _ _ _ (lp_s hk) hsf hV hw (lv_sub hl [1, 2, 0] rfl)
      · have hV := hV.trans (if_pos c_1)
        refine lv_aload_n hx hb dX5_loseSessions_17 rfl (lv_at hl 0 rfl) ?_
        refine k_get (C := RX5) (T := TX5) (N := 7) (v := .ref (ad 3 0)) hx hb hts inB_X5 hown hK hw (hL 0 0 rfl) cke_0 rfl 2 (by decide) (hts _ w_f_X5_26) (fun _ h9 => h9) rfl dX5_loseSessions_18 ?_
        refine lv_aload_n hx hb dX5_loseSessions_21 rfl (lv_at hl 1 rfl) ?_
        refine k_get (C := RX1) (T := TX1) (N := 8) (v := .ref (ad 27 j)) hx hb hts inB_X1 hown hK hw (hL 6 j (cidJ6 hj)) cke_6 rfl 3 (by decide) (hts _ w_f_X5_198) (fun _ h9 => h9) rfl dX5_loseSessions_22 ?_
        refine lv_iload_n hx hb dX5_loseSessions_25 rfl (lv_at hl 2 rfl) ?_
        refine k_aldn hx hb hK hw (hL 27 j (cidJ27 hj)) 0 cke_27 rfl (lp_l hk) (by decide) dX5_loseSessions_26 ?_
        refine k_ci0 hw (k_rV (As := [.int (Sx 27 j i)]) (rest := []) ⟨hx, hb, hml, hown, hts⟩ hK hO hw (ct_X4_dayOf hL Sx (SF.ci hsf hI) (Sx 27 j i) _ (wk.hA hw hA)) (cwV 1 hts (gB_V w_ml_X5_345 w_im_X4_dayOf w_se_X4_dayOf w_in_X4 w_co_X4_dayOf) rfl rfl rfl (by decide +kernel) ⟨by decide, by decide⟩) (hL 3 0 rfl) cke_3 rfl rfl hl.1 rfl (Nat.le_of_ble_eq_true rfl) dX5_loseSessions_27 ⟨Nat.le_of_ble_eq_true rfl, Nat.le_of_ble_eq_true rfl⟩) (fun H locs hw => ?_)
        refine lv_aload_n hx hb dX5_loseSessions_30 rfl (lv_at hl 0 rfl) ?_
        refine k_get (C := RX5) (T := TX5) (N := 7) (v := .int (Sx 0 0 1)) hx hb hts inB_X5 hown hK hw (hL 0 0 rfl) cke_0 rfl 6 (by decide) (hts _ w_f_X5_160) (fun _ h9 => h9) rfl dX5_loseSessions_31 ?_
        refine lv_icmp_ne (tgt := 67) hx hb dX5_loseSessions_34 (by decide) (fun c_2 => ?_) (fun c_2 => ?_)
        · have hV := hV.trans (if_neg c_2)
          refine lv_iinc (v := (nI (i + 1))) (lv' := [(2, .int (nI (i + 1))), (0, .ref (ad 0 0)), (1, .ref (ad 6 j))]) hx hb dX5_loseSessions_67 hl (k := 2) rfl (nI_1 _) (by decide) rfl (fun ls hl => ?_)
          refine lv_goto (tgt := 2) hx hb dX5_loseSessions_70 (by decide) ?_
          exact ih (i + 1) Sx _ _ _ (lp_s hk) hsf hV hw (lv_sub hl [1, 2, 0] rfl)
        · have hV := hV.trans (if_pos c_2)
          refine lv_aload_n hx hb dX5_loseSessions_37 rfl (lv_at hl 0 rfl) ?_
          refine k_get (C := RX5) (T := TX5) (N := 7) (v := .ref (ad 3 0)) hx hb hts inB_X5 hown hK hw (hL 0 0 rfl) cke_0 rfl 2 (by decide) (hts _ w_f_X5_26) (fun _ h9 => h9) rfl dX5_loseSessions_38 ?_
          refine lv_aload_n hx hb dX5_loseSessions_41 rfl (lv_at hl 1 rfl) ?_
          refine k_get (C := RX1) (T := TX1) (N := 8) (v := .ref (ad 27 j)) hx hb hts inB_X1 hown hK hw (hL 6 j (cidJ6 hj)) cke_6 rfl 3 (by decide) (hts _ w_f_X5_198) (fun _ h9 => h9) rfl dX5_loseSessions_42 ?_
          refine lv_iload_n hx hb dX5_loseSessions_45 rfl (lv_at hl 2 rfl) ?_
          refine k_aldn hx hb hK hw (hL 27 j (cidJ27 hj)) 0 cke_27 rfl (lp_l hk) (by decide) dX5_loseSessions_46 ?_
          refine k_cv0 hw (k_rV (As := [.int (Sx 27 j i)]) (rest := []) ⟨hx, hb, hml, hown, hts⟩ hK hO hw (ct_X4_release hL Sx (SF.ci hsf hI) (Sx 27 j i) _ (wk.hA hw hA)) (cwV 1 hts (gB_V w_ml_X5_201 w_im_X4_release w_se_X4_release w_in_X4 w_co_X4_release) rfl rfl rfl (by decide +kernel) ⟨by decide, by decide⟩) (hL 3 0 rfl) cke_3 rfl rfl hl.1 rfl (Nat.le_of_ble_eq_true rfl) dX5_loseSessions_47 ⟨Nat.le_of_ble_eq_true rfl, Nat.le_of_ble_eq_true rfl⟩) (fun H locs hw => ?_)
          refine lv_aload_n hx hb dX5_loseSessions_50 rfl (lv_at hl 1 rfl) ?_
          refine k_get (C := RX1) (T := TX1) (N := 8) (v := .ref (ad 27 j)) hx hb hts inB_X1 hown hK hw (hL 6 j (cidJ6 hj)) cke_6 rfl 3 (by decide) (hts _ w_f_X5_198) (fun _ h9 => h9) rfl dX5_loseSessions_51 ?_
          refine lv_iload_n hx hb dX5_loseSessions_54 rfl (lv_at hl 2 rfl) ?_
          refine lv_iconst (v := (-1)) hx hb dX5_loseSessions_55 (by decide) ?_
          refine k_astn hx hb hK hw (hL 27 j (cidJ27 hj)) 0 cke_27 rfl (lp_l hk) (by decide) (cK_up (i := i) (x := (-1)) (by decide) rfl) dX5_loseSessions_56 (fun H locs hw => ?_)
          refine lv_aload_n hx hb dX5_loseSessions_57 rfl (lv_at hl 1 rfl) ?_
          refine k_get (C := RX1) (T := TX1) (N := 8) (v := .ref (ad 28 j)) hx hb hts inB_X1 hown hK hw (hL 6 j (cidJ6 hj)) cke_6 rfl 4 (by decide) (hts _ w_f_X5_348) (fun _ h9 => h9) rfl dX5_loseSessions_58 ?_
          refine lv_iload_n hx hb dX5_loseSessions_61 rfl (lv_at hl 2 rfl) ?_
          refine lv_dup2_11 hx hb dX5_loseSessions_62 rfl rfl ?_
          refine k_aldn hx hb hK hw (hL 28 j (cidJ28 hj)) 0 cke_28 rfl (lp_l hk) (by decide) dX5_loseSessions_63 ?_
          refine lv_iconst (v := 1) hx hb dX5_loseSessions_64 (by decide) ?_
          refine lv_iadd hx hb dX5_loseSessions_65 ?_
          refine k_astn hx hb hK hw (hL 28 j (cidJ28 hj)) 0 cke_28 rfl (lp_l hk) (by decide) (cK_up (i := i) (x := (((sp_X4_release Sx (Sx 27 j i)) 28 j i) + 1)) (by decide) rfl) dX5_loseSessions_66 (fun H locs hw => ?_)
          refine lv_iinc (v := (nI (i + 1))) (lv' := [(2, .int (nI (i + 1))), (0, .ref (ad 0 0)), (1, .ref (ad 6 j))]) hx hb dX5_loseSessions_67 hl (k := 2) rfl (nI_1 _) (by decide) rfl (fun ls hl => ?_)
          refine lv_goto (tgt := 2) hx hb dX5_loseSessions_70 (by decide) ?_
          exact ih (i + 1) (up3 (up3 (sp_X4_release Sx (Sx 27 j i)) 27 j i (-1)) 28 j i (((sp_X4_release Sx (Sx 27 j i)) 28 j i) + 1)) _ _ _ (lp_s hk) (SF.up (by decide) (SF.up (by decide) (SF.tr hsf (sf_X4_release Sx (Sx 27 j i))))) hV hw (lv_sub hl [1, 2, 0] rfl)
  exact key_2 12 0 S _ _ _ (Nat.zero_add _) (SF.rf _) rfl hw (lv_sub hl [1, 2, 0] rfl)

abbrev bw_X5_bookFor : List Cond := .code yX5_bookFor cX5_bookFor 3 none :: BIG
abbrev rm_X5_bookFor : Room := { frames := 4, cells := 0, slots := 0, locals := 91 }
noncomputable def lp_X5_bookFor_2 (j : Nat) : Nat → Nat → (Nat → Nat → Nat → Int32) → (Nat → Nat → Nat → Int32)
  | 0, i, Sx => (Sx)
  | k + 1, i, Sx => if (sp_X0_foreseeStep Sx j (nI i)) 7 0 i = 2 then (if sp_X1_isIn (sp_X0_foreseeStep Sx j (nI i)) j (nI i) 0 = 0 then (lp_X5_bookFor_2 j k (i + 1) (sp_X0_foreseeStep Sx j (nI i))) else (if (sp_X0_foreseeStep Sx j (nI i)) 27 j i = (-1) then (lp_X5_bookFor_2 j k (i + 1) (sp_X0_foreseeStep (up3 ((sp_X4_book (sp_X0_foreseeStep Sx j (nI i)) (nI i) ((sp_X0_foreseeStep Sx j (nI i)) 22 0 i)).2) 27 j i ((sp_X4_book (sp_X0_foreseeStep Sx j (nI i)) (nI i) ((sp_X0_foreseeStep Sx j (nI i)) 22 0 i)).1)) j (nI i))) else (lp_X5_bookFor_2 j k (i + 1) (sp_X0_foreseeStep Sx j (nI i))))) else (lp_X5_bookFor_2 j k (i + 1) (sp_X0_foreseeStep Sx j (nI i)))
theorem lz_lp_X5_bookFor_2 (j : Nat) (i : Nat) (Sx : (Nat → Nat → Nat → Int32)) : lp_X5_bookFor_2 j 0 i Sx = (Sx) := rfl
theorem sfl_lp_X5_bookFor_2 (j : Nat) : ∀ (k i : Nat) (Sx T : (Nat → Nat → Nat → Int32)), SF T Sx → SF T ((lp_X5_bookFor_2 j k i Sx)) := by
  intro k
  induction k with
  | zero => intro i Sx T h; exact h
  | succ k ih => 
    intro i Sx T h
    unfold lp_X5_bookFor_2
    by_cases q_4 : (sp_X0_foreseeStep Sx j (nI i)) 7 0 i = 2
    · rw [if_pos q_4]
      by_cases q_5 : sp_X1_isIn (sp_X0_foreseeStep Sx j (nI i)) j (nI i) 0 = 0
      · rw [if_pos q_5]
        exact ih (i + 1) (sp_X0_foreseeStep Sx j (nI i)) T (SF.tr h (sf_X0_foreseeStep Sx j (nI i)))
      · rw [if_neg q_5]
        by_cases q_6 : (sp_X0_foreseeStep Sx j (nI i)) 27 j i = (-1)
        · rw [if_pos q_6]
          exact ih (i + 1) (sp_X0_foreseeStep (up3 ((sp_X4_book (sp_X0_foreseeStep Sx j (nI i)) (nI i) ((sp_X0_foreseeStep Sx j (nI i)) 22 0 i)).2) 27 j i ((sp_X4_book (sp_X0_foreseeStep Sx j (nI i)) (nI i) ((sp_X0_foreseeStep Sx j (nI i)) 22 0 i)).1)) j (nI i)) T (SF.tr (SF.up (by decide) (SF.tr (SF.tr h (sf_X0_foreseeStep Sx j (nI i))) (sf_X4_book (sp_X0_foreseeStep Sx j (nI i)) (nI i) ((sp_X0_foreseeStep Sx j (nI i)) 22 0 i)))) (sf_X0_foreseeStep (up3 ((sp_X4_book (sp_X0_foreseeStep Sx j (nI i)) (nI i) ((sp_X0_foreseeStep Sx j (nI i)) 22 0 i)).2) 27 j i ((sp_X4_book (sp_X0_foreseeStep Sx j (nI i)) (nI i) ((sp_X0_foreseeStep Sx j (nI i)) 22 0 i)).1)) j (nI i)))
        · rw [if_neg q_6]
          exact ih (i + 1) (sp_X0_foreseeStep Sx j (nI i)) T (SF.tr h (sf_X0_foreseeStep Sx j (nI i)))
    · rw [if_neg q_4]
      exact ih (i + 1) (sp_X0_foreseeStep Sx j (nI i)) T (SF.tr h (sf_X0_foreseeStep Sx j (nI i)))

noncomputable def rw_X5_bookFor (S : (Nat → Nat → Nat → Int32)) (j : Nat) : (Nat → Nat → Nat → Int32) := (lp_X5_bookFor_2 j 12 0 S)
/-- sealed: it unfolds by un_ alone -/
noncomputable def sp_X5_bookFor : (Nat → Nat → Nat → Int32) → Nat → ((Nat → Nat → Nat → Int32)) := Classical.choose (⟨rw_X5_bookFor, rfl⟩ : ∃ f, f = rw_X5_bookFor)
theorem un_X5_bookFor (S : (Nat → Nat → Nat → Int32)) (j : Nat) : sp_X5_bookFor S j = rw_X5_bookFor S j := (congrFun (congrFun (Classical.choose_spec (⟨rw_X5_bookFor, rfl⟩ : ∃ f, f = rw_X5_bookFor)) S) j)
theorem sf_X5_bookFor (S : (Nat → Nat → Nat → Int32)) (j : Nat) : SF S (sp_X5_bookFor S j) := by
  rw [un_X5_bookFor]
  unfold rw_X5_bookFor
  exact (sfl_lp_X5_bookFor_2 j 12 0 S _ (SF.rf _))

set_option maxHeartbeats 1000000 in
set_option maxRecDepth 100000 in
theorem ct_X5_bookFor {l : Launch} {D : va_G} {cI cG cJ cO : ClassId} {K0 : Nat → Nat} {A : Nat → Prop} {L : List (Nat × Nat)} {ad : Nat → Nat → Nat} {ce : Nat → Nat → va_E} (hL : ∀ f o, cid f o = true → (f, o) ∈ L) (S : (Nat → Nat → Nat → Int32)) (hI : CI S) (j : Nat) (hj : j < 8) (sz : Nat) (hA : ∀ q, sz ≤ q → A q) : Met l yX5_bookFor bw_X5_bookFor rm_X5_bookFor (kP D (ktys cI cG cJ cO) K0 A L ad (cK cI cJ ad ce S) sz [.ref (ad 0 0), .ref (ad 6 j)]) (kQv D A L ad (cK cI cJ ad ce (sp_X5_bookFor S j))) 0 0 A := by
  refine Met.ofW (cc := cX5_bookFor) (maxL := 3) (ret := none) (by decide) rfl ?_
  intro p e s m args below meth c s₁ B hml hv
  obtain ⟨hav, hsz, hP, hD, hK, hO⟩ := hv
  have hx := B.exec
  have hb := B.bytes
  have hr := B.returns
  have hts : ∀ w ∈ BIG, w.before args s = true := fun w h => atoms_spec (ws := bw_X5_bookFor) B.pre w (List.mem_cons_of_mem _ h)
  have hown : s.vm.findClass RX5 = some m.cls := findClass_of_methodNamed B.named
  have hlocks := B.notSynchronized
  subst hsz
  have hw := wk.start hP hD
  refine k_start (by rfl) hav (Nat.le_of_ble_eq_true rfl) (fun ls hl => ?_)
  have hl : lv_has ls 3 [(0, .ref (ad 0 0)), (1, .ref (ad 6 j))] := hl
  have hE : sp_X5_bookFor S j = (lp_X5_bookFor_2 j 12 0 S) := un_X5_bookFor S j
  refine lv_iconst (v := 0) hx hb dX5_bookFor_0 (by decide) ?_
  refine lv_istore_n (lv' := [(2, .int 0), (0, .ref (ad 0 0)), (1, .ref (ad 6 j))]) hx hb dX5_bookFor_1 rfl hl (by decide) rfl (fun ls hl => ?_)
  have key_2 : ∀ (k i : Nat) (Sx : (Nat → Nat → Nat → Int32)) (H : Heap) (locs : List Loc) (ls : Array Slot), i + k = 12 → SF S Sx → (lp_X5_bookFor_2 j 12 0 S) = lp_X5_bookFor_2 j k i Sx → wk D A L ad (cK cI cJ ad ce Sx) s.heap H locs → lv_has ls 3 [(0, .ref (ad 0 0)), (1, .ref (ad 6 j)), (2, .int (nI i))] → W p l e (headSpec bw_X5_bookFor rm_X5_bookFor).room s m args below meth c H locs 0 0 (MQ below (kQv D A L ad (cK cI cJ ad ce (sp_X5_bookFor S j))) args s 0 0 A) (F0 m 2 ls []) := by
    intro k
    induction k with
    | zero =>
      intro i Sx H locs ls hk hsf hV hw hl
      have hV := hV.trans (lz_lp_X5_bookFor_2 j i Sx)
      subst hV
      refine lv_iload_n hx hb dX5_bookFor_2 rfl (lv_at hl 2 rfl) ?_
      refine lv_bipush (v := 12) hx hb dX5_bookFor_3 (by decide) ?_
      refine lv_icmp_ge (tgt := 87) hx hb dX5_bookFor_5 (by decide) (fun _ => ?_) (fun h => absurd (lp_o rfl hk (by decide)) h)
      exact k_vretE hx hb hr hlocks hw hE dX5_bookFor_87
    | succ k ih =>
      intro i Sx H locs ls hk hsf hV hw hl
      refine lv_iload_n hx hb dX5_bookFor_2 rfl (lv_at hl 2 rfl) ?_
      refine lv_bipush (v := 12) hx hb dX5_bookFor_3 (by decide) ?_
      refine lv_icmp_ge (tgt := 87) hx hb dX5_bookFor_5 (by decide) (fun h => absurd h (lp_i rfl hk (by decide))) (fun _ => ?_)
      refine lv_aload_n hx hb dX5_bookFor_8 rfl (lv_at hl 0 rfl) ?_
      refine k_get (C := RX5) (T := TX5) (N := 7) (v := .ref (ad 4 0)) hx hb hts inB_X5 hown hK hw (hL 0 0 rfl) cke_0 rfl 3 (by decide) (hts _ w_f_X5_35) (fun _ h9 => h9) rfl dX5_bookFor_9 ?_
      refine lv_aload_n hx hb dX5_bookFor_12 rfl (lv_at hl 1 rfl) ?_
      refine lv_iload_n hx hb dX5_bookFor_13 rfl (lv_at hl 2 rfl) ?_
      refine k_cv0 hw (k_rV (As := [.ref (ad 6 j), .int (nI i)]) (rest := []) ⟨hx, hb, hml, hown, hts⟩ hK hO hw (ct_X0_foreseeStep hL Sx (SF.ci hsf hI) j hj (nI i) _ (wk.hA hw hA)) (cwV 2 hts (gB_V w_ml_X5_358 w_im_X0_foreseeStep w_se_X0_foreseeStep w_in_X0 w_co_X0_foreseeStep) rfl rfl rfl (by decide +kernel) ⟨by decide, by decide⟩) (hL 4 0 rfl) cke_4 rfl rfl hl.1 rfl (Nat.le_of_ble_eq_true rfl) dX5_bookFor_14 ⟨Nat.le_of_ble_eq_true rfl, Nat.le_of_ble_eq_true rfl⟩) (fun H locs hw => ?_)
      refine lv_aload_n hx hb dX5_bookFor_17 rfl (lv_at hl 0 rfl) ?_
      refine k_get (C := RX5) (T := TX5) (N := 7) (v := .ref (ad 1 0)) hx hb hts inB_X5 hown hK hw (hL 0 0 rfl) cke_0 rfl 0 (by decide) (hts _ w_f_X5_10) (fun _ h9 => h9) rfl dX5_bookFor_18 ?_
      refine k_get (C := RX2) (T := TX2) (N := 8) (v := .ref (ad 7 0)) hx hb hts inB_X2 hown hK hw (hL 1 0 rfl) cke_1 rfl 0 (by decide) (hts _ w_f_X5_126) (fun _ h9 => h9) rfl dX5_bookFor_21 ?_
      refine lv_iload_n hx hb dX5_bookFor_24 rfl (lv_at hl 2 rfl) ?_
      refine k_aldn hx hb hK hw (hL 7 0 rfl) 0 cke_7 rfl (lp_l hk) (by decide) dX5_bookFor_25 ?_
      refine lv_iconst (v := 2) hx hb dX5_bookFor_26 (by decide) ?_
      refine lv_icmp_ne (tgt := 81) hx hb dX5_bookFor_27 (by decide) (fun c_1 => ?_) (fun c_1 => ?_)
      · have hV := hV.trans (if_neg c_1)
        refine lv_iinc (v := (nI (i + 1))) (lv' := [(2, .int (nI (i + 1))), (0, .ref (ad 0 0)), (1, .ref (ad 6 j))]) hx hb dX5_bookFor_81 hl (k := 2) rfl (nI_1 _) (by decide) rfl (fun ls hl => ?_)
        refine lv_goto (tgt := 2) hx hb dX5_bookFor_84 (by decide) ?_
        exact ih (i + 1) (sp_X0_foreseeStep Sx j (nI i)) _ _ _ (lp_s hk) (SF.tr hsf (sf_X0_foreseeStep Sx j (nI i))) hV hw (lv_sub hl [1, 2, 0] rfl)
      · have hV := hV.trans (if_pos c_1)
        refine lv_aload_n hx hb dX5_bookFor_30 rfl (lv_at hl 1 rfl) ?_
        refine lv_iload_n hx hb dX5_bookFor_31 rfl (lv_at hl 2 rfl) ?_
        refine lv_iconst (v := 0) hx hb dX5_bookFor_32 (by decide) ?_
        refine k_ci0 hw (k_rV (As := [.int (nI i), .int 0]) (rest := []) ⟨hx, hb, hml, hown, hts⟩ hK hO hw (ct_X1_isIn hL (sp_X0_foreseeStep Sx j (nI i)) (SF.ci (SF.tr hsf (sf_X0_foreseeStep Sx j (nI i))) hI) j hj (nI i) 0 _ (wk.hA hw hA)) (cwV 2 hts (gB_V w_ml_X5_336 w_im_X1_isIn w_se_X1_isIn w_in_X1 w_co_X1_isIn) rfl rfl rfl (by decide +kernel) ⟨by decide, by decide⟩) (hL 6 j (cidJ6 hj)) cke_6 rfl rfl hl.1 rfl (Nat.le_of_ble_eq_true rfl) dX5_bookFor_33 ⟨Nat.le_of_ble_eq_true rfl, Nat.le_of_ble_eq_true rfl⟩) (fun H locs hw => ?_)
        refine lv_if_eq (tgt := 81) hx hb dX5_bookFor_36 (by decide) (fun c_2 => ?_) (fun c_2 => ?_)
        · have hV := hV.trans (if_pos c_2)
          refine lv_iinc (v := (nI (i + 1))) (lv' := [(2, .int (nI (i + 1))), (0, .ref (ad 0 0)), (1, .ref (ad 6 j))]) hx hb dX5_bookFor_81 hl (k := 2) rfl (nI_1 _) (by decide) rfl (fun ls hl => ?_)
          refine lv_goto (tgt := 2) hx hb dX5_bookFor_84 (by decide) ?_
          exact ih (i + 1) (sp_X0_foreseeStep Sx j (nI i)) _ _ _ (lp_s hk) (SF.tr hsf (sf_X0_foreseeStep Sx j (nI i))) hV hw (lv_sub hl [1, 2, 0] rfl)
        · have hV := hV.trans (if_neg c_2)
          refine lv_aload_n hx hb dX5_bookFor_39 rfl (lv_at hl 1 rfl) ?_
          refine k_get (C := RX1) (T := TX1) (N := 8) (v := .ref (ad 27 j)) hx hb hts inB_X1 hown hK hw (hL 6 j (cidJ6 hj)) cke_6 rfl 3 (by decide) (hts _ w_f_X5_198) (fun _ h9 => h9) rfl dX5_bookFor_40 ?_
          refine lv_iload_n hx hb dX5_bookFor_43 rfl (lv_at hl 2 rfl) ?_
          refine k_aldn hx hb hK hw (hL 27 j (cidJ27 hj)) 0 cke_27 rfl (lp_l hk) (by decide) dX5_bookFor_44 ?_
          refine lv_iconst (v := (-1)) hx hb dX5_bookFor_45 (by decide) ?_
          refine lv_icmp_ne (tgt := 81) hx hb dX5_bookFor_46 (by decide) (fun c_3 => ?_) (fun c_3 => ?_)
          · have hV := hV.trans (if_neg c_3)
            refine lv_iinc (v := (nI (i + 1))) (lv' := [(2, .int (nI (i + 1))), (0, .ref (ad 0 0)), (1, .ref (ad 6 j))]) hx hb dX5_bookFor_81 hl (k := 2) rfl (nI_1 _) (by decide) rfl (fun ls hl => ?_)
            refine lv_goto (tgt := 2) hx hb dX5_bookFor_84 (by decide) ?_
            exact ih (i + 1) (sp_X0_foreseeStep Sx j (nI i)) _ _ _ (lp_s hk) (SF.tr hsf (sf_X0_foreseeStep Sx j (nI i))) hV hw (lv_sub hl [1, 2, 0] rfl)
          · have hV := hV.trans (if_pos c_3)
            refine lv_aload_n hx hb dX5_bookFor_49 rfl (lv_at hl 1 rfl) ?_
            refine k_get (C := RX1) (T := TX1) (N := 8) (v := .ref (ad 27 j)) hx hb hts inB_X1 hown hK hw (hL 6 j (cidJ6 hj)) cke_6 rfl 3 (by decide) (hts _ w_f_X5_198) (fun _ h9 => h9) rfl dX5_bookFor_50 ?_
            refine lv_iload_n hx hb dX5_bookFor_53 rfl (lv_at hl 2 rfl) ?_
            refine lv_aload_n hx hb dX5_bookFor_54 rfl (lv_at hl 0 rfl) ?_
            refine k_get (C := RX5) (T := TX5) (N := 7) (v := .ref (ad 3 0)) hx hb hts inB_X5 hown hK hw (hL 0 0 rfl) cke_0 rfl 2 (by decide) (hts _ w_f_X5_26) (fun _ h9 => h9) rfl dX5_bookFor_55 ?_
            refine lv_iload_n hx hb dX5_bookFor_58 rfl (lv_at hl 2 rfl) ?_
            refine lv_aload_n hx hb dX5_bookFor_59 rfl (lv_at hl 0 rfl) ?_
            refine k_get (C := RX5) (T := TX5) (N := 7) (v := .ref (ad 4 0)) hx hb hts inB_X5 hown hK hw (hL 0 0 rfl) cke_0 rfl 3 (by decide) (hts _ w_f_X5_35) (fun _ h9 => h9) rfl dX5_bookFor_60 ?_
            refine k_get (C := RX0) (T := TX0) (N := 7) (v := .ref (ad 22 0)) hx hb hts inB_X0 hown hK hw (hL 4 0 rfl) cke_4 rfl 4 (by decide) (hts _ w_f_X5_362) (fun _ h9 => h9) rfl dX5_bookFor_63 ?_
            refine lv_iload_n hx hb dX5_bookFor_66 rfl (lv_at hl 2 rfl) ?_
            refine k_aldn hx hb hK hw (hL 22 0 rfl) 0 cke_22 rfl (lp_l hk) (by decide) dX5_bookFor_67 ?_
            refine k_ci0 hw (k_rV (As := [.int (nI i), .int ((sp_X0_foreseeStep Sx j (nI i)) 22 0 i)]) (rest := [.int (nI i), .ref (ad 27 j)]) ⟨hx, hb, hml, hown, hts⟩ hK hO hw (ct_X4_book hL (sp_X0_foreseeStep Sx j (nI i)) (SF.ci (SF.tr hsf (sf_X0_foreseeStep Sx j (nI i))) hI) (nI i) ((sp_X0_foreseeStep Sx j (nI i)) 22 0 i) _ (wk.hA hw hA)) (cwV 2 hts (gB_V w_ml_X5_363 w_im_X4_book w_se_X4_book w_in_X4 w_co_X4_book) rfl rfl rfl (by decide +kernel) ⟨by decide, by decide⟩) (hL 3 0 rfl) cke_3 rfl rfl hl.1 rfl (Nat.le_of_ble_eq_true rfl) dX5_bookFor_68 ⟨Nat.le_of_ble_eq_true rfl, Nat.le_of_ble_eq_true rfl⟩) (fun H locs hw => ?_)
            refine k_astn hx hb hK hw (hL 27 j (cidJ27 hj)) 0 cke_27 rfl (lp_l hk) (by decide) (cK_up (i := i) (x := ((sp_X4_book (sp_X0_foreseeStep Sx j (nI i)) (nI i) ((sp_X0_foreseeStep Sx j (nI i)) 22 0 i)).1)) (by decide) rfl) dX5_bookFor_71 (fun H locs hw => ?_)
            refine lv_aload_n hx hb dX5_bookFor_72 rfl (lv_at hl 0 rfl) ?_
            refine k_get (C := RX5) (T := TX5) (N := 7) (v := .ref (ad 4 0)) hx hb hts inB_X5 hown hK hw (hL 0 0 rfl) cke_0 rfl 3 (by decide) (hts _ w_f_X5_35) (fun _ h9 => h9) rfl dX5_bookFor_73 ?_
            refine lv_aload_n hx hb dX5_bookFor_76 rfl (lv_at hl 1 rfl) ?_
            refine lv_iload_n hx hb dX5_bookFor_77 rfl (lv_at hl 2 rfl) ?_
            refine k_cv0 hw (k_rV (As := [.ref (ad 6 j), .int (nI i)]) (rest := []) ⟨hx, hb, hml, hown, hts⟩ hK hO hw (ct_X0_foreseeStep hL (up3 ((sp_X4_book (sp_X0_foreseeStep Sx j (nI i)) (nI i) ((sp_X0_foreseeStep Sx j (nI i)) 22 0 i)).2) 27 j i ((sp_X4_book (sp_X0_foreseeStep Sx j (nI i)) (nI i) ((sp_X0_foreseeStep Sx j (nI i)) 22 0 i)).1)) (SF.ci (SF.up (by decide) (SF.tr (SF.tr hsf (sf_X0_foreseeStep Sx j (nI i))) (sf_X4_book (sp_X0_foreseeStep Sx j (nI i)) (nI i) ((sp_X0_foreseeStep Sx j (nI i)) 22 0 i)))) hI) j hj (nI i) _ (wk.hA hw hA)) (cwV 2 hts (gB_V w_ml_X5_358 w_im_X0_foreseeStep w_se_X0_foreseeStep w_in_X0 w_co_X0_foreseeStep) rfl rfl rfl (by decide +kernel) ⟨by decide, by decide⟩) (hL 4 0 rfl) cke_4 rfl rfl hl.1 rfl (Nat.le_of_ble_eq_true rfl) dX5_bookFor_78 ⟨Nat.le_of_ble_eq_true rfl, Nat.le_of_ble_eq_true rfl⟩) (fun H locs hw => ?_)
            refine lv_iinc (v := (nI (i + 1))) (lv' := [(2, .int (nI (i + 1))), (0, .ref (ad 0 0)), (1, .ref (ad 6 j))]) hx hb dX5_bookFor_81 hl (k := 2) rfl (nI_1 _) (by decide) rfl (fun ls hl => ?_)
            refine lv_goto (tgt := 2) hx hb dX5_bookFor_84 (by decide) ?_
            exact ih (i + 1) (sp_X0_foreseeStep (up3 ((sp_X4_book (sp_X0_foreseeStep Sx j (nI i)) (nI i) ((sp_X0_foreseeStep Sx j (nI i)) 22 0 i)).2) 27 j i ((sp_X4_book (sp_X0_foreseeStep Sx j (nI i)) (nI i) ((sp_X0_foreseeStep Sx j (nI i)) 22 0 i)).1)) j (nI i)) _ _ _ (lp_s hk) (SF.tr (SF.up (by decide) (SF.tr (SF.tr hsf (sf_X0_foreseeStep Sx j (nI i))) (sf_X4_book (sp_X0_foreseeStep Sx j (nI i)) (nI i) ((sp_X0_foreseeStep Sx j (nI i)) 22 0 i)))) (sf_X0_foreseeStep (up3 ((sp_X4_book (sp_X0_foreseeStep Sx j (nI i)) (nI i) ((sp_X0_foreseeStep Sx j (nI i)) 22 0 i)).2) 27 j i ((sp_X4_book (sp_X0_foreseeStep Sx j (nI i)) (nI i) ((sp_X0_foreseeStep Sx j (nI i)) 22 0 i)).1)) j (nI i))) hV hw (lv_sub hl [1, 2, 0] rfl)
  exact key_2 12 0 S _ _ _ (Nat.zero_add _) (SF.rf _) rfl hw (lv_sub hl [1, 2, 0] rfl)

abbrev bw_X5_bookAll : List Cond := .code yX5_bookAll cX5_bookAll 3 none :: BIG
abbrev rm_X5_bookAll : Room := { frames := 5, cells := 0, slots := 0, locals := 113 }
noncomputable def lp_X5_bookAll_15 : Nat → Nat → (Nat → Nat → Nat → Int32) → (Nat → Nat → Nat → Int32)
  | 0, i, Sx => (Sx)
  | k + 1, i, Sx => if Sx 6 i 2 = 0 then (lp_X5_bookAll_15 k (i + 1) (sp_X5_bookFor Sx i)) else (lp_X5_bookAll_15 k (i + 1) Sx)
theorem lz_lp_X5_bookAll_15 (i : Nat) (Sx : (Nat → Nat → Nat → Int32)) : lp_X5_bookAll_15 0 i Sx = (Sx) := rfl
theorem sfl_lp_X5_bookAll_15 : ∀ (k i : Nat) (Sx T : (Nat → Nat → Nat → Int32)), SF T Sx → SF T ((lp_X5_bookAll_15 k i Sx)) := by
  intro k
  induction k with
  | zero => intro i Sx T h; exact h
  | succ k ih => 
    intro i Sx T h
    unfold lp_X5_bookAll_15
    by_cases q_2 : Sx 6 i 2 = 0
    · rw [if_pos q_2]
      exact ih (i + 1) (sp_X5_bookFor Sx i) T (SF.tr h (sf_X5_bookFor Sx i))
    · rw [if_neg q_2]
      exact ih (i + 1) Sx T h

noncomputable def rw_X5_bookAll (S : (Nat → Nat → Nat → Int32)) : (Nat → Nat → Nat → Int32) := (lp_X5_bookAll_15 ((S 0 0 0).toNatClampNeg) 0 (sp_X0_lookFrom S (S 0 0 1) (-1) 0))
/-- sealed: it unfolds by un_ alone -/
noncomputable def sp_X5_bookAll : (Nat → Nat → Nat → Int32) → ((Nat → Nat → Nat → Int32)) := Classical.choose (⟨rw_X5_bookAll, rfl⟩ : ∃ f, f = rw_X5_bookAll)
theorem un_X5_bookAll (S : (Nat → Nat → Nat → Int32)) : sp_X5_bookAll S = rw_X5_bookAll S := (congrFun (Classical.choose_spec (⟨rw_X5_bookAll, rfl⟩ : ∃ f, f = rw_X5_bookAll)) S)
theorem sf_X5_bookAll (S : (Nat → Nat → Nat → Int32)) : SF S (sp_X5_bookAll S) := by
  rw [un_X5_bookAll]
  unfold rw_X5_bookAll
  exact (sfl_lp_X5_bookAll_15 ((S 0 0 0).toNatClampNeg) 0 (sp_X0_lookFrom S (S 0 0 1) (-1) 0) _ (SF.tr (SF.rf _) (sf_X0_lookFrom S (S 0 0 1) (-1) 0)))

set_option maxHeartbeats 1000000 in
set_option maxRecDepth 100000 in
theorem ct_X5_bookAll {l : Launch} {D : va_G} {cI cG cJ cO : ClassId} {K0 : Nat → Nat} {A : Nat → Prop} {L : List (Nat × Nat)} {ad : Nat → Nat → Nat} {ce : Nat → Nat → va_E} (hL : ∀ f o, cid f o = true → (f, o) ∈ L) (S : (Nat → Nat → Nat → Int32)) (hI : CI S) (sz : Nat) (hA : ∀ q, sz ≤ q → A q) : Met l yX5_bookAll bw_X5_bookAll rm_X5_bookAll (kP D (ktys cI cG cJ cO) K0 A L ad (cK cI cJ ad ce S) sz [.ref (ad 0 0)]) (kQv D A L ad (cK cI cJ ad ce (sp_X5_bookAll S))) 0 0 A := by
  refine Met.ofW (cc := cX5_bookAll) (maxL := 3) (ret := none) (by decide) rfl ?_
  intro p e s m args below meth c s₁ B hml hv
  obtain ⟨hav, hsz, hP, hD, hK, hO⟩ := hv
  have hx := B.exec
  have hb := B.bytes
  have hr := B.returns
  have hts : ∀ w ∈ BIG, w.before args s = true := fun w h => atoms_spec (ws := bw_X5_bookAll) B.pre w (List.mem_cons_of_mem _ h)
  have hown : s.vm.findClass RX5 = some m.cls := findClass_of_methodNamed B.named
  have hlocks := B.notSynchronized
  subst hsz
  have hw := wk.start hP hD
  refine k_start (by rfl) hav (Nat.le_of_ble_eq_true rfl) (fun ls hl => ?_)
  have hl : lv_has ls 3 [(0, .ref (ad 0 0))] := hl
  have hE : sp_X5_bookAll S = (lp_X5_bookAll_15 ((S 0 0 0).toNatClampNeg) 0 (sp_X0_lookFrom S (S 0 0 1) (-1) 0)) := un_X5_bookAll S
  refine lv_aload_n hx hb dX5_bookAll_0 rfl (lv_at hl 0 rfl) ?_
  refine k_get (C := RX5) (T := TX5) (N := 7) (v := .ref (ad 4 0)) hx hb hts inB_X5 hown hK hw (hL 0 0 rfl) cke_0 rfl 3 (by decide) (hts _ w_f_X5_35) (fun _ h9 => h9) rfl dX5_bookAll_1 ?_
  refine lv_aload_n hx hb dX5_bookAll_4 rfl (lv_at hl 0 rfl) ?_
  refine k_get (C := RX5) (T := TX5) (N := 7) (v := .int (S 0 0 1)) hx hb hts inB_X5 hown hK hw (hL 0 0 rfl) cke_0 rfl 6 (by decide) (hts _ w_f_X5_160) (fun _ h9 => h9) rfl dX5_bookAll_5 ?_
  refine lv_iconst (v := (-1)) hx hb dX5_bookAll_8 (by decide) ?_
  refine lv_iconst (v := 0) hx hb dX5_bookAll_9 (by decide) ?_
  refine k_cv0 hw (k_rV (As := [.int (S 0 0 1), .int (-1), .int 0]) (rest := []) ⟨hx, hb, hml, hown, hts⟩ hK hO hw (ct_X0_lookFrom hL S (SF.ci (SF.rf _) hI) (S 0 0 1) (-1) 0 _ (wk.hA hw hA)) (cwV 3 hts (gB_V w_ml_X5_351 w_im_X0_lookFrom w_se_X0_lookFrom w_in_X0 w_co_X0_lookFrom) rfl rfl rfl (by decide +kernel) ⟨by decide, by decide⟩) (hL 4 0 rfl) cke_4 rfl rfl hl.1 rfl (Nat.le_of_ble_eq_true rfl) dX5_bookAll_10 ⟨Nat.le_of_ble_eq_true rfl, Nat.le_of_ble_eq_true rfl⟩) (fun H locs hw => ?_)
  refine lv_iconst (v := 0) hx hb dX5_bookAll_13 (by decide) ?_
  refine lv_istore_n (lv' := [(1, .int 0), (0, .ref (ad 0 0))]) hx hb dX5_bookAll_14 rfl hl (by decide) rfl (fun ls hl => ?_)
  have key_15 : ∀ (k i : Nat) (Sx : (Nat → Nat → Nat → Int32)) (H : Heap) (locs : List Loc) (ls : Array Slot), i + k = (S 0 0 0).toNatClampNeg → SF S Sx → (lp_X5_bookAll_15 ((S 0 0 0).toNatClampNeg) 0 (sp_X0_lookFrom S (S 0 0 1) (-1) 0)) = lp_X5_bookAll_15 k i Sx → wk D A L ad (cK cI cJ ad ce Sx) s.heap H locs → lv_has ls 3 [(0, .ref (ad 0 0)), (1, .int (nI i))] → W p l e (headSpec bw_X5_bookAll rm_X5_bookAll).room s m args below meth c H locs 0 0 (MQ below (kQv D A L ad (cK cI cJ ad ce (sp_X5_bookAll S))) args s 0 0 A) (F0 m 15 ls []) := by
    intro k
    induction k with
    | zero =>
      intro i Sx H locs ls hk hsf hV hw hl
      have hV := hV.trans (lz_lp_X5_bookAll_15 i Sx)
      subst hV
      refine lv_iload_n hx hb dX5_bookAll_15 rfl (lv_at hl 1 rfl) ?_
      refine lv_aload_n hx hb dX5_bookAll_16 rfl (lv_at hl 0 rfl) ?_
      refine k_get (C := RX5) (T := TX5) (N := 7) (v := .int ((lp_X5_bookAll_15 ((S 0 0 0).toNatClampNeg) 0 (sp_X0_lookFrom S (S 0 0 1) (-1) 0)) 0 0 0)) hx hb hts inB_X5 hown hK hw (hL 0 0 rfl) cke_0 rfl 5 (by decide) (hts _ w_f_X5_174) (fun _ h9 => h9) rfl dX5_bookAll_17 ?_
      refine lv_icmp_ge (tgt := 47) hx hb dX5_bookAll_20 (by decide) (fun _ => ?_) (fun h => absurd (lp_o (SF.b5 hsf hI) hk (cn_lt _)) h)
      exact k_vretE hx hb hr hlocks hw hE dX5_bookAll_47
    | succ k ih =>
      intro i Sx H locs ls hk hsf hV hw hl
      refine lv_iload_n hx hb dX5_bookAll_15 rfl (lv_at hl 1 rfl) ?_
      refine lv_aload_n hx hb dX5_bookAll_16 rfl (lv_at hl 0 rfl) ?_
      refine k_get (C := RX5) (T := TX5) (N := 7) (v := .int (Sx 0 0 0)) hx hb hts inB_X5 hown hK hw (hL 0 0 rfl) cke_0 rfl 5 (by decide) (hts _ w_f_X5_174) (fun _ h9 => h9) rfl dX5_bookAll_17 ?_
      refine lv_icmp_ge (tgt := 47) hx hb dX5_bookAll_20 (by decide) (fun h => absurd h (lp_i (SF.b5 hsf hI) hk (cn_lt _))) (fun _ => ?_)
      refine lv_aload_n hx hb dX5_bookAll_23 rfl (lv_at hl 0 rfl) ?_
      refine lv_iload_n hx hb dX5_bookAll_24 rfl (lv_at hl 1 rfl) ?_
      refine k_cr0 hw (k_rV (As := [.int (nI i)]) (rest := []) ⟨hx, hb, hml, hown, hts⟩ hK hO hw (ct_X5_joinerAt_n hL Sx (SF.ci hsf hI) i (SF.q5 hsf (lp_l hk)) _ (wk.hA hw hA)) (cwV 1 hts (gB_V w_ml_X5_179 w_im_X5_joinerAt w_se_X5_joinerAt w_in_X5 w_co_X5_joinerAt) rfl rfl rfl (by decide +kernel) ⟨by decide, by decide⟩) (hL 0 0 rfl) cke_0 rfl rfl hl.1 rfl (Nat.le_of_ble_eq_true rfl) dX5_bookAll_25 ⟨Nat.le_of_ble_eq_true rfl, Nat.le_of_ble_eq_true rfl⟩) (fun H locs hw => ?_)
      refine lv_astore_n (lv' := [(2, .ref (ad 6 i)), (0, .ref (ad 0 0)), (1, .int (nI i))]) hx hb dX5_bookAll_28 rfl hl (by decide) rfl (fun ls hl => ?_)
      refine lv_aload_n hx hb dX5_bookAll_29 rfl (lv_at hl 0 rfl) ?_
      refine k_get (C := RX1) (T := TX1) (N := 8) (v := .int (Sx 6 i 2)) hx hb hts inB_X1 hown hK hw (hL 6 i (cidJ6 (Nat.lt_of_lt_of_le (lp_l hk) (CI.n5 hI)))) cke_6 rfl 7 (by decide) (hts _ w_f_X5_189) (fun _ h9 => h9) rfl dX5_bookAll_30 ?_
      refine lv_if_ne (tgt := 41) hx hb dX5_bookAll_33 (by decide) (fun c_1 => ?_) (fun c_1 => ?_)
      · have hV := hV.trans (if_neg c_1)
        refine lv_iinc (v := (nI (i + 1))) (lv' := [(1, .int (nI (i + 1))), (2, .ref (ad 6 i)), (0, .ref (ad 0 0))]) hx hb dX5_bookAll_41 hl (k := 2) rfl (nI_1 _) (by decide) rfl (fun ls hl => ?_)
        refine lv_goto (tgt := 15) hx hb dX5_bookAll_44 (by decide) ?_
        exact ih (i + 1) Sx _ _ _ (lp_s hk) hsf hV hw (lv_sub hl [2, 0] rfl)
      · have hV := hV.trans (if_pos c_1)
        refine lv_aload_n hx hb dX5_bookAll_36 rfl (lv_at hl 1 rfl) ?_
        refine lv_aload_n hx hb dX5_bookAll_37 rfl (lv_at hl 0 rfl) ?_
        refine k_cv0 hw (k_rV (As := [.ref (ad 6 i)]) (rest := []) ⟨hx, hb, hml, hown, hts⟩ hK hO hw (ct_X5_bookFor hL Sx (SF.ci hsf hI) i (Nat.lt_of_lt_of_le (lp_l hk) (CI.n5 hI)) _ (wk.hA hw hA)) (cwV 1 hts (gB_V w_ml_X5_355 w_im_X5_bookFor w_se_X5_bookFor w_in_X5 w_co_X5_bookFor) rfl rfl rfl (by decide +kernel) ⟨by decide, by decide⟩) (hL 0 0 rfl) cke_0 rfl rfl hl.1 rfl (Nat.le_of_ble_eq_true rfl) dX5_bookAll_38 ⟨Nat.le_of_ble_eq_true rfl, Nat.le_of_ble_eq_true rfl⟩) (fun H locs hw => ?_)
        refine lv_iinc (v := (nI (i + 1))) (lv' := [(1, .int (nI (i + 1))), (2, .ref (ad 6 i)), (0, .ref (ad 0 0))]) hx hb dX5_bookAll_41 hl (k := 2) rfl (nI_1 _) (by decide) rfl (fun ls hl => ?_)
        refine lv_goto (tgt := 15) hx hb dX5_bookAll_44 (by decide) ?_
        exact ih (i + 1) (sp_X5_bookFor Sx i) _ _ _ (lp_s hk) (SF.tr hsf (sf_X5_bookFor Sx i)) hV hw (lv_sub hl [2, 0] rfl)
  exact key_15 ((S 0 0 0).toNatClampNeg) 0 (sp_X0_lookFrom S (S 0 0 1) (-1) 0) _ _ _ (Nat.zero_add _) (SF.tr (SF.rf _) (sf_X0_lookFrom S (S 0 0 1) (-1) 0)) rfl hw (lv_sub hl [1, 0] rfl)

abbrev bw_X5_takeBackStep : List Cond := .code yX5_takeBackStep cX5_takeBackStep 3 none :: BIG
abbrev rm_X5_takeBackStep : Room := { frames := 1, cells := 0, slots := 0, locals := 24 }
noncomputable def rw_X5_takeBackStep (S : (Nat → Nat → Nat → Int32)) (j : Nat) : (Nat → Nat → Nat → Int32) := if S 6 j 2 = 0 then (S) else (if sp_X1_lastBegun S j < 0 then (S) else (if sp_X1_lastBegun S j < 12 then (if S 7 0 ((sp_X1_lastBegun S j).toNatClampNeg) = 1 then ((sp_X3_putIn (up3 S 24 j ((sp_X1_lastBegun S j).toNatClampNeg) 3) (S 10 0 ((sp_X1_lastBegun S j).toNatClampNeg)) 1)) else ((up3 S 24 j ((sp_X1_lastBegun S j).toNatClampNeg) 3))) else (S)))
/-- sealed: it unfolds by un_ alone -/
noncomputable def sp_X5_takeBackStep : (Nat → Nat → Nat → Int32) → Nat → ((Nat → Nat → Nat → Int32)) := Classical.choose (⟨rw_X5_takeBackStep, rfl⟩ : ∃ f, f = rw_X5_takeBackStep)
theorem un_X5_takeBackStep (S : (Nat → Nat → Nat → Int32)) (j : Nat) : sp_X5_takeBackStep S j = rw_X5_takeBackStep S j := (congrFun (congrFun (Classical.choose_spec (⟨rw_X5_takeBackStep, rfl⟩ : ∃ f, f = rw_X5_takeBackStep)) S) j)
theorem sf_X5_takeBackStep (S : (Nat → Nat → Nat → Int32)) (j : Nat) : SF S (sp_X5_takeBackStep S j) := by
  rw [un_X5_takeBackStep]
  unfold rw_X5_takeBackStep
  by_cases q_5 : S 6 j 2 = 0
  · rw [if_pos q_5]
    exact (SF.rf _)
  · rw [if_neg q_5]
    by_cases q_6 : sp_X1_lastBegun S j < 0
    · rw [if_pos q_6]
      exact (SF.rf _)
    · rw [if_neg q_6]
      by_cases q_7 : sp_X1_lastBegun S j < 12
      · rw [if_pos q_7]
        by_cases q_8 : S 7 0 ((sp_X1_lastBegun S j).toNatClampNeg) = 1
        · rw [if_pos q_8]
          exact (SF.tr (SF.up (by decide) (SF.rf _)) (sf_X3_putIn (up3 S 24 j ((sp_X1_lastBegun S j).toNatClampNeg) 3) (S 10 0 ((sp_X1_lastBegun S j).toNatClampNeg)) 1))
        · rw [if_neg q_8]
          exact (SF.up (by decide) (SF.rf _))
      · rw [if_neg q_7]
        exact (SF.rf _)

set_option maxHeartbeats 1000000 in
set_option maxRecDepth 100000 in
theorem ct_X5_takeBackStep {l : Launch} {D : va_G} {cI cG cJ cO : ClassId} {K0 : Nat → Nat} {A : Nat → Prop} {L : List (Nat × Nat)} {ad : Nat → Nat → Nat} {ce : Nat → Nat → va_E} (hL : ∀ f o, cid f o = true → (f, o) ∈ L) (S : (Nat → Nat → Nat → Int32)) (hI : CI S) (j : Nat) (hj : j < 8) (sz : Nat) (hA : ∀ q, sz ≤ q → A q) : Met l yX5_takeBackStep bw_X5_takeBackStep rm_X5_takeBackStep (kP D (ktys cI cG cJ cO) K0 A L ad (cK cI cJ ad ce S) sz [.ref (ad 0 0), .ref (ad 6 j)]) (kQv D A L ad (cK cI cJ ad ce (sp_X5_takeBackStep S j))) 0 0 A := by
  refine Met.ofW (cc := cX5_takeBackStep) (maxL := 3) (ret := none) (by decide) rfl ?_
  intro p e s m args below meth c s₁ B hml hv
  obtain ⟨hav, hsz, hP, hD, hK, hO⟩ := hv
  have hx := B.exec
  have hb := B.bytes
  have hr := B.returns
  have hts : ∀ w ∈ BIG, w.before args s = true := fun w h => atoms_spec (ws := bw_X5_takeBackStep) B.pre w (List.mem_cons_of_mem _ h)
  have hown : s.vm.findClass RX5 = some m.cls := findClass_of_methodNamed B.named
  have hlocks := B.notSynchronized
  subst hsz
  have hw := wk.start hP hD
  refine k_start (by rfl) hav (Nat.le_of_ble_eq_true rfl) (fun ls hl => ?_)
  have hl : lv_has ls 3 [(0, .ref (ad 0 0)), (1, .ref (ad 6 j))] := hl
  have hE : sp_X5_takeBackStep S j = rw_X5_takeBackStep S j := un_X5_takeBackStep S j
  refine lv_aload_n hx hb dX5_takeBackStep_0 rfl (lv_at hl 1 rfl) ?_
  refine k_get (C := RX1) (T := TX1) (N := 8) (v := .int (S 6 j 2)) hx hb hts inB_X1 hown hK hw (hL 6 j (cidJ6 hj)) cke_6 rfl 7 (by decide) (hts _ w_f_X5_189) (fun _ h9 => h9) rfl dX5_takeBackStep_1 ?_
  refine lv_if_ne (tgt := 8) hx hb dX5_takeBackStep_4 (by decide) (fun c_1 => ?_) (fun c_1 => ?_)
  · have hE := hE.trans (if_neg c_1)
    refine lv_aload_n hx hb dX5_takeBackStep_8 rfl (lv_at hl 1 rfl) ?_
    refine k_ci0 hw (k_rV (As := []) (rest := []) ⟨hx, hb, hml, hown, hts⟩ hK hO hw (ct_X1_lastBegun hL S (SF.ci (SF.rf _) hI) j hj _ (wk.hA hw hA)) (cwV 0 hts (gB_V w_ml_X5_366 w_im_X1_lastBegun w_se_X1_lastBegun w_in_X1 w_co_X1_lastBegun) rfl rfl rfl (by decide +kernel) ⟨by decide, by decide⟩) (hL 6 j (cidJ6 hj)) cke_6 rfl rfl hl.1 rfl (Nat.le_of_ble_eq_true rfl) dX5_takeBackStep_9 ⟨Nat.le_of_ble_eq_true rfl, Nat.le_of_ble_eq_true rfl⟩) (fun H locs hw => ?_)
    refine lv_istore_n (lv' := [(2, .int (sp_X1_lastBegun S j)), (0, .ref (ad 0 0)), (1, .ref (ad 6 j))]) hx hb dX5_takeBackStep_12 rfl hl (by decide) rfl (fun ls hl => ?_)
    refine lv_iload_n hx hb dX5_takeBackStep_13 rfl (lv_at hl 0 rfl) ?_
    refine lv_if_lt (tgt := 23) hx hb dX5_takeBackStep_14 (by decide) (fun c_2 => ?_) (fun c_2 => ?_)
    · have hE := hE.trans (if_pos c_2)
      exact k_vretE hx hb hr hlocks hw hE dX5_takeBackStep_23
    · have hE := hE.trans (if_neg c_2)
      refine lv_iload_n hx hb dX5_takeBackStep_17 rfl (lv_at hl 0 rfl) ?_
      refine lv_bipush (v := 12) hx hb dX5_takeBackStep_18 (by decide) ?_
      refine lv_icmp_lt (tgt := 24) hx hb dX5_takeBackStep_20 (by decide) (fun c_3 => ?_) (fun c_3 => ?_)
      · have hE := hE.trans (if_pos c_3)
        refine lv_aload_n hx hb dX5_takeBackStep_24 rfl (lv_at hl 2 rfl) ?_
        refine k_get (C := RX1) (T := TX1) (N := 8) (v := .ref (ad 24 j)) hx hb hts inB_X1 hown hK hw (hL 6 j (cidJ6 hj)) cke_6 rfl 0 (by decide) (hts _ w_f_X5_195) (fun _ h9 => h9) rfl dX5_takeBackStep_25 ?_
        refine lv_iload_n hx hb dX5_takeBackStep_28 rfl (lv_at hl 0 rfl) ?_
        refine lv_iconst (v := 3) hx hb dX5_takeBackStep_29 (by decide) ?_
        refine k_ast hx hb hK hw (hL 24 j (cidJ24 hj)) 0 cke_24 rfl (k_in' c_2 c_3 (by decide)) (cK_up (i := ((sp_X1_lastBegun S j).toNatClampNeg)) (x := 3) (by decide) rfl) dX5_takeBackStep_30 (fun H locs hw => ?_)
        refine lv_aload_n hx hb dX5_takeBackStep_31 rfl (lv_at hl 1 rfl) ?_
        refine k_get (C := RX5) (T := TX5) (N := 7) (v := .ref (ad 1 0)) hx hb hts inB_X5 hown hK hw (hL 0 0 rfl) cke_0 rfl 0 (by decide) (hts _ w_f_X5_10) (fun _ h9 => h9) rfl dX5_takeBackStep_32 ?_
        refine k_get (C := RX2) (T := TX2) (N := 8) (v := .ref (ad 7 0)) hx hb hts inB_X2 hown hK hw (hL 1 0 rfl) cke_1 rfl 0 (by decide) (hts _ w_f_X5_126) (fun _ h9 => h9) rfl dX5_takeBackStep_35 ?_
        refine lv_iload_n hx hb dX5_takeBackStep_38 rfl (lv_at hl 0 rfl) ?_
        refine k_ald hx hb hK hw (hL 7 0 rfl) 0 cke_7 rfl (k_in' c_2 c_3 (by decide)) dX5_takeBackStep_39 ?_
        refine lv_iconst (v := 1) hx hb dX5_takeBackStep_40 (by decide) ?_
        refine lv_icmp_ne (tgt := 61) hx hb dX5_takeBackStep_41 (by decide) (fun c_4 => ?_) (fun c_4 => ?_)
        · have hE := hE.trans (if_neg c_4)
          exact k_vretE hx hb hr hlocks hw hE dX5_takeBackStep_61
        · have hE := hE.trans (if_pos c_4)
          refine lv_aload_n hx hb dX5_takeBackStep_44 rfl (lv_at hl 1 rfl) ?_
          refine k_get (C := RX5) (T := TX5) (N := 7) (v := .ref (ad 2 0)) hx hb hts inB_X5 hown hK hw (hL 0 0 rfl) cke_0 rfl 1 (by decide) (hts _ w_f_X5_19) (fun _ h9 => h9) rfl dX5_takeBackStep_45 ?_
          refine lv_aload_n hx hb dX5_takeBackStep_48 rfl (lv_at hl 1 rfl) ?_
          refine k_get (C := RX5) (T := TX5) (N := 7) (v := .ref (ad 1 0)) hx hb hts inB_X5 hown hK hw (hL 0 0 rfl) cke_0 rfl 0 (by decide) (hts _ w_f_X5_10) (fun _ h9 => h9) rfl dX5_takeBackStep_49 ?_
          refine k_get (C := RX2) (T := TX2) (N := 8) (v := .ref (ad 10 0)) hx hb hts inB_X2 hown hK hw (hL 1 0 rfl) cke_1 rfl 3 (by decide) (hts _ w_f_X5_321) (fun _ h9 => h9) rfl dX5_takeBackStep_52 ?_
          refine lv_iload_n hx hb dX5_takeBackStep_55 rfl (lv_at hl 0 rfl) ?_
          refine k_ald hx hb hK hw (hL 10 0 rfl) 0 cke_10 rfl (k_in' c_2 c_3 (by decide)) dX5_takeBackStep_56 ?_
          refine lv_iconst (v := 1) hx hb dX5_takeBackStep_57 (by decide) ?_
          refine k_cv0 hw (k_rV (As := [.int (S 10 0 ((sp_X1_lastBegun S j).toNatClampNeg)), .int 1]) (rest := []) ⟨hx, hb, hml, hown, hts⟩ hK hO hw (ct_X3_putIn hL (up3 S 24 j ((sp_X1_lastBegun S j).toNatClampNeg) 3) (SF.ci (SF.up (by decide) (SF.rf _)) hI) (S 10 0 ((sp_X1_lastBegun S j).toNatClampNeg)) 1 _ (wk.hA hw hA)) (cwV 2 hts (gB_V w_ml_X5_95 w_im_X3_putIn w_se_X3_putIn w_in_X3 w_co_X3_putIn) rfl rfl rfl (by decide +kernel) ⟨by decide, by decide⟩) (hL 2 0 rfl) cke_2 rfl rfl hl.1 rfl (Nat.le_of_ble_eq_true rfl) dX5_takeBackStep_58 ⟨Nat.le_of_ble_eq_true rfl, Nat.le_of_ble_eq_true rfl⟩) (fun H locs hw => ?_)
          exact k_vretE hx hb hr hlocks hw hE dX5_takeBackStep_61
      · have hE := hE.trans (if_neg c_3)
        exact k_vretE hx hb hr hlocks hw hE dX5_takeBackStep_23
  · have hE := hE.trans (if_pos c_1)
    exact k_vretE hx hb hr hlocks hw hE dX5_takeBackStep_7
