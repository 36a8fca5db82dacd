abbrev rm_X5_ofStep_n : Room := { frames := 5, cells := 0, slots := 0, locals := 116 }
noncomputable def rw_X5_ofStep_n (S : (Nat → Nat → Nat → Int32)) (p2 : Int32) (p3 : Int32) (q : Nat) : Int32 × (Nat → Nat → Nat → Int32) := (sp_X5_foreseenOfStep (sp_X0_foresee S q (S 0 0 1) (-1) 0) q p2 p3, (sp_X0_foresee S q (S 0 0 1) (-1) 0))
/-- sealed: it unfolds by un_ alone -/
noncomputable def sp_X5_ofStep_n : (Nat → Nat → Nat → Int32) → Int32 → Int32 → Nat → (Int32 × (Nat → Nat → Nat → Int32)) := Classical.choose (⟨rw_X5_ofStep_n, rfl⟩ : ∃ f, f = rw_X5_ofStep_n)
theorem un_X5_ofStep_n (S : (Nat → Nat → Nat → Int32)) (p2 : Int32) (p3 : Int32) (q : Nat) : sp_X5_ofStep_n S p2 p3 q = rw_X5_ofStep_n S p2 p3 q := (congrFun (congrFun (congrFun (congrFun (Classical.choose_spec (⟨rw_X5_ofStep_n, rfl⟩ : ∃ f, f = rw_X5_ofStep_n)) S) p2) p3) q)
theorem sf_X5_ofStep_n (S : (Nat → Nat → Nat → Int32)) (p2 : Int32) (p3 : Int32) (q : Nat) : SF S (sp_X5_ofStep_n S p2 p3 q).2 := by
  rw [un_X5_ofStep_n]
  unfold rw_X5_ofStep_n
  exact (SF.tr (SF.rf _) (sf_X0_foresee S q (S 0 0 1) (-1) 0))

set_option maxHeartbeats 1000000 in
set_option maxRecDepth 100000 in
theorem ct_X5_ofStep_n {l : Launch} {D : va_G} {cI cG cJ cO : ClassId} {K0 : Nat → Nat} {A : Nat → Prop} {L : List (Nat × Nat)} {ad : Nat → Nat → Nat} {ce : Nat → Nat → va_E} (hL : ∀ f o, cid f o = true → (f, o) ∈ L) (S : (Nat → Nat → Nat → Int32)) (hI : CI S) (p2 : Int32) (p3 : Int32) (q : Nat) (hq : q < (S 0 0 0).toNatClampNeg) (h0 : ¬ p2 < 0) (h1 : ¬ 12 ≤ p2) (h2 : ¬ sp_X5_has (S 6 q 0) p2 = 0) (h3 : ¬ sp_X5_isWithin p3 0 5 = 0) (sz : Nat) (hA : ∀ q, sz ≤ q → A q) : Met l yX5_ofStep bw_X5_ofStep rm_X5_ofStep_n (kP D (ktys cI cG cJ cO) K0 A L ad (cK cI cJ ad ce S) sz [.ref (ad 0 0), .int (nI q), .int p2, .int p3]) (kQi D A (sp_X5_ofStep_n S p2 p3 q).1 L ad (cK cI cJ ad ce (sp_X5_ofStep_n S p2 p3 q).2)) 0 0 A := by
  refine Met.ofW (cc := cX5_ofStep) (maxL := 5) (ret := (some .int)) (by decide) rfl ?_
  intro p e s m args below meth c s₁ B hml hv
  obtain ⟨hav, hsz, hP, hD, hK, hO⟩ := hv
  have hx := B.exec
  have hb := B.bytes
  have hr := B.returns
  have hts : ∀ w ∈ BIG, w.before args s = true := fun w h => atoms_spec (ws := bw_X5_ofStep) B.pre w (List.mem_cons_of_mem _ h)
  have hown : s.vm.findClass RX5 = some m.cls := findClass_of_methodNamed B.named
  have hlocks := B.notSynchronized
  subst hsz
  have hw := wk.start hP hD
  refine k_start (by rfl) hav (Nat.le_of_ble_eq_true rfl) (fun ls hl => ?_)
  have hl : lv_has ls 5 [(0, .ref (ad 0 0)), (1, .int (nI q)), (2, .int p2), (3, .int p3)] := hl
  have hE : sp_X5_ofStep_n S p2 p3 q = (sp_X5_foreseenOfStep (sp_X0_foresee S q (S 0 0 1) (-1) 0) q p2 p3, (sp_X0_foresee S q (S 0 0 1) (-1) 0)) := un_X5_ofStep_n S p2 p3 q
  refine lv_aload_n hx hb dX5_ofStep_0 rfl (lv_at hl 0 rfl) ?_
  refine lv_iload_n hx hb dX5_ofStep_1 rfl (lv_at hl 1 rfl) ?_
  refine k_cr0 hw (k_rV (As := [.int (nI q)]) (rest := []) ⟨hx, hb, hml, hown, hts⟩ hK hO hw (ct_X5_joinerAt_n hL S (SF.ci (SF.rf _) hI) q hq _ (wk.hA hw hA)) (cwV 1 hts (gB_V w_ml_X5_179 w_im_X5_joinerAt w_se_X5_joinerAt w_in_X5 w_co_X5_joinerAt) rfl rfl rfl (by decide +kernel) ⟨by decide, by decide⟩) (hL 0 0 rfl) cke_0 rfl rfl hl.1 rfl (Nat.le_of_ble_eq_true rfl) dX5_ofStep_2 ⟨Nat.le_of_ble_eq_true rfl, Nat.le_of_ble_eq_true rfl⟩) (fun H locs hw => ?_)
  refine lv_astore (lv' := [(4, .ref (ad 6 q)), (0, .ref (ad 0 0)), (1, .int (nI q)), (2, .int p2), (3, .int p3)]) hx hb dX5_ofStep_5 hl (by decide) rfl (fun ls hl => ?_)
  refine lv_iload_n hx hb dX5_ofStep_7 rfl (lv_at hl 3 rfl) ?_
  refine lv_if_lt (tgt := 29) hx hb dX5_ofStep_8 (by decide) (fun h => absurd h h0) (fun _ => ?_)
  refine lv_iload_n hx hb dX5_ofStep_11 rfl (lv_at hl 3 rfl) ?_
  refine lv_bipush (v := 12) hx hb dX5_ofStep_12 (by decide) ?_
  refine lv_icmp_ge (tgt := 29) hx hb dX5_ofStep_14 (by decide) (fun h => absurd h h1) (fun _ => ?_)
  refine lv_aload hx hb dX5_ofStep_17 (lv_at hl 0 rfl) ?_
  refine k_get (C := RX1) (T := TX1) (N := 8) (v := .int (S 6 q 0)) hx hb hts inB_X1 hown hK hw (hL 6 q (cidJ6 (Nat.lt_of_lt_of_le hq (CI.n5 hI)))) cke_6 rfl 5 (by decide) (hts _ w_f_X5_183) (fun _ h9 => h9) rfl dX5_ofStep_19 ?_
  refine lv_iload_n hx hb dX5_ofStep_22 rfl (lv_at hl 3 rfl) ?_
  refine k_ci0 hw (k_rS (As := [.int (S 6 q 0), .int p2]) (rest := []) ⟨hx, hb, hml, hown, hts⟩ hK hO hw (ct_X5_has (S 6 q 0) p2 _ (wk.hA hw hA)) (va_cwS 2 hts (gB_S w_ml_X5_226 w_st_X5_has w_in_X5 w_co_X5_has) rfl rfl rfl (by decide +kernel) ⟨by decide, by decide⟩) rfl hl.1 rfl (Nat.le_of_ble_eq_true rfl) dX5_ofStep_23 ⟨Nat.le_of_ble_eq_true rfl, Nat.le_of_ble_eq_true rfl⟩) (fun H locs hw => ?_)
  refine lv_if_ne (tgt := 39) hx hb dX5_ofStep_26 (by decide) (fun _ => ?_) (fun h => absurd h h2)
  refine lv_iload_n hx hb dX5_ofStep_39 rfl (lv_at hl 4 rfl) ?_
  refine lv_iconst (v := 0) hx hb dX5_ofStep_40 (by decide) ?_
  refine lv_iconst (v := 5) hx hb dX5_ofStep_41 (by decide) ?_
  refine k_ci0 hw (k_rS (As := [.int p3, .int 0, .int 5]) (rest := []) ⟨hx, hb, hml, hown, hts⟩ hK hO hw (ct_X5_isWithin p3 0 5 _ (wk.hA hw hA)) (va_cwS 3 hts (gB_S w_ml_X5_46 w_st_X5_isWithin w_in_X5 w_co_X5_isWithin) rfl rfl rfl (by decide +kernel) ⟨by decide, by decide⟩) rfl hl.1 rfl (Nat.le_of_ble_eq_true rfl) dX5_ofStep_42 ⟨Nat.le_of_ble_eq_true rfl, Nat.le_of_ble_eq_true rfl⟩) (fun H locs hw => ?_)
  refine lv_if_ne (tgt := 58) hx hb dX5_ofStep_45 (by decide) (fun _ => ?_) (fun h => absurd h h3)
  refine lv_aload_n hx hb dX5_ofStep_58 rfl (lv_at hl 1 rfl) ?_
  refine k_get (C := RX5) (T := TX5) (N := 7) (v := .ref (ad 4 0)) hx hb hts inB_X5 hown hK hw (hL 0 0 rfl) cke_0 rfl 3 (by decide) (hts _ w_f_X5_35) (fun _ h9 => h9) rfl dX5_ofStep_59 ?_
  refine lv_aload hx hb dX5_ofStep_62 (lv_at hl 0 rfl) ?_
  refine lv_aload_n hx hb dX5_ofStep_64 rfl (lv_at hl 1 rfl) ?_
  refine k_get (C := RX5) (T := TX5) (N := 7) (v := .int (S 0 0 1)) hx hb hts inB_X5 hown hK hw (hL 0 0 rfl) cke_0 rfl 6 (by decide) (hts _ w_f_X5_160) (fun _ h9 => h9) rfl dX5_ofStep_65 ?_
  refine lv_iconst (v := (-1)) hx hb dX5_ofStep_68 (by decide) ?_
  refine lv_iconst (v := 0) hx hb dX5_ofStep_69 (by decide) ?_
  refine k_cv0 hw (k_rV (As := [.ref (ad 6 q), .int (S 0 0 1), .int (-1), .int 0]) (rest := []) ⟨hx, hb, hml, hown, hts⟩ hK hO hw (ct_X0_foresee hL S (SF.ci (SF.rf _) hI) q (Nat.lt_of_lt_of_le hq (CI.n5 hI)) (S 0 0 1) (-1) 0 _ (wk.hA hw hA)) (cwV 4 hts (gB_V w_ml_X5_233 w_im_X0_foresee w_se_X0_foresee w_in_X0 w_co_X0_foresee) rfl rfl rfl (by decide +kernel) ⟨by decide, by decide⟩) (hL 4 0 rfl) cke_4 rfl rfl hl.1 rfl (Nat.le_of_ble_eq_true rfl) dX5_ofStep_70 ⟨Nat.le_of_ble_eq_true rfl, Nat.le_of_ble_eq_true rfl⟩) (fun H locs hw => ?_)
  refine lv_aload_n hx hb dX5_ofStep_73 rfl (lv_at hl 1 rfl) ?_
  refine lv_aload hx hb dX5_ofStep_74 (lv_at hl 0 rfl) ?_
  refine lv_iload_n hx hb dX5_ofStep_76 rfl (lv_at hl 3 rfl) ?_
  refine lv_iload_n hx hb dX5_ofStep_77 rfl (lv_at hl 4 rfl) ?_
  refine k_ci0 hw (k_rV (As := [.ref (ad 6 q), .int p2, .int p3]) (rest := []) ⟨hx, hb, hml, hown, hts⟩ hK hO hw (ct_X5_foreseenOfStep hL (sp_X0_foresee S q (S 0 0 1) (-1) 0) (SF.ci (SF.tr (SF.rf _) (sf_X0_foresee S q (S 0 0 1) (-1) 0)) hI) q (Nat.lt_of_lt_of_le hq (CI.n5 hI)) p2 p3 _ (wk.hA hw hA)) (cwV 3 hts (gB_V w_ml_X5_237 w_im_X5_foreseenOfStep w_se_X5_foreseenOfStep w_in_X5 w_co_X5_foreseenOfStep) rfl rfl rfl (by decide +kernel) ⟨by decide, by decide⟩) (hL 0 0 rfl) cke_0 rfl rfl hl.1 rfl (Nat.le_of_ble_eq_true rfl) dX5_ofStep_78 ⟨Nat.le_of_ble_eq_true rfl, Nat.le_of_ble_eq_true rfl⟩) (fun H locs hw => ?_)
  exact k_iretE hx hb hr hlocks rfl hw hE dX5_ofStep_81

abbrev rm_X5_ofJoiner_n : Room := { frames := 5, cells := 0, slots := 0, locals := 116 }
noncomputable def rw_X5_ofJoiner_n (S : (Nat → Nat → Nat → Int32)) (p2 : Int32) (q : Nat) : Int32 × (Nat → Nat → Nat → Int32) := (sp_X5_foreseenOfJoiner (sp_X0_foresee S q (S 0 0 1) (-1) 0) q p2, (sp_X0_foresee S q (S 0 0 1) (-1) 0))
/-- sealed: it unfolds by un_ alone -/
noncomputable def sp_X5_ofJoiner_n : (Nat → Nat → Nat → Int32) → Int32 → Nat → (Int32 × (Nat → Nat → Nat → Int32)) := Classical.choose (⟨rw_X5_ofJoiner_n, rfl⟩ : ∃ f, f = rw_X5_ofJoiner_n)
theorem un_X5_ofJoiner_n (S : (Nat → Nat → Nat → Int32)) (p2 : Int32) (q : Nat) : sp_X5_ofJoiner_n S p2 q = rw_X5_ofJoiner_n S p2 q := (congrFun (congrFun (congrFun (Classical.choose_spec (⟨rw_X5_ofJoiner_n, rfl⟩ : ∃ f, f = rw_X5_ofJoiner_n)) S) p2) q)
theorem sf_X5_ofJoiner_n (S : (Nat → Nat → Nat → Int32)) (p2 : Int32) (q : Nat) : SF S (sp_X5_ofJoiner_n S p2 q).2 := by
  rw [un_X5_ofJoiner_n]
  unfold rw_X5_ofJoiner_n
  exact (SF.tr (SF.rf _) (sf_X0_foresee S q (S 0 0 1) (-1) 0))

set_option maxHeartbeats 1000000 in
set_option maxRecDepth 100000 in
theorem ct_X5_ofJoiner_n {l : Launch} {D : va_G} {cI cG cJ cO : ClassId} {K0 : Nat → Nat} {A : Nat → Prop} {L : List (Nat × Nat)} {ad : Nat → Nat → Nat} {ce : Nat → Nat → va_E} (hL : ∀ f o, cid f o = true → (f, o) ∈ L) (S : (Nat → Nat → Nat → Int32)) (hI : CI S) (p2 : Int32) (q : Nat) (hq : q < (S 0 0 0).toNatClampNeg) (h3 : ¬ sp_X5_isWithin p2 0 6 = 0) (sz : Nat) (hA : ∀ q, sz ≤ q → A q) : Met l yX5_ofJoiner bw_X5_ofJoiner rm_X5_ofJoiner_n (kP D (ktys cI cG cJ cO) K0 A L ad (cK cI cJ ad ce S) sz [.ref (ad 0 0), .int (nI q), .int p2]) (kQi D A (sp_X5_ofJoiner_n S p2 q).1 L ad (cK cI cJ ad ce (sp_X5_ofJoiner_n S p2 q).2)) 0 0 A := by
  refine Met.ofW (cc := cX5_ofJoiner) (maxL := 4) (ret := (some .int)) (by decide) rfl ?_
  intro p e s m args below meth c s₁ B hml hv
  obtain ⟨hav, hsz, hP, hD, hK, hO⟩ := hv
  have hx := B.exec
  have hb := B.bytes
  have hr := B.returns
  have hts : ∀ w ∈ BIG, w.before args s = true := fun w h => atoms_spec (ws := bw_X5_ofJoiner) B.pre w (List.mem_cons_of_mem _ h)
  have hown : s.vm.findClass RX5 = some m.cls := findClass_of_methodNamed B.named
  have hlocks := B.notSynchronized
  subst hsz
  have hw := wk.start hP hD
  refine k_start (by rfl) hav (Nat.le_of_ble_eq_true rfl) (fun ls hl => ?_)
  have hl : lv_has ls 4 [(0, .ref (ad 0 0)), (1, .int (nI q)), (2, .int p2)] := hl
  have hE : sp_X5_ofJoiner_n S p2 q = (sp_X5_foreseenOfJoiner (sp_X0_foresee S q (S 0 0 1) (-1) 0) q p2, (sp_X0_foresee S q (S 0 0 1) (-1) 0)) := un_X5_ofJoiner_n S p2 q
  refine lv_aload_n hx hb dX5_ofJoiner_0 rfl (lv_at hl 0 rfl) ?_
  refine lv_iload_n hx hb dX5_ofJoiner_1 rfl (lv_at hl 1 rfl) ?_
  refine k_cr0 hw (k_rV (As := [.int (nI q)]) (rest := []) ⟨hx, hb, hml, hown, hts⟩ hK hO hw (ct_X5_joinerAt_n hL S (SF.ci (SF.rf _) hI) q hq _ (wk.hA hw hA)) (cwV 1 hts (gB_V w_ml_X5_179 w_im_X5_joinerAt w_se_X5_joinerAt w_in_X5 w_co_X5_joinerAt) rfl rfl rfl (by decide +kernel) ⟨by decide, by decide⟩) (hL 0 0 rfl) cke_0 rfl rfl hl.1 rfl (Nat.le_of_ble_eq_true rfl) dX5_ofJoiner_2 ⟨Nat.le_of_ble_eq_true rfl, Nat.le_of_ble_eq_true rfl⟩) (fun H locs hw => ?_)
  refine lv_astore_n (lv' := [(3, .ref (ad 6 q)), (0, .ref (ad 0 0)), (1, .int (nI q)), (2, .int p2)]) hx hb dX5_ofJoiner_5 rfl hl (by decide) rfl (fun ls hl => ?_)
  refine lv_iload_n hx hb dX5_ofJoiner_6 rfl (lv_at hl 3 rfl) ?_
  refine lv_iconst (v := 0) hx hb dX5_ofJoiner_7 (by decide) ?_
  refine lv_bipush (v := 6) hx hb dX5_ofJoiner_8 (by decide) ?_
  refine k_ci0 hw (k_rS (As := [.int p2, .int 0, .int 6]) (rest := []) ⟨hx, hb, hml, hown, hts⟩ hK hO hw (ct_X5_isWithin p2 0 6 _ (wk.hA hw hA)) (va_cwS 3 hts (gB_S w_ml_X5_46 w_st_X5_isWithin w_in_X5 w_co_X5_isWithin) rfl rfl rfl (by decide +kernel) ⟨by decide, by decide⟩) rfl hl.1 rfl (Nat.le_of_ble_eq_true rfl) dX5_ofJoiner_10 ⟨Nat.le_of_ble_eq_true rfl, Nat.le_of_ble_eq_true rfl⟩) (fun H locs hw => ?_)
  refine lv_if_ne (tgt := 26) hx hb dX5_ofJoiner_13 (by decide) (fun _ => ?_) (fun h => absurd h h3)
  refine lv_aload_n hx hb dX5_ofJoiner_26 rfl (lv_at hl 1 rfl) ?_
  refine k_get (C := RX5) (T := TX5) (N := 7) (v := .ref (ad 4 0)) hx hb hts inB_X5 hown hK hw (hL 0 0 rfl) cke_0 rfl 3 (by decide) (hts _ w_f_X5_35) (fun _ h9 => h9) rfl dX5_ofJoiner_27 ?_
  refine lv_aload_n hx hb dX5_ofJoiner_30 rfl (lv_at hl 0 rfl) ?_
  refine lv_aload_n hx hb dX5_ofJoiner_31 rfl (lv_at hl 1 rfl) ?_
  refine k_get (C := RX5) (T := TX5) (N := 7) (v := .int (S 0 0 1)) hx hb hts inB_X5 hown hK hw (hL 0 0 rfl) cke_0 rfl 6 (by decide) (hts _ w_f_X5_160) (fun _ h9 => h9) rfl dX5_ofJoiner_32 ?_
  refine lv_iconst (v := (-1)) hx hb dX5_ofJoiner_35 (by decide) ?_
  refine lv_iconst (v := 0) hx hb dX5_ofJoiner_36 (by decide) ?_
  refine k_cv0 hw (k_rV (As := [.ref (ad 6 q), .int (S 0 0 1), .int (-1), .int 0]) (rest := []) ⟨hx, hb, hml, hown, hts⟩ hK hO hw (ct_X0_foresee hL S (SF.ci (SF.rf _) hI) q (Nat.lt_of_lt_of_le hq (CI.n5 hI)) (S 0 0 1) (-1) 0 _ (wk.hA hw hA)) (cwV 4 hts (gB_V w_ml_X5_233 w_im_X0_foresee w_se_X0_foresee w_in_X0 w_co_X0_foresee) rfl rfl rfl (by decide +kernel) ⟨by decide, by decide⟩) (hL 4 0 rfl) cke_4 rfl rfl hl.1 rfl (Nat.le_of_ble_eq_true rfl) dX5_ofJoiner_37 ⟨Nat.le_of_ble_eq_true rfl, Nat.le_of_ble_eq_true rfl⟩) (fun H locs hw => ?_)
  refine lv_aload_n hx hb dX5_ofJoiner_40 rfl (lv_at hl 1 rfl) ?_
  refine lv_aload_n hx hb dX5_ofJoiner_41 rfl (lv_at hl 0 rfl) ?_
  refine lv_iload_n hx hb dX5_ofJoiner_42 rfl (lv_at hl 3 rfl) ?_
  refine k_ci0 hw (k_rV (As := [.ref (ad 6 q), .int p2]) (rest := []) ⟨hx, hb, hml, hown, hts⟩ hK hO hw (ct_X5_foreseenOfJoiner hL (sp_X0_foresee S q (S 0 0 1) (-1) 0) (SF.ci (SF.tr (SF.rf _) (sf_X0_foresee S q (S 0 0 1) (-1) 0)) hI) q (Nat.lt_of_lt_of_le hq (CI.n5 hI)) p2 _ (wk.hA hw hA)) (cwV 2 hts (gB_V w_ml_X5_243 w_im_X5_foreseenOfJoiner w_se_X5_foreseenOfJoiner w_in_X5 w_co_X5_foreseenOfJoiner) rfl rfl rfl (by decide +kernel) ⟨by decide, by decide⟩) (hL 0 0 rfl) cke_0 rfl rfl hl.1 rfl (Nat.le_of_ble_eq_true rfl) dX5_ofJoiner_43 ⟨Nat.le_of_ble_eq_true rfl, Nat.le_of_ble_eq_true rfl⟩) (fun H locs hw => ?_)
  exact k_iretE hx hb hr hlocks rfl hw hE dX5_ofJoiner_46

abbrev rm_X5_rightOn_n : Room := { frames := 5, cells := 0, slots := 0, locals := 116 }
noncomputable def rw_X5_rightOn_n (S : (Nat → Nat → Nat → Int32)) (p2 : Int32) (q : Nat) : Int32 × (Nat → Nat → Nat → Int32) := (sp_X0_dayBehind (sp_X0_foresee S q (S 0 0 1) (-1) 0) ((sp_X0_foresee S q (S 0 0 1) (-1) 0) 12 0 p2.toNatClampNeg), (sp_X0_foresee S q (S 0 0 1) (-1) 0))
/-- sealed: it unfolds by un_ alone -/
noncomputable def sp_X5_rightOn_n : (Nat → Nat → Nat → Int32) → Int32 → Nat → (Int32 × (Nat → Nat → Nat → Int32)) := Classical.choose (⟨rw_X5_rightOn_n, rfl⟩ : ∃ f, f = rw_X5_rightOn_n)
theorem un_X5_rightOn_n (S : (Nat → Nat → Nat → Int32)) (p2 : Int32) (q : Nat) : sp_X5_rightOn_n S p2 q = rw_X5_rightOn_n S p2 q := (congrFun (congrFun (congrFun (Classical.choose_spec (⟨rw_X5_rightOn_n, rfl⟩ : ∃ f, f = rw_X5_rightOn_n)) S) p2) q)
theorem sf_X5_rightOn_n (S : (Nat → Nat → Nat → Int32)) (p2 : Int32) (q : Nat) : SF S (sp_X5_rightOn_n S p2 q).2 := by
  rw [un_X5_rightOn_n]
  unfold rw_X5_rightOn_n
  exact (SF.tr (SF.rf _) (sf_X0_foresee S q (S 0 0 1) (-1) 0))

set_option maxHeartbeats 1000000 in
set_option maxRecDepth 100000 in
theorem ct_X5_rightOn_n {l : Launch} {D : va_G} {cI cG cJ cO : ClassId} {K0 : Nat → Nat} {A : Nat → Prop} {L : List (Nat × Nat)} {ad : Nat → Nat → Nat} {ce : Nat → Nat → va_E} (hL : ∀ f o, cid f o = true → (f, o) ∈ L) (S : (Nat → Nat → Nat → Int32)) (hI : CI S) (p2 : Int32) (q : Nat) (hq : q < (S 0 0 0).toNatClampNeg) (h0 : ¬ p2 < 0) (h1 : p2 < S 1 0 1) (sz : Nat) (hA : ∀ q, sz ≤ q → A q) : Met l yX5_rightOn bw_X5_rightOn rm_X5_rightOn_n (kP D (ktys cI cG cJ cO) K0 A L ad (cK cI cJ ad ce S) sz [.ref (ad 0 0), .int (nI q), .int p2]) (kQi D A (sp_X5_rightOn_n S p2 q).1 L ad (cK cI cJ ad ce (sp_X5_rightOn_n S p2 q).2)) 0 0 A := by
  refine Met.ofW (cc := cX5_rightOn) (maxL := 4) (ret := (some .int)) (by decide) rfl ?_
  intro p e s m args below meth c s₁ B hml hv
  obtain ⟨hav, hsz, hP, hD, hK, hO⟩ := hv
  have hx := B.exec
  have hb := B.bytes
  have hr := B.returns
  have hts : ∀ w ∈ BIG, w.before args s = true := fun w h => atoms_spec (ws := bw_X5_rightOn) B.pre w (List.mem_cons_of_mem _ h)
  have hown : s.vm.findClass RX5 = some m.cls := findClass_of_methodNamed B.named
  have hlocks := B.notSynchronized
  subst hsz
  have hw := wk.start hP hD
  refine k_start (by rfl) hav (Nat.le_of_ble_eq_true rfl) (fun ls hl => ?_)
  have hl : lv_has ls 4 [(0, .ref (ad 0 0)), (1, .int (nI q)), (2, .int p2)] := hl
  have hE : sp_X5_rightOn_n S p2 q = (sp_X0_dayBehind (sp_X0_foresee S q (S 0 0 1) (-1) 0) ((sp_X0_foresee S q (S 0 0 1) (-1) 0) 12 0 p2.toNatClampNeg), (sp_X0_foresee S q (S 0 0 1) (-1) 0)) := un_X5_rightOn_n S p2 q
  refine lv_aload_n hx hb dX5_rightOn_0 rfl (lv_at hl 0 rfl) ?_
  refine lv_iload_n hx hb dX5_rightOn_1 rfl (lv_at hl 1 rfl) ?_
  refine k_cr0 hw (k_rV (As := [.int (nI q)]) (rest := []) ⟨hx, hb, hml, hown, hts⟩ hK hO hw (ct_X5_joinerAt_n hL S (SF.ci (SF.rf _) hI) q hq _ (wk.hA hw hA)) (cwV 1 hts (gB_V w_ml_X5_179 w_im_X5_joinerAt w_se_X5_joinerAt w_in_X5 w_co_X5_joinerAt) rfl rfl rfl (by decide +kernel) ⟨by decide, by decide⟩) (hL 0 0 rfl) cke_0 rfl rfl hl.1 rfl (Nat.le_of_ble_eq_true rfl) dX5_rightOn_2 ⟨Nat.le_of_ble_eq_true rfl, Nat.le_of_ble_eq_true rfl⟩) (fun H locs hw => ?_)
  refine lv_astore_n (lv' := [(3, .ref (ad 6 q)), (0, .ref (ad 0 0)), (1, .int (nI q)), (2, .int p2)]) hx hb dX5_rightOn_5 rfl hl (by decide) rfl (fun ls hl => ?_)
  refine lv_iload_n hx hb dX5_rightOn_6 rfl (lv_at hl 3 rfl) ?_
  refine lv_if_lt (tgt := 21) hx hb dX5_rightOn_7 (by decide) (fun h => absurd h h0) (fun _ => ?_)
  refine lv_iload_n hx hb dX5_rightOn_10 rfl (lv_at hl 3 rfl) ?_
  refine lv_aload_n hx hb dX5_rightOn_11 rfl (lv_at hl 1 rfl) ?_
  refine k_get (C := RX5) (T := TX5) (N := 7) (v := .ref (ad 1 0)) hx hb hts inB_X5 hown hK hw (hL 0 0 rfl) cke_0 rfl 0 (by decide) (hts _ w_f_X5_10) (fun _ h9 => h9) rfl dX5_rightOn_12 ?_
  refine k_get (C := RX2) (T := TX2) (N := 8) (v := .int (S 1 0 1)) hx hb hts inB_X2 hown hK hw (hL 1 0 rfl) cke_1 rfl 7 (by decide) (hts _ w_f_X5_249) (fun _ h9 => h9) rfl dX5_rightOn_15 ?_
  refine lv_icmp_lt (tgt := 32) hx hb dX5_rightOn_18 (by decide) (fun _ => ?_) (fun h => absurd h1 h)
  refine lv_aload_n hx hb dX5_rightOn_32 rfl (lv_at hl 1 rfl) ?_
  refine k_get (C := RX5) (T := TX5) (N := 7) (v := .ref (ad 4 0)) hx hb hts inB_X5 hown hK hw (hL 0 0 rfl) cke_0 rfl 3 (by decide) (hts _ w_f_X5_35) (fun _ h9 => h9) rfl dX5_rightOn_33 ?_
  refine lv_aload_n hx hb dX5_rightOn_36 rfl (lv_at hl 0 rfl) ?_
  refine lv_aload_n hx hb dX5_rightOn_37 rfl (lv_at hl 1 rfl) ?_
  refine k_get (C := RX5) (T := TX5) (N := 7) (v := .int (S 0 0 1)) hx hb hts inB_X5 hown hK hw (hL 0 0 rfl) cke_0 rfl 6 (by decide) (hts _ w_f_X5_160) (fun _ h9 => h9) rfl dX5_rightOn_38 ?_
  refine lv_iconst (v := (-1)) hx hb dX5_rightOn_41 (by decide) ?_
  refine lv_iconst (v := 0) hx hb dX5_rightOn_42 (by decide) ?_
  refine k_cv0 hw (k_rV (As := [.ref (ad 6 q), .int (S 0 0 1), .int (-1), .int 0]) (rest := []) ⟨hx, hb, hml, hown, hts⟩ hK hO hw (ct_X0_foresee hL S (SF.ci (SF.rf _) hI) q (Nat.lt_of_lt_of_le hq (CI.n5 hI)) (S 0 0 1) (-1) 0 _ (wk.hA hw hA)) (cwV 4 hts (gB_V w_ml_X5_233 w_im_X0_foresee w_se_X0_foresee w_in_X0 w_co_X0_foresee) rfl rfl rfl (by decide +kernel) ⟨by decide, by decide⟩) (hL 4 0 rfl) cke_4 rfl rfl hl.1 rfl (Nat.le_of_ble_eq_true rfl) dX5_rightOn_43 ⟨Nat.le_of_ble_eq_true rfl, Nat.le_of_ble_eq_true rfl⟩) (fun H locs hw => ?_)
  refine lv_aload_n hx hb dX5_rightOn_46 rfl (lv_at hl 1 rfl) ?_
  refine k_get (C := RX5) (T := TX5) (N := 7) (v := .ref (ad 4 0)) hx hb hts inB_X5 hown hK hw (hL 0 0 rfl) cke_0 rfl 3 (by decide) (hts _ w_f_X5_35) (fun _ h9 => h9) rfl dX5_rightOn_47 ?_
  refine lv_aload_n hx hb dX5_rightOn_50 rfl (lv_at hl 1 rfl) ?_
  refine k_get (C := RX5) (T := TX5) (N := 7) (v := .ref (ad 1 0)) hx hb hts inB_X5 hown hK hw (hL 0 0 rfl) cke_0 rfl 0 (by decide) (hts _ w_f_X5_10) (fun _ h9 => h9) rfl dX5_rightOn_51 ?_
  refine k_get (C := RX2) (T := TX2) (N := 8) (v := .ref (ad 12 0)) hx hb hts inB_X2 hown hK hw (hL 1 0 rfl) cke_1 rfl 5 (by decide) (hts _ w_f_X5_273) (fun _ h9 => h9) rfl dX5_rightOn_54 ?_
  refine lv_iload_n hx hb dX5_rightOn_57 rfl (lv_at hl 3 rfl) ?_
  refine k_ald hx hb hK hw (hL 12 0 rfl) 0 cke_12 rfl (k_in' h0 h1 (CI.le2 hI (by decide))) dX5_rightOn_58 ?_
  refine k_ci0 hw (k_rV (As := [.int ((sp_X0_foresee S q (S 0 0 1) (-1) 0) 12 0 p2.toNatClampNeg)]) (rest := []) ⟨hx, hb, hml, hown, hts⟩ hK hO hw (ct_X0_dayBehind hL (sp_X0_foresee S q (S 0 0 1) (-1) 0) (SF.ci (SF.tr (SF.rf _) (sf_X0_foresee S q (S 0 0 1) (-1) 0)) hI) ((sp_X0_foresee S q (S 0 0 1) (-1) 0) 12 0 p2.toNatClampNeg) _ (wk.hA hw hA)) (cwV 1 hts (gB_V w_ml_X5_276 w_im_X0_dayBehind w_se_X0_dayBehind w_in_X0 w_co_X0_dayBehind) rfl rfl rfl (by decide +kernel) ⟨by decide, by decide⟩) (hL 4 0 rfl) cke_4 rfl rfl hl.1 rfl (Nat.le_of_ble_eq_true rfl) dX5_rightOn_59 ⟨Nat.le_of_ble_eq_true rfl, Nat.le_of_ble_eq_true rfl⟩) (fun H locs hw => ?_)
  exact k_iretE hx hb hr hlocks rfl hw hE dX5_rightOn_62
