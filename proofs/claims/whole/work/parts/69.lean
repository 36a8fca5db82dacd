abbrev bw_X10_step : List Cond := .code yX10_step cX10_step 6 (some .int) :: BIG
abbrev rm_X10_step : Room := { frames := 20, cells := 2, slots := 26, locals := 1000 }
noncomputable def sp_X10_step (S : (Nat → Nat → Nat → Int32)) (p1 : Int32) (p2 : Int32) (p3 : Int32) (p4 : Int32) : Option (Int32 × (Nat → Nat → Nat → Int32)) := if (sp_X10_isFrom p1 0 3) = 0 then ((sp_X10_start S 1 1).bind fun x_2 => (if x_2.1 = 0 then ((sp_X10_refuse x_2.2 (if S 1 0 0 = 12 then 1 else 0) 2).bind fun x_5 => (if x_5.1 = 0 then (if 12 ≤ (S 1 0 0).toNatClampNeg then none else (some ((((addS (elS x_5.2 ((S 1 0 0).toNatClampNeg) p1 p2 p3 p4) 0 (nI ((S 1 0 0).toNatClampNeg + 1))) 1 0 0) - 1, (addS (elS x_5.2 ((S 1 0 0).toNatClampNeg) p1 p2 p3 p4) 0 (nI ((S 1 0 0).toNatClampNeg + 1))))))) else (some ((0, x_5.2))))) else (some ((0, x_2.2))))) else (if (sp_X10_isFrom p2 1 9) = 0 then ((sp_X10_start S 1 1).bind fun x_9 => (if x_9.1 = 0 then ((sp_X10_refuse x_9.2 (if S 1 0 0 = 12 then 1 else 0) 2).bind fun x_12 => (if x_12.1 = 0 then (if 12 ≤ (S 1 0 0).toNatClampNeg then none else (some ((((addS (elS x_12.2 ((S 1 0 0).toNatClampNeg) p1 p2 p3 p4) 0 (nI ((S 1 0 0).toNatClampNeg + 1))) 1 0 0) - 1, (addS (elS x_12.2 ((S 1 0 0).toNatClampNeg) p1 p2 p3 p4) 0 (nI ((S 1 0 0).toNatClampNeg + 1))))))) else (some ((0, x_12.2))))) else (some ((0, x_9.2))))) else ((sp_X10_isNoSet S p3).bind fun x_15 => (if x_15 = 0 then (if p1 = 0 then (if (sp_X10_isFrom p4 0 255) = 0 then ((sp_X10_start S 1 1).bind fun x_39 => (if x_39.1 = 0 then ((sp_X10_refuse x_39.2 (if S 1 0 0 = 12 then 1 else 0) 2).bind fun x_42 => (if x_42.1 = 0 then (if 12 ≤ (S 1 0 0).toNatClampNeg then none else (some ((((addS (elS x_42.2 ((S 1 0 0).toNatClampNeg) p1 p2 p3 p4) 0 (nI ((S 1 0 0).toNatClampNeg + 1))) 1 0 0) - 1, (addS (elS x_42.2 ((S 1 0 0).toNatClampNeg) p1 p2 p3 p4) 0 (nI ((S 1 0 0).toNatClampNeg + 1))))))) else (some ((0, x_42.2))))) else (some ((0, x_39.2))))) else (if p1 = 1 then ((sp_X10_start S (if (sp_X10_isFrom p4 0 3) = 0 then 1 else 0) 1).bind fun x_53 => (if x_53.1 = 0 then ((sp_X10_refuse x_53.2 (if S 1 0 0 = 12 then 1 else 0) 2).bind fun x_56 => (if x_56.1 = 0 then (if 12 ≤ (S 1 0 0).toNatClampNeg then none else (some ((((addS (elS x_56.2 ((S 1 0 0).toNatClampNeg) p1 p2 p3 p4) 0 (nI ((S 1 0 0).toNatClampNeg + 1))) 1 0 0) - 1, (addS (elS x_56.2 ((S 1 0 0).toNatClampNeg) p1 p2 p3 p4) 0 (nI ((S 1 0 0).toNatClampNeg + 1))))))) else (some ((0, x_56.2))))) else (some ((0, x_53.2))))) else ((sp_X10_start S 0 1).bind fun x_46 => (if x_46.1 = 0 then ((sp_X10_refuse x_46.2 (if S 1 0 0 = 12 then 1 else 0) 2).bind fun x_49 => (if x_49.1 = 0 then (if 12 ≤ (S 1 0 0).toNatClampNeg then none else (some ((((addS (elS x_49.2 ((S 1 0 0).toNatClampNeg) p1 p2 p3 p4) 0 (nI ((S 1 0 0).toNatClampNeg + 1))) 1 0 0) - 1, (addS (elS x_49.2 ((S 1 0 0).toNatClampNeg) p1 p2 p3 p4) 0 (nI ((S 1 0 0).toNatClampNeg + 1))))))) else (some ((0, x_49.2))))) else (some ((0, x_46.2))))))) else (if p1 = 1 then ((sp_X10_start S (if (sp_X10_isFrom p4 0 3) = 0 then 1 else 0) 1).bind fun x_32 => (if x_32.1 = 0 then ((sp_X10_refuse x_32.2 (if S 1 0 0 = 12 then 1 else 0) 2).bind fun x_35 => (if x_35.1 = 0 then (if 12 ≤ (S 1 0 0).toNatClampNeg then none else (some ((((addS (elS x_35.2 ((S 1 0 0).toNatClampNeg) p1 p2 p3 p4) 0 (nI ((S 1 0 0).toNatClampNeg + 1))) 1 0 0) - 1, (addS (elS x_35.2 ((S 1 0 0).toNatClampNeg) p1 p2 p3 p4) 0 (nI ((S 1 0 0).toNatClampNeg + 1))))))) else (some ((0, x_35.2))))) else (some ((0, x_32.2))))) else ((sp_X10_start S 0 1).bind fun x_25 => (if x_25.1 = 0 then ((sp_X10_refuse x_25.2 (if S 1 0 0 = 12 then 1 else 0) 2).bind fun x_28 => (if x_28.1 = 0 then (if 12 ≤ (S 1 0 0).toNatClampNeg then none else (some ((((addS (elS x_28.2 ((S 1 0 0).toNatClampNeg) p1 p2 p3 p4) 0 (nI ((S 1 0 0).toNatClampNeg + 1))) 1 0 0) - 1, (addS (elS x_28.2 ((S 1 0 0).toNatClampNeg) p1 p2 p3 p4) 0 (nI ((S 1 0 0).toNatClampNeg + 1))))))) else (some ((0, x_28.2))))) else (some ((0, x_25.2))))))) else ((sp_X10_start S 1 1).bind fun x_17 => (if x_17.1 = 0 then ((sp_X10_refuse x_17.2 (if S 1 0 0 = 12 then 1 else 0) 2).bind fun x_20 => (if x_20.1 = 0 then (if 12 ≤ (S 1 0 0).toNatClampNeg then none else (some ((((addS (elS x_20.2 ((S 1 0 0).toNatClampNeg) p1 p2 p3 p4) 0 (nI ((S 1 0 0).toNatClampNeg + 1))) 1 0 0) - 1, (addS (elS x_20.2 ((S 1 0 0).toNatClampNeg) p1 p2 p3 p4) 0 (nI ((S 1 0 0).toNatClampNeg + 1))))))) else (some ((0, x_20.2))))) else (some ((0, x_17.2))))))))
set_option maxHeartbeats 1000000 in
set_option maxRecDepth 100000 in
theorem ct_X10_step {l : Launch} {D : va_G} {cI cG cJ cO : ClassId} {K0 : Nat → Nat} {A : Nat → Prop} {L : List (Nat × Nat)} {ad : Nat → Nat → Nat} {ce : Nat → Nat → va_E} {cp : Nat → Nat} {S : (Nat → Nat → Nat → Int32)} (hR : MR S L cp) (hI : CI S) {p1 : Int32} {p2 : Int32} {p3 : Int32} {p4 : Int32} (hF : MF S L cp) (h59 : (59, 0) ∉ L) {v : Int32 × (Nat → Nat → Nat → Int32)} (hE : sp_X10_step S p1 p2 p3 p4 = some v) (sz : Nat) (hA : ∀ q, sz ≤ q → A q) : Met l yX10_step bw_X10_step (rm_X10_step) (kP D (ktys cI cG cJ cO) K0 A L ad (mK cI cO K0 ad cp ce S) sz [.ref (ad 30 0), .int p1, .int p2, .int p3, .int p4]) (kQg D A v.1 v.2 L ad cI cO K0 ce) 2 26 A := by
  refine Met.ofW (cc := cX10_step) (maxL := 6) (ret := (some .int)) (by decide) rfl ?_
  intro p e s m args below meth c s₁ B hml hv_
  obtain ⟨hav, hsz, hP, hD, hK, hO⟩ := hv_
  have hx := B.exec
  have hb := B.bytes
  have hr := B.returns
  have hts : ∀ w ∈ BIG, w.before args s = true := fun w h => atoms_spec (ws := bw_X10_step) B.pre w (List.mem_cons_of_mem _ h)
  have hown : s.vm.findClass RX10 = some m.cls := findClass_of_methodNamed B.named
  have hlocks := B.notSynchronized
  subst hsz
  have hw := wk.start hP hD
  refine k_start (by rfl) hav (Nat.le_of_ble_eq_true rfl) (fun ls hl => ?_)
  have hl : lv_has ls 6 [(0, .ref (ad 30 0)), (1, .int p1), (2, .int p2), (3, .int p3), (4, .int p4)] := hl
  unfold sp_X10_step at hE
  refine lv_iload_n hx hb dX10_step_0 rfl (lv_at hl 1 rfl) ?_
  refine lv_iconst (v := 0) hx hb dX10_step_1 (by decide) ?_
  refine lv_iconst (v := 3) hx hb dX10_step_2 (by decide) ?_
  refine k_ci0 hw (k_rS (As := [.int p1, .int 0, .int 3]) (rest := []) ⟨hx, hb, hml, hown, hts⟩ hK hO hw (ct_X10_isFrom p1 0 3 _ (wk.hA hw hA)) (va_cwS 3 hts (gB_S w_ml_X10_47 w_st_X10_isFrom w_in_X10 w_co_X10_isFrom) rfl rfl rfl (by decide +kernel) ⟨Nat.le_of_ble_eq_true rfl, Nat.le_of_ble_eq_true rfl⟩) rfl hl.1 rfl (Nat.le_of_ble_eq_true rfl) dX10_step_3 ⟨(Nat.le_of_ble_eq_true rfl), (Nat.le_of_ble_eq_true rfl)⟩) (fun H locs hw => ?_)
  refine lv_if_eq (tgt := 58) hx hb dX10_step_6 (by decide) (fun c_1 => ?_) (fun c_1 => ?_)
  · have hE := (if_pos c_1).symm.trans hE
    refine lv_iconst (v := 1) hx hb dX10_step_58 (by decide) ?_
    refine lv_goto (tgt := 63) hx hb dX10_step_59 (by decide) ?_
    refine lv_istore (lv' := [(5, .int 1), (0, .ref (ad 30 0)), (1, .int p1), (2, .int p2), (3, .int p3), (4, .int p4)]) hx hb dX10_step_63 hl (by decide) rfl (fun ls hl => ?_)
    refine lv_aload_n hx hb dX10_step_65 rfl (lv_at hl 1 rfl) ?_
    refine lv_iload hx hb dX10_step_66 (lv_at hl 0 rfl) ?_
    refine lv_iconst (v := 1) hx hb dX10_step_68 (by decide) ?_
    obtain ⟨x_2, hx_2, hE⟩ := ob1 hE
    refine k_ci0 hw (k_rV (f := 30) (o := 0) (As := [.int 1, .int 1]) (rest := []) ⟨hx, hb, hml, hown, hts⟩ hK hO hw (ct_X10_start (MR.sm (SM.rf S) hR) (SM.ci (SM.rf S) hI) hx_2 _ (wk.hA hw hA)) (cwV 2 hts (gB_V w_ml_X10_186 w_im_X10_start w_se_X10_start w_in_X10 w_co_X10_start) rfl rfl rfl (by decide +kernel) ⟨Nat.le_of_ble_eq_true rfl, Nat.le_of_ble_eq_true rfl⟩) (hR.1 30 (by decide) (by decide)) mke_30 rfl rfl hl.1 rfl (Nat.le_of_ble_eq_true rfl) dX10_step_69 ⟨(Nat.le_of_ble_eq_true rfl), (Nat.le_of_ble_eq_true rfl)⟩) (fun H locs hw => ?_)
    refine lv_if_ne (tgt := 100) hx hb dX10_step_72 (by decide) (fun c_3 => ?_) (fun c_3 => ?_)
    · have hE := (if_neg c_3).symm.trans hE
      refine lv_iconst (v := 0) hx hb dX10_step_100 (by decide) ?_
      exact m_iretG hx hb hr hlocks rfl (GRW.same (MR.sm (SM.tr (SM.rf S) (sf_X10_start hx_2)) hR) (MF.sm (SM.tr (SM.rf S) (sf_X10_start hx_2)) hF)) hw hE (Nat.le_of_ble_eq_true rfl) (Nat.le_of_ble_eq_true rfl) dX10_step_101
    · have hE := (if_pos c_3).symm.trans hE
      refine lv_aload_n hx hb dX10_step_75 rfl (lv_at hl 1 rfl) ?_
      refine lv_aload_n hx hb dX10_step_76 rfl (lv_at hl 1 rfl) ?_
      refine k_get (C := RX10) (T := TX10) (N := 9) (v := .ref (ad 31 0)) hx hb hts inB_X10 hown hK hw (hR.1 30 (by decide) (by decide)) mke_30 rfl 1 (by decide) (hts _ w_f_X10_10) (fun _ h9 => h9) rfl dX10_step_77 ?_
      refine k_ci0 hw (k_rV (f := 31) (o := 0) (As := []) (rest := [.ref (ad 30 0)]) ⟨hx, hb, hml, hown, hts⟩ hK hO hw (ct_size_0 (SM.tr (SM.rf S) (sf_X10_start hx_2)) hR _ (wk.hA hw hA)) (cwV 0 hts (gB_V w_ml_X10_43 w_im_Jx4a65c_size_8abf5 w_se_Jx4a65c_size_8abf5 w_in_Jx4a65c w_co_Jx4a65c_size_8abf5) rfl rfl rfl (by decide +kernel) ⟨Nat.le_of_ble_eq_true rfl, Nat.le_of_ble_eq_true rfl⟩) (hR.1 31 (by decide) (by decide)) (ce_l0 (SM.tr (SM.rf S) (sf_X10_start hx_2))) rfl rfl hl.1 rfl (Nat.le_of_ble_eq_true rfl) dX10_step_80 ⟨(Nat.le_of_ble_eq_true rfl), (Nat.le_of_ble_eq_true rfl)⟩) (fun H locs hw => ?_)
      refine lv_bipush (v := 12) hx hb dX10_step_83 (by decide) ?_
      have hjc_4 : ∀ bc_4 : Int32, bc_4 = (if S 1 0 0 = 12 then 1 else 0) → W p l e (headSpec bw_X10_step (rm_X10_step)).room s m args below meth c H locs 0 0 (MQ below (kQg D A v.1 v.2 L ad cI cO K0 ce) args s 2 26 A) (F0 m 93 ls [.int bc_4, .ref (ad 30 0)]) := by
        intro bc_4 hbc_4
        subst hbc_4
        refine lv_iconst (v := 2) hx hb dX10_step_93 (by decide) ?_
        obtain ⟨x_5, hx_5, hE⟩ := ob1 hE
        refine k_ci0 hw (k_rV (f := 30) (o := 0) (As := [.int (if S 1 0 0 = 12 then 1 else 0), .int 2]) (rest := []) ⟨hx, hb, hml, hown, hts⟩ hK hO hw (ct_X10_refuse (MR.sm (SM.tr (SM.rf S) (sf_X10_start hx_2)) hR) (SM.ci (SM.tr (SM.rf S) (sf_X10_start hx_2)) hI) hx_5 _ (wk.hA hw hA)) (cwV 2 hts (gB_V w_ml_X10_39 w_im_X10_refuse w_se_X10_refuse w_in_X10 w_co_X10_refuse) rfl rfl rfl (by decide +kernel) ⟨Nat.le_of_ble_eq_true rfl, Nat.le_of_ble_eq_true rfl⟩) (hR.1 30 (by decide) (by decide)) mke_30 rfl rfl hl.1 rfl (Nat.le_of_ble_eq_true rfl) dX10_step_94 ⟨(Nat.le_of_ble_eq_true rfl), (Nat.le_of_ble_eq_true rfl)⟩) (fun H locs hw => ?_)
        refine lv_if_eq (tgt := 102) hx hb dX10_step_97 (by decide) (fun c_6 => ?_) (fun c_6 => ?_)
        · have hE := (if_pos c_6).symm.trans hE
          refine lv_aload_n hx hb dX10_step_102 rfl (lv_at hl 1 rfl) ?_
          refine k_get (C := RX10) (T := TX10) (N := 9) (v := .ref (ad 31 0)) hx hb hts inB_X10 hown hK hw (hR.1 30 (by decide) (by decide)) mke_30 rfl 1 (by decide) (hts _ w_f_X10_10) (fun _ h9 => h9) rfl dX10_step_103 ?_
          have hRT : MR x_5.2 L cp := MR.sm (SM.tr (SM.tr (SM.rf S) (sf_X10_start hx_2)) (sf_X10_refuse hx_5)) hR
          have hFT : MF x_5.2 L cp := MF.sm (SM.tr (SM.tr (SM.rf S) (sf_X10_start hx_2)) (sf_X10_refuse hx_5)) hF
          have hz0 : msz x_5.2 0 = (S 1 0 0).toNatClampNeg := SM.z (SM.tr (SM.tr (SM.rf S) (sf_X10_start hx_2)) (sf_X10_refuse hx_5)) 0
          have hCT : CI x_5.2 := SM.ci (SM.tr (SM.tr (SM.rf S) (sf_X10_start hx_2)) (sf_X10_refuse hx_5)) hI
          have hi0 : mszI x_5.2 0 = nI ((S 1 0 0).toNatClampNeg) := (SM.c0 (SM.tr (SM.tr (SM.rf S) (sf_X10_start hx_2)) (sf_X10_refuse hx_5))).trans (cn_eq hI.1.1)
          have hn : (43, (S 1 0 0).toNatClampNeg) ∉ L := (hF.1 _ (Nat.le_refl _))
          refine k_new (C := RX9) (T := TX9) (N := 4) (ci := 12) (fs := [.int 0, .int 0, .int 0, .int 0]) hx hb hts inB_X9 tyX9 tyX9_ok hown (hts _ w_cl_X10_55) (hts _ w_is_X9) (hts _ w_in_X9) hK hw hA rfl (fun j hj => match j, hj with | 0, _ => rfl | 1, _ => rfl | 2, _ => rfl | 3, _ => rfl | n + 4, h => absurd h (by omega)) (Nat.le_of_ble_eq_true rfl) (Nat.le_of_ble_eq_true rfl) 43 ((S 1 0 0).toNatClampNeg) hn dX10_step_106 (fun q H hw => ?_)
          rw [upa_eq]
          have hRn := hR.push (i := (43, (S 1 0 0).toNatClampNeg))
          refine lv_dup hx hb dX10_step_109 rfl ?_
          refine lv_iload_n hx hb dX10_step_110 rfl (lv_at hl 2 rfl) ?_
          refine lv_iload_n hx hb dX10_step_111 rfl (lv_at hl 3 rfl) ?_
          refine lv_iload_n hx hb dX10_step_112 rfl (lv_at hl 4 rfl) ?_
          refine lv_iload hx hb dX10_step_113 (lv_at hl 5 rfl) ?_
          have ct := ct_X9_init (l := l) (D := D) (cI := cI) (cG := cG) (cJ := cJ) (cO := cO) (K0 := K0) (A := A) (L := L ++ [(43, (S 1 0 0).toNatClampNeg)]) (ad := upa ad 43 ((S 1 0 0).toNatClampNeg) q) (ce := up2 (mK cI cO K0 ad cp ce x_5.2) 43 ((S 1 0 0).toNatClampNeg) (.inr (12, [.int 0, .int 0, .int 0, .int 0]))) (o := ((S 1 0 0).toNatClampNeg)) (v0 := p1) (v1 := p2) (v2 := p3) (v3 := p4) (List.mem_append_right _ (List.mem_singleton_self _)) up2_eq _ (wk.hA hw hA)
          rw [upa_eq] at ct
          refine k_cv0 hw (k_rI (As := [.int p1, .int p2, .int p3, .int p4]) (rest := [.ref q, .ref (ad 31 0)]) ⟨hx, hb, hml, hown, hts⟩ hK hO hw ct (cwI 4 hts (gB_0 w_co_X9_init) rfl rfl rfl (hts _ w_in_X9) (hts _ w_ml_X10_211) (hts _ w_im_X9_init) rfl (by decide +kernel) ⟨Nat.le_of_ble_eq_true rfl, Nat.le_of_ble_eq_true rfl⟩) rfl hl.1 rfl (Nat.le_of_ble_eq_true rfl) dX10_step_115 ⟨(Nat.le_of_ble_eq_true rfl), (Nat.le_of_ble_eq_true rfl)⟩) (fun H locs hw => ?_)
          rw [up2_up2] at hw
          have hSE : SE x_5.2 (elS x_5.2 ((S 1 0 0).toNatClampNeg) p1 p2 p3 p4) := SE.elS (Nat.le_of_eq hz0)
          have hw := wk.el (by decide) (by decide) hRT hFT hn hSE (mc_elS) hw
          have hR1 : MR (elS x_5.2 ((S 1 0 0).toNatClampNeg) p1 p2 p3 p4) (L ++ [(43, (S 1 0 0).toNatClampNeg)]) cp := (MR.se hSE hRT).push
          have hX : Ex L ad (upa ad 43 ((S 1 0 0).toNatClampNeg) q) := Ex.upa hn
          by_cases c_7 : 12 ≤ (S 1 0 0).toNatClampNeg
          · exact nomatch (if_pos c_7).symm.trans hE
          have hE := (if_neg c_7).symm.trans hE
          have hz1 : msz (elS x_5.2 ((S 1 0 0).toNatClampNeg) p1 p2 p3 p4) 0 = (S 1 0 0).toNatClampNeg := (SE.z hSE 0).trans hz0
          have hi1 : mszI (elS x_5.2 ((S 1 0 0).toNatClampNeg) p1 p2 p3 p4) 0 = nI ((S 1 0 0).toNatClampNeg) := (SE.zi hSE 0).trans hi0
          have hcap := (hR1.2.2.1 0 (by decide)).1
          rw [hz1] at hcap
          obtain ⟨hz, hnz, hval⟩ := hFT.2.2.2.2.2 0 (by decide)
          refine m_add ⟨hx, hb, hml, hown, hts⟩ hl.1 hK hO hA hw 0 (by decide) hz1 hi1 (by omega) (hR1.1 _ (by decide) (by decide)) hcap hval (fun a => nmemf (hz a) (by decide)) (fun a => List.mem_append_left _ (hnz a)) (nmemf (h59) (by decide)) (Or.inl ⟨43, _, 12, _, (RX9, TX9, 4), (List.mem_append_right _ (List.mem_singleton_self _)), upa_eq, mke_43, rfl, w_ca_X9⟩) (show (upa ad 43 ((S 1 0 0).toNatClampNeg) q) 43 ((S 1 0 0).toNatClampNeg) = q from upa_eq) (fun k hk => EL.el hR1 (by decide) (by rw [hz1]; exact hk)) (hX 31 0 (hR.1 31 (by decide) (by decide))) (Nat.le_of_ble_eq_true rfl) (Nat.le_of_ble_eq_true rfl) (Nat.le_of_ble_eq_true rfl) (Nat.le_of_ble_eq_true rfl) (Nat.le_of_ble_eq_true rfl) dX10_step_118 (fun L2 u2 cp2 H locs hG hw => ?_)
          have hR2 : MR (addS (elS x_5.2 ((S 1 0 0).toNatClampNeg) p1 p2 p3 p4) 0 (nI ((S 1 0 0).toNatClampNeg + 1))) L2 cp2 := MR.add hR1 (by decide) hz1 (by omega) hG (fun _ => List.mem_append_right _ (List.mem_singleton_self _)) (fun z => absurd z (by decide)) (fun z => absurd z (by decide)) (fun z => absurd z (by decide)) (fun z => absurd z (by decide))
          have hzz : msz (addS (elS x_5.2 ((S 1 0 0).toNatClampNeg) p1 p2 p3 p4) 0 (nI ((S 1 0 0).toNatClampNeg + 1))) 0 = (S 1 0 0).toNatClampNeg + 1 := by rw [addS_z (by decide) (by decide) (by omega), if_pos rfl]
          have hF2 : MF (addS (elS x_5.2 ((S 1 0 0).toNatClampNeg) p1 p2 p3 p4) 0 (nI ((S 1 0 0).toNatClampNeg + 1))) L2 cp2 := MFz.gl ((MF.addz hFT hSE (by decide) hz0 (by omega)).push (by decide) (fun _ => by rw [hzz]; omega) (fun z => absurd z (by decide)) (fun z => absurd z (by decide)) (fun z => absurd z (by decide)) (fun a b => absurd a (by decide))) (by decide) hG
          have hI2 : CI (addS (elS x_5.2 ((S 1 0 0).toNatClampNeg) p1 p2 p3 p4) 0 (nI ((S 1 0 0).toNatClampNeg + 1))) := CI.add (by decide) (Nat.lt_of_not_le c_7) (SE.ci hSE hCT)
          have e30 : u2 30 0 = ad 30 0 := (hG.2.2.1 30 0 (by decide)).trans (hX 30 0 (hR.1 30 (by decide) (by decide)))
          rw [← e30] at hl
          refine lv_pop hx hb dX10_step_121 rfl ?_
          refine lv_aload_n hx hb dX10_step_122 rfl (lv_at hl 1 rfl) ?_
          refine k_get (C := RX10) (T := TX10) (N := 9) (v := .ref (u2 31 0)) hx hb hts inB_X10 hown hK hw (hR2.1 30 (by decide) (by decide)) mke_30 rfl 1 (by decide) (hts _ w_f_X10_10) (fun _ h9 => h9) rfl dX10_step_123 ?_
          refine k_ci0 hw (k_rV (f := 31) (o := 0) (As := []) (rest := []) ⟨hx, hb, hml, hown, hts⟩ hK hO hw (ct_size_0 (SM.rf (addS (elS x_5.2 ((S 1 0 0).toNatClampNeg) p1 p2 p3 p4) 0 (nI ((S 1 0 0).toNatClampNeg + 1)))) hR2 _ (wk.hA hw hA)) (cwV 0 hts (gB_V w_ml_X10_43 w_im_Jx4a65c_size_8abf5 w_se_Jx4a65c_size_8abf5 w_in_Jx4a65c w_co_Jx4a65c_size_8abf5) rfl rfl rfl (by decide +kernel) ⟨Nat.le_of_ble_eq_true rfl, Nat.le_of_ble_eq_true rfl⟩) (hR2.1 31 (by decide) (by decide)) (ce_l0 (SM.rf (addS (elS x_5.2 ((S 1 0 0).toNatClampNeg) p1 p2 p3 p4) 0 (nI ((S 1 0 0).toNatClampNeg + 1))))) rfl rfl hl.1 rfl (Nat.le_of_ble_eq_true rfl) dX10_step_126 ⟨(Nat.le_of_ble_eq_true rfl), (Nat.le_of_ble_eq_true rfl)⟩) (fun H locs hw => ?_)
          refine lv_iconst (v := 1) hx hb dX10_step_129 (by decide) ?_
          refine lv_isub hx hb dX10_step_130 ?_
          exact m_iretG hx hb hr hlocks rfl (GRW.of (by decide) (MR.sm (SM.rf (addS (elS x_5.2 ((S 1 0 0).toNatClampNeg) p1 p2 p3 p4) 0 (nI ((S 1 0 0).toNatClampNeg + 1)))) hR2) (MF.sm (SM.rf (addS (elS x_5.2 ((S 1 0 0).toNatClampNeg) p1 p2 p3 p4) 0 (nI ((S 1 0 0).toNatClampNeg + 1)))) hF2) hG (fun i h => by simp [h]) (fun i h => mem_k h (by decide)) hX) hw hE (Nat.le_of_ble_eq_true rfl) (Nat.le_of_ble_eq_true rfl) dX10_step_131
        · have hE := (if_neg c_6).symm.trans hE
          refine lv_iconst (v := 0) hx hb dX10_step_100 (by decide) ?_
          exact m_iretG hx hb hr hlocks rfl (GRW.same (MR.sm (SM.tr (SM.tr (SM.rf S) (sf_X10_start hx_2)) (sf_X10_refuse hx_5)) hR) (MF.sm (SM.tr (SM.tr (SM.rf S) (sf_X10_start hx_2)) (sf_X10_refuse hx_5)) hF)) hw hE (Nat.le_of_ble_eq_true rfl) (Nat.le_of_ble_eq_true rfl) dX10_step_101
      refine lv_icmp_ne (tgt := 92) hx hb dX10_step_85 (by decide) (fun c_4 => ?_) (fun c_4 => ?_)
      · refine lv_iconst (v := 0) hx hb dX10_step_92 (by decide) ?_
        exact hjc_4 _ (if_neg c_4).symm
      · refine lv_iconst (v := 1) hx hb dX10_step_88 (by decide) ?_
        refine lv_goto (tgt := 93) hx hb dX10_step_89 (by decide) ?_
        exact hjc_4 _ (if_pos c_4).symm
  · have hE := (if_neg c_1).symm.trans hE
    refine lv_iload_n hx hb dX10_step_9 rfl (lv_at hl 2 rfl) ?_
    refine lv_iconst (v := 1) hx hb dX10_step_10 (by decide) ?_
    refine lv_bipush (v := 9) hx hb dX10_step_11 (by decide) ?_
    refine k_ci0 hw (k_rS (As := [.int p2, .int 1, .int 9]) (rest := []) ⟨hx, hb, hml, hown, hts⟩ hK hO hw (ct_X10_isFrom p2 1 9 _ (wk.hA hw hA)) (va_cwS 3 hts (gB_S w_ml_X10_47 w_st_X10_isFrom w_in_X10 w_co_X10_isFrom) rfl rfl rfl (by decide +kernel) ⟨Nat.le_of_ble_eq_true rfl, Nat.le_of_ble_eq_true rfl⟩) rfl hl.1 rfl (Nat.le_of_ble_eq_true rfl) dX10_step_13 ⟨(Nat.le_of_ble_eq_true rfl), (Nat.le_of_ble_eq_true rfl)⟩) (fun H locs hw => ?_)
    refine lv_if_eq (tgt := 58) hx hb dX10_step_16 (by decide) (fun c_8 => ?_) (fun c_8 => ?_)
    · have hE := (if_pos c_8).symm.trans hE
      refine lv_iconst (v := 1) hx hb dX10_step_58 (by decide) ?_
      refine lv_goto (tgt := 63) hx hb dX10_step_59 (by decide) ?_
      refine lv_istore (lv' := [(5, .int 1), (0, .ref (ad 30 0)), (1, .int p1), (2, .int p2), (3, .int p3), (4, .int p4)]) hx hb dX10_step_63 hl (by decide) rfl (fun ls hl => ?_)
      refine lv_aload_n hx hb dX10_step_65 rfl (lv_at hl 1 rfl) ?_
      refine lv_iload hx hb dX10_step_66 (lv_at hl 0 rfl) ?_
      refine lv_iconst (v := 1) hx hb dX10_step_68 (by decide) ?_
      obtain ⟨x_9, hx_9, hE⟩ := ob1 hE
      refine k_ci0 hw (k_rV (f := 30) (o := 0) (As := [.int 1, .int 1]) (rest := []) ⟨hx, hb, hml, hown, hts⟩ hK hO hw (ct_X10_start (MR.sm (SM.rf S) hR) (SM.ci (SM.rf S) hI) hx_9 _ (wk.hA hw hA)) (cwV 2 hts (gB_V w_ml_X10_186 w_im_X10_start w_se_X10_start w_in_X10 w_co_X10_start) rfl rfl rfl (by decide +kernel) ⟨Nat.le_of_ble_eq_true rfl, Nat.le_of_ble_eq_true rfl⟩) (hR.1 30 (by decide) (by decide)) mke_30 rfl rfl hl.1 rfl (Nat.le_of_ble_eq_true rfl) dX10_step_69 ⟨(Nat.le_of_ble_eq_true rfl), (Nat.le_of_ble_eq_true rfl)⟩) (fun H locs hw => ?_)
      refine lv_if_ne (tgt := 100) hx hb dX10_step_72 (by decide) (fun c_10 => ?_) (fun c_10 => ?_)
      · have hE := (if_neg c_10).symm.trans hE
        refine lv_iconst (v := 0) hx hb dX10_step_100 (by decide) ?_
        exact m_iretG hx hb hr hlocks rfl (GRW.same (MR.sm (SM.tr (SM.rf S) (sf_X10_start hx_9)) hR) (MF.sm (SM.tr (SM.rf S) (sf_X10_start hx_9)) hF)) hw hE (Nat.le_of_ble_eq_true rfl) (Nat.le_of_ble_eq_true rfl) dX10_step_101
      · have hE := (if_pos c_10).symm.trans hE
        refine lv_aload_n hx hb dX10_step_75 rfl (lv_at hl 1 rfl) ?_
        refine lv_aload_n hx hb dX10_step_76 rfl (lv_at hl 1 rfl) ?_
        refine k_get (C := RX10) (T := TX10) (N := 9) (v := .ref (ad 31 0)) hx hb hts inB_X10 hown hK hw (hR.1 30 (by decide) (by decide)) mke_30 rfl 1 (by decide) (hts _ w_f_X10_10) (fun _ h9 => h9) rfl dX10_step_77 ?_
        refine k_ci0 hw (k_rV (f := 31) (o := 0) (As := []) (rest := [.ref (ad 30 0)]) ⟨hx, hb, hml, hown, hts⟩ hK hO hw (ct_size_0 (SM.tr (SM.rf S) (sf_X10_start hx_9)) hR _ (wk.hA hw hA)) (cwV 0 hts (gB_V w_ml_X10_43 w_im_Jx4a65c_size_8abf5 w_se_Jx4a65c_size_8abf5 w_in_Jx4a65c w_co_Jx4a65c_size_8abf5) rfl rfl rfl (by decide +kernel) ⟨Nat.le_of_ble_eq_true rfl, Nat.le_of_ble_eq_true rfl⟩) (hR.1 31 (by decide) (by decide)) (ce_l0 (SM.tr (SM.rf S) (sf_X10_start hx_9))) rfl rfl hl.1 rfl (Nat.le_of_ble_eq_true rfl) dX10_step_80 ⟨(Nat.le_of_ble_eq_true rfl), (Nat.le_of_ble_eq_true rfl)⟩) (fun H locs hw => ?_)
        refine lv_bipush (v := 12) hx hb dX10_step_83 (by decide) ?_
        have hjc_11 : ∀ bc_11 : Int32, bc_11 = (if S 1 0 0 = 12 then 1 else 0) → W p l e (headSpec bw_X10_step (rm_X10_step)).room s m args below meth c H locs 0 0 (MQ below (kQg D A v.1 v.2 L ad cI cO K0 ce) args s 2 26 A) (F0 m 93 ls [.int bc_11, .ref (ad 30 0)]) := by
          intro bc_11 hbc_11
          subst hbc_11
          refine lv_iconst (v := 2) hx hb dX10_step_93 (by decide) ?_
          obtain ⟨x_12, hx_12, hE⟩ := ob1 hE
          refine k_ci0 hw (k_rV (f := 30) (o := 0) (As := [.int (if S 1 0 0 = 12 then 1 else 0), .int 2]) (rest := []) ⟨hx, hb, hml, hown, hts⟩ hK hO hw (ct_X10_refuse (MR.sm (SM.tr (SM.rf S) (sf_X10_start hx_9)) hR) (SM.ci (SM.tr (SM.rf S) (sf_X10_start hx_9)) hI) hx_12 _ (wk.hA hw hA)) (cwV 2 hts (gB_V w_ml_X10_39 w_im_X10_refuse w_se_X10_refuse w_in_X10 w_co_X10_refuse) rfl rfl rfl (by decide +kernel) ⟨Nat.le_of_ble_eq_true rfl, Nat.le_of_ble_eq_true rfl⟩) (hR.1 30 (by decide) (by decide)) mke_30 rfl rfl hl.1 rfl (Nat.le_of_ble_eq_true rfl) dX10_step_94 ⟨(Nat.le_of_ble_eq_true rfl), (Nat.le_of_ble_eq_true rfl)⟩) (fun H locs hw => ?_)
          refine lv_if_eq (tgt := 102) hx hb dX10_step_97 (by decide) (fun c_13 => ?_) (fun c_13 => ?_)
          · have hE := (if_pos c_13).symm.trans hE
            refine lv_aload_n hx hb dX10_step_102 rfl (lv_at hl 1 rfl) ?_
            refine k_get (C := RX10) (T := TX10) (N := 9) (v := .ref (ad 31 0)) hx hb hts inB_X10 hown hK hw (hR.1 30 (by decide) (by decide)) mke_30 rfl 1 (by decide) (hts _ w_f_X10_10) (fun _ h9 => h9) rfl dX10_step_103 ?_
            have hRT : MR x_12.2 L cp := MR.sm (SM.tr (SM.tr (SM.rf S) (sf_X10_start hx_9)) (sf_X10_refuse hx_12)) hR
            have hFT : MF x_12.2 L cp := MF.sm (SM.tr (SM.tr (SM.rf S) (sf_X10_start hx_9)) (sf_X10_refuse hx_12)) hF
            have hz0 : msz x_12.2 0 = (S 1 0 0).toNatClampNeg := SM.z (SM.tr (SM.tr (SM.rf S) (sf_X10_start hx_9)) (sf_X10_refuse hx_12)) 0
            have hCT : CI x_12.2 := SM.ci (SM.tr (SM.tr (SM.rf S) (sf_X10_start hx_9)) (sf_X10_refuse hx_12)) hI
            have hi0 : mszI x_12.2 0 = nI ((S 1 0 0).toNatClampNeg) := (SM.c0 (SM.tr (SM.tr (SM.rf S) (sf_X10_start hx_9)) (sf_X10_refuse hx_12))).trans (cn_eq hI.1.1)
            have hn : (43, (S 1 0 0).toNatClampNeg) ∉ L := (hF.1 _ (Nat.le_refl _))
            refine k_new (C := RX9) (T := TX9) (N := 4) (ci := 12) (fs := [.int 0, .int 0, .int 0, .int 0]) hx hb hts inB_X9 tyX9 tyX9_ok hown (hts _ w_cl_X10_55) (hts _ w_is_X9) (hts _ w_in_X9) hK hw hA rfl (fun j hj => match j, hj with | 0, _ => rfl | 1, _ => rfl | 2, _ => rfl | 3, _ => rfl | n + 4, h => absurd h (by omega)) (Nat.le_of_ble_eq_true rfl) (Nat.le_of_ble_eq_true rfl) 43 ((S 1 0 0).toNatClampNeg) hn dX10_step_106 (fun q H hw => ?_)
            rw [upa_eq]
            have hRn := hR.push (i := (43, (S 1 0 0).toNatClampNeg))
            refine lv_dup hx hb dX10_step_109 rfl ?_
            refine lv_iload_n hx hb dX10_step_110 rfl (lv_at hl 2 rfl) ?_
            refine lv_iload_n hx hb dX10_step_111 rfl (lv_at hl 3 rfl) ?_
            refine lv_iload_n hx hb dX10_step_112 rfl (lv_at hl 4 rfl) ?_
            refine lv_iload hx hb dX10_step_113 (lv_at hl 5 rfl) ?_
            have ct := ct_X9_init (l := l) (D := D) (cI := cI) (cG := cG) (cJ := cJ) (cO := cO) (K0 := K0) (A := A) (L := L ++ [(43, (S 1 0 0).toNatClampNeg)]) (ad := upa ad 43 ((S 1 0 0).toNatClampNeg) q) (ce := up2 (mK cI cO K0 ad cp ce x_12.2) 43 ((S 1 0 0).toNatClampNeg) (.inr (12, [.int 0, .int 0, .int 0, .int 0]))) (o := ((S 1 0 0).toNatClampNeg)) (v0 := p1) (v1 := p2) (v2 := p3) (v3 := p4) (List.mem_append_right _ (List.mem_singleton_self _)) up2_eq _ (wk.hA hw hA)
            rw [upa_eq] at ct
            refine k_cv0 hw (k_rI (As := [.int p1, .int p2, .int p3, .int p4]) (rest := [.ref q, .ref (ad 31 0)]) ⟨hx, hb, hml, hown, hts⟩ hK hO hw ct (cwI 4 hts (gB_0 w_co_X9_init) rfl rfl rfl (hts _ w_in_X9) (hts _ w_ml_X10_211) (hts _ w_im_X9_init) rfl (by decide +kernel) ⟨Nat.le_of_ble_eq_true rfl, Nat.le_of_ble_eq_true rfl⟩) rfl hl.1 rfl (Nat.le_of_ble_eq_true rfl) dX10_step_115 ⟨(Nat.le_of_ble_eq_true rfl), (Nat.le_of_ble_eq_true rfl)⟩) (fun H locs hw => ?_)
            rw [up2_up2] at hw
            have hSE : SE x_12.2 (elS x_12.2 ((S 1 0 0).toNatClampNeg) p1 p2 p3 p4) := SE.elS (Nat.le_of_eq hz0)
            have hw := wk.el (by decide) (by decide) hRT hFT hn hSE (mc_elS) hw
            have hR1 : MR (elS x_12.2 ((S 1 0 0).toNatClampNeg) p1 p2 p3 p4) (L ++ [(43, (S 1 0 0).toNatClampNeg)]) cp := (MR.se hSE hRT).push
            have hX : Ex L ad (upa ad 43 ((S 1 0 0).toNatClampNeg) q) := Ex.upa hn
            by_cases c_14 : 12 ≤ (S 1 0 0).toNatClampNeg
            · exact nomatch (if_pos c_14).symm.trans hE
            have hE := (if_neg c_14).symm.trans hE
            have hz1 : msz (elS x_12.2 ((S 1 0 0).toNatClampNeg) p1 p2 p3 p4) 0 = (S 1 0 0).toNatClampNeg := (SE.z hSE 0).trans hz0
            have hi1 : mszI (elS x_12.2 ((S 1 0 0).toNatClampNeg) p1 p2 p3 p4) 0 = nI ((S 1 0 0).toNatClampNeg) := (SE.zi hSE 0).trans hi0
            have hcap := (hR1.2.2.1 0 (by decide)).1
            rw [hz1] at hcap
            obtain ⟨hz, hnz, hval⟩ := hFT.2.2.2.2.2 0 (by decide)
            refine m_add ⟨hx, hb, hml, hown, hts⟩ hl.1 hK hO hA hw 0 (by decide) hz1 hi1 (by omega) (hR1.1 _ (by decide) (by decide)) hcap hval (fun a => nmemf (hz a) (by decide)) (fun a => List.mem_append_left _ (hnz a)) (nmemf (h59) (by decide)) (Or.inl ⟨43, _, 12, _, (RX9, TX9, 4), (List.mem_append_right _ (List.mem_singleton_self _)), upa_eq, mke_43, rfl, w_ca_X9⟩) (show (upa ad 43 ((S 1 0 0).toNatClampNeg) q) 43 ((S 1 0 0).toNatClampNeg) = q from upa_eq) (fun k hk => EL.el hR1 (by decide) (by rw [hz1]; exact hk)) (hX 31 0 (hR.1 31 (by decide) (by decide))) (Nat.le_of_ble_eq_true rfl) (Nat.le_of_ble_eq_true rfl) (Nat.le_of_ble_eq_true rfl) (Nat.le_of_ble_eq_true rfl) (Nat.le_of_ble_eq_true rfl) dX10_step_118 (fun L2 u2 cp2 H locs hG hw => ?_)
            have hR2 : MR (addS (elS x_12.2 ((S 1 0 0).toNatClampNeg) p1 p2 p3 p4) 0 (nI ((S 1 0 0).toNatClampNeg + 1))) L2 cp2 := MR.add hR1 (by decide) hz1 (by omega) hG (fun _ => List.mem_append_right _ (List.mem_singleton_self _)) (fun z => absurd z (by decide)) (fun z => absurd z (by decide)) (fun z => absurd z (by decide)) (fun z => absurd z (by decide))
            have hzz : msz (addS (elS x_12.2 ((S 1 0 0).toNatClampNeg) p1 p2 p3 p4) 0 (nI ((S 1 0 0).toNatClampNeg + 1))) 0 = (S 1 0 0).toNatClampNeg + 1 := by rw [addS_z (by decide) (by decide) (by omega), if_pos rfl]
            have hF2 : MF (addS (elS x_12.2 ((S 1 0 0).toNatClampNeg) p1 p2 p3 p4) 0 (nI ((S 1 0 0).toNatClampNeg + 1))) L2 cp2 := MFz.gl ((MF.addz hFT hSE (by decide) hz0 (by omega)).push (by decide) (fun _ => by rw [hzz]; omega) (fun z => absurd z (by decide)) (fun z => absurd z (by decide)) (fun z => absurd z (by decide)) (fun a b => absurd a (by decide))) (by decide) hG
            have hI2 : CI (addS (elS x_12.2 ((S 1 0 0).toNatClampNeg) p1 p2 p3 p4) 0 (nI ((S 1 0 0).toNatClampNeg + 1))) := CI.add (by decide) (Nat.lt_of_not_le c_14) (SE.ci hSE hCT)
            have e30 : u2 30 0 = ad 30 0 := (hG.2.2.1 30 0 (by decide)).trans (hX 30 0 (hR.1 30 (by decide) (by decide)))
            rw [← e30] at hl
            refine lv_pop hx hb dX10_step_121 rfl ?_
            refine lv_aload_n hx hb dX10_step_122 rfl (lv_at hl 1 rfl) ?_
            refine k_get (C := RX10) (T := TX10) (N := 9) (v := .ref (u2 31 0)) hx hb hts inB_X10 hown hK hw (hR2.1 30 (by decide) (by decide)) mke_30 rfl 1 (by decide) (hts _ w_f_X10_10) (fun _ h9 => h9) rfl dX10_step_123 ?_
            refine k_ci0 hw (k_rV (f := 31) (o := 0) (As := []) (rest := []) ⟨hx, hb, hml, hown, hts⟩ hK hO hw (ct_size_0 (SM.rf (addS (elS x_12.2 ((S 1 0 0).toNatClampNeg) p1 p2 p3 p4) 0 (nI ((S 1 0 0).toNatClampNeg + 1)))) hR2 _ (wk.hA hw hA)) (cwV 0 hts (gB_V w_ml_X10_43 w_im_Jx4a65c_size_8abf5 w_se_Jx4a65c_size_8abf5 w_in_Jx4a65c w_co_Jx4a65c_size_8abf5) rfl rfl rfl (by decide +kernel) ⟨Nat.le_of_ble_eq_true rfl, Nat.le_of_ble_eq_true rfl⟩) (hR2.1 31 (by decide) (by decide)) (ce_l0 (SM.rf (addS (elS x_12.2 ((S 1 0 0).toNatClampNeg) p1 p2 p3 p4) 0 (nI ((S 1 0 0).toNatClampNeg + 1))))) rfl rfl hl.1 rfl (Nat.le_of_ble_eq_true rfl) dX10_step_126 ⟨(Nat.le_of_ble_eq_true rfl), (Nat.le_of_ble_eq_true rfl)⟩) (fun H locs hw => ?_)
            refine lv_iconst (v := 1) hx hb dX10_step_129 (by decide) ?_
            refine lv_isub hx hb dX10_step_130 ?_
            exact m_iretG hx hb hr hlocks rfl (GRW.of (by decide) (MR.sm (SM.rf (addS (elS x_12.2 ((S 1 0 0).toNatClampNeg) p1 p2 p3 p4) 0 (nI ((S 1 0 0).toNatClampNeg + 1)))) hR2) (MF.sm (SM.rf (addS (elS x_12.2 ((S 1 0 0).toNatClampNeg) p1 p2 p3 p4) 0 (nI ((S 1 0 0).toNatClampNeg + 1)))) hF2) hG (fun i h => by simp [h]) (fun i h => mem_k h (by decide)) hX) hw hE (Nat.le_of_ble_eq_true rfl) (Nat.le_of_ble_eq_true rfl) dX10_step_131
          · have hE := (if_neg c_13).symm.trans hE
            refine lv_iconst (v := 0) hx hb dX10_step_100 (by decide) ?_
            exact m_iretG hx hb hr hlocks rfl (GRW.same (MR.sm (SM.tr (SM.tr (SM.rf S) (sf_X10_start hx_9)) (sf_X10_refuse hx_12)) hR) (MF.sm (SM.tr (SM.tr (SM.rf S) (sf_X10_start hx_9)) (sf_X10_refuse hx_12)) hF)) hw hE (Nat.le_of_ble_eq_true rfl) (Nat.le_of_ble_eq_true rfl) dX10_step_101
        refine lv_icmp_ne (tgt := 92) hx hb dX10_step_85 (by decide) (fun c_11 => ?_) (fun c_11 => ?_)
        · refine lv_iconst (v := 0) hx hb dX10_step_92 (by decide) ?_
          exact hjc_11 _ (if_neg c_11).symm
        · refine lv_iconst (v := 1) hx hb dX10_step_88 (by decide) ?_
          refine lv_goto (tgt := 93) hx hb dX10_step_89 (by decide) ?_
          exact hjc_11 _ (if_pos c_11).symm
    · have hE := (if_neg c_8).symm.trans hE
      refine lv_aload_n hx hb dX10_step_19 rfl (lv_at hl 0 rfl) ?_
      refine lv_iload_n hx hb dX10_step_20 rfl (lv_at hl 3 rfl) ?_
      obtain ⟨x_15, hx_15, hE⟩ := ob1 hE
      refine k_ci0 hw (k_rV (f := 30) (o := 0) (As := [.int p3]) (rest := []) ⟨hx, hb, hml, hown, hts⟩ hK hO hw (ct_X10_isNoSet (MR.sm (SM.rf S) hR) (SM.ci (SM.rf S) hI) hx_15 _ (wk.hA hw hA)) (cwV 1 hts (gB_V w_ml_X10_208 w_im_X10_isNoSet w_se_X10_isNoSet w_in_X10 w_co_X10_isNoSet) rfl rfl rfl (by decide +kernel) ⟨Nat.le_of_ble_eq_true rfl, Nat.le_of_ble_eq_true rfl⟩) (hR.1 30 (by decide) (by decide)) mke_30 rfl rfl hl.1 rfl (Nat.le_of_ble_eq_true rfl) dX10_step_21 ⟨(Nat.le_of_ble_eq_true rfl), (Nat.le_of_ble_eq_true rfl)⟩) (fun H locs hw => ?_)
      refine lv_if_ne (tgt := 58) hx hb dX10_step_24 (by decide) (fun c_16 => ?_) (fun c_16 => ?_)
      · have hE := (if_neg c_16).symm.trans hE
        refine lv_iconst (v := 1) hx hb dX10_step_58 (by decide) ?_
        refine lv_goto (tgt := 63) hx hb dX10_step_59 (by decide) ?_
        refine lv_istore (lv' := [(5, .int 1), (0, .ref (ad 30 0)), (1, .int p1), (2, .int p2), (3, .int p3), (4, .int p4)]) hx hb dX10_step_63 hl (by decide) rfl (fun ls hl => ?_)
        refine lv_aload_n hx hb dX10_step_65 rfl (lv_at hl 1 rfl) ?_
        refine lv_iload hx hb dX10_step_66 (lv_at hl 0 rfl) ?_
        refine lv_iconst (v := 1) hx hb dX10_step_68 (by decide) ?_
        obtain ⟨x_17, hx_17, hE⟩ := ob1 hE
        refine k_ci0 hw (k_rV (f := 30) (o := 0) (As := [.int 1, .int 1]) (rest := []) ⟨hx, hb, hml, hown, hts⟩ hK hO hw (ct_X10_start (MR.sm (SM.rf S) hR) (SM.ci (SM.rf S) hI) hx_17 _ (wk.hA hw hA)) (cwV 2 hts (gB_V w_ml_X10_186 w_im_X10_start w_se_X10_start w_in_X10 w_co_X10_start) rfl rfl rfl (by decide +kernel) ⟨Nat.le_of_ble_eq_true rfl, Nat.le_of_ble_eq_true rfl⟩) (hR.1 30 (by decide) (by decide)) mke_30 rfl rfl hl.1 rfl (Nat.le_of_ble_eq_true rfl) dX10_step_69 ⟨(Nat.le_of_ble_eq_true rfl), (Nat.le_of_ble_eq_true rfl)⟩) (fun H locs hw => ?_)
        refine lv_if_ne (tgt := 100) hx hb dX10_step_72 (by decide) (fun c_18 => ?_) (fun c_18 => ?_)
        · have hE := (if_neg c_18).symm.trans hE
          refine lv_iconst (v := 0) hx hb dX10_step_100 (by decide) ?_
          exact m_iretG hx hb hr hlocks rfl (GRW.same (MR.sm (SM.tr (SM.rf S) (sf_X10_start hx_17)) hR) (MF.sm (SM.tr (SM.rf S) (sf_X10_start hx_17)) hF)) hw hE (Nat.le_of_ble_eq_true rfl) (Nat.le_of_ble_eq_true rfl) dX10_step_101
        · have hE := (if_pos c_18).symm.trans hE
          refine lv_aload_n hx hb dX10_step_75 rfl (lv_at hl 1 rfl) ?_
          refine lv_aload_n hx hb dX10_step_76 rfl (lv_at hl 1 rfl) ?_
          refine k_get (C := RX10) (T := TX10) (N := 9) (v := .ref (ad 31 0)) hx hb hts inB_X10 hown hK hw (hR.1 30 (by decide) (by decide)) mke_30 rfl 1 (by decide) (hts _ w_f_X10_10) (fun _ h9 => h9) rfl dX10_step_77 ?_
          refine k_ci0 hw (k_rV (f := 31) (o := 0) (As := []) (rest := [.ref (ad 30 0)]) ⟨hx, hb, hml, hown, hts⟩ hK hO hw (ct_size_0 (SM.tr (SM.rf S) (sf_X10_start hx_17)) hR _ (wk.hA hw hA)) (cwV 0 hts (gB_V w_ml_X10_43 w_im_Jx4a65c_size_8abf5 w_se_Jx4a65c_size_8abf5 w_in_Jx4a65c w_co_Jx4a65c_size_8abf5) rfl rfl rfl (by decide +kernel) ⟨Nat.le_of_ble_eq_true rfl, Nat.le_of_ble_eq_true rfl⟩) (hR.1 31 (by decide) (by decide)) (ce_l0 (SM.tr (SM.rf S) (sf_X10_start hx_17))) rfl rfl hl.1 rfl (Nat.le_of_ble_eq_true rfl) dX10_step_80 ⟨(Nat.le_of_ble_eq_true rfl), (Nat.le_of_ble_eq_true rfl)⟩) (fun H locs hw => ?_)
          refine lv_bipush (v := 12) hx hb dX10_step_83 (by decide) ?_
          have hjc_19 : ∀ bc_19 : Int32, bc_19 = (if S 1 0 0 = 12 then 1 else 0) → W p l e (headSpec bw_X10_step (rm_X10_step)).room s m args below meth c H locs 0 0 (MQ below (kQg D A v.1 v.2 L ad cI cO K0 ce) args s 2 26 A) (F0 m 93 ls [.int bc_19, .ref (ad 30 0)]) := by
            intro bc_19 hbc_19
            subst hbc_19
            refine lv_iconst (v := 2) hx hb dX10_step_93 (by decide) ?_
            obtain ⟨x_20, hx_20, hE⟩ := ob1 hE
            refine k_ci0 hw (k_rV (f := 30) (o := 0) (As := [.int (if S 1 0 0 = 12 then 1 else 0), .int 2]) (rest := []) ⟨hx, hb, hml, hown, hts⟩ hK hO hw (ct_X10_refuse (MR.sm (SM.tr (SM.rf S) (sf_X10_start hx_17)) hR) (SM.ci (SM.tr (SM.rf S) (sf_X10_start hx_17)) hI) hx_20 _ (wk.hA hw hA)) (cwV 2 hts (gB_V w_ml_X10_39 w_im_X10_refuse w_se_X10_refuse w_in_X10 w_co_X10_refuse) rfl rfl rfl (by decide +kernel) ⟨Nat.le_of_ble_eq_true rfl, Nat.le_of_ble_eq_true rfl⟩) (hR.1 30 (by decide) (by decide)) mke_30 rfl rfl hl.1 rfl (Nat.le_of_ble_eq_true rfl) dX10_step_94 ⟨(Nat.le_of_ble_eq_true rfl), (Nat.le_of_ble_eq_true rfl)⟩) (fun H locs hw => ?_)
            refine lv_if_eq (tgt := 102) hx hb dX10_step_97 (by decide) (fun c_21 => ?_) (fun c_21 => ?_)
            · have hE := (if_pos c_21).symm.trans hE
              refine lv_aload_n hx hb dX10_step_102 rfl (lv_at hl 1 rfl) ?_
              refine k_get (C := RX10) (T := TX10) (N := 9) (v := .ref (ad 31 0)) hx hb hts inB_X10 hown hK hw (hR.1 30 (by decide) (by decide)) mke_30 rfl 1 (by decide) (hts _ w_f_X10_10) (fun _ h9 => h9) rfl dX10_step_103 ?_
              have hRT : MR x_20.2 L cp := MR.sm (SM.tr (SM.tr (SM.rf S) (sf_X10_start hx_17)) (sf_X10_refuse hx_20)) hR
              have hFT : MF x_20.2 L cp := MF.sm (SM.tr (SM.tr (SM.rf S) (sf_X10_start hx_17)) (sf_X10_refuse hx_20)) hF
              have hz0 : msz x_20.2 0 = (S 1 0 0).toNatClampNeg := SM.z (SM.tr (SM.tr (SM.rf S) (sf_X10_start hx_17)) (sf_X10_refuse hx_20)) 0
              have hCT : CI x_20.2 := SM.ci (SM.tr (SM.tr (SM.rf S) (sf_X10_start hx_17)) (sf_X10_refuse hx_20)) hI
              have hi0 : mszI x_20.2 0 = nI ((S 1 0 0).toNatClampNeg) := (SM.c0 (SM.tr (SM.tr (SM.rf S) (sf_X10_start hx_17)) (sf_X10_refuse hx_20))).trans (cn_eq hI.1.1)
              have hn : (43, (S 1 0 0).toNatClampNeg) ∉ L := (hF.1 _ (Nat.le_refl _))
              refine k_new (C := RX9) (T := TX9) (N := 4) (ci := 12) (fs := [.int 0, .int 0, .int 0, .int 0]) hx hb hts inB_X9 tyX9 tyX9_ok hown (hts _ w_cl_X10_55) (hts _ w_is_X9) (hts _ w_in_X9) hK hw hA rfl (fun j hj => match j, hj with | 0, _ => rfl | 1, _ => rfl | 2, _ => rfl | 3, _ => rfl | n + 4, h => absurd h (by omega)) (Nat.le_of_ble_eq_true rfl) (Nat.le_of_ble_eq_true rfl) 43 ((S 1 0 0).toNatClampNeg) hn dX10_step_106 (fun q H hw => ?_)
              rw [upa_eq]
              have hRn := hR.push (i := (43, (S 1 0 0).toNatClampNeg))
              refine lv_dup hx hb dX10_step_109 rfl ?_
              refine lv_iload_n hx hb dX10_step_110 rfl (lv_at hl 2 rfl) ?_
              refine lv_iload_n hx hb dX10_step_111 rfl (lv_at hl 3 rfl) ?_
              refine lv_iload_n hx hb dX10_step_112 rfl (lv_at hl 4 rfl) ?_
              refine lv_iload hx hb dX10_step_113 (lv_at hl 5 rfl) ?_
              have ct := ct_X9_init (l := l) (D := D) (cI := cI) (cG := cG) (cJ := cJ) (cO := cO) (K0 := K0) (A := A) (L := L ++ [(43, (S 1 0 0).toNatClampNeg)]) (ad := upa ad 43 ((S 1 0 0).toNatClampNeg) q) (ce := up2 (mK cI cO K0 ad cp ce x_20.2) 43 ((S 1 0 0).toNatClampNeg) (.inr (12, [.int 0, .int 0, .int 0, .int 0]))) (o := ((S 1 0 0).toNatClampNeg)) (v0 := p1) (v1 := p2) (v2 := p3) (v3 := p4) (List.mem_append_right _ (List.mem_singleton_self _)) up2_eq _ (wk.hA hw hA)
              rw [upa_eq] at ct
              refine k_cv0 hw (k_rI (As := [.int p1, .int p2, .int p3, .int p4]) (rest := [.ref q, .ref (ad 31 0)]) ⟨hx, hb, hml, hown, hts⟩ hK hO hw ct (cwI 4 hts (gB_0 w_co_X9_init) rfl rfl rfl (hts _ w_in_X9) (hts _ w_ml_X10_211) (hts _ w_im_X9_init) rfl (by decide +kernel) ⟨Nat.le_of_ble_eq_true rfl, Nat.le_of_ble_eq_true rfl⟩) rfl hl.1 rfl (Nat.le_of_ble_eq_true rfl) dX10_step_115 ⟨(Nat.le_of_ble_eq_true rfl), (Nat.le_of_ble_eq_true rfl)⟩) (fun H locs hw => ?_)
              rw [up2_up2] at hw
              have hSE : SE x_20.2 (elS x_20.2 ((S 1 0 0).toNatClampNeg) p1 p2 p3 p4) := SE.elS (Nat.le_of_eq hz0)
              have hw := wk.el (by decide) (by decide) hRT hFT hn hSE (mc_elS) hw
              have hR1 : MR (elS x_20.2 ((S 1 0 0).toNatClampNeg) p1 p2 p3 p4) (L ++ [(43, (S 1 0 0).toNatClampNeg)]) cp := (MR.se hSE hRT).push
              have hX : Ex L ad (upa ad 43 ((S 1 0 0).toNatClampNeg) q) := Ex.upa hn
              by_cases c_22 : 12 ≤ (S 1 0 0).toNatClampNeg
              · exact nomatch (if_pos c_22).symm.trans hE
              have hE := (if_neg c_22).symm.trans hE
              have hz1 : msz (elS x_20.2 ((S 1 0 0).toNatClampNeg) p1 p2 p3 p4) 0 = (S 1 0 0).toNatClampNeg := (SE.z hSE 0).trans hz0
              have hi1 : mszI (elS x_20.2 ((S 1 0 0).toNatClampNeg) p1 p2 p3 p4) 0 = nI ((S 1 0 0).toNatClampNeg) := (SE.zi hSE 0).trans hi0
              have hcap := (hR1.2.2.1 0 (by decide)).1
              rw [hz1] at hcap
              obtain ⟨hz, hnz, hval⟩ := hFT.2.2.2.2.2 0 (by decide)
              refine m_add ⟨hx, hb, hml, hown, hts⟩ hl.1 hK hO hA hw 0 (by decide) hz1 hi1 (by omega) (hR1.1 _ (by decide) (by decide)) hcap hval (fun a => nmemf (hz a) (by decide)) (fun a => List.mem_append_left _ (hnz a)) (nmemf (h59) (by decide)) (Or.inl ⟨43, _, 12, _, (RX9, TX9, 4), (List.mem_append_right _ (List.mem_singleton_self _)), upa_eq, mke_43, rfl, w_ca_X9⟩) (show (upa ad 43 ((S 1 0 0).toNatClampNeg) q) 43 ((S 1 0 0).toNatClampNeg) = q from upa_eq) (fun k hk => EL.el hR1 (by decide) (by rw [hz1]; exact hk)) (hX 31 0 (hR.1 31 (by decide) (by decide))) (Nat.le_of_ble_eq_true rfl) (Nat.le_of_ble_eq_true rfl) (Nat.le_of_ble_eq_true rfl) (Nat.le_of_ble_eq_true rfl) (Nat.le_of_ble_eq_true rfl) dX10_step_118 (fun L2 u2 cp2 H locs hG hw => ?_)
              have hR2 : MR (addS (elS x_20.2 ((S 1 0 0).toNatClampNeg) p1 p2 p3 p4) 0 (nI ((S 1 0 0).toNatClampNeg + 1))) L2 cp2 := MR.add hR1 (by decide) hz1 (by omega) hG (fun _ => List.mem_append_right _ (List.mem_singleton_self _)) (fun z => absurd z (by decide)) (fun z => absurd z (by decide)) (fun z => absurd z (by decide)) (fun z => absurd z (by decide))
              have hzz : msz (addS (elS x_20.2 ((S 1 0 0).toNatClampNeg) p1 p2 p3 p4) 0 (nI ((S 1 0 0).toNatClampNeg + 1))) 0 = (S 1 0 0).toNatClampNeg + 1 := by rw [addS_z (by decide) (by decide) (by omega), if_pos rfl]
              have hF2 : MF (addS (elS x_20.2 ((S 1 0 0).toNatClampNeg) p1 p2 p3 p4) 0 (nI ((S 1 0 0).toNatClampNeg + 1))) L2 cp2 := MFz.gl ((MF.addz hFT hSE (by decide) hz0 (by omega)).push (by decide) (fun _ => by rw [hzz]; omega) (fun z => absurd z (by decide)) (fun z => absurd z (by decide)) (fun z => absurd z (by decide)) (fun a b => absurd a (by decide))) (by decide) hG
              have hI2 : CI (addS (elS x_20.2 ((S 1 0 0).toNatClampNeg) p1 p2 p3 p4) 0 (nI ((S 1 0 0).toNatClampNeg + 1))) := CI.add (by decide) (Nat.lt_of_not_le c_22) (SE.ci hSE hCT)
              have e30 : u2 30 0 = ad 30 0 := (hG.2.2.1 30 0 (by decide)).trans (hX 30 0 (hR.1 30 (by decide) (by decide)))
              rw [← e30] at hl
              refine lv_pop hx hb dX10_step_121 rfl ?_
              refine lv_aload_n hx hb dX10_step_122 rfl (lv_at hl 1 rfl) ?_
              refine k_get (C := RX10) (T := TX10) (N := 9) (v := .ref (u2 31 0)) hx hb hts inB_X10 hown hK hw (hR2.1 30 (by decide) (by decide)) mke_30 rfl 1 (by decide) (hts _ w_f_X10_10) (fun _ h9 => h9) rfl dX10_step_123 ?_
              refine k_ci0 hw (k_rV (f := 31) (o := 0) (As := []) (rest := []) ⟨hx, hb, hml, hown, hts⟩ hK hO hw (ct_size_0 (SM.rf (addS (elS x_20.2 ((S 1 0 0).toNatClampNeg) p1 p2 p3 p4) 0 (nI ((S 1 0 0).toNatClampNeg + 1)))) hR2 _ (wk.hA hw hA)) (cwV 0 hts (gB_V w_ml_X10_43 w_im_Jx4a65c_size_8abf5 w_se_Jx4a65c_size_8abf5 w_in_Jx4a65c w_co_Jx4a65c_size_8abf5) rfl rfl rfl (by decide +kernel) ⟨Nat.le_of_ble_eq_true rfl, Nat.le_of_ble_eq_true rfl⟩) (hR2.1 31 (by decide) (by decide)) (ce_l0 (SM.rf (addS (elS x_20.2 ((S 1 0 0).toNatClampNeg) p1 p2 p3 p4) 0 (nI ((S 1 0 0).toNatClampNeg + 1))))) rfl rfl hl.1 rfl (Nat.le_of_ble_eq_true rfl) dX10_step_126 ⟨(Nat.le_of_ble_eq_true rfl), (Nat.le_of_ble_eq_true rfl)⟩) (fun H locs hw => ?_)
              refine lv_iconst (v := 1) hx hb dX10_step_129 (by decide) ?_
              refine lv_isub hx hb dX10_step_130 ?_
              exact m_iretG hx hb hr hlocks rfl (GRW.of (by decide) (MR.sm (SM.rf (addS (elS x_20.2 ((S 1 0 0).toNatClampNeg) p1 p2 p3 p4) 0 (nI ((S 1 0 0).toNatClampNeg + 1)))) hR2) (MF.sm (SM.rf (addS (elS x_20.2 ((S 1 0 0).toNatClampNeg) p1 p2 p3 p4) 0 (nI ((S 1 0 0).toNatClampNeg + 1)))) hF2) hG (fun i h => by simp [h]) (fun i h => mem_k h (by decide)) hX) hw hE (Nat.le_of_ble_eq_true rfl) (Nat.le_of_ble_eq_true rfl) dX10_step_131
            · have hE := (if_neg c_21).symm.trans hE
              refine lv_iconst (v := 0) hx hb dX10_step_100 (by decide) ?_
              exact m_iretG hx hb hr hlocks rfl (GRW.same (MR.sm (SM.tr (SM.tr (SM.rf S) (sf_X10_start hx_17)) (sf_X10_refuse hx_20)) hR) (MF.sm (SM.tr (SM.tr (SM.rf S) (sf_X10_start hx_17)) (sf_X10_refuse hx_20)) hF)) hw hE (Nat.le_of_ble_eq_true rfl) (Nat.le_of_ble_eq_true rfl) dX10_step_101
          refine lv_icmp_ne (tgt := 92) hx hb dX10_step_85 (by decide) (fun c_19 => ?_) (fun c_19 => ?_)
          · refine lv_iconst (v := 0) hx hb dX10_step_92 (by decide) ?_
            exact hjc_19 _ (if_neg c_19).symm
          · refine lv_iconst (v := 1) hx hb dX10_step_88 (by decide) ?_
            refine lv_goto (tgt := 93) hx hb dX10_step_89 (by decide) ?_
            exact hjc_19 _ (if_pos c_19).symm
      · have hE := (if_pos c_16).symm.trans hE
        refine lv_iload_n hx hb dX10_step_27 rfl (lv_at hl 1 rfl) ?_
        refine lv_if_ne (tgt := 43) hx hb dX10_step_28 (by decide) (fun c_23 => ?_) (fun c_23 => ?_)
        · have hE := (if_neg c_23).symm.trans hE
          refine lv_iload_n hx hb dX10_step_43 rfl (lv_at hl 1 rfl) ?_
          refine lv_iconst (v := 1) hx hb dX10_step_44 (by decide) ?_
          refine lv_icmp_ne (tgt := 62) hx hb dX10_step_45 (by decide) (fun c_24 => ?_) (fun c_24 => ?_)
          · have hE := (if_neg c_24).symm.trans hE
            refine lv_iconst (v := 0) hx hb dX10_step_62 (by decide) ?_
            refine lv_istore (lv' := [(5, .int 0), (0, .ref (ad 30 0)), (1, .int p1), (2, .int p2), (3, .int p3), (4, .int p4)]) hx hb dX10_step_63 hl (by decide) rfl (fun ls hl => ?_)
            refine lv_aload_n hx hb dX10_step_65 rfl (lv_at hl 1 rfl) ?_
            refine lv_iload hx hb dX10_step_66 (lv_at hl 0 rfl) ?_
            refine lv_iconst (v := 1) hx hb dX10_step_68 (by decide) ?_
            obtain ⟨x_25, hx_25, hE⟩ := ob1 hE
            refine k_ci0 hw (k_rV (f := 30) (o := 0) (As := [.int 0, .int 1]) (rest := []) ⟨hx, hb, hml, hown, hts⟩ hK hO hw (ct_X10_start (MR.sm (SM.rf S) hR) (SM.ci (SM.rf S) hI) hx_25 _ (wk.hA hw hA)) (cwV 2 hts (gB_V w_ml_X10_186 w_im_X10_start w_se_X10_start w_in_X10 w_co_X10_start) rfl rfl rfl (by decide +kernel) ⟨Nat.le_of_ble_eq_true rfl, Nat.le_of_ble_eq_true rfl⟩) (hR.1 30 (by decide) (by decide)) mke_30 rfl rfl hl.1 rfl (Nat.le_of_ble_eq_true rfl) dX10_step_69 ⟨(Nat.le_of_ble_eq_true rfl), (Nat.le_of_ble_eq_true rfl)⟩) (fun H locs hw => ?_)
            refine lv_if_ne (tgt := 100) hx hb dX10_step_72 (by decide) (fun c_26 => ?_) (fun c_26 => ?_)
            · have hE := (if_neg c_26).symm.trans hE
              refine lv_iconst (v := 0) hx hb dX10_step_100 (by decide) ?_
              exact m_iretG hx hb hr hlocks rfl (GRW.same (MR.sm (SM.tr (SM.rf S) (sf_X10_start hx_25)) hR) (MF.sm (SM.tr (SM.rf S) (sf_X10_start hx_25)) hF)) hw hE (Nat.le_of_ble_eq_true rfl) (Nat.le_of_ble_eq_true rfl) dX10_step_101
            · have hE := (if_pos c_26).symm.trans hE
              refine lv_aload_n hx hb dX10_step_75 rfl (lv_at hl 1 rfl) ?_
              refine lv_aload_n hx hb dX10_step_76 rfl (lv_at hl 1 rfl) ?_
              refine k_get (C := RX10) (T := TX10) (N := 9) (v := .ref (ad 31 0)) hx hb hts inB_X10 hown hK hw (hR.1 30 (by decide) (by decide)) mke_30 rfl 1 (by decide) (hts _ w_f_X10_10) (fun _ h9 => h9) rfl dX10_step_77 ?_
              refine k_ci0 hw (k_rV (f := 31) (o := 0) (As := []) (rest := [.ref (ad 30 0)]) ⟨hx, hb, hml, hown, hts⟩ hK hO hw (ct_size_0 (SM.tr (SM.rf S) (sf_X10_start hx_25)) hR _ (wk.hA hw hA)) (cwV 0 hts (gB_V w_ml_X10_43 w_im_Jx4a65c_size_8abf5 w_se_Jx4a65c_size_8abf5 w_in_Jx4a65c w_co_Jx4a65c_size_8abf5) rfl rfl rfl (by decide +kernel) ⟨Nat.le_of_ble_eq_true rfl, Nat.le_of_ble_eq_true rfl⟩) (hR.1 31 (by decide) (by decide)) (ce_l0 (SM.tr (SM.rf S) (sf_X10_start hx_25))) rfl rfl hl.1 rfl (Nat.le_of_ble_eq_true rfl) dX10_step_80 ⟨(Nat.le_of_ble_eq_true rfl), (Nat.le_of_ble_eq_true rfl)⟩) (fun H locs hw => ?_)
              refine lv_bipush (v := 12) hx hb dX10_step_83 (by decide) ?_
              have hjc_27 : ∀ bc_27 : Int32, bc_27 = (if S 1 0 0 = 12 then 1 else 0) → W p l e (headSpec bw_X10_step (rm_X10_step)).room s m args below meth c H locs 0 0 (MQ below (kQg D A v.1 v.2 L ad cI cO K0 ce) args s 2 26 A) (F0 m 93 ls [.int bc_27, .ref (ad 30 0)]) := by
                intro bc_27 hbc_27
                subst hbc_27
                refine lv_iconst (v := 2) hx hb dX10_step_93 (by decide) ?_
                obtain ⟨x_28, hx_28, hE⟩ := ob1 hE
                refine k_ci0 hw (k_rV (f := 30) (o := 0) (As := [.int (if S 1 0 0 = 12 then 1 else 0), .int 2]) (rest := []) ⟨hx, hb, hml, hown, hts⟩ hK hO hw (ct_X10_refuse (MR.sm (SM.tr (SM.rf S) (sf_X10_start hx_25)) hR) (SM.ci (SM.tr (SM.rf S) (sf_X10_start hx_25)) hI) hx_28 _ (wk.hA hw hA)) (cwV 2 hts (gB_V w_ml_X10_39 w_im_X10_refuse w_se_X10_refuse w_in_X10 w_co_X10_refuse) rfl rfl rfl (by decide +kernel) ⟨Nat.le_of_ble_eq_true rfl, Nat.le_of_ble_eq_true rfl⟩) (hR.1 30 (by decide) (by decide)) mke_30 rfl rfl hl.1 rfl (Nat.le_of_ble_eq_true rfl) dX10_step_94 ⟨(Nat.le_of_ble_eq_true rfl), (Nat.le_of_ble_eq_true rfl)⟩) (fun H locs hw => ?_)
                refine lv_if_eq (tgt := 102) hx hb dX10_step_97 (by decide) (fun c_29 => ?_) (fun c_29 => ?_)
                · have hE := (if_pos c_29).symm.trans hE
                  refine lv_aload_n hx hb dX10_step_102 rfl (lv_at hl 1 rfl) ?_
                  refine k_get (C := RX10) (T := TX10) (N := 9) (v := .ref (ad 31 0)) hx hb hts inB_X10 hown hK hw (hR.1 30 (by decide) (by decide)) mke_30 rfl 1 (by decide) (hts _ w_f_X10_10) (fun _ h9 => h9) rfl dX10_step_103 ?_
                  have hRT : MR x_28.2 L cp := MR.sm (SM.tr (SM.tr (SM.rf S) (sf_X10_start hx_25)) (sf_X10_refuse hx_28)) hR
                  have hFT : MF x_28.2 L cp := MF.sm (SM.tr (SM.tr (SM.rf S) (sf_X10_start hx_25)) (sf_X10_refuse hx_28)) hF
                  have hz0 : msz x_28.2 0 = (S 1 0 0).toNatClampNeg := SM.z (SM.tr (SM.tr (SM.rf S) (sf_X10_start hx_25)) (sf_X10_refuse hx_28)) 0
                  have hCT : CI x_28.2 := SM.ci (SM.tr (SM.tr (SM.rf S) (sf_X10_start hx_25)) (sf_X10_refuse hx_28)) hI
                  have hi0 : mszI x_28.2 0 = nI ((S 1 0 0).toNatClampNeg) := (SM.c0 (SM.tr (SM.tr (SM.rf S) (sf_X10_start hx_25)) (sf_X10_refuse hx_28))).trans (cn_eq hI.1.1)
                  have hn : (43, (S 1 0 0).toNatClampNeg) ∉ L := (hF.1 _ (Nat.le_refl _))
                  refine k_new (C := RX9) (T := TX9) (N := 4) (ci := 12) (fs := [.int 0, .int 0, .int 0, .int 0]) hx hb hts inB_X9 tyX9 tyX9_ok hown (hts _ w_cl_X10_55) (hts _ w_is_X9) (hts _ w_in_X9) hK hw hA rfl (fun j hj => match j, hj with | 0, _ => rfl | 1, _ => rfl | 2, _ => rfl | 3, _ => rfl | n + 4, h => absurd h (by omega)) (Nat.le_of_ble_eq_true rfl) (Nat.le_of_ble_eq_true rfl) 43 ((S 1 0 0).toNatClampNeg) hn dX10_step_106 (fun q H hw => ?_)
                  rw [upa_eq]
                  have hRn := hR.push (i := (43, (S 1 0 0).toNatClampNeg))
                  refine lv_dup hx hb dX10_step_109 rfl ?_
                  refine lv_iload_n hx hb dX10_step_110 rfl (lv_at hl 2 rfl) ?_
                  refine lv_iload_n hx hb dX10_step_111 rfl (lv_at hl 3 rfl) ?_
                  refine lv_iload_n hx hb dX10_step_112 rfl (lv_at hl 4 rfl) ?_
                  refine lv_iload hx hb dX10_step_113 (lv_at hl 5 rfl) ?_
                  have ct := ct_X9_init (l := l) (D := D) (cI := cI) (cG := cG) (cJ := cJ) (cO := cO) (K0 := K0) (A := A) (L := L ++ [(43, (S 1 0 0).toNatClampNeg)]) (ad := upa ad 43 ((S 1 0 0).toNatClampNeg) q) (ce := up2 (mK cI cO K0 ad cp ce x_28.2) 43 ((S 1 0 0).toNatClampNeg) (.inr (12, [.int 0, .int 0, .int 0, .int 0]))) (o := ((S 1 0 0).toNatClampNeg)) (v0 := p1) (v1 := p2) (v2 := p3) (v3 := p4) (List.mem_append_right _ (List.mem_singleton_self _)) up2_eq _ (wk.hA hw hA)
                  rw [upa_eq] at ct
                  refine k_cv0 hw (k_rI (As := [.int p1, .int p2, .int p3, .int p4]) (rest := [.ref q, .ref (ad 31 0)]) ⟨hx, hb, hml, hown, hts⟩ hK hO hw ct (cwI 4 hts (gB_0 w_co_X9_init) rfl rfl rfl (hts _ w_in_X9) (hts _ w_ml_X10_211) (hts _ w_im_X9_init) rfl (by decide +kernel) ⟨Nat.le_of_ble_eq_true rfl, Nat.le_of_ble_eq_true rfl⟩) rfl hl.1 rfl (Nat.le_of_ble_eq_true rfl) dX10_step_115 ⟨(Nat.le_of_ble_eq_true rfl), (Nat.le_of_ble_eq_true rfl)⟩) (fun H locs hw => ?_)
                  rw [up2_up2] at hw
                  have hSE : SE x_28.2 (elS x_28.2 ((S 1 0 0).toNatClampNeg) p1 p2 p3 p4) := SE.elS (Nat.le_of_eq hz0)
                  have hw := wk.el (by decide) (by decide) hRT hFT hn hSE (mc_elS) hw
                  have hR1 : MR (elS x_28.2 ((S 1 0 0).toNatClampNeg) p1 p2 p3 p4) (L ++ [(43, (S 1 0 0).toNatClampNeg)]) cp := (MR.se hSE hRT).push
                  have hX : Ex L ad (upa ad 43 ((S 1 0 0).toNatClampNeg) q) := Ex.upa hn
                  by_cases c_30 : 12 ≤ (S 1 0 0).toNatClampNeg
                  · exact nomatch (if_pos c_30).symm.trans hE
                  have hE := (if_neg c_30).symm.trans hE
                  have hz1 : msz (elS x_28.2 ((S 1 0 0).toNatClampNeg) p1 p2 p3 p4) 0 = (S 1 0 0).toNatClampNeg := (SE.z hSE 0).trans hz0
                  have hi1 : mszI (elS x_28.2 ((S 1 0 0).toNatClampNeg) p1 p2 p3 p4) 0 = nI ((S 1 0 0).toNatClampNeg) := (SE.zi hSE 0).trans hi0
                  have hcap := (hR1.2.2.1 0 (by decide)).1
                  rw [hz1] at hcap
                  obtain ⟨hz, hnz, hval⟩ := hFT.2.2.2.2.2 0 (by decide)
                  refine m_add ⟨hx, hb, hml, hown, hts⟩ hl.1 hK hO hA hw 0 (by decide) hz1 hi1 (by omega) (hR1.1 _ (by decide) (by decide)) hcap hval (fun a => nmemf (hz a) (by decide)) (fun a => List.mem_append_left _ (hnz a)) (nmemf (h59) (by decide)) (Or.inl ⟨43, _, 12, _, (RX9, TX9, 4), (List.mem_append_right _ (List.mem_singleton_self _)), upa_eq, mke_43, rfl, w_ca_X9⟩) (show (upa ad 43 ((S 1 0 0).toNatClampNeg) q) 43 ((S 1 0 0).toNatClampNeg) = q from upa_eq) (fun k hk => EL.el hR1 (by decide) (by rw [hz1]; exact hk)) (hX 31 0 (hR.1 31 (by decide) (by decide))) (Nat.le_of_ble_eq_true rfl) (Nat.le_of_ble_eq_true rfl) (Nat.le_of_ble_eq_true rfl) (Nat.le_of_ble_eq_true rfl) (Nat.le_of_ble_eq_true rfl) dX10_step_118 (fun L2 u2 cp2 H locs hG hw => ?_)
                  have hR2 : MR (addS (elS x_28.2 ((S 1 0 0).toNatClampNeg) p1 p2 p3 p4) 0 (nI ((S 1 0 0).toNatClampNeg + 1))) L2 cp2 := MR.add hR1 (by decide) hz1 (by omega) hG (fun _ => List.mem_append_right _ (List.mem_singleton_self _)) (fun z => absurd z (by decide)) (fun z => absurd z (by decide)) (fun z => absurd z (by decide)) (fun z => absurd z (by decide))
                  have hzz : msz (addS (elS x_28.2 ((S 1 0 0).toNatClampNeg) p1 p2 p3 p4) 0 (nI ((S 1 0 0).toNatClampNeg + 1))) 0 = (S 1 0 0).toNatClampNeg + 1 := by rw [addS_z (by decide) (by decide) (by omega), if_pos rfl]
                  have hF2 : MF (addS (elS x_28.2 ((S 1 0 0).toNatClampNeg) p1 p2 p3 p4) 0 (nI ((S 1 0 0).toNatClampNeg + 1))) L2 cp2 := MFz.gl ((MF.addz hFT hSE (by decide) hz0 (by omega)).push (by decide) (fun _ => by rw [hzz]; omega) (fun z => absurd z (by decide)) (fun z => absurd z (by decide)) (fun z => absurd z (by decide)) (fun a b => absurd a (by decide))) (by decide) hG
                  have hI2 : CI (addS (elS x_28.2 ((S 1 0 0).toNatClampNeg) p1 p2 p3 p4) 0 (nI ((S 1 0 0).toNatClampNeg + 1))) := CI.add (by decide) (Nat.lt_of_not_le c_30) (SE.ci hSE hCT)
                  have e30 : u2 30 0 = ad 30 0 := (hG.2.2.1 30 0 (by decide)).trans (hX 30 0 (hR.1 30 (by decide) (by decide)))
                  rw [← e30] at hl
                  refine lv_pop hx hb dX10_step_121 rfl ?_
                  refine lv_aload_n hx hb dX10_step_122 rfl (lv_at hl 1 rfl) ?_
                  refine k_get (C := RX10) (T := TX10) (N := 9) (v := .ref (u2 31 0)) hx hb hts inB_X10 hown hK hw (hR2.1 30 (by decide) (by decide)) mke_30 rfl 1 (by decide) (hts _ w_f_X10_10) (fun _ h9 => h9) rfl dX10_step_123 ?_
                  refine k_ci0 hw (k_rV (f := 31) (o := 0) (As := []) (rest := []) ⟨hx, hb, hml, hown, hts⟩ hK hO hw (ct_size_0 (SM.rf (addS (elS x_28.2 ((S 1 0 0).toNatClampNeg) p1 p2 p3 p4) 0 (nI ((S 1 0 0).toNatClampNeg + 1)))) hR2 _ (wk.hA hw hA)) (cwV 0 hts (gB_V w_ml_X10_43 w_im_Jx4a65c_size_8abf5 w_se_Jx4a65c_size_8abf5 w_in_Jx4a65c w_co_Jx4a65c_size_8abf5) rfl rfl rfl (by decide +kernel) ⟨Nat.le_of_ble_eq_true rfl, Nat.le_of_ble_eq_true rfl⟩) (hR2.1 31 (by decide) (by decide)) (ce_l0 (SM.rf (addS (elS x_28.2 ((S 1 0 0).toNatClampNeg) p1 p2 p3 p4) 0 (nI ((S 1 0 0).toNatClampNeg + 1))))) rfl rfl hl.1 rfl (Nat.le_of_ble_eq_true rfl) dX10_step_126 ⟨(Nat.le_of_ble_eq_true rfl), (Nat.le_of_ble_eq_true rfl)⟩) (fun H locs hw => ?_)
                  refine lv_iconst (v := 1) hx hb dX10_step_129 (by decide) ?_
                  refine lv_isub hx hb dX10_step_130 ?_
                  exact m_iretG hx hb hr hlocks rfl (GRW.of (by decide) (MR.sm (SM.rf (addS (elS x_28.2 ((S 1 0 0).toNatClampNeg) p1 p2 p3 p4) 0 (nI ((S 1 0 0).toNatClampNeg + 1)))) hR2) (MF.sm (SM.rf (addS (elS x_28.2 ((S 1 0 0).toNatClampNeg) p1 p2 p3 p4) 0 (nI ((S 1 0 0).toNatClampNeg + 1)))) hF2) hG (fun i h => by simp [h]) (fun i h => mem_k h (by decide)) hX) hw hE (Nat.le_of_ble_eq_true rfl) (Nat.le_of_ble_eq_true rfl) dX10_step_131
                · have hE := (if_neg c_29).symm.trans hE
                  refine lv_iconst (v := 0) hx hb dX10_step_100 (by decide) ?_
                  exact m_iretG hx hb hr hlocks rfl (GRW.same (MR.sm (SM.tr (SM.tr (SM.rf S) (sf_X10_start hx_25)) (sf_X10_refuse hx_28)) hR) (MF.sm (SM.tr (SM.tr (SM.rf S) (sf_X10_start hx_25)) (sf_X10_refuse hx_28)) hF)) hw hE (Nat.le_of_ble_eq_true rfl) (Nat.le_of_ble_eq_true rfl) dX10_step_101
              refine lv_icmp_ne (tgt := 92) hx hb dX10_step_85 (by decide) (fun c_27 => ?_) (fun c_27 => ?_)
              · refine lv_iconst (v := 0) hx hb dX10_step_92 (by decide) ?_
                exact hjc_27 _ (if_neg c_27).symm
              · refine lv_iconst (v := 1) hx hb dX10_step_88 (by decide) ?_
                refine lv_goto (tgt := 93) hx hb dX10_step_89 (by decide) ?_
                exact hjc_27 _ (if_pos c_27).symm
          · have hE := (if_pos c_24).symm.trans hE
            refine lv_iload hx hb dX10_step_48 (lv_at hl 4 rfl) ?_
            refine lv_iconst (v := 0) hx hb dX10_step_50 (by decide) ?_
            refine lv_iconst (v := 3) hx hb dX10_step_51 (by decide) ?_
            refine k_ci0 hw (k_rS (As := [.int p4, .int 0, .int 3]) (rest := []) ⟨hx, hb, hml, hown, hts⟩ hK hO hw (ct_X10_isFrom p4 0 3 _ (wk.hA hw hA)) (va_cwS 3 hts (gB_S w_ml_X10_47 w_st_X10_isFrom w_in_X10 w_co_X10_isFrom) rfl rfl rfl (by decide +kernel) ⟨Nat.le_of_ble_eq_true rfl, Nat.le_of_ble_eq_true rfl⟩) rfl hl.1 rfl (Nat.le_of_ble_eq_true rfl) dX10_step_52 ⟨(Nat.le_of_ble_eq_true rfl), (Nat.le_of_ble_eq_true rfl)⟩) (fun H locs hw => ?_)
            have hjc_31 : ∀ bc_31 : Int32, bc_31 = (if (sp_X10_isFrom p4 0 3) = 0 then 1 else 0) → W p l e (headSpec bw_X10_step (rm_X10_step)).room s m args below meth c H locs 0 0 (MQ below (kQg D A v.1 v.2 L ad cI cO K0 ce) args s 2 26 A) (F0 m 63 ls [.int bc_31]) := by
              intro bc_31 hbc_31
              subst hbc_31
              refine lv_istore (lv' := [(5, .int (if (sp_X10_isFrom p4 0 3) = 0 then 1 else 0)), (0, .ref (ad 30 0)), (1, .int p1), (2, .int p2), (3, .int p3), (4, .int p4)]) hx hb dX10_step_63 hl (by decide) rfl (fun ls hl => ?_)
              refine lv_aload_n hx hb dX10_step_65 rfl (lv_at hl 1 rfl) ?_
              refine lv_iload hx hb dX10_step_66 (lv_at hl 0 rfl) ?_
              refine lv_iconst (v := 1) hx hb dX10_step_68 (by decide) ?_
              obtain ⟨x_32, hx_32, hE⟩ := ob1 hE
              refine k_ci0 hw (k_rV (f := 30) (o := 0) (As := [.int (if (sp_X10_isFrom p4 0 3) = 0 then 1 else 0), .int 1]) (rest := []) ⟨hx, hb, hml, hown, hts⟩ hK hO hw (ct_X10_start (MR.sm (SM.rf S) hR) (SM.ci (SM.rf S) hI) hx_32 _ (wk.hA hw hA)) (cwV 2 hts (gB_V w_ml_X10_186 w_im_X10_start w_se_X10_start w_in_X10 w_co_X10_start) rfl rfl rfl (by decide +kernel) ⟨Nat.le_of_ble_eq_true rfl, Nat.le_of_ble_eq_true rfl⟩) (hR.1 30 (by decide) (by decide)) mke_30 rfl rfl hl.1 rfl (Nat.le_of_ble_eq_true rfl) dX10_step_69 ⟨(Nat.le_of_ble_eq_true rfl), (Nat.le_of_ble_eq_true rfl)⟩) (fun H locs hw => ?_)
              refine lv_if_ne (tgt := 100) hx hb dX10_step_72 (by decide) (fun c_33 => ?_) (fun c_33 => ?_)
              · have hE := (if_neg c_33).symm.trans hE
                refine lv_iconst (v := 0) hx hb dX10_step_100 (by decide) ?_
                exact m_iretG hx hb hr hlocks rfl (GRW.same (MR.sm (SM.tr (SM.rf S) (sf_X10_start hx_32)) hR) (MF.sm (SM.tr (SM.rf S) (sf_X10_start hx_32)) hF)) hw hE (Nat.le_of_ble_eq_true rfl) (Nat.le_of_ble_eq_true rfl) dX10_step_101
              · have hE := (if_pos c_33).symm.trans hE
                refine lv_aload_n hx hb dX10_step_75 rfl (lv_at hl 1 rfl) ?_
                refine lv_aload_n hx hb dX10_step_76 rfl (lv_at hl 1 rfl) ?_
                refine k_get (C := RX10) (T := TX10) (N := 9) (v := .ref (ad 31 0)) hx hb hts inB_X10 hown hK hw (hR.1 30 (by decide) (by decide)) mke_30 rfl 1 (by decide) (hts _ w_f_X10_10) (fun _ h9 => h9) rfl dX10_step_77 ?_
                refine k_ci0 hw (k_rV (f := 31) (o := 0) (As := []) (rest := [.ref (ad 30 0)]) ⟨hx, hb, hml, hown, hts⟩ hK hO hw (ct_size_0 (SM.tr (SM.rf S) (sf_X10_start hx_32)) hR _ (wk.hA hw hA)) (cwV 0 hts (gB_V w_ml_X10_43 w_im_Jx4a65c_size_8abf5 w_se_Jx4a65c_size_8abf5 w_in_Jx4a65c w_co_Jx4a65c_size_8abf5) rfl rfl rfl (by decide +kernel) ⟨Nat.le_of_ble_eq_true rfl, Nat.le_of_ble_eq_true rfl⟩) (hR.1 31 (by decide) (by decide)) (ce_l0 (SM.tr (SM.rf S) (sf_X10_start hx_32))) rfl rfl hl.1 rfl (Nat.le_of_ble_eq_true rfl) dX10_step_80 ⟨(Nat.le_of_ble_eq_true rfl), (Nat.le_of_ble_eq_true rfl)⟩) (fun H locs hw => ?_)
                refine lv_bipush (v := 12) hx hb dX10_step_83 (by decide) ?_
                have hjc_34 : ∀ bc_34 : Int32, bc_34 = (if S 1 0 0 = 12 then 1 else 0) → W p l e (headSpec bw_X10_step (rm_X10_step)).room s m args below meth c H locs 0 0 (MQ below (kQg D A v.1 v.2 L ad cI cO K0 ce) args s 2 26 A) (F0 m 93 ls [.int bc_34, .ref (ad 30 0)]) := by
                  intro bc_34 hbc_34
                  subst hbc_34
                  refine lv_iconst (v := 2) hx hb dX10_step_93 (by decide) ?_
                  obtain ⟨x_35, hx_35, hE⟩ := ob1 hE
                  refine k_ci0 hw (k_rV (f := 30) (o := 0) (As := [.int (if S 1 0 0 = 12 then 1 else 0), .int 2]) (rest := []) ⟨hx, hb, hml, hown, hts⟩ hK hO hw (ct_X10_refuse (MR.sm (SM.tr (SM.rf S) (sf_X10_start hx_32)) hR) (SM.ci (SM.tr (SM.rf S) (sf_X10_start hx_32)) hI) hx_35 _ (wk.hA hw hA)) (cwV 2 hts (gB_V w_ml_X10_39 w_im_X10_refuse w_se_X10_refuse w_in_X10 w_co_X10_refuse) rfl rfl rfl (by decide +kernel) ⟨Nat.le_of_ble_eq_true rfl, Nat.le_of_ble_eq_true rfl⟩) (hR.1 30 (by decide) (by decide)) mke_30 rfl rfl hl.1 rfl (Nat.le_of_ble_eq_true rfl) dX10_step_94 ⟨(Nat.le_of_ble_eq_true rfl), (Nat.le_of_ble_eq_true rfl)⟩) (fun H locs hw => ?_)
                  refine lv_if_eq (tgt := 102) hx hb dX10_step_97 (by decide) (fun c_36 => ?_) (fun c_36 => ?_)
                  · have hE := (if_pos c_36).symm.trans hE
                    refine lv_aload_n hx hb dX10_step_102 rfl (lv_at hl 1 rfl) ?_
                    refine k_get (C := RX10) (T := TX10) (N := 9) (v := .ref (ad 31 0)) hx hb hts inB_X10 hown hK hw (hR.1 30 (by decide) (by decide)) mke_30 rfl 1 (by decide) (hts _ w_f_X10_10) (fun _ h9 => h9) rfl dX10_step_103 ?_
                    have hRT : MR x_35.2 L cp := MR.sm (SM.tr (SM.tr (SM.rf S) (sf_X10_start hx_32)) (sf_X10_refuse hx_35)) hR
                    have hFT : MF x_35.2 L cp := MF.sm (SM.tr (SM.tr (SM.rf S) (sf_X10_start hx_32)) (sf_X10_refuse hx_35)) hF
                    have hz0 : msz x_35.2 0 = (S 1 0 0).toNatClampNeg := SM.z (SM.tr (SM.tr (SM.rf S) (sf_X10_start hx_32)) (sf_X10_refuse hx_35)) 0
                    have hCT : CI x_35.2 := SM.ci (SM.tr (SM.tr (SM.rf S) (sf_X10_start hx_32)) (sf_X10_refuse hx_35)) hI
                    have hi0 : mszI x_35.2 0 = nI ((S 1 0 0).toNatClampNeg) := (SM.c0 (SM.tr (SM.tr (SM.rf S) (sf_X10_start hx_32)) (sf_X10_refuse hx_35))).trans (cn_eq hI.1.1)
                    have hn : (43, (S 1 0 0).toNatClampNeg) ∉ L := (hF.1 _ (Nat.le_refl _))
                    refine k_new (C := RX9) (T := TX9) (N := 4) (ci := 12) (fs := [.int 0, .int 0, .int 0, .int 0]) hx hb hts inB_X9 tyX9 tyX9_ok hown (hts _ w_cl_X10_55) (hts _ w_is_X9) (hts _ w_in_X9) hK hw hA rfl (fun j hj => match j, hj with | 0, _ => rfl | 1, _ => rfl | 2, _ => rfl | 3, _ => rfl | n + 4, h => absurd h (by omega)) (Nat.le_of_ble_eq_true rfl) (Nat.le_of_ble_eq_true rfl) 43 ((S 1 0 0).toNatClampNeg) hn dX10_step_106 (fun q H hw => ?_)
                    rw [upa_eq]
                    have hRn := hR.push (i := (43, (S 1 0 0).toNatClampNeg))
                    refine lv_dup hx hb dX10_step_109 rfl ?_
                    refine lv_iload_n hx hb dX10_step_110 rfl (lv_at hl 2 rfl) ?_
                    refine lv_iload_n hx hb dX10_step_111 rfl (lv_at hl 3 rfl) ?_
                    refine lv_iload_n hx hb dX10_step_112 rfl (lv_at hl 4 rfl) ?_
                    refine lv_iload hx hb dX10_step_113 (lv_at hl 5 rfl) ?_
                    have ct := ct_X9_init (l := l) (D := D) (cI := cI) (cG := cG) (cJ := cJ) (cO := cO) (K0 := K0) (A := A) (L := L ++ [(43, (S 1 0 0).toNatClampNeg)]) (ad := upa ad 43 ((S 1 0 0).toNatClampNeg) q) (ce := up2 (mK cI cO K0 ad cp ce x_35.2) 43 ((S 1 0 0).toNatClampNeg) (.inr (12, [.int 0, .int 0, .int 0, .int 0]))) (o := ((S 1 0 0).toNatClampNeg)) (v0 := p1) (v1 := p2) (v2 := p3) (v3 := p4) (List.mem_append_right _ (List.mem_singleton_self _)) up2_eq _ (wk.hA hw hA)
                    rw [upa_eq] at ct
                    refine k_cv0 hw (k_rI (As := [.int p1, .int p2, .int p3, .int p4]) (rest := [.ref q, .ref (ad 31 0)]) ⟨hx, hb, hml, hown, hts⟩ hK hO hw ct (cwI 4 hts (gB_0 w_co_X9_init) rfl rfl rfl (hts _ w_in_X9) (hts _ w_ml_X10_211) (hts _ w_im_X9_init) rfl (by decide +kernel) ⟨Nat.le_of_ble_eq_true rfl, Nat.le_of_ble_eq_true rfl⟩) rfl hl.1 rfl (Nat.le_of_ble_eq_true rfl) dX10_step_115 ⟨(Nat.le_of_ble_eq_true rfl), (Nat.le_of_ble_eq_true rfl)⟩) (fun H locs hw => ?_)
                    rw [up2_up2] at hw
                    have hSE : SE x_35.2 (elS x_35.2 ((S 1 0 0).toNatClampNeg) p1 p2 p3 p4) := SE.elS (Nat.le_of_eq hz0)
                    have hw := wk.el (by decide) (by decide) hRT hFT hn hSE (mc_elS) hw
                    have hR1 : MR (elS x_35.2 ((S 1 0 0).toNatClampNeg) p1 p2 p3 p4) (L ++ [(43, (S 1 0 0).toNatClampNeg)]) cp := (MR.se hSE hRT).push
                    have hX : Ex L ad (upa ad 43 ((S 1 0 0).toNatClampNeg) q) := Ex.upa hn
                    by_cases c_37 : 12 ≤ (S 1 0 0).toNatClampNeg
                    · exact nomatch (if_pos c_37).symm.trans hE
                    have hE := (if_neg c_37).symm.trans hE
                    have hz1 : msz (elS x_35.2 ((S 1 0 0).toNatClampNeg) p1 p2 p3 p4) 0 = (S 1 0 0).toNatClampNeg := (SE.z hSE 0).trans hz0
                    have hi1 : mszI (elS x_35.2 ((S 1 0 0).toNatClampNeg) p1 p2 p3 p4) 0 = nI ((S 1 0 0).toNatClampNeg) := (SE.zi hSE 0).trans hi0
                    have hcap := (hR1.2.2.1 0 (by decide)).1
                    rw [hz1] at hcap
                    obtain ⟨hz, hnz, hval⟩ := hFT.2.2.2.2.2 0 (by decide)
                    refine m_add ⟨hx, hb, hml, hown, hts⟩ hl.1 hK hO hA hw 0 (by decide) hz1 hi1 (by omega) (hR1.1 _ (by decide) (by decide)) hcap hval (fun a => nmemf (hz a) (by decide)) (fun a => List.mem_append_left _ (hnz a)) (nmemf (h59) (by decide)) (Or.inl ⟨43, _, 12, _, (RX9, TX9, 4), (List.mem_append_right _ (List.mem_singleton_self _)), upa_eq, mke_43, rfl, w_ca_X9⟩) (show (upa ad 43 ((S 1 0 0).toNatClampNeg) q) 43 ((S 1 0 0).toNatClampNeg) = q from upa_eq) (fun k hk => EL.el hR1 (by decide) (by rw [hz1]; exact hk)) (hX 31 0 (hR.1 31 (by decide) (by decide))) (Nat.le_of_ble_eq_true rfl) (Nat.le_of_ble_eq_true rfl) (Nat.le_of_ble_eq_true rfl) (Nat.le_of_ble_eq_true rfl) (Nat.le_of_ble_eq_true rfl) dX10_step_118 (fun L2 u2 cp2 H locs hG hw => ?_)
                    have hR2 : MR (addS (elS x_35.2 ((S 1 0 0).toNatClampNeg) p1 p2 p3 p4) 0 (nI ((S 1 0 0).toNatClampNeg + 1))) L2 cp2 := MR.add hR1 (by decide) hz1 (by omega) hG (fun _ => List.mem_append_right _ (List.mem_singleton_self _)) (fun z => absurd z (by decide)) (fun z => absurd z (by decide)) (fun z => absurd z (by decide)) (fun z => absurd z (by decide))
                    have hzz : msz (addS (elS x_35.2 ((S 1 0 0).toNatClampNeg) p1 p2 p3 p4) 0 (nI ((S 1 0 0).toNatClampNeg + 1))) 0 = (S 1 0 0).toNatClampNeg + 1 := by rw [addS_z (by decide) (by decide) (by omega), if_pos rfl]
                    have hF2 : MF (addS (elS x_35.2 ((S 1 0 0).toNatClampNeg) p1 p2 p3 p4) 0 (nI ((S 1 0 0).toNatClampNeg + 1))) L2 cp2 := MFz.gl ((MF.addz hFT hSE (by decide) hz0 (by omega)).push (by decide) (fun _ => by rw [hzz]; omega) (fun z => absurd z (by decide)) (fun z => absurd z (by decide)) (fun z => absurd z (by decide)) (fun a b => absurd a (by decide))) (by decide) hG
                    have hI2 : CI (addS (elS x_35.2 ((S 1 0 0).toNatClampNeg) p1 p2 p3 p4) 0 (nI ((S 1 0 0).toNatClampNeg + 1))) := CI.add (by decide) (Nat.lt_of_not_le c_37) (SE.ci hSE hCT)
                    have e30 : u2 30 0 = ad 30 0 := (hG.2.2.1 30 0 (by decide)).trans (hX 30 0 (hR.1 30 (by decide) (by decide)))
                    rw [← e30] at hl
                    refine lv_pop hx hb dX10_step_121 rfl ?_
                    refine lv_aload_n hx hb dX10_step_122 rfl (lv_at hl 1 rfl) ?_
                    refine k_get (C := RX10) (T := TX10) (N := 9) (v := .ref (u2 31 0)) hx hb hts inB_X10 hown hK hw (hR2.1 30 (by decide) (by decide)) mke_30 rfl 1 (by decide) (hts _ w_f_X10_10) (fun _ h9 => h9) rfl dX10_step_123 ?_
                    refine k_ci0 hw (k_rV (f := 31) (o := 0) (As := []) (rest := []) ⟨hx, hb, hml, hown, hts⟩ hK hO hw (ct_size_0 (SM.rf (addS (elS x_35.2 ((S 1 0 0).toNatClampNeg) p1 p2 p3 p4) 0 (nI ((S 1 0 0).toNatClampNeg + 1)))) hR2 _ (wk.hA hw hA)) (cwV 0 hts (gB_V w_ml_X10_43 w_im_Jx4a65c_size_8abf5 w_se_Jx4a65c_size_8abf5 w_in_Jx4a65c w_co_Jx4a65c_size_8abf5) rfl rfl rfl (by decide +kernel) ⟨Nat.le_of_ble_eq_true rfl, Nat.le_of_ble_eq_true rfl⟩) (hR2.1 31 (by decide) (by decide)) (ce_l0 (SM.rf (addS (elS x_35.2 ((S 1 0 0).toNatClampNeg) p1 p2 p3 p4) 0 (nI ((S 1 0 0).toNatClampNeg + 1))))) rfl rfl hl.1 rfl (Nat.le_of_ble_eq_true rfl) dX10_step_126 ⟨(Nat.le_of_ble_eq_true rfl), (Nat.le_of_ble_eq_true rfl)⟩) (fun H locs hw => ?_)
                    refine lv_iconst (v := 1) hx hb dX10_step_129 (by decide) ?_
                    refine lv_isub hx hb dX10_step_130 ?_
                    exact m_iretG hx hb hr hlocks rfl (GRW.of (by decide) (MR.sm (SM.rf (addS (elS x_35.2 ((S 1 0 0).toNatClampNeg) p1 p2 p3 p4) 0 (nI ((S 1 0 0).toNatClampNeg + 1)))) hR2) (MF.sm (SM.rf (addS (elS x_35.2 ((S 1 0 0).toNatClampNeg) p1 p2 p3 p4) 0 (nI ((S 1 0 0).toNatClampNeg + 1)))) hF2) hG (fun i h => by simp [h]) (fun i h => mem_k h (by decide)) hX) hw hE (Nat.le_of_ble_eq_true rfl) (Nat.le_of_ble_eq_true rfl) dX10_step_131
                  · have hE := (if_neg c_36).symm.trans hE
                    refine lv_iconst (v := 0) hx hb dX10_step_100 (by decide) ?_
                    exact m_iretG hx hb hr hlocks rfl (GRW.same (MR.sm (SM.tr (SM.tr (SM.rf S) (sf_X10_start hx_32)) (sf_X10_refuse hx_35)) hR) (MF.sm (SM.tr (SM.tr (SM.rf S) (sf_X10_start hx_32)) (sf_X10_refuse hx_35)) hF)) hw hE (Nat.le_of_ble_eq_true rfl) (Nat.le_of_ble_eq_true rfl) dX10_step_101
                refine lv_icmp_ne (tgt := 92) hx hb dX10_step_85 (by decide) (fun c_34 => ?_) (fun c_34 => ?_)
                · refine lv_iconst (v := 0) hx hb dX10_step_92 (by decide) ?_
                  exact hjc_34 _ (if_neg c_34).symm
                · refine lv_iconst (v := 1) hx hb dX10_step_88 (by decide) ?_
                  refine lv_goto (tgt := 93) hx hb dX10_step_89 (by decide) ?_
                  exact hjc_34 _ (if_pos c_34).symm
            refine lv_if_ne (tgt := 62) hx hb dX10_step_55 (by decide) (fun c_31 => ?_) (fun c_31 => ?_)
            · refine lv_iconst (v := 0) hx hb dX10_step_62 (by decide) ?_
              exact hjc_31 _ (if_neg c_31).symm
            · refine lv_iconst (v := 1) hx hb dX10_step_58 (by decide) ?_
              refine lv_goto (tgt := 63) hx hb dX10_step_59 (by decide) ?_
              exact hjc_31 _ (if_pos c_31).symm
        · have hE := (if_pos c_23).symm.trans hE
          refine lv_iload hx hb dX10_step_31 (lv_at hl 4 rfl) ?_
          refine lv_iconst (v := 0) hx hb dX10_step_33 (by decide) ?_
          refine lv_sipush (v := 255) hx hb dX10_step_34 (by decide) ?_
          refine k_ci0 hw (k_rS (As := [.int p4, .int 0, .int 255]) (rest := []) ⟨hx, hb, hml, hown, hts⟩ hK hO hw (ct_X10_isFrom p4 0 255 _ (wk.hA hw hA)) (va_cwS 3 hts (gB_S w_ml_X10_47 w_st_X10_isFrom w_in_X10 w_co_X10_isFrom) rfl rfl rfl (by decide +kernel) ⟨Nat.le_of_ble_eq_true rfl, Nat.le_of_ble_eq_true rfl⟩) rfl hl.1 rfl (Nat.le_of_ble_eq_true rfl) dX10_step_37 ⟨(Nat.le_of_ble_eq_true rfl), (Nat.le_of_ble_eq_true rfl)⟩) (fun H locs hw => ?_)
          refine lv_if_eq (tgt := 58) hx hb dX10_step_40 (by decide) (fun c_38 => ?_) (fun c_38 => ?_)
          · have hE := (if_pos c_38).symm.trans hE
            refine lv_iconst (v := 1) hx hb dX10_step_58 (by decide) ?_
            refine lv_goto (tgt := 63) hx hb dX10_step_59 (by decide) ?_
            refine lv_istore (lv' := [(5, .int 1), (0, .ref (ad 30 0)), (1, .int p1), (2, .int p2), (3, .int p3), (4, .int p4)]) hx hb dX10_step_63 hl (by decide) rfl (fun ls hl => ?_)
            refine lv_aload_n hx hb dX10_step_65 rfl (lv_at hl 1 rfl) ?_
            refine lv_iload hx hb dX10_step_66 (lv_at hl 0 rfl) ?_
            refine lv_iconst (v := 1) hx hb dX10_step_68 (by decide) ?_
            obtain ⟨x_39, hx_39, hE⟩ := ob1 hE
            refine k_ci0 hw (k_rV (f := 30) (o := 0) (As := [.int 1, .int 1]) (rest := []) ⟨hx, hb, hml, hown, hts⟩ hK hO hw (ct_X10_start (MR.sm (SM.rf S) hR) (SM.ci (SM.rf S) hI) hx_39 _ (wk.hA hw hA)) (cwV 2 hts (gB_V w_ml_X10_186 w_im_X10_start w_se_X10_start w_in_X10 w_co_X10_start) rfl rfl rfl (by decide +kernel) ⟨Nat.le_of_ble_eq_true rfl, Nat.le_of_ble_eq_true rfl⟩) (hR.1 30 (by decide) (by decide)) mke_30 rfl rfl hl.1 rfl (Nat.le_of_ble_eq_true rfl) dX10_step_69 ⟨(Nat.le_of_ble_eq_true rfl), (Nat.le_of_ble_eq_true rfl)⟩) (fun H locs hw => ?_)
            refine lv_if_ne (tgt := 100) hx hb dX10_step_72 (by decide) (fun c_40 => ?_) (fun c_40 => ?_)
            · have hE := (if_neg c_40).symm.trans hE
              refine lv_iconst (v := 0) hx hb dX10_step_100 (by decide) ?_
              exact m_iretG hx hb hr hlocks rfl (GRW.same (MR.sm (SM.tr (SM.rf S) (sf_X10_start hx_39)) hR) (MF.sm (SM.tr (SM.rf S) (sf_X10_start hx_39)) hF)) hw hE (Nat.le_of_ble_eq_true rfl) (Nat.le_of_ble_eq_true rfl) dX10_step_101
            · have hE := (if_pos c_40).symm.trans hE
              refine lv_aload_n hx hb dX10_step_75 rfl (lv_at hl 1 rfl) ?_
              refine lv_aload_n hx hb dX10_step_76 rfl (lv_at hl 1 rfl) ?_
              refine k_get (C := RX10) (T := TX10) (N := 9) (v := .ref (ad 31 0)) hx hb hts inB_X10 hown hK hw (hR.1 30 (by decide) (by decide)) mke_30 rfl 1 (by decide) (hts _ w_f_X10_10) (fun _ h9 => h9) rfl dX10_step_77 ?_
              refine k_ci0 hw (k_rV (f := 31) (o := 0) (As := []) (rest := [.ref (ad 30 0)]) ⟨hx, hb, hml, hown, hts⟩ hK hO hw (ct_size_0 (SM.tr (SM.rf S) (sf_X10_start hx_39)) hR _ (wk.hA hw hA)) (cwV 0 hts (gB_V w_ml_X10_43 w_im_Jx4a65c_size_8abf5 w_se_Jx4a65c_size_8abf5 w_in_Jx4a65c w_co_Jx4a65c_size_8abf5) rfl rfl rfl (by decide +kernel) ⟨Nat.le_of_ble_eq_true rfl, Nat.le_of_ble_eq_true rfl⟩) (hR.1 31 (by decide) (by decide)) (ce_l0 (SM.tr (SM.rf S) (sf_X10_start hx_39))) rfl rfl hl.1 rfl (Nat.le_of_ble_eq_true rfl) dX10_step_80 ⟨(Nat.le_of_ble_eq_true rfl), (Nat.le_of_ble_eq_true rfl)⟩) (fun H locs hw => ?_)
              refine lv_bipush (v := 12) hx hb dX10_step_83 (by decide) ?_
              have hjc_41 : ∀ bc_41 : Int32, bc_41 = (if S 1 0 0 = 12 then 1 else 0) → W p l e (headSpec bw_X10_step (rm_X10_step)).room s m args below meth c H locs 0 0 (MQ below (kQg D A v.1 v.2 L ad cI cO K0 ce) args s 2 26 A) (F0 m 93 ls [.int bc_41, .ref (ad 30 0)]) := by
                intro bc_41 hbc_41
                subst hbc_41
                refine lv_iconst (v := 2) hx hb dX10_step_93 (by decide) ?_
                obtain ⟨x_42, hx_42, hE⟩ := ob1 hE
                refine k_ci0 hw (k_rV (f := 30) (o := 0) (As := [.int (if S 1 0 0 = 12 then 1 else 0), .int 2]) (rest := []) ⟨hx, hb, hml, hown, hts⟩ hK hO hw (ct_X10_refuse (MR.sm (SM.tr (SM.rf S) (sf_X10_start hx_39)) hR) (SM.ci (SM.tr (SM.rf S) (sf_X10_start hx_39)) hI) hx_42 _ (wk.hA hw hA)) (cwV 2 hts (gB_V w_ml_X10_39 w_im_X10_refuse w_se_X10_refuse w_in_X10 w_co_X10_refuse) rfl rfl rfl (by decide +kernel) ⟨Nat.le_of_ble_eq_true rfl, Nat.le_of_ble_eq_true rfl⟩) (hR.1 30 (by decide) (by decide)) mke_30 rfl rfl hl.1 rfl (Nat.le_of_ble_eq_true rfl) dX10_step_94 ⟨(Nat.le_of_ble_eq_true rfl), (Nat.le_of_ble_eq_true rfl)⟩) (fun H locs hw => ?_)
                refine lv_if_eq (tgt := 102) hx hb dX10_step_97 (by decide) (fun c_43 => ?_) (fun c_43 => ?_)
                · have hE := (if_pos c_43).symm.trans hE
                  refine lv_aload_n hx hb dX10_step_102 rfl (lv_at hl 1 rfl) ?_
                  refine k_get (C := RX10) (T := TX10) (N := 9) (v := .ref (ad 31 0)) hx hb hts inB_X10 hown hK hw (hR.1 30 (by decide) (by decide)) mke_30 rfl 1 (by decide) (hts _ w_f_X10_10) (fun _ h9 => h9) rfl dX10_step_103 ?_
                  have hRT : MR x_42.2 L cp := MR.sm (SM.tr (SM.tr (SM.rf S) (sf_X10_start hx_39)) (sf_X10_refuse hx_42)) hR
                  have hFT : MF x_42.2 L cp := MF.sm (SM.tr (SM.tr (SM.rf S) (sf_X10_start hx_39)) (sf_X10_refuse hx_42)) hF
                  have hz0 : msz x_42.2 0 = (S 1 0 0).toNatClampNeg := SM.z (SM.tr (SM.tr (SM.rf S) (sf_X10_start hx_39)) (sf_X10_refuse hx_42)) 0
                  have hCT : CI x_42.2 := SM.ci (SM.tr (SM.tr (SM.rf S) (sf_X10_start hx_39)) (sf_X10_refuse hx_42)) hI
                  have hi0 : mszI x_42.2 0 = nI ((S 1 0 0).toNatClampNeg) := (SM.c0 (SM.tr (SM.tr (SM.rf S) (sf_X10_start hx_39)) (sf_X10_refuse hx_42))).trans (cn_eq hI.1.1)
                  have hn : (43, (S 1 0 0).toNatClampNeg) ∉ L := (hF.1 _ (Nat.le_refl _))
                  refine k_new (C := RX9) (T := TX9) (N := 4) (ci := 12) (fs := [.int 0, .int 0, .int 0, .int 0]) hx hb hts inB_X9 tyX9 tyX9_ok hown (hts _ w_cl_X10_55) (hts _ w_is_X9) (hts _ w_in_X9) hK hw hA rfl (fun j hj => match j, hj with | 0, _ => rfl | 1, _ => rfl | 2, _ => rfl | 3, _ => rfl | n + 4, h => absurd h (by omega)) (Nat.le_of_ble_eq_true rfl) (Nat.le_of_ble_eq_true rfl) 43 ((S 1 0 0).toNatClampNeg) hn dX10_step_106 (fun q H hw => ?_)
                  rw [upa_eq]
                  have hRn := hR.push (i := (43, (S 1 0 0).toNatClampNeg))
                  refine lv_dup hx hb dX10_step_109 rfl ?_
                  refine lv_iload_n hx hb dX10_step_110 rfl (lv_at hl 2 rfl) ?_
                  refine lv_iload_n hx hb dX10_step_111 rfl (lv_at hl 3 rfl) ?_
                  refine lv_iload_n hx hb dX10_step_112 rfl (lv_at hl 4 rfl) ?_
                  refine lv_iload hx hb dX10_step_113 (lv_at hl 5 rfl) ?_
                  have ct := ct_X9_init (l := l) (D := D) (cI := cI) (cG := cG) (cJ := cJ) (cO := cO) (K0 := K0) (A := A) (L := L ++ [(43, (S 1 0 0).toNatClampNeg)]) (ad := upa ad 43 ((S 1 0 0).toNatClampNeg) q) (ce := up2 (mK cI cO K0 ad cp ce x_42.2) 43 ((S 1 0 0).toNatClampNeg) (.inr (12, [.int 0, .int 0, .int 0, .int 0]))) (o := ((S 1 0 0).toNatClampNeg)) (v0 := p1) (v1 := p2) (v2 := p3) (v3 := p4) (List.mem_append_right _ (List.mem_singleton_self _)) up2_eq _ (wk.hA hw hA)
                  rw [upa_eq] at ct
                  refine k_cv0 hw (k_rI (As := [.int p1, .int p2, .int p3, .int p4]) (rest := [.ref q, .ref (ad 31 0)]) ⟨hx, hb, hml, hown, hts⟩ hK hO hw ct (cwI 4 hts (gB_0 w_co_X9_init) rfl rfl rfl (hts _ w_in_X9) (hts _ w_ml_X10_211) (hts _ w_im_X9_init) rfl (by decide +kernel) ⟨Nat.le_of_ble_eq_true rfl, Nat.le_of_ble_eq_true rfl⟩) rfl hl.1 rfl (Nat.le_of_ble_eq_true rfl) dX10_step_115 ⟨(Nat.le_of_ble_eq_true rfl), (Nat.le_of_ble_eq_true rfl)⟩) (fun H locs hw => ?_)
                  rw [up2_up2] at hw
                  have hSE : SE x_42.2 (elS x_42.2 ((S 1 0 0).toNatClampNeg) p1 p2 p3 p4) := SE.elS (Nat.le_of_eq hz0)
                  have hw := wk.el (by decide) (by decide) hRT hFT hn hSE (mc_elS) hw
                  have hR1 : MR (elS x_42.2 ((S 1 0 0).toNatClampNeg) p1 p2 p3 p4) (L ++ [(43, (S 1 0 0).toNatClampNeg)]) cp := (MR.se hSE hRT).push
                  have hX : Ex L ad (upa ad 43 ((S 1 0 0).toNatClampNeg) q) := Ex.upa hn
                  by_cases c_44 : 12 ≤ (S 1 0 0).toNatClampNeg
                  · exact nomatch (if_pos c_44).symm.trans hE
                  have hE := (if_neg c_44).symm.trans hE
                  have hz1 : msz (elS x_42.2 ((S 1 0 0).toNatClampNeg) p1 p2 p3 p4) 0 = (S 1 0 0).toNatClampNeg := (SE.z hSE 0).trans hz0
                  have hi1 : mszI (elS x_42.2 ((S 1 0 0).toNatClampNeg) p1 p2 p3 p4) 0 = nI ((S 1 0 0).toNatClampNeg) := (SE.zi hSE 0).trans hi0
                  have hcap := (hR1.2.2.1 0 (by decide)).1
                  rw [hz1] at hcap
                  obtain ⟨hz, hnz, hval⟩ := hFT.2.2.2.2.2 0 (by decide)
                  refine m_add ⟨hx, hb, hml, hown, hts⟩ hl.1 hK hO hA hw 0 (by decide) hz1 hi1 (by omega) (hR1.1 _ (by decide) (by decide)) hcap hval (fun a => nmemf (hz a) (by decide)) (fun a => List.mem_append_left _ (hnz a)) (nmemf (h59) (by decide)) (Or.inl ⟨43, _, 12, _, (RX9, TX9, 4), (List.mem_append_right _ (List.mem_singleton_self _)), upa_eq, mke_43, rfl, w_ca_X9⟩) (show (upa ad 43 ((S 1 0 0).toNatClampNeg) q) 43 ((S 1 0 0).toNatClampNeg) = q from upa_eq) (fun k hk => EL.el hR1 (by decide) (by rw [hz1]; exact hk)) (hX 31 0 (hR.1 31 (by decide) (by decide))) (Nat.le_of_ble_eq_true rfl) (Nat.le_of_ble_eq_true rfl) (Nat.le_of_ble_eq_true rfl) (Nat.le_of_ble_eq_true rfl) (Nat.le_of_ble_eq_true rfl) dX10_step_118 (fun L2 u2 cp2 H locs hG hw => ?_)
                  have hR2 : MR (addS (elS x_42.2 ((S 1 0 0).toNatClampNeg) p1 p2 p3 p4) 0 (nI ((S 1 0 0).toNatClampNeg + 1))) L2 cp2 := MR.add hR1 (by decide) hz1 (by omega) hG (fun _ => List.mem_append_right _ (List.mem_singleton_self _)) (fun z => absurd z (by decide)) (fun z => absurd z (by decide)) (fun z => absurd z (by decide)) (fun z => absurd z (by decide))
                  have hzz : msz (addS (elS x_42.2 ((S 1 0 0).toNatClampNeg) p1 p2 p3 p4) 0 (nI ((S 1 0 0).toNatClampNeg + 1))) 0 = (S 1 0 0).toNatClampNeg + 1 := by rw [addS_z (by decide) (by decide) (by omega), if_pos rfl]
                  have hF2 : MF (addS (elS x_42.2 ((S 1 0 0).toNatClampNeg) p1 p2 p3 p4) 0 (nI ((S 1 0 0).toNatClampNeg + 1))) L2 cp2 := MFz.gl ((MF.addz hFT hSE (by decide) hz0 (by omega)).push (by decide) (fun _ => by rw [hzz]; omega) (fun z => absurd z (by decide)) (fun z => absurd z (by decide)) (fun z => absurd z (by decide)) (fun a b => absurd a (by decide))) (by decide) hG
                  have hI2 : CI (addS (elS x_42.2 ((S 1 0 0).toNatClampNeg) p1 p2 p3 p4) 0 (nI ((S 1 0 0).toNatClampNeg + 1))) := CI.add (by decide) (Nat.lt_of_not_le c_44) (SE.ci hSE hCT)
                  have e30 : u2 30 0 = ad 30 0 := (hG.2.2.1 30 0 (by decide)).trans (hX 30 0 (hR.1 30 (by decide) (by decide)))
                  rw [← e30] at hl
                  refine lv_pop hx hb dX10_step_121 rfl ?_
                  refine lv_aload_n hx hb dX10_step_122 rfl (lv_at hl 1 rfl) ?_
                  refine k_get (C := RX10) (T := TX10) (N := 9) (v := .ref (u2 31 0)) hx hb hts inB_X10 hown hK hw (hR2.1 30 (by decide) (by decide)) mke_30 rfl 1 (by decide) (hts _ w_f_X10_10) (fun _ h9 => h9) rfl dX10_step_123 ?_
                  refine k_ci0 hw (k_rV (f := 31) (o := 0) (As := []) (rest := []) ⟨hx, hb, hml, hown, hts⟩ hK hO hw (ct_size_0 (SM.rf (addS (elS x_42.2 ((S 1 0 0).toNatClampNeg) p1 p2 p3 p4) 0 (nI ((S 1 0 0).toNatClampNeg + 1)))) hR2 _ (wk.hA hw hA)) (cwV 0 hts (gB_V w_ml_X10_43 w_im_Jx4a65c_size_8abf5 w_se_Jx4a65c_size_8abf5 w_in_Jx4a65c w_co_Jx4a65c_size_8abf5) rfl rfl rfl (by decide +kernel) ⟨Nat.le_of_ble_eq_true rfl, Nat.le_of_ble_eq_true rfl⟩) (hR2.1 31 (by decide) (by decide)) (ce_l0 (SM.rf (addS (elS x_42.2 ((S 1 0 0).toNatClampNeg) p1 p2 p3 p4) 0 (nI ((S 1 0 0).toNatClampNeg + 1))))) rfl rfl hl.1 rfl (Nat.le_of_ble_eq_true rfl) dX10_step_126 ⟨(Nat.le_of_ble_eq_true rfl), (Nat.le_of_ble_eq_true rfl)⟩) (fun H locs hw => ?_)
                  refine lv_iconst (v := 1) hx hb dX10_step_129 (by decide) ?_
                  refine lv_isub hx hb dX10_step_130 ?_
                  exact m_iretG hx hb hr hlocks rfl (GRW.of (by decide) (MR.sm (SM.rf (addS (elS x_42.2 ((S 1 0 0).toNatClampNeg) p1 p2 p3 p4) 0 (nI ((S 1 0 0).toNatClampNeg + 1)))) hR2) (MF.sm (SM.rf (addS (elS x_42.2 ((S 1 0 0).toNatClampNeg) p1 p2 p3 p4) 0 (nI ((S 1 0 0).toNatClampNeg + 1)))) hF2) hG (fun i h => by simp [h]) (fun i h => mem_k h (by decide)) hX) hw hE (Nat.le_of_ble_eq_true rfl) (Nat.le_of_ble_eq_true rfl) dX10_step_131
                · have hE := (if_neg c_43).symm.trans hE
                  refine lv_iconst (v := 0) hx hb dX10_step_100 (by decide) ?_
                  exact m_iretG hx hb hr hlocks rfl (GRW.same (MR.sm (SM.tr (SM.tr (SM.rf S) (sf_X10_start hx_39)) (sf_X10_refuse hx_42)) hR) (MF.sm (SM.tr (SM.tr (SM.rf S) (sf_X10_start hx_39)) (sf_X10_refuse hx_42)) hF)) hw hE (Nat.le_of_ble_eq_true rfl) (Nat.le_of_ble_eq_true rfl) dX10_step_101
              refine lv_icmp_ne (tgt := 92) hx hb dX10_step_85 (by decide) (fun c_41 => ?_) (fun c_41 => ?_)
              · refine lv_iconst (v := 0) hx hb dX10_step_92 (by decide) ?_
                exact hjc_41 _ (if_neg c_41).symm
              · refine lv_iconst (v := 1) hx hb dX10_step_88 (by decide) ?_
                refine lv_goto (tgt := 93) hx hb dX10_step_89 (by decide) ?_
                exact hjc_41 _ (if_pos c_41).symm
          · have hE := (if_neg c_38).symm.trans hE
            refine lv_iload_n hx hb dX10_step_43 rfl (lv_at hl 1 rfl) ?_
            refine lv_iconst (v := 1) hx hb dX10_step_44 (by decide) ?_
            refine lv_icmp_ne (tgt := 62) hx hb dX10_step_45 (by decide) (fun c_45 => ?_) (fun c_45 => ?_)
            · have hE := (if_neg c_45).symm.trans hE
              refine lv_iconst (v := 0) hx hb dX10_step_62 (by decide) ?_
              refine lv_istore (lv' := [(5, .int 0), (0, .ref (ad 30 0)), (1, .int p1), (2, .int p2), (3, .int p3), (4, .int p4)]) hx hb dX10_step_63 hl (by decide) rfl (fun ls hl => ?_)
              refine lv_aload_n hx hb dX10_step_65 rfl (lv_at hl 1 rfl) ?_
              refine lv_iload hx hb dX10_step_66 (lv_at hl 0 rfl) ?_
              refine lv_iconst (v := 1) hx hb dX10_step_68 (by decide) ?_
              obtain ⟨x_46, hx_46, hE⟩ := ob1 hE
              refine k_ci0 hw (k_rV (f := 30) (o := 0) (As := [.int 0, .int 1]) (rest := []) ⟨hx, hb, hml, hown, hts⟩ hK hO hw (ct_X10_start (MR.sm (SM.rf S) hR) (SM.ci (SM.rf S) hI) hx_46 _ (wk.hA hw hA)) (cwV 2 hts (gB_V w_ml_X10_186 w_im_X10_start w_se_X10_start w_in_X10 w_co_X10_start) rfl rfl rfl (by decide +kernel) ⟨Nat.le_of_ble_eq_true rfl, Nat.le_of_ble_eq_true rfl⟩) (hR.1 30 (by decide) (by decide)) mke_30 rfl rfl hl.1 rfl (Nat.le_of_ble_eq_true rfl) dX10_step_69 ⟨(Nat.le_of_ble_eq_true rfl), (Nat.le_of_ble_eq_true rfl)⟩) (fun H locs hw => ?_)
              refine lv_if_ne (tgt := 100) hx hb dX10_step_72 (by decide) (fun c_47 => ?_) (fun c_47 => ?_)
              · have hE := (if_neg c_47).symm.trans hE
                refine lv_iconst (v := 0) hx hb dX10_step_100 (by decide) ?_
                exact m_iretG hx hb hr hlocks rfl (GRW.same (MR.sm (SM.tr (SM.rf S) (sf_X10_start hx_46)) hR) (MF.sm (SM.tr (SM.rf S) (sf_X10_start hx_46)) hF)) hw hE (Nat.le_of_ble_eq_true rfl) (Nat.le_of_ble_eq_true rfl) dX10_step_101
              · have hE := (if_pos c_47).symm.trans hE
                refine lv_aload_n hx hb dX10_step_75 rfl (lv_at hl 1 rfl) ?_
                refine lv_aload_n hx hb dX10_step_76 rfl (lv_at hl 1 rfl) ?_
                refine k_get (C := RX10) (T := TX10) (N := 9) (v := .ref (ad 31 0)) hx hb hts inB_X10 hown hK hw (hR.1 30 (by decide) (by decide)) mke_30 rfl 1 (by decide) (hts _ w_f_X10_10) (fun _ h9 => h9) rfl dX10_step_77 ?_
                refine k_ci0 hw (k_rV (f := 31) (o := 0) (As := []) (rest := [.ref (ad 30 0)]) ⟨hx, hb, hml, hown, hts⟩ hK hO hw (ct_size_0 (SM.tr (SM.rf S) (sf_X10_start hx_46)) hR _ (wk.hA hw hA)) (cwV 0 hts (gB_V w_ml_X10_43 w_im_Jx4a65c_size_8abf5 w_se_Jx4a65c_size_8abf5 w_in_Jx4a65c w_co_Jx4a65c_size_8abf5) rfl rfl rfl (by decide +kernel) ⟨Nat.le_of_ble_eq_true rfl, Nat.le_of_ble_eq_true rfl⟩) (hR.1 31 (by decide) (by decide)) (ce_l0 (SM.tr (SM.rf S) (sf_X10_start hx_46))) rfl rfl hl.1 rfl (Nat.le_of_ble_eq_true rfl) dX10_step_80 ⟨(Nat.le_of_ble_eq_true rfl), (Nat.le_of_ble_eq_true rfl)⟩) (fun H locs hw => ?_)
                refine lv_bipush (v := 12) hx hb dX10_step_83 (by decide) ?_
                have hjc_48 : ∀ bc_48 : Int32, bc_48 = (if S 1 0 0 = 12 then 1 else 0) → W p l e (headSpec bw_X10_step (rm_X10_step)).room s m args below meth c H locs 0 0 (MQ below (kQg D A v.1 v.2 L ad cI cO K0 ce) args s 2 26 A) (F0 m 93 ls [.int bc_48, .ref (ad 30 0)]) := by
                  intro bc_48 hbc_48
                  subst hbc_48
                  refine lv_iconst (v := 2) hx hb dX10_step_93 (by decide) ?_
                  obtain ⟨x_49, hx_49, hE⟩ := ob1 hE
                  refine k_ci0 hw (k_rV (f := 30) (o := 0) (As := [.int (if S 1 0 0 = 12 then 1 else 0), .int 2]) (rest := []) ⟨hx, hb, hml, hown, hts⟩ hK hO hw (ct_X10_refuse (MR.sm (SM.tr (SM.rf S) (sf_X10_start hx_46)) hR) (SM.ci (SM.tr (SM.rf S) (sf_X10_start hx_46)) hI) hx_49 _ (wk.hA hw hA)) (cwV 2 hts (gB_V w_ml_X10_39 w_im_X10_refuse w_se_X10_refuse w_in_X10 w_co_X10_refuse) rfl rfl rfl (by decide +kernel) ⟨Nat.le_of_ble_eq_true rfl, Nat.le_of_ble_eq_true rfl⟩) (hR.1 30 (by decide) (by decide)) mke_30 rfl rfl hl.1 rfl (Nat.le_of_ble_eq_true rfl) dX10_step_94 ⟨(Nat.le_of_ble_eq_true rfl), (Nat.le_of_ble_eq_true rfl)⟩) (fun H locs hw => ?_)
                  refine lv_if_eq (tgt := 102) hx hb dX10_step_97 (by decide) (fun c_50 => ?_) (fun c_50 => ?_)
                  · have hE := (if_pos c_50).symm.trans hE
                    refine lv_aload_n hx hb dX10_step_102 rfl (lv_at hl 1 rfl) ?_
                    refine k_get (C := RX10) (T := TX10) (N := 9) (v := .ref (ad 31 0)) hx hb hts inB_X10 hown hK hw (hR.1 30 (by decide) (by decide)) mke_30 rfl 1 (by decide) (hts _ w_f_X10_10) (fun _ h9 => h9) rfl dX10_step_103 ?_
                    have hRT : MR x_49.2 L cp := MR.sm (SM.tr (SM.tr (SM.rf S) (sf_X10_start hx_46)) (sf_X10_refuse hx_49)) hR
                    have hFT : MF x_49.2 L cp := MF.sm (SM.tr (SM.tr (SM.rf S) (sf_X10_start hx_46)) (sf_X10_refuse hx_49)) hF
                    have hz0 : msz x_49.2 0 = (S 1 0 0).toNatClampNeg := SM.z (SM.tr (SM.tr (SM.rf S) (sf_X10_start hx_46)) (sf_X10_refuse hx_49)) 0
                    have hCT : CI x_49.2 := SM.ci (SM.tr (SM.tr (SM.rf S) (sf_X10_start hx_46)) (sf_X10_refuse hx_49)) hI
                    have hi0 : mszI x_49.2 0 = nI ((S 1 0 0).toNatClampNeg) := (SM.c0 (SM.tr (SM.tr (SM.rf S) (sf_X10_start hx_46)) (sf_X10_refuse hx_49))).trans (cn_eq hI.1.1)
                    have hn : (43, (S 1 0 0).toNatClampNeg) ∉ L := (hF.1 _ (Nat.le_refl _))
                    refine k_new (C := RX9) (T := TX9) (N := 4) (ci := 12) (fs := [.int 0, .int 0, .int 0, .int 0]) hx hb hts inB_X9 tyX9 tyX9_ok hown (hts _ w_cl_X10_55) (hts _ w_is_X9) (hts _ w_in_X9) hK hw hA rfl (fun j hj => match j, hj with | 0, _ => rfl | 1, _ => rfl | 2, _ => rfl | 3, _ => rfl | n + 4, h => absurd h (by omega)) (Nat.le_of_ble_eq_true rfl) (Nat.le_of_ble_eq_true rfl) 43 ((S 1 0 0).toNatClampNeg) hn dX10_step_106 (fun q H hw => ?_)
                    rw [upa_eq]
                    have hRn := hR.push (i := (43, (S 1 0 0).toNatClampNeg))
                    refine lv_dup hx hb dX10_step_109 rfl ?_
                    refine lv_iload_n hx hb dX10_step_110 rfl (lv_at hl 2 rfl) ?_
                    refine lv_iload_n hx hb dX10_step_111 rfl (lv_at hl 3 rfl) ?_
                    refine lv_iload_n hx hb dX10_step_112 rfl (lv_at hl 4 rfl) ?_
                    refine lv_iload hx hb dX10_step_113 (lv_at hl 5 rfl) ?_
                    have ct := ct_X9_init (l := l) (D := D) (cI := cI) (cG := cG) (cJ := cJ) (cO := cO) (K0 := K0) (A := A) (L := L ++ [(43, (S 1 0 0).toNatClampNeg)]) (ad := upa ad 43 ((S 1 0 0).toNatClampNeg) q) (ce := up2 (mK cI cO K0 ad cp ce x_49.2) 43 ((S 1 0 0).toNatClampNeg) (.inr (12, [.int 0, .int 0, .int 0, .int 0]))) (o := ((S 1 0 0).toNatClampNeg)) (v0 := p1) (v1 := p2) (v2 := p3) (v3 := p4) (List.mem_append_right _ (List.mem_singleton_self _)) up2_eq _ (wk.hA hw hA)
                    rw [upa_eq] at ct
                    refine k_cv0 hw (k_rI (As := [.int p1, .int p2, .int p3, .int p4]) (rest := [.ref q, .ref (ad 31 0)]) ⟨hx, hb, hml, hown, hts⟩ hK hO hw ct (cwI 4 hts (gB_0 w_co_X9_init) rfl rfl rfl (hts _ w_in_X9) (hts _ w_ml_X10_211) (hts _ w_im_X9_init) rfl (by decide +kernel) ⟨Nat.le_of_ble_eq_true rfl, Nat.le_of_ble_eq_true rfl⟩) rfl hl.1 rfl (Nat.le_of_ble_eq_true rfl) dX10_step_115 ⟨(Nat.le_of_ble_eq_true rfl), (Nat.le_of_ble_eq_true rfl)⟩) (fun H locs hw => ?_)
                    rw [up2_up2] at hw
                    have hSE : SE x_49.2 (elS x_49.2 ((S 1 0 0).toNatClampNeg) p1 p2 p3 p4) := SE.elS (Nat.le_of_eq hz0)
                    have hw := wk.el (by decide) (by decide) hRT hFT hn hSE (mc_elS) hw
                    have hR1 : MR (elS x_49.2 ((S 1 0 0).toNatClampNeg) p1 p2 p3 p4) (L ++ [(43, (S 1 0 0).toNatClampNeg)]) cp := (MR.se hSE hRT).push
                    have hX : Ex L ad (upa ad 43 ((S 1 0 0).toNatClampNeg) q) := Ex.upa hn
                    by_cases c_51 : 12 ≤ (S 1 0 0).toNatClampNeg
                    · exact nomatch (if_pos c_51).symm.trans hE
                    have hE := (if_neg c_51).symm.trans hE
                    have hz1 : msz (elS x_49.2 ((S 1 0 0).toNatClampNeg) p1 p2 p3 p4) 0 = (S 1 0 0).toNatClampNeg := (SE.z hSE 0).trans hz0
                    have hi1 : mszI (elS x_49.2 ((S 1 0 0).toNatClampNeg) p1 p2 p3 p4) 0 = nI ((S 1 0 0).toNatClampNeg) := (SE.zi hSE 0).trans hi0
                    have hcap := (hR1.2.2.1 0 (by decide)).1
                    rw [hz1] at hcap
                    obtain ⟨hz, hnz, hval⟩ := hFT.2.2.2.2.2 0 (by decide)
                    refine m_add ⟨hx, hb, hml, hown, hts⟩ hl.1 hK hO hA hw 0 (by decide) hz1 hi1 (by omega) (hR1.1 _ (by decide) (by decide)) hcap hval (fun a => nmemf (hz a) (by decide)) (fun a => List.mem_append_left _ (hnz a)) (nmemf (h59) (by decide)) (Or.inl ⟨43, _, 12, _, (RX9, TX9, 4), (List.mem_append_right _ (List.mem_singleton_self _)), upa_eq, mke_43, rfl, w_ca_X9⟩) (show (upa ad 43 ((S 1 0 0).toNatClampNeg) q) 43 ((S 1 0 0).toNatClampNeg) = q from upa_eq) (fun k hk => EL.el hR1 (by decide) (by rw [hz1]; exact hk)) (hX 31 0 (hR.1 31 (by decide) (by decide))) (Nat.le_of_ble_eq_true rfl) (Nat.le_of_ble_eq_true rfl) (Nat.le_of_ble_eq_true rfl) (Nat.le_of_ble_eq_true rfl) (Nat.le_of_ble_eq_true rfl) dX10_step_118 (fun L2 u2 cp2 H locs hG hw => ?_)
                    have hR2 : MR (addS (elS x_49.2 ((S 1 0 0).toNatClampNeg) p1 p2 p3 p4) 0 (nI ((S 1 0 0).toNatClampNeg + 1))) L2 cp2 := MR.add hR1 (by decide) hz1 (by omega) hG (fun _ => List.mem_append_right _ (List.mem_singleton_self _)) (fun z => absurd z (by decide)) (fun z => absurd z (by decide)) (fun z => absurd z (by decide)) (fun z => absurd z (by decide))
                    have hzz : msz (addS (elS x_49.2 ((S 1 0 0).toNatClampNeg) p1 p2 p3 p4) 0 (nI ((S 1 0 0).toNatClampNeg + 1))) 0 = (S 1 0 0).toNatClampNeg + 1 := by rw [addS_z (by decide) (by decide) (by omega), if_pos rfl]
                    have hF2 : MF (addS (elS x_49.2 ((S 1 0 0).toNatClampNeg) p1 p2 p3 p4) 0 (nI ((S 1 0 0).toNatClampNeg + 1))) L2 cp2 := MFz.gl ((MF.addz hFT hSE (by decide) hz0 (by omega)).push (by decide) (fun _ => by rw [hzz]; omega) (fun z => absurd z (by decide)) (fun z => absurd z (by decide)) (fun z => absurd z (by decide)) (fun a b => absurd a (by decide))) (by decide) hG
                    have hI2 : CI (addS (elS x_49.2 ((S 1 0 0).toNatClampNeg) p1 p2 p3 p4) 0 (nI ((S 1 0 0).toNatClampNeg + 1))) := CI.add (by decide) (Nat.lt_of_not_le c_51) (SE.ci hSE hCT)
                    have e30 : u2 30 0 = ad 30 0 := (hG.2.2.1 30 0 (by decide)).trans (hX 30 0 (hR.1 30 (by decide) (by decide)))
                    rw [← e30] at hl
                    refine lv_pop hx hb dX10_step_121 rfl ?_
                    refine lv_aload_n hx hb dX10_step_122 rfl (lv_at hl 1 rfl) ?_
                    refine k_get (C := RX10) (T := TX10) (N := 9) (v := .ref (u2 31 0)) hx hb hts inB_X10 hown hK hw (hR2.1 30 (by decide) (by decide)) mke_30 rfl 1 (by decide) (hts _ w_f_X10_10) (fun _ h9 => h9) rfl dX10_step_123 ?_
                    refine k_ci0 hw (k_rV (f := 31) (o := 0) (As := []) (rest := []) ⟨hx, hb, hml, hown, hts⟩ hK hO hw (ct_size_0 (SM.rf (addS (elS x_49.2 ((S 1 0 0).toNatClampNeg) p1 p2 p3 p4) 0 (nI ((S 1 0 0).toNatClampNeg + 1)))) hR2 _ (wk.hA hw hA)) (cwV 0 hts (gB_V w_ml_X10_43 w_im_Jx4a65c_size_8abf5 w_se_Jx4a65c_size_8abf5 w_in_Jx4a65c w_co_Jx4a65c_size_8abf5) rfl rfl rfl (by decide +kernel) ⟨Nat.le_of_ble_eq_true rfl, Nat.le_of_ble_eq_true rfl⟩) (hR2.1 31 (by decide) (by decide)) (ce_l0 (SM.rf (addS (elS x_49.2 ((S 1 0 0).toNatClampNeg) p1 p2 p3 p4) 0 (nI ((S 1 0 0).toNatClampNeg + 1))))) rfl rfl hl.1 rfl (Nat.le_of_ble_eq_true rfl) dX10_step_126 ⟨(Nat.le_of_ble_eq_true rfl), (Nat.le_of_ble_eq_true rfl)⟩) (fun H locs hw => ?_)
                    refine lv_iconst (v := 1) hx hb dX10_step_129 (by decide) ?_
                    refine lv_isub hx hb dX10_step_130 ?_
                    exact m_iretG hx hb hr hlocks rfl (GRW.of (by decide) (MR.sm (SM.rf (addS (elS x_49.2 ((S 1 0 0).toNatClampNeg) p1 p2 p3 p4) 0 (nI ((S 1 0 0).toNatClampNeg + 1)))) hR2) (MF.sm (SM.rf (addS (elS x_49.2 ((S 1 0 0).toNatClampNeg) p1 p2 p3 p4) 0 (nI ((S 1 0 0).toNatClampNeg + 1)))) hF2) hG (fun i h => by simp [h]) (fun i h => mem_k h (by decide)) hX) hw hE (Nat.le_of_ble_eq_true rfl) (Nat.le_of_ble_eq_true rfl) dX10_step_131
                  · have hE := (if_neg c_50).symm.trans hE
                    refine lv_iconst (v := 0) hx hb dX10_step_100 (by decide) ?_
                    exact m_iretG hx hb hr hlocks rfl (GRW.same (MR.sm (SM.tr (SM.tr (SM.rf S) (sf_X10_start hx_46)) (sf_X10_refuse hx_49)) hR) (MF.sm (SM.tr (SM.tr (SM.rf S) (sf_X10_start hx_46)) (sf_X10_refuse hx_49)) hF)) hw hE (Nat.le_of_ble_eq_true rfl) (Nat.le_of_ble_eq_true rfl) dX10_step_101
                refine lv_icmp_ne (tgt := 92) hx hb dX10_step_85 (by decide) (fun c_48 => ?_) (fun c_48 => ?_)
                · refine lv_iconst (v := 0) hx hb dX10_step_92 (by decide) ?_
                  exact hjc_48 _ (if_neg c_48).symm
                · refine lv_iconst (v := 1) hx hb dX10_step_88 (by decide) ?_
                  refine lv_goto (tgt := 93) hx hb dX10_step_89 (by decide) ?_
                  exact hjc_48 _ (if_pos c_48).symm
            · have hE := (if_pos c_45).symm.trans hE
              refine lv_iload hx hb dX10_step_48 (lv_at hl 4 rfl) ?_
              refine lv_iconst (v := 0) hx hb dX10_step_50 (by decide) ?_
              refine lv_iconst (v := 3) hx hb dX10_step_51 (by decide) ?_
              refine k_ci0 hw (k_rS (As := [.int p4, .int 0, .int 3]) (rest := []) ⟨hx, hb, hml, hown, hts⟩ hK hO hw (ct_X10_isFrom p4 0 3 _ (wk.hA hw hA)) (va_cwS 3 hts (gB_S w_ml_X10_47 w_st_X10_isFrom w_in_X10 w_co_X10_isFrom) rfl rfl rfl (by decide +kernel) ⟨Nat.le_of_ble_eq_true rfl, Nat.le_of_ble_eq_true rfl⟩) rfl hl.1 rfl (Nat.le_of_ble_eq_true rfl) dX10_step_52 ⟨(Nat.le_of_ble_eq_true rfl), (Nat.le_of_ble_eq_true rfl)⟩) (fun H locs hw => ?_)
              have hjc_52 : ∀ bc_52 : Int32, bc_52 = (if (sp_X10_isFrom p4 0 3) = 0 then 1 else 0) → W p l e (headSpec bw_X10_step (rm_X10_step)).room s m args below meth c H locs 0 0 (MQ below (kQg D A v.1 v.2 L ad cI cO K0 ce) args s 2 26 A) (F0 m 63 ls [.int bc_52]) := by
                intro bc_52 hbc_52
                subst hbc_52
                refine lv_istore (lv' := [(5, .int (if (sp_X10_isFrom p4 0 3) = 0 then 1 else 0)), (0, .ref (ad 30 0)), (1, .int p1), (2, .int p2), (3, .int p3), (4, .int p4)]) hx hb dX10_step_63 hl (by decide) rfl (fun ls hl => ?_)
                refine lv_aload_n hx hb dX10_step_65 rfl (lv_at hl 1 rfl) ?_
                refine lv_iload hx hb dX10_step_66 (lv_at hl 0 rfl) ?_
                refine lv_iconst (v := 1) hx hb dX10_step_68 (by decide) ?_
                obtain ⟨x_53, hx_53, hE⟩ := ob1 hE
                refine k_ci0 hw (k_rV (f := 30) (o := 0) (As := [.int (if (sp_X10_isFrom p4 0 3) = 0 then 1 else 0), .int 1]) (rest := []) ⟨hx, hb, hml, hown, hts⟩ hK hO hw (ct_X10_start (MR.sm (SM.rf S) hR) (SM.ci (SM.rf S) hI) hx_53 _ (wk.hA hw hA)) (cwV 2 hts (gB_V w_ml_X10_186 w_im_X10_start w_se_X10_start w_in_X10 w_co_X10_start) rfl rfl rfl (by decide +kernel) ⟨Nat.le_of_ble_eq_true rfl, Nat.le_of_ble_eq_true rfl⟩) (hR.1 30 (by decide) (by decide)) mke_30 rfl rfl hl.1 rfl (Nat.le_of_ble_eq_true rfl) dX10_step_69 ⟨(Nat.le_of_ble_eq_true rfl), (Nat.le_of_ble_eq_true rfl)⟩) (fun H locs hw => ?_)
                refine lv_if_ne (tgt := 100) hx hb dX10_step_72 (by decide) (fun c_54 => ?_) (fun c_54 => ?_)
                · have hE := (if_neg c_54).symm.trans hE
                  refine lv_iconst (v := 0) hx hb dX10_step_100 (by decide) ?_
                  exact m_iretG hx hb hr hlocks rfl (GRW.same (MR.sm (SM.tr (SM.rf S) (sf_X10_start hx_53)) hR) (MF.sm (SM.tr (SM.rf S) (sf_X10_start hx_53)) hF)) hw hE (Nat.le_of_ble_eq_true rfl) (Nat.le_of_ble_eq_true rfl) dX10_step_101
                · have hE := (if_pos c_54).symm.trans hE
                  refine lv_aload_n hx hb dX10_step_75 rfl (lv_at hl 1 rfl) ?_
                  refine lv_aload_n hx hb dX10_step_76 rfl (lv_at hl 1 rfl) ?_
                  refine k_get (C := RX10) (T := TX10) (N := 9) (v := .ref (ad 31 0)) hx hb hts inB_X10 hown hK hw (hR.1 30 (by decide) (by decide)) mke_30 rfl 1 (by decide) (hts _ w_f_X10_10) (fun _ h9 => h9) rfl dX10_step_77 ?_
                  refine k_ci0 hw (k_rV (f := 31) (o := 0) (As := []) (rest := [.ref (ad 30 0)]) ⟨hx, hb, hml, hown, hts⟩ hK hO hw (ct_size_0 (SM.tr (SM.rf S) (sf_X10_start hx_53)) hR _ (wk.hA hw hA)) (cwV 0 hts (gB_V w_ml_X10_43 w_im_Jx4a65c_size_8abf5 w_se_Jx4a65c_size_8abf5 w_in_Jx4a65c w_co_Jx4a65c_size_8abf5) rfl rfl rfl (by decide +kernel) ⟨Nat.le_of_ble_eq_true rfl, Nat.le_of_ble_eq_true rfl⟩) (hR.1 31 (by decide) (by decide)) (ce_l0 (SM.tr (SM.rf S) (sf_X10_start hx_53))) rfl rfl hl.1 rfl (Nat.le_of_ble_eq_true rfl) dX10_step_80 ⟨(Nat.le_of_ble_eq_true rfl), (Nat.le_of_ble_eq_true rfl)⟩) (fun H locs hw => ?_)
                  refine lv_bipush (v := 12) hx hb dX10_step_83 (by decide) ?_
                  have hjc_55 : ∀ bc_55 : Int32, bc_55 = (if S 1 0 0 = 12 then 1 else 0) → W p l e (headSpec bw_X10_step (rm_X10_step)).room s m args below meth c H locs 0 0 (MQ below (kQg D A v.1 v.2 L ad cI cO K0 ce) args s 2 26 A) (F0 m 93 ls [.int bc_55, .ref (ad 30 0)]) := by
                    intro bc_55 hbc_55
                    subst hbc_55
                    refine lv_iconst (v := 2) hx hb dX10_step_93 (by decide) ?_
                    obtain ⟨x_56, hx_56, hE⟩ := ob1 hE
                    refine k_ci0 hw (k_rV (f := 30) (o := 0) (As := [.int (if S 1 0 0 = 12 then 1 else 0), .int 2]) (rest := []) ⟨hx, hb, hml, hown, hts⟩ hK hO hw (ct_X10_refuse (MR.sm (SM.tr (SM.rf S) (sf_X10_start hx_53)) hR) (SM.ci (SM.tr (SM.rf S) (sf_X10_start hx_53)) hI) hx_56 _ (wk.hA hw hA)) (cwV 2 hts (gB_V w_ml_X10_39 w_im_X10_refuse w_se_X10_refuse w_in_X10 w_co_X10_refuse) rfl rfl rfl (by decide +kernel) ⟨Nat.le_of_ble_eq_true rfl, Nat.le_of_ble_eq_true rfl⟩) (hR.1 30 (by decide) (by decide)) mke_30 rfl rfl hl.1 rfl (Nat.le_of_ble_eq_true rfl) dX10_step_94 ⟨(Nat.le_of_ble_eq_true rfl), (Nat.le_of_ble_eq_true rfl)⟩) (fun H locs hw => ?_)
                    refine lv_if_eq (tgt := 102) hx hb dX10_step_97 (by decide) (fun c_57 => ?_) (fun c_57 => ?_)
                    · have hE := (if_pos c_57).symm.trans hE
                      refine lv_aload_n hx hb dX10_step_102 rfl (lv_at hl 1 rfl) ?_
                      refine k_get (C := RX10) (T := TX10) (N := 9) (v := .ref (ad 31 0)) hx hb hts inB_X10 hown hK hw (hR.1 30 (by decide) (by decide)) mke_30 rfl 1 (by decide) (hts _ w_f_X10_10) (fun _ h9 => h9) rfl dX10_step_103 ?_
                      have hRT : MR x_56.2 L cp := MR.sm (SM.tr (SM.tr (SM.rf S) (sf_X10_start hx_53)) (sf_X10_refuse hx_56)) hR
                      have hFT : MF x_56.2 L cp := MF.sm (SM.tr (SM.tr (SM.rf S) (sf_X10_start hx_53)) (sf_X10_refuse hx_56)) hF
                      have hz0 : msz x_56.2 0 = (S 1 0 0).toNatClampNeg := SM.z (SM.tr (SM.tr (SM.rf S) (sf_X10_start hx_53)) (sf_X10_refuse hx_56)) 0
                      have hCT : CI x_56.2 := SM.ci (SM.tr (SM.tr (SM.rf S) (sf_X10_start hx_53)) (sf_X10_refuse hx_56)) hI
                      have hi0 : mszI x_56.2 0 = nI ((S 1 0 0).toNatClampNeg) := (SM.c0 (SM.tr (SM.tr (SM.rf S) (sf_X10_start hx_53)) (sf_X10_refuse hx_56))).trans (cn_eq hI.1.1)
                      have hn : (43, (S 1 0 0).toNatClampNeg) ∉ L := (hF.1 _ (Nat.le_refl _))
                      refine k_new (C := RX9) (T := TX9) (N := 4) (ci := 12) (fs := [.int 0, .int 0, .int 0, .int 0]) hx hb hts inB_X9 tyX9 tyX9_ok hown (hts _ w_cl_X10_55) (hts _ w_is_X9) (hts _ w_in_X9) hK hw hA rfl (fun j hj => match j, hj with | 0, _ => rfl | 1, _ => rfl | 2, _ => rfl | 3, _ => rfl | n + 4, h => absurd h (by omega)) (Nat.le_of_ble_eq_true rfl) (Nat.le_of_ble_eq_true rfl) 43 ((S 1 0 0).toNatClampNeg) hn dX10_step_106 (fun q H hw => ?_)
                      rw [upa_eq]
                      have hRn := hR.push (i := (43, (S 1 0 0).toNatClampNeg))
                      refine lv_dup hx hb dX10_step_109 rfl ?_
                      refine lv_iload_n hx hb dX10_step_110 rfl (lv_at hl 2 rfl) ?_
                      refine lv_iload_n hx hb dX10_step_111 rfl (lv_at hl 3 rfl) ?_
                      refine lv_iload_n hx hb dX10_step_112 rfl (lv_at hl 4 rfl) ?_
                      refine lv_iload hx hb dX10_step_113 (lv_at hl 5 rfl) ?_
                      have ct := ct_X9_init (l := l) (D := D) (cI := cI) (cG := cG) (cJ := cJ) (cO := cO) (K0 := K0) (A := A) (L := L ++ [(43, (S 1 0 0).toNatClampNeg)]) (ad := upa ad 43 ((S 1 0 0).toNatClampNeg) q) (ce := up2 (mK cI cO K0 ad cp ce x_56.2) 43 ((S 1 0 0).toNatClampNeg) (.inr (12, [.int 0, .int 0, .int 0, .int 0]))) (o := ((S 1 0 0).toNatClampNeg)) (v0 := p1) (v1 := p2) (v2 := p3) (v3 := p4) (List.mem_append_right _ (List.mem_singleton_self _)) up2_eq _ (wk.hA hw hA)
                      rw [upa_eq] at ct
                      refine k_cv0 hw (k_rI (As := [.int p1, .int p2, .int p3, .int p4]) (rest := [.ref q, .ref (ad 31 0)]) ⟨hx, hb, hml, hown, hts⟩ hK hO hw ct (cwI 4 hts (gB_0 w_co_X9_init) rfl rfl rfl (hts _ w_in_X9) (hts _ w_ml_X10_211) (hts _ w_im_X9_init) rfl (by decide +kernel) ⟨Nat.le_of_ble_eq_true rfl, Nat.le_of_ble_eq_true rfl⟩) rfl hl.1 rfl (Nat.le_of_ble_eq_true rfl) dX10_step_115 ⟨(Nat.le_of_ble_eq_true rfl), (Nat.le_of_ble_eq_true rfl)⟩) (fun H locs hw => ?_)
                      rw [up2_up2] at hw
                      have hSE : SE x_56.2 (elS x_56.2 ((S 1 0 0).toNatClampNeg) p1 p2 p3 p4) := SE.elS (Nat.le_of_eq hz0)
                      have hw := wk.el (by decide) (by decide) hRT hFT hn hSE (mc_elS) hw
                      have hR1 : MR (elS x_56.2 ((S 1 0 0).toNatClampNeg) p1 p2 p3 p4) (L ++ [(43, (S 1 0 0).toNatClampNeg)]) cp := (MR.se hSE hRT).push
                      have hX : Ex L ad (upa ad 43 ((S 1 0 0).toNatClampNeg) q) := Ex.upa hn
                      by_cases c_58 : 12 ≤ (S 1 0 0).toNatClampNeg
                      · exact nomatch (if_pos c_58).symm.trans hE
                      have hE := (if_neg c_58).symm.trans hE
                      have hz1 : msz (elS x_56.2 ((S 1 0 0).toNatClampNeg) p1 p2 p3 p4) 0 = (S 1 0 0).toNatClampNeg := (SE.z hSE 0).trans hz0
                      have hi1 : mszI (elS x_56.2 ((S 1 0 0).toNatClampNeg) p1 p2 p3 p4) 0 = nI ((S 1 0 0).toNatClampNeg) := (SE.zi hSE 0).trans hi0
                      have hcap := (hR1.2.2.1 0 (by decide)).1
                      rw [hz1] at hcap
                      obtain ⟨hz, hnz, hval⟩ := hFT.2.2.2.2.2 0 (by decide)
                      refine m_add ⟨hx, hb, hml, hown, hts⟩ hl.1 hK hO hA hw 0 (by decide) hz1 hi1 (by omega) (hR1.1 _ (by decide) (by decide)) hcap hval (fun a => nmemf (hz a) (by decide)) (fun a => List.mem_append_left _ (hnz a)) (nmemf (h59) (by decide)) (Or.inl ⟨43, _, 12, _, (RX9, TX9, 4), (List.mem_append_right _ (List.mem_singleton_self _)), upa_eq, mke_43, rfl, w_ca_X9⟩) (show (upa ad 43 ((S 1 0 0).toNatClampNeg) q) 43 ((S 1 0 0).toNatClampNeg) = q from upa_eq) (fun k hk => EL.el hR1 (by decide) (by rw [hz1]; exact hk)) (hX 31 0 (hR.1 31 (by decide) (by decide))) (Nat.le_of_ble_eq_true rfl) (Nat.le_of_ble_eq_true rfl) (Nat.le_of_ble_eq_true rfl) (Nat.le_of_ble_eq_true rfl) (Nat.le_of_ble_eq_true rfl) dX10_step_118 (fun L2 u2 cp2 H locs hG hw => ?_)
                      have hR2 : MR (addS (elS x_56.2 ((S 1 0 0).toNatClampNeg) p1 p2 p3 p4) 0 (nI ((S 1 0 0).toNatClampNeg + 1))) L2 cp2 := MR.add hR1 (by decide) hz1 (by omega) hG (fun _ => List.mem_append_right _ (List.mem_singleton_self _)) (fun z => absurd z (by decide)) (fun z => absurd z (by decide)) (fun z => absurd z (by decide)) (fun z => absurd z (by decide))
                      have hzz : msz (addS (elS x_56.2 ((S 1 0 0).toNatClampNeg) p1 p2 p3 p4) 0 (nI ((S 1 0 0).toNatClampNeg + 1))) 0 = (S 1 0 0).toNatClampNeg + 1 := by rw [addS_z (by decide) (by decide) (by omega), if_pos rfl]
                      have hF2 : MF (addS (elS x_56.2 ((S 1 0 0).toNatClampNeg) p1 p2 p3 p4) 0 (nI ((S 1 0 0).toNatClampNeg + 1))) L2 cp2 := MFz.gl ((MF.addz hFT hSE (by decide) hz0 (by omega)).push (by decide) (fun _ => by rw [hzz]; omega) (fun z => absurd z (by decide)) (fun z => absurd z (by decide)) (fun z => absurd z (by decide)) (fun a b => absurd a (by decide))) (by decide) hG
                      have hI2 : CI (addS (elS x_56.2 ((S 1 0 0).toNatClampNeg) p1 p2 p3 p4) 0 (nI ((S 1 0 0).toNatClampNeg + 1))) := CI.add (by decide) (Nat.lt_of_not_le c_58) (SE.ci hSE hCT)
                      have e30 : u2 30 0 = ad 30 0 := (hG.2.2.1 30 0 (by decide)).trans (hX 30 0 (hR.1 30 (by decide) (by decide)))
                      rw [← e30] at hl
                      refine lv_pop hx hb dX10_step_121 rfl ?_
                      refine lv_aload_n hx hb dX10_step_122 rfl (lv_at hl 1 rfl) ?_
                      refine k_get (C := RX10) (T := TX10) (N := 9) (v := .ref (u2 31 0)) hx hb hts inB_X10 hown hK hw (hR2.1 30 (by decide) (by decide)) mke_30 rfl 1 (by decide) (hts _ w_f_X10_10) (fun _ h9 => h9) rfl dX10_step_123 ?_
                      refine k_ci0 hw (k_rV (f := 31) (o := 0) (As := []) (rest := []) ⟨hx, hb, hml, hown, hts⟩ hK hO hw (ct_size_0 (SM.rf (addS (elS x_56.2 ((S 1 0 0).toNatClampNeg) p1 p2 p3 p4) 0 (nI ((S 1 0 0).toNatClampNeg + 1)))) hR2 _ (wk.hA hw hA)) (cwV 0 hts (gB_V w_ml_X10_43 w_im_Jx4a65c_size_8abf5 w_se_Jx4a65c_size_8abf5 w_in_Jx4a65c w_co_Jx4a65c_size_8abf5) rfl rfl rfl (by decide +kernel) ⟨Nat.le_of_ble_eq_true rfl, Nat.le_of_ble_eq_true rfl⟩) (hR2.1 31 (by decide) (by decide)) (ce_l0 (SM.rf (addS (elS x_56.2 ((S 1 0 0).toNatClampNeg) p1 p2 p3 p4) 0 (nI ((S 1 0 0).toNatClampNeg + 1))))) rfl rfl hl.1 rfl (Nat.le_of_ble_eq_true rfl) dX10_step_126 ⟨(Nat.le_of_ble_eq_true rfl), (Nat.le_of_ble_eq_true rfl)⟩) (fun H locs hw => ?_)
                      refine lv_iconst (v := 1) hx hb dX10_step_129 (by decide) ?_
                      refine lv_isub hx hb dX10_step_130 ?_
                      exact m_iretG hx hb hr hlocks rfl (GRW.of (by decide) (MR.sm (SM.rf (addS (elS x_56.2 ((S 1 0 0).toNatClampNeg) p1 p2 p3 p4) 0 (nI ((S 1 0 0).toNatClampNeg + 1)))) hR2) (MF.sm (SM.rf (addS (elS x_56.2 ((S 1 0 0).toNatClampNeg) p1 p2 p3 p4) 0 (nI ((S 1 0 0).toNatClampNeg + 1)))) hF2) hG (fun i h => by simp [h]) (fun i h => mem_k h (by decide)) hX) hw hE (Nat.le_of_ble_eq_true rfl) (Nat.le_of_ble_eq_true rfl) dX10_step_131
                    · have hE := (if_neg c_57).symm.trans hE
                      refine lv_iconst (v := 0) hx hb dX10_step_100 (by decide) ?_
                      exact m_iretG hx hb hr hlocks rfl (GRW.same (MR.sm (SM.tr (SM.tr (SM.rf S) (sf_X10_start hx_53)) (sf_X10_refuse hx_56)) hR) (MF.sm (SM.tr (SM.tr (SM.rf S) (sf_X10_start hx_53)) (sf_X10_refuse hx_56)) hF)) hw hE (Nat.le_of_ble_eq_true rfl) (Nat.le_of_ble_eq_true rfl) dX10_step_101
                  refine lv_icmp_ne (tgt := 92) hx hb dX10_step_85 (by decide) (fun c_55 => ?_) (fun c_55 => ?_)
                  · refine lv_iconst (v := 0) hx hb dX10_step_92 (by decide) ?_
                    exact hjc_55 _ (if_neg c_55).symm
                  · refine lv_iconst (v := 1) hx hb dX10_step_88 (by decide) ?_
                    refine lv_goto (tgt := 93) hx hb dX10_step_89 (by decide) ?_
                    exact hjc_55 _ (if_pos c_55).symm
              refine lv_if_ne (tgt := 62) hx hb dX10_step_55 (by decide) (fun c_52 => ?_) (fun c_52 => ?_)
              · refine lv_iconst (v := 0) hx hb dX10_step_62 (by decide) ?_
                exact hjc_52 _ (if_neg c_52).symm
              · refine lv_iconst (v := 1) hx hb dX10_step_58 (by decide) ?_
                refine lv_goto (tgt := 63) hx hb dX10_step_59 (by decide) ?_
                exact hjc_52 _ (if_pos c_52).symm

abbrev bw_X10_right : List Cond := .code yX10_right cX10_right 2 (some .int) :: BIG
abbrev rm_X10_right : Room := { frames := 20, cells := 2, slots := 23, locals := 1000 }
noncomputable def sp_X10_right (S : (Nat → Nat → Nat → Int32)) (p1 : Int32) : Option (Int32 × (Nat → Nat → Nat → Int32)) := if p1 < 1 then ((sp_X10_start S 1 1).bind fun x_2 => (if x_2.1 = 0 then ((sp_X10_refuse x_2.2 (if S 1 0 1 = 6 then 1 else 0) 2).bind fun x_5 => (if x_5.1 = 0 then (if p1 < -128 then none else (if 6 ≤ (S 1 0 1).toNatClampNeg then none else (some ((((addS (up3 x_5.2 12 0 ((S 1 0 1).toNatClampNeg) p1) 1 (nI ((S 1 0 1).toNatClampNeg + 1))) 1 0 1) - 1, (addS (up3 x_5.2 12 0 ((S 1 0 1).toNatClampNeg) p1) 1 (nI ((S 1 0 1).toNatClampNeg + 1)))))))) else (some ((0, x_5.2))))) else (some ((0, x_2.2))))) else ((sp_X10_isNoSet S p1).bind fun x_11 => ((sp_X10_start S (if x_11 = 0 then 0 else 1) 1).bind fun x_13 => (if x_13.1 = 0 then ((sp_X10_refuse x_13.2 (if S 1 0 1 = 6 then 1 else 0) 2).bind fun x_16 => (if x_16.1 = 0 then (if p1 < -128 then none else (if 6 ≤ (S 1 0 1).toNatClampNeg then none else (some ((((addS (up3 x_16.2 12 0 ((S 1 0 1).toNatClampNeg) p1) 1 (nI ((S 1 0 1).toNatClampNeg + 1))) 1 0 1) - 1, (addS (up3 x_16.2 12 0 ((S 1 0 1).toNatClampNeg) p1) 1 (nI ((S 1 0 1).toNatClampNeg + 1)))))))) else (some ((0, x_16.2))))) else (some ((0, x_13.2))))))
set_option maxHeartbeats 1000000 in
set_option maxRecDepth 100000 in
theorem ct_X10_right {l : Launch} {D : va_G} {cI cG cJ cO : ClassId} {K0 : Nat → Nat} {A : Nat → Prop} {L : List (Nat × Nat)} {ad : Nat → Nat → Nat} {ce : Nat → Nat → va_E} {cp : Nat → Nat} {S : (Nat → Nat → Nat → Int32)} (hR : MR S L cp) (hI : CI S) {p1 : Int32} (hF : MF S L cp) (h59 : (59, 0) ∉ L) {v : Int32 × (Nat → Nat → Nat → Int32)} (hE : sp_X10_right S p1 = some v) (sz : Nat) (hA : ∀ q, sz ≤ q → A q) : Met l yX10_right bw_X10_right (rm_X10_right) (kP D (ktys cI cG cJ cO) K0 A L ad (mK cI cO K0 ad cp ce S) sz [.ref (ad 30 0), .int p1]) (kQg D A v.1 v.2 L ad cI cO K0 ce) 2 23 A := by
  refine Met.ofW (cc := cX10_right) (maxL := 2) (ret := (some .int)) (by decide) rfl ?_
  intro p e s m args below meth c s₁ B hml hv_
  obtain ⟨hav, hsz, hP, hD, hK, hO⟩ := hv_
  have hx := B.exec
  have hb := B.bytes
  have hr := B.returns
  have hts : ∀ w ∈ BIG, w.before args s = true := fun w h => atoms_spec (ws := bw_X10_right) B.pre w (List.mem_cons_of_mem _ h)
  have hown : s.vm.findClass RX10 = some m.cls := findClass_of_methodNamed B.named
  have hlocks := B.notSynchronized
  subst hsz
  have hw := wk.start hP hD
  refine k_start (by rfl) hav (Nat.le_of_ble_eq_true rfl) (fun ls hl => ?_)
  have hl : lv_has ls 2 [(0, .ref (ad 30 0)), (1, .int p1)] := hl
  unfold sp_X10_right at hE
  refine lv_aload_n hx hb dX10_right_0 rfl (lv_at hl 0 rfl) ?_
  refine lv_iload_n hx hb dX10_right_1 rfl (lv_at hl 1 rfl) ?_
  refine lv_iconst (v := 1) hx hb dX10_right_2 (by decide) ?_
  refine lv_icmp_lt (tgt := 14) hx hb dX10_right_3 (by decide) (fun c_1 => ?_) (fun c_1 => ?_)
  · have hE := (if_pos c_1).symm.trans hE
    refine lv_iconst (v := 1) hx hb dX10_right_14 (by decide) ?_
    refine lv_goto (tgt := 19) hx hb dX10_right_15 (by decide) ?_
    refine lv_iconst (v := 1) hx hb dX10_right_19 (by decide) ?_
    obtain ⟨x_2, hx_2, hE⟩ := ob1 hE
    refine k_ci0 hw (k_rV (f := 30) (o := 0) (As := [.int 1, .int 1]) (rest := []) ⟨hx, hb, hml, hown, hts⟩ hK hO hw (ct_X10_start (MR.sm (SM.rf S) hR) (SM.ci (SM.rf S) hI) hx_2 _ (wk.hA hw hA)) (cwV 2 hts (gB_V w_ml_X10_186 w_im_X10_start w_se_X10_start w_in_X10 w_co_X10_start) rfl rfl rfl (by decide +kernel) ⟨Nat.le_of_ble_eq_true rfl, Nat.le_of_ble_eq_true rfl⟩) (hR.1 30 (by decide) (by decide)) mke_30 rfl rfl hl.1 rfl (Nat.le_of_ble_eq_true rfl) dX10_right_20 ⟨(Nat.le_of_ble_eq_true rfl), (Nat.le_of_ble_eq_true rfl)⟩) (fun H locs hw => ?_)
    refine lv_if_ne (tgt := 51) hx hb dX10_right_23 (by decide) (fun c_3 => ?_) (fun c_3 => ?_)
    · have hE := (if_neg c_3).symm.trans hE
      refine lv_iconst (v := 0) hx hb dX10_right_51 (by decide) ?_
      exact m_iretG hx hb hr hlocks rfl (GRW.same (MR.sm (SM.tr (SM.rf S) (sf_X10_start hx_2)) hR) (MF.sm (SM.tr (SM.rf S) (sf_X10_start hx_2)) hF)) hw hE (Nat.le_of_ble_eq_true rfl) (Nat.le_of_ble_eq_true rfl) dX10_right_52
    · have hE := (if_pos c_3).symm.trans hE
      refine lv_aload_n hx hb dX10_right_26 rfl (lv_at hl 0 rfl) ?_
      refine lv_aload_n hx hb dX10_right_27 rfl (lv_at hl 0 rfl) ?_
      refine k_get (C := RX10) (T := TX10) (N := 9) (v := .ref (ad 32 0)) hx hb hts inB_X10 hown hK hw (hR.1 30 (by decide) (by decide)) mke_30 rfl 3 (by decide) (hts _ w_f_X10_20) (fun _ h9 => h9) rfl dX10_right_28 ?_
      refine k_ci0 hw (k_rV (f := 32) (o := 0) (As := []) (rest := [.ref (ad 30 0)]) ⟨hx, hb, hml, hown, hts⟩ hK hO hw (ct_size_1 (SM.tr (SM.rf S) (sf_X10_start hx_2)) hR _ (wk.hA hw hA)) (cwV 0 hts (gB_V w_ml_X10_43 w_im_Jx4a65c_size_8abf5 w_se_Jx4a65c_size_8abf5 w_in_Jx4a65c w_co_Jx4a65c_size_8abf5) rfl rfl rfl (by decide +kernel) ⟨Nat.le_of_ble_eq_true rfl, Nat.le_of_ble_eq_true rfl⟩) (hR.1 32 (by decide) (by decide)) (ce_l1 (SM.tr (SM.rf S) (sf_X10_start hx_2))) rfl rfl hl.1 rfl (Nat.le_of_ble_eq_true rfl) dX10_right_31 ⟨(Nat.le_of_ble_eq_true rfl), (Nat.le_of_ble_eq_true rfl)⟩) (fun H locs hw => ?_)
      refine lv_bipush (v := 6) hx hb dX10_right_34 (by decide) ?_
      have hjc_4 : ∀ bc_4 : Int32, bc_4 = (if S 1 0 1 = 6 then 1 else 0) → W p l e (headSpec bw_X10_right (rm_X10_right)).room s m args below meth c H locs 0 0 (MQ below (kQg D A v.1 v.2 L ad cI cO K0 ce) args s 2 23 A) (F0 m 44 ls [.int bc_4, .ref (ad 30 0)]) := by
        intro bc_4 hbc_4
        subst hbc_4
        refine lv_iconst (v := 2) hx hb dX10_right_44 (by decide) ?_
        obtain ⟨x_5, hx_5, hE⟩ := ob1 hE
        refine k_ci0 hw (k_rV (f := 30) (o := 0) (As := [.int (if S 1 0 1 = 6 then 1 else 0), .int 2]) (rest := []) ⟨hx, hb, hml, hown, hts⟩ hK hO hw (ct_X10_refuse (MR.sm (SM.tr (SM.rf S) (sf_X10_start hx_2)) hR) (SM.ci (SM.tr (SM.rf S) (sf_X10_start hx_2)) hI) hx_5 _ (wk.hA hw hA)) (cwV 2 hts (gB_V w_ml_X10_39 w_im_X10_refuse w_se_X10_refuse w_in_X10 w_co_X10_refuse) rfl rfl rfl (by decide +kernel) ⟨Nat.le_of_ble_eq_true rfl, Nat.le_of_ble_eq_true rfl⟩) (hR.1 30 (by decide) (by decide)) mke_30 rfl rfl hl.1 rfl (Nat.le_of_ble_eq_true rfl) dX10_right_45 ⟨(Nat.le_of_ble_eq_true rfl), (Nat.le_of_ble_eq_true rfl)⟩) (fun H locs hw => ?_)
        refine lv_if_eq (tgt := 53) hx hb dX10_right_48 (by decide) (fun c_6 => ?_) (fun c_6 => ?_)
        · have hE := (if_pos c_6).symm.trans hE
          refine lv_aload_n hx hb dX10_right_53 rfl (lv_at hl 0 rfl) ?_
          refine k_get (C := RX10) (T := TX10) (N := 9) (v := .ref (ad 32 0)) hx hb hts inB_X10 hown hK hw (hR.1 30 (by decide) (by decide)) mke_30 rfl 3 (by decide) (hts _ w_f_X10_20) (fun _ h9 => h9) rfl dX10_right_54 ?_
          refine lv_iload_n hx hb dX10_right_57 rfl (lv_at hl 1 rfl) ?_
          by_cases c_7 : p1 < -128
          · exact nomatch (if_pos c_7).symm.trans hE
          have hE := (if_neg c_7).symm.trans hE
          have hRT : MR x_5.2 L cp := MR.sm (SM.tr (SM.tr (SM.rf S) (sf_X10_start hx_2)) (sf_X10_refuse hx_5)) hR
          have hFT : MF x_5.2 L cp := MF.sm (SM.tr (SM.tr (SM.rf S) (sf_X10_start hx_2)) (sf_X10_refuse hx_5)) hF
          have hz0 : msz x_5.2 1 = (S 1 0 1).toNatClampNeg := SM.z (SM.tr (SM.tr (SM.rf S) (sf_X10_start hx_2)) (sf_X10_refuse hx_5)) 1
          have hCT : CI x_5.2 := SM.ci (SM.tr (SM.tr (SM.rf S) (sf_X10_start hx_2)) (sf_X10_refuse hx_5)) hI
          have hi0 : mszI x_5.2 1 = nI ((S 1 0 1).toNatClampNeg) := (SM.c1 (SM.tr (SM.tr (SM.rf S) (sf_X10_start hx_2)) (sf_X10_refuse hx_5))).trans (cn_eq hI.2.1.1)
          have hSE : SE x_5.2 (up3 x_5.2 12 0 ((S 1 0 1).toNatClampNeg) p1) := SE.el12 (Nat.le_of_eq hz0)
          have hn : (52, (S 1 0 1).toNatClampNeg) ∉ L := (hF.2.1 _ (Nat.le_refl _))
          by_cases d_8 : 127 < p1
          · refine k_crn hw (k_rS (As := [.int p1]) (rest := [.ref (ad 32 0)]) ⟨hx, hb, hml, hown, hts⟩ hK hO hw (ct_J6_valueOf_2dffe_b (k := ((S 1 0 1).toNatClampNeg)) c_7 d_8 hn _ (wk.hA hw hA)) (va_cwS 1 hts (gB_S w_ml_X10_221 w_st_J6_valueOf_2dffe w_in_J6 w_co_J6_valueOf_2dffe) rfl rfl rfl (by decide +kernel) ⟨Nat.le_of_ble_eq_true rfl, Nat.le_of_ble_eq_true rfl⟩) rfl hl.1 rfl (Nat.le_of_ble_eq_true rfl) dX10_right_58 ⟨(Nat.le_of_ble_eq_true rfl), (Nat.le_of_ble_eq_true rfl)⟩) (fun q H locs hw => ?_)
            have hw := wk.el (by decide) (by decide) hRT hFT hn hSE mc_el12 hw
            have hR1 : MR (up3 x_5.2 12 0 ((S 1 0 1).toNatClampNeg) p1) (L ++ [(52, (S 1 0 1).toNatClampNeg)]) cp := (MR.se hSE hRT).push
            have hX : Ex L ad (upa ad 52 ((S 1 0 1).toNatClampNeg) q) := Ex.upa hn
            have hv12 : (up3 x_5.2 12 0 ((S 1 0 1).toNatClampNeg) p1) 12 0 ((S 1 0 1).toNatClampNeg) = p1 := up3_e
            by_cases c_9 : 6 ≤ (S 1 0 1).toNatClampNeg
            · exact nomatch (if_pos c_9).symm.trans hE
            have hE := (if_neg c_9).symm.trans hE
            have hz1 : msz (up3 x_5.2 12 0 ((S 1 0 1).toNatClampNeg) p1) 1 = (S 1 0 1).toNatClampNeg := (SE.z hSE 1).trans hz0
            have hi1 : mszI (up3 x_5.2 12 0 ((S 1 0 1).toNatClampNeg) p1) 1 = nI ((S 1 0 1).toNatClampNeg) := (SE.zi hSE 1).trans hi0
            have hcap := (hR1.2.2.1 1 (by decide)).1
            rw [hz1] at hcap
            obtain ⟨hz, hnz, hval⟩ := hFT.2.2.2.2.2 1 (by decide)
            refine m_add ⟨hx, hb, hml, hown, hts⟩ hl.1 hK hO hA hw 1 (by decide) hz1 hi1 (by omega) (hR1.1 _ (by decide) (by decide)) hcap hval (fun a => nmemf (hz a) (by decide)) (fun a => List.mem_append_left _ (hnz a)) (nmemf (h59) (by decide)) (Or.inl ⟨52, _, 0, _, (RJ6, TJ6, 1), List.mem_append_right _ (List.mem_singleton_self _), upa_eq, mke_52, rfl, w_ca_Integer⟩) (by show (if 127 < (up3 x_5.2 12 0 ((S 1 0 1).toNatClampNeg) p1) 12 0 ((S 1 0 1).toNatClampNeg) then _ else _) = _; rw [hv12, if_pos d_8]; exact upa_eq) (fun k hk => EL.el hR1 (by decide) (by rw [hz1]; exact hk)) (hX 32 0 (hR.1 32 (by decide) (by decide))) (Nat.le_of_ble_eq_true rfl) (Nat.le_of_ble_eq_true rfl) (Nat.le_of_ble_eq_true rfl) (Nat.le_of_ble_eq_true rfl) (Nat.le_of_ble_eq_true rfl) dX10_right_61 (fun L2 u2 cp2 H locs hG hw => ?_)
            have hR2 : MR (addS (up3 x_5.2 12 0 ((S 1 0 1).toNatClampNeg) p1) 1 (nI ((S 1 0 1).toNatClampNeg + 1))) L2 cp2 := MR.add hR1 (by decide) hz1 (by omega) hG (fun z => absurd z (by decide)) (fun _ => ⟨fun _ => List.mem_append_right _ (List.mem_singleton_self _), by rw [hv12]; exact c_7⟩) (fun z => absurd z (by decide)) (fun z => absurd z (by decide)) (fun z => absurd z (by decide))
            have hzz : msz (addS (up3 x_5.2 12 0 ((S 1 0 1).toNatClampNeg) p1) 1 (nI ((S 1 0 1).toNatClampNeg + 1))) 1 = (S 1 0 1).toNatClampNeg + 1 := by rw [addS_z (by decide) (by decide) (by omega), if_pos rfl]
            have hF2 : MF (addS (up3 x_5.2 12 0 ((S 1 0 1).toNatClampNeg) p1) 1 (nI ((S 1 0 1).toNatClampNeg + 1))) L2 cp2 := MFz.gl ((MF.addz hFT hSE (by decide) hz0 (by omega)).push (by decide) (fun z => absurd z (by decide)) (fun _ => by rw [hzz]; omega) (fun z => absurd z (by decide)) (fun z => absurd z (by decide)) (fun a b => absurd b (by decide))) (by decide) hG
            have hI2 : CI (addS (up3 x_5.2 12 0 ((S 1 0 1).toNatClampNeg) p1) 1 (nI ((S 1 0 1).toNatClampNeg + 1))) := CI.add (by decide) (Nat.lt_of_not_le c_9) (SE.ci hSE hCT)
            have e30 : u2 30 0 = ad 30 0 := (hG.2.2.1 30 0 (by decide)).trans (hX 30 0 (hR.1 30 (by decide) (by decide)))
            rw [← e30] at hl
            refine lv_pop hx hb dX10_right_64 rfl ?_
            refine lv_aload_n hx hb dX10_right_65 rfl (lv_at hl 0 rfl) ?_
            refine k_get (C := RX10) (T := TX10) (N := 9) (v := .ref (u2 32 0)) hx hb hts inB_X10 hown hK hw (hR2.1 30 (by decide) (by decide)) mke_30 rfl 3 (by decide) (hts _ w_f_X10_20) (fun _ h9 => h9) rfl dX10_right_66 ?_
            refine k_ci0 hw (k_rV (f := 32) (o := 0) (As := []) (rest := []) ⟨hx, hb, hml, hown, hts⟩ hK hO hw (ct_size_1 (SM.rf (addS (up3 x_5.2 12 0 ((S 1 0 1).toNatClampNeg) p1) 1 (nI ((S 1 0 1).toNatClampNeg + 1)))) hR2 _ (wk.hA hw hA)) (cwV 0 hts (gB_V w_ml_X10_43 w_im_Jx4a65c_size_8abf5 w_se_Jx4a65c_size_8abf5 w_in_Jx4a65c w_co_Jx4a65c_size_8abf5) rfl rfl rfl (by decide +kernel) ⟨Nat.le_of_ble_eq_true rfl, Nat.le_of_ble_eq_true rfl⟩) (hR2.1 32 (by decide) (by decide)) (ce_l1 (SM.rf (addS (up3 x_5.2 12 0 ((S 1 0 1).toNatClampNeg) p1) 1 (nI ((S 1 0 1).toNatClampNeg + 1))))) rfl rfl hl.1 rfl (Nat.le_of_ble_eq_true rfl) dX10_right_69 ⟨(Nat.le_of_ble_eq_true rfl), (Nat.le_of_ble_eq_true rfl)⟩) (fun H locs hw => ?_)
            refine lv_iconst (v := 1) hx hb dX10_right_72 (by decide) ?_
            refine lv_isub hx hb dX10_right_73 ?_
            exact m_iretG hx hb hr hlocks rfl (GRW.of (by decide) (MR.sm (SM.rf (addS (up3 x_5.2 12 0 ((S 1 0 1).toNatClampNeg) p1) 1 (nI ((S 1 0 1).toNatClampNeg + 1)))) hR2) (MF.sm (SM.rf (addS (up3 x_5.2 12 0 ((S 1 0 1).toNatClampNeg) p1) 1 (nI ((S 1 0 1).toNatClampNeg + 1)))) hF2) hG (fun i h => by simp [h]) (fun i h => mem_k h (by decide)) hX) hw hE (Nat.le_of_ble_eq_true rfl) (Nat.le_of_ble_eq_true rfl) dX10_right_74
          · refine k_cr0 hw (k_rS (As := [.int p1]) (rest := [.ref (ad 32 0)]) ⟨hx, hb, hml, hown, hts⟩ hK hO hw (ct_J6_valueOf_2dffe_c c_7 d_8 _ (wk.hA hw hA)) (va_cwS 1 hts (gB_S w_ml_X10_221 w_st_J6_valueOf_2dffe w_in_J6 w_co_J6_valueOf_2dffe) rfl rfl rfl (by decide +kernel) ⟨Nat.le_of_ble_eq_true rfl, Nat.le_of_ble_eq_true rfl⟩) rfl hl.1 rfl (Nat.le_of_ble_eq_true rfl) dX10_right_58 ⟨(Nat.le_of_ble_eq_true rfl), (Nat.le_of_ble_eq_true rfl)⟩) (fun H locs hw => ?_)
            have hw : wk D A L ad (mK cI cO K0 ad cp ce (up3 x_5.2 12 0 ((S 1 0 1).toNatClampNeg) p1)) s.heap H locs := hw.congr (fun f o h => ⟨rfl, mK_ex hRT hFT (fun _ _ _ => rfl) hSE h⟩)
            have hR1 : MR (up3 x_5.2 12 0 ((S 1 0 1).toNatClampNeg) p1) L cp := MR.se hSE hRT
            have hX : Ex L ad ad := fun _ _ _ => rfl
            have hv12 : (up3 x_5.2 12 0 ((S 1 0 1).toNatClampNeg) p1) 12 0 ((S 1 0 1).toNatClampNeg) = p1 := up3_e
            obtain ⟨q, hq⟩ : ∃ q, K0 (2 + (p1 + 128).toNatClampNeg) = q := ⟨_, rfl⟩
            rw [hq]
            by_cases c_10 : 6 ≤ (S 1 0 1).toNatClampNeg
            · exact nomatch (if_pos c_10).symm.trans hE
            have hE := (if_neg c_10).symm.trans hE
            have hz1 : msz (up3 x_5.2 12 0 ((S 1 0 1).toNatClampNeg) p1) 1 = (S 1 0 1).toNatClampNeg := (SE.z hSE 1).trans hz0
            have hi1 : mszI (up3 x_5.2 12 0 ((S 1 0 1).toNatClampNeg) p1) 1 = nI ((S 1 0 1).toNatClampNeg) := (SE.zi hSE 1).trans hi0
            have hcap := (hR1.2.2.1 1 (by decide)).1
            rw [hz1] at hcap
            obtain ⟨hz, hnz, hval⟩ := hFT.2.2.2.2.2 1 (by decide)
            refine m_add ⟨hx, hb, hml, hown, hts⟩ hl.1 hK hO hA hw 1 (by decide) hz1 hi1 (by omega) (hR1.1 _ (by decide) (by decide)) hcap hval (fun a => hz a) (fun a => hnz a) (h59) (Or.inr ⟨_, (vb_of c_7 d_8).2, hq⟩) (by show (if 127 < (up3 x_5.2 12 0 ((S 1 0 1).toNatClampNeg) p1) 12 0 ((S 1 0 1).toNatClampNeg) then _ else _) = _; rw [hv12, if_neg d_8]; exact hq) (fun k hk => EL.el hR1 (by decide) (by rw [hz1]; exact hk)) (hX 32 0 (hR.1 32 (by decide) (by decide))) (Nat.le_of_ble_eq_true rfl) (Nat.le_of_ble_eq_true rfl) (Nat.le_of_ble_eq_true rfl) (Nat.le_of_ble_eq_true rfl) (Nat.le_of_ble_eq_true rfl) dX10_right_61 (fun L2 u2 cp2 H locs hG hw => ?_)
            have hR2 : MR (addS (up3 x_5.2 12 0 ((S 1 0 1).toNatClampNeg) p1) 1 (nI ((S 1 0 1).toNatClampNeg + 1))) L2 cp2 := MR.add hR1 (by decide) hz1 (by omega) hG (fun z => absurd z (by decide)) (fun _ => ⟨fun z => absurd (by rw [hv12] at z; exact z) d_8, by rw [hv12]; exact c_7⟩) (fun z => absurd z (by decide)) (fun z => absurd z (by decide)) (fun z => absurd z (by decide))
            have hzz : msz (addS (up3 x_5.2 12 0 ((S 1 0 1).toNatClampNeg) p1) 1 (nI ((S 1 0 1).toNatClampNeg + 1))) 1 = (S 1 0 1).toNatClampNeg + 1 := by rw [addS_z (by decide) (by decide) (by omega), if_pos rfl]
            have hF2 : MF (addS (up3 x_5.2 12 0 ((S 1 0 1).toNatClampNeg) p1) 1 (nI ((S 1 0 1).toNatClampNeg + 1))) L2 cp2 := MFz.gl (MF.addz hFT hSE (by decide) hz0 (by omega)) (by decide) hG
            have hI2 : CI (addS (up3 x_5.2 12 0 ((S 1 0 1).toNatClampNeg) p1) 1 (nI ((S 1 0 1).toNatClampNeg + 1))) := CI.add (by decide) (Nat.lt_of_not_le c_10) (SE.ci hSE hCT)
            have e30 : u2 30 0 = ad 30 0 := (hG.2.2.1 30 0 (by decide)).trans (hX 30 0 (hR.1 30 (by decide) (by decide)))
            rw [← e30] at hl
            refine lv_pop hx hb dX10_right_64 rfl ?_
            refine lv_aload_n hx hb dX10_right_65 rfl (lv_at hl 0 rfl) ?_
            refine k_get (C := RX10) (T := TX10) (N := 9) (v := .ref (u2 32 0)) hx hb hts inB_X10 hown hK hw (hR2.1 30 (by decide) (by decide)) mke_30 rfl 3 (by decide) (hts _ w_f_X10_20) (fun _ h9 => h9) rfl dX10_right_66 ?_
            refine k_ci0 hw (k_rV (f := 32) (o := 0) (As := []) (rest := []) ⟨hx, hb, hml, hown, hts⟩ hK hO hw (ct_size_1 (SM.rf (addS (up3 x_5.2 12 0 ((S 1 0 1).toNatClampNeg) p1) 1 (nI ((S 1 0 1).toNatClampNeg + 1)))) hR2 _ (wk.hA hw hA)) (cwV 0 hts (gB_V w_ml_X10_43 w_im_Jx4a65c_size_8abf5 w_se_Jx4a65c_size_8abf5 w_in_Jx4a65c w_co_Jx4a65c_size_8abf5) rfl rfl rfl (by decide +kernel) ⟨Nat.le_of_ble_eq_true rfl, Nat.le_of_ble_eq_true rfl⟩) (hR2.1 32 (by decide) (by decide)) (ce_l1 (SM.rf (addS (up3 x_5.2 12 0 ((S 1 0 1).toNatClampNeg) p1) 1 (nI ((S 1 0 1).toNatClampNeg + 1))))) rfl rfl hl.1 rfl (Nat.le_of_ble_eq_true rfl) dX10_right_69 ⟨(Nat.le_of_ble_eq_true rfl), (Nat.le_of_ble_eq_true rfl)⟩) (fun H locs hw => ?_)
            refine lv_iconst (v := 1) hx hb dX10_right_72 (by decide) ?_
            refine lv_isub hx hb dX10_right_73 ?_
            exact m_iretG hx hb hr hlocks rfl (GRW.of (by decide) (MR.sm (SM.rf (addS (up3 x_5.2 12 0 ((S 1 0 1).toNatClampNeg) p1) 1 (nI ((S 1 0 1).toNatClampNeg + 1)))) hR2) (MF.sm (SM.rf (addS (up3 x_5.2 12 0 ((S 1 0 1).toNatClampNeg) p1) 1 (nI ((S 1 0 1).toNatClampNeg + 1)))) hF2) hG (fun i h => h) (fun i h => Or.inl h) hX) hw hE (Nat.le_of_ble_eq_true rfl) (Nat.le_of_ble_eq_true rfl) dX10_right_74
        · have hE := (if_neg c_6).symm.trans hE
          refine lv_iconst (v := 0) hx hb dX10_right_51 (by decide) ?_
          exact m_iretG hx hb hr hlocks rfl (GRW.same (MR.sm (SM.tr (SM.tr (SM.rf S) (sf_X10_start hx_2)) (sf_X10_refuse hx_5)) hR) (MF.sm (SM.tr (SM.tr (SM.rf S) (sf_X10_start hx_2)) (sf_X10_refuse hx_5)) hF)) hw hE (Nat.le_of_ble_eq_true rfl) (Nat.le_of_ble_eq_true rfl) dX10_right_52
      refine lv_icmp_ne (tgt := 43) hx hb dX10_right_36 (by decide) (fun c_4 => ?_) (fun c_4 => ?_)
      · refine lv_iconst (v := 0) hx hb dX10_right_43 (by decide) ?_
        exact hjc_4 _ (if_neg c_4).symm
      · refine lv_iconst (v := 1) hx hb dX10_right_39 (by decide) ?_
        refine lv_goto (tgt := 44) hx hb dX10_right_40 (by decide) ?_
        exact hjc_4 _ (if_pos c_4).symm
  · have hE := (if_neg c_1).symm.trans hE
    refine lv_aload_n hx hb dX10_right_6 rfl (lv_at hl 0 rfl) ?_
    refine lv_iload_n hx hb dX10_right_7 rfl (lv_at hl 1 rfl) ?_
    obtain ⟨x_11, hx_11, hE⟩ := ob1 hE
    refine k_ci0 hw (k_rV (f := 30) (o := 0) (As := [.int p1]) (rest := [.ref (ad 30 0)]) ⟨hx, hb, hml, hown, hts⟩ hK hO hw (ct_X10_isNoSet (MR.sm (SM.rf S) hR) (SM.ci (SM.rf S) hI) hx_11 _ (wk.hA hw hA)) (cwV 1 hts (gB_V w_ml_X10_208 w_im_X10_isNoSet w_se_X10_isNoSet w_in_X10 w_co_X10_isNoSet) rfl rfl rfl (by decide +kernel) ⟨Nat.le_of_ble_eq_true rfl, Nat.le_of_ble_eq_true rfl⟩) (hR.1 30 (by decide) (by decide)) mke_30 rfl rfl hl.1 rfl (Nat.le_of_ble_eq_true rfl) dX10_right_8 ⟨(Nat.le_of_ble_eq_true rfl), (Nat.le_of_ble_eq_true rfl)⟩) (fun H locs hw => ?_)
    have hjc_12 : ∀ bc_12 : Int32, bc_12 = (if x_11 = 0 then 0 else 1) → W p l e (headSpec bw_X10_right (rm_X10_right)).room s m args below meth c H locs 0 0 (MQ below (kQg D A v.1 v.2 L ad cI cO K0 ce) args s 2 23 A) (F0 m 19 ls [.int bc_12, .ref (ad 30 0)]) := by
      intro bc_12 hbc_12
      subst hbc_12
      refine lv_iconst (v := 1) hx hb dX10_right_19 (by decide) ?_
      obtain ⟨x_13, hx_13, hE⟩ := ob1 hE
      refine k_ci0 hw (k_rV (f := 30) (o := 0) (As := [.int (if x_11 = 0 then 0 else 1), .int 1]) (rest := []) ⟨hx, hb, hml, hown, hts⟩ hK hO hw (ct_X10_start (MR.sm (SM.rf S) hR) (SM.ci (SM.rf S) hI) hx_13 _ (wk.hA hw hA)) (cwV 2 hts (gB_V w_ml_X10_186 w_im_X10_start w_se_X10_start w_in_X10 w_co_X10_start) rfl rfl rfl (by decide +kernel) ⟨Nat.le_of_ble_eq_true rfl, Nat.le_of_ble_eq_true rfl⟩) (hR.1 30 (by decide) (by decide)) mke_30 rfl rfl hl.1 rfl (Nat.le_of_ble_eq_true rfl) dX10_right_20 ⟨(Nat.le_of_ble_eq_true rfl), (Nat.le_of_ble_eq_true rfl)⟩) (fun H locs hw => ?_)
      refine lv_if_ne (tgt := 51) hx hb dX10_right_23 (by decide) (fun c_14 => ?_) (fun c_14 => ?_)
      · have hE := (if_neg c_14).symm.trans hE
        refine lv_iconst (v := 0) hx hb dX10_right_51 (by decide) ?_
        exact m_iretG hx hb hr hlocks rfl (GRW.same (MR.sm (SM.tr (SM.rf S) (sf_X10_start hx_13)) hR) (MF.sm (SM.tr (SM.rf S) (sf_X10_start hx_13)) hF)) hw hE (Nat.le_of_ble_eq_true rfl) (Nat.le_of_ble_eq_true rfl) dX10_right_52
      · have hE := (if_pos c_14).symm.trans hE
        refine lv_aload_n hx hb dX10_right_26 rfl (lv_at hl 0 rfl) ?_
        refine lv_aload_n hx hb dX10_right_27 rfl (lv_at hl 0 rfl) ?_
        refine k_get (C := RX10) (T := TX10) (N := 9) (v := .ref (ad 32 0)) hx hb hts inB_X10 hown hK hw (hR.1 30 (by decide) (by decide)) mke_30 rfl 3 (by decide) (hts _ w_f_X10_20) (fun _ h9 => h9) rfl dX10_right_28 ?_
        refine k_ci0 hw (k_rV (f := 32) (o := 0) (As := []) (rest := [.ref (ad 30 0)]) ⟨hx, hb, hml, hown, hts⟩ hK hO hw (ct_size_1 (SM.tr (SM.rf S) (sf_X10_start hx_13)) hR _ (wk.hA hw hA)) (cwV 0 hts (gB_V w_ml_X10_43 w_im_Jx4a65c_size_8abf5 w_se_Jx4a65c_size_8abf5 w_in_Jx4a65c w_co_Jx4a65c_size_8abf5) rfl rfl rfl (by decide +kernel) ⟨Nat.le_of_ble_eq_true rfl, Nat.le_of_ble_eq_true rfl⟩) (hR.1 32 (by decide) (by decide)) (ce_l1 (SM.tr (SM.rf S) (sf_X10_start hx_13))) rfl rfl hl.1 rfl (Nat.le_of_ble_eq_true rfl) dX10_right_31 ⟨(Nat.le_of_ble_eq_true rfl), (Nat.le_of_ble_eq_true rfl)⟩) (fun H locs hw => ?_)
        refine lv_bipush (v := 6) hx hb dX10_right_34 (by decide) ?_
        have hjc_15 : ∀ bc_15 : Int32, bc_15 = (if S 1 0 1 = 6 then 1 else 0) → W p l e (headSpec bw_X10_right (rm_X10_right)).room s m args below meth c H locs 0 0 (MQ below (kQg D A v.1 v.2 L ad cI cO K0 ce) args s 2 23 A) (F0 m 44 ls [.int bc_15, .ref (ad 30 0)]) := by
          intro bc_15 hbc_15
          subst hbc_15
          refine lv_iconst (v := 2) hx hb dX10_right_44 (by decide) ?_
          obtain ⟨x_16, hx_16, hE⟩ := ob1 hE
          refine k_ci0 hw (k_rV (f := 30) (o := 0) (As := [.int (if S 1 0 1 = 6 then 1 else 0), .int 2]) (rest := []) ⟨hx, hb, hml, hown, hts⟩ hK hO hw (ct_X10_refuse (MR.sm (SM.tr (SM.rf S) (sf_X10_start hx_13)) hR) (SM.ci (SM.tr (SM.rf S) (sf_X10_start hx_13)) hI) hx_16 _ (wk.hA hw hA)) (cwV 2 hts (gB_V w_ml_X10_39 w_im_X10_refuse w_se_X10_refuse w_in_X10 w_co_X10_refuse) rfl rfl rfl (by decide +kernel) ⟨Nat.le_of_ble_eq_true rfl, Nat.le_of_ble_eq_true rfl⟩) (hR.1 30 (by decide) (by decide)) mke_30 rfl rfl hl.1 rfl (Nat.le_of_ble_eq_true rfl) dX10_right_45 ⟨(Nat.le_of_ble_eq_true rfl), (Nat.le_of_ble_eq_true rfl)⟩) (fun H locs hw => ?_)
          refine lv_if_eq (tgt := 53) hx hb dX10_right_48 (by decide) (fun c_17 => ?_) (fun c_17 => ?_)
          · have hE := (if_pos c_17).symm.trans hE
            refine lv_aload_n hx hb dX10_right_53 rfl (lv_at hl 0 rfl) ?_
            refine k_get (C := RX10) (T := TX10) (N := 9) (v := .ref (ad 32 0)) hx hb hts inB_X10 hown hK hw (hR.1 30 (by decide) (by decide)) mke_30 rfl 3 (by decide) (hts _ w_f_X10_20) (fun _ h9 => h9) rfl dX10_right_54 ?_
            refine lv_iload_n hx hb dX10_right_57 rfl (lv_at hl 1 rfl) ?_
            by_cases c_18 : p1 < -128
            · exact nomatch (if_pos c_18).symm.trans hE
            have hE := (if_neg c_18).symm.trans hE
            have hRT : MR x_16.2 L cp := MR.sm (SM.tr (SM.tr (SM.rf S) (sf_X10_start hx_13)) (sf_X10_refuse hx_16)) hR
            have hFT : MF x_16.2 L cp := MF.sm (SM.tr (SM.tr (SM.rf S) (sf_X10_start hx_13)) (sf_X10_refuse hx_16)) hF
            have hz0 : msz x_16.2 1 = (S 1 0 1).toNatClampNeg := SM.z (SM.tr (SM.tr (SM.rf S) (sf_X10_start hx_13)) (sf_X10_refuse hx_16)) 1
            have hCT : CI x_16.2 := SM.ci (SM.tr (SM.tr (SM.rf S) (sf_X10_start hx_13)) (sf_X10_refuse hx_16)) hI
            have hi0 : mszI x_16.2 1 = nI ((S 1 0 1).toNatClampNeg) := (SM.c1 (SM.tr (SM.tr (SM.rf S) (sf_X10_start hx_13)) (sf_X10_refuse hx_16))).trans (cn_eq hI.2.1.1)
            have hSE : SE x_16.2 (up3 x_16.2 12 0 ((S 1 0 1).toNatClampNeg) p1) := SE.el12 (Nat.le_of_eq hz0)
            have hn : (52, (S 1 0 1).toNatClampNeg) ∉ L := (hF.2.1 _ (Nat.le_refl _))
            by_cases d_19 : 127 < p1
            · refine k_crn hw (k_rS (As := [.int p1]) (rest := [.ref (ad 32 0)]) ⟨hx, hb, hml, hown, hts⟩ hK hO hw (ct_J6_valueOf_2dffe_b (k := ((S 1 0 1).toNatClampNeg)) c_18 d_19 hn _ (wk.hA hw hA)) (va_cwS 1 hts (gB_S w_ml_X10_221 w_st_J6_valueOf_2dffe w_in_J6 w_co_J6_valueOf_2dffe) rfl rfl rfl (by decide +kernel) ⟨Nat.le_of_ble_eq_true rfl, Nat.le_of_ble_eq_true rfl⟩) rfl hl.1 rfl (Nat.le_of_ble_eq_true rfl) dX10_right_58 ⟨(Nat.le_of_ble_eq_true rfl), (Nat.le_of_ble_eq_true rfl)⟩) (fun q H locs hw => ?_)
              have hw := wk.el (by decide) (by decide) hRT hFT hn hSE mc_el12 hw
              have hR1 : MR (up3 x_16.2 12 0 ((S 1 0 1).toNatClampNeg) p1) (L ++ [(52, (S 1 0 1).toNatClampNeg)]) cp := (MR.se hSE hRT).push
              have hX : Ex L ad (upa ad 52 ((S 1 0 1).toNatClampNeg) q) := Ex.upa hn
              have hv12 : (up3 x_16.2 12 0 ((S 1 0 1).toNatClampNeg) p1) 12 0 ((S 1 0 1).toNatClampNeg) = p1 := up3_e
              by_cases c_20 : 6 ≤ (S 1 0 1).toNatClampNeg
              · exact nomatch (if_pos c_20).symm.trans hE
              have hE := (if_neg c_20).symm.trans hE
              have hz1 : msz (up3 x_16.2 12 0 ((S 1 0 1).toNatClampNeg) p1) 1 = (S 1 0 1).toNatClampNeg := (SE.z hSE 1).trans hz0
              have hi1 : mszI (up3 x_16.2 12 0 ((S 1 0 1).toNatClampNeg) p1) 1 = nI ((S 1 0 1).toNatClampNeg) := (SE.zi hSE 1).trans hi0
              have hcap := (hR1.2.2.1 1 (by decide)).1
              rw [hz1] at hcap
              obtain ⟨hz, hnz, hval⟩ := hFT.2.2.2.2.2 1 (by decide)
              refine m_add ⟨hx, hb, hml, hown, hts⟩ hl.1 hK hO hA hw 1 (by decide) hz1 hi1 (by omega) (hR1.1 _ (by decide) (by decide)) hcap hval (fun a => nmemf (hz a) (by decide)) (fun a => List.mem_append_left _ (hnz a)) (nmemf (h59) (by decide)) (Or.inl ⟨52, _, 0, _, (RJ6, TJ6, 1), List.mem_append_right _ (List.mem_singleton_self _), upa_eq, mke_52, rfl, w_ca_Integer⟩) (by show (if 127 < (up3 x_16.2 12 0 ((S 1 0 1).toNatClampNeg) p1) 12 0 ((S 1 0 1).toNatClampNeg) then _ else _) = _; rw [hv12, if_pos d_19]; exact upa_eq) (fun k hk => EL.el hR1 (by decide) (by rw [hz1]; exact hk)) (hX 32 0 (hR.1 32 (by decide) (by decide))) (Nat.le_of_ble_eq_true rfl) (Nat.le_of_ble_eq_true rfl) (Nat.le_of_ble_eq_true rfl) (Nat.le_of_ble_eq_true rfl) (Nat.le_of_ble_eq_true rfl) dX10_right_61 (fun L2 u2 cp2 H locs hG hw => ?_)
              have hR2 : MR (addS (up3 x_16.2 12 0 ((S 1 0 1).toNatClampNeg) p1) 1 (nI ((S 1 0 1).toNatClampNeg + 1))) L2 cp2 := MR.add hR1 (by decide) hz1 (by omega) hG (fun z => absurd z (by decide)) (fun _ => ⟨fun _ => List.mem_append_right _ (List.mem_singleton_self _), by rw [hv12]; exact c_18⟩) (fun z => absurd z (by decide)) (fun z => absurd z (by decide)) (fun z => absurd z (by decide))
              have hzz : msz (addS (up3 x_16.2 12 0 ((S 1 0 1).toNatClampNeg) p1) 1 (nI ((S 1 0 1).toNatClampNeg + 1))) 1 = (S 1 0 1).toNatClampNeg + 1 := by rw [addS_z (by decide) (by decide) (by omega), if_pos rfl]
              have hF2 : MF (addS (up3 x_16.2 12 0 ((S 1 0 1).toNatClampNeg) p1) 1 (nI ((S 1 0 1).toNatClampNeg + 1))) L2 cp2 := MFz.gl ((MF.addz hFT hSE (by decide) hz0 (by omega)).push (by decide) (fun z => absurd z (by decide)) (fun _ => by rw [hzz]; omega) (fun z => absurd z (by decide)) (fun z => absurd z (by decide)) (fun a b => absurd b (by decide))) (by decide) hG
              have hI2 : CI (addS (up3 x_16.2 12 0 ((S 1 0 1).toNatClampNeg) p1) 1 (nI ((S 1 0 1).toNatClampNeg + 1))) := CI.add (by decide) (Nat.lt_of_not_le c_20) (SE.ci hSE hCT)
              have e30 : u2 30 0 = ad 30 0 := (hG.2.2.1 30 0 (by decide)).trans (hX 30 0 (hR.1 30 (by decide) (by decide)))
              rw [← e30] at hl
              refine lv_pop hx hb dX10_right_64 rfl ?_
              refine lv_aload_n hx hb dX10_right_65 rfl (lv_at hl 0 rfl) ?_
              refine k_get (C := RX10) (T := TX10) (N := 9) (v := .ref (u2 32 0)) hx hb hts inB_X10 hown hK hw (hR2.1 30 (by decide) (by decide)) mke_30 rfl 3 (by decide) (hts _ w_f_X10_20) (fun _ h9 => h9) rfl dX10_right_66 ?_
              refine k_ci0 hw (k_rV (f := 32) (o := 0) (As := []) (rest := []) ⟨hx, hb, hml, hown, hts⟩ hK hO hw (ct_size_1 (SM.rf (addS (up3 x_16.2 12 0 ((S 1 0 1).toNatClampNeg) p1) 1 (nI ((S 1 0 1).toNatClampNeg + 1)))) hR2 _ (wk.hA hw hA)) (cwV 0 hts (gB_V w_ml_X10_43 w_im_Jx4a65c_size_8abf5 w_se_Jx4a65c_size_8abf5 w_in_Jx4a65c w_co_Jx4a65c_size_8abf5) rfl rfl rfl (by decide +kernel) ⟨Nat.le_of_ble_eq_true rfl, Nat.le_of_ble_eq_true rfl⟩) (hR2.1 32 (by decide) (by decide)) (ce_l1 (SM.rf (addS (up3 x_16.2 12 0 ((S 1 0 1).toNatClampNeg) p1) 1 (nI ((S 1 0 1).toNatClampNeg + 1))))) rfl rfl hl.1 rfl (Nat.le_of_ble_eq_true rfl) dX10_right_69 ⟨(Nat.le_of_ble_eq_true rfl), (Nat.le_of_ble_eq_true rfl)⟩) (fun H locs hw => ?_)
              refine lv_iconst (v := 1) hx hb dX10_right_72 (by decide) ?_
              refine lv_isub hx hb dX10_right_73 ?_
              exact m_iretG hx hb hr hlocks rfl (GRW.of (by decide) (MR.sm (SM.rf (addS (up3 x_16.2 12 0 ((S 1 0 1).toNatClampNeg) p1) 1 (nI ((S 1 0 1).toNatClampNeg + 1)))) hR2) (MF.sm (SM.rf (addS (up3 x_16.2 12 0 ((S 1 0 1).toNatClampNeg) p1) 1 (nI ((S 1 0 1).toNatClampNeg + 1)))) hF2) hG (fun i h => by simp [h]) (fun i h => mem_k h (by decide)) hX) hw hE (Nat.le_of_ble_eq_true rfl) (Nat.le_of_ble_eq_true rfl) dX10_right_74
            · refine k_cr0 hw (k_rS (As := [.int p1]) (rest := [.ref (ad 32 0)]) ⟨hx, hb, hml, hown, hts⟩ hK hO hw (ct_J6_valueOf_2dffe_c c_18 d_19 _ (wk.hA hw hA)) (va_cwS 1 hts (gB_S w_ml_X10_221 w_st_J6_valueOf_2dffe w_in_J6 w_co_J6_valueOf_2dffe) rfl rfl rfl (by decide +kernel) ⟨Nat.le_of_ble_eq_true rfl, Nat.le_of_ble_eq_true rfl⟩) rfl hl.1 rfl (Nat.le_of_ble_eq_true rfl) dX10_right_58 ⟨(Nat.le_of_ble_eq_true rfl), (Nat.le_of_ble_eq_true rfl)⟩) (fun H locs hw => ?_)
              have hw : wk D A L ad (mK cI cO K0 ad cp ce (up3 x_16.2 12 0 ((S 1 0 1).toNatClampNeg) p1)) s.heap H locs := hw.congr (fun f o h => ⟨rfl, mK_ex hRT hFT (fun _ _ _ => rfl) hSE h⟩)
              have hR1 : MR (up3 x_16.2 12 0 ((S 1 0 1).toNatClampNeg) p1) L cp := MR.se hSE hRT
              have hX : Ex L ad ad := fun _ _ _ => rfl
              have hv12 : (up3 x_16.2 12 0 ((S 1 0 1).toNatClampNeg) p1) 12 0 ((S 1 0 1).toNatClampNeg) = p1 := up3_e
              obtain ⟨q, hq⟩ : ∃ q, K0 (2 + (p1 + 128).toNatClampNeg) = q := ⟨_, rfl⟩
              rw [hq]
              by_cases c_21 : 6 ≤ (S 1 0 1).toNatClampNeg
              · exact nomatch (if_pos c_21).symm.trans hE
              have hE := (if_neg c_21).symm.trans hE
              have hz1 : msz (up3 x_16.2 12 0 ((S 1 0 1).toNatClampNeg) p1) 1 = (S 1 0 1).toNatClampNeg := (SE.z hSE 1).trans hz0
              have hi1 : mszI (up3 x_16.2 12 0 ((S 1 0 1).toNatClampNeg) p1) 1 = nI ((S 1 0 1).toNatClampNeg) := (SE.zi hSE 1).trans hi0
              have hcap := (hR1.2.2.1 1 (by decide)).1
              rw [hz1] at hcap
              obtain ⟨hz, hnz, hval⟩ := hFT.2.2.2.2.2 1 (by decide)
              refine m_add ⟨hx, hb, hml, hown, hts⟩ hl.1 hK hO hA hw 1 (by decide) hz1 hi1 (by omega) (hR1.1 _ (by decide) (by decide)) hcap hval (fun a => hz a) (fun a => hnz a) (h59) (Or.inr ⟨_, (vb_of c_18 d_19).2, hq⟩) (by show (if 127 < (up3 x_16.2 12 0 ((S 1 0 1).toNatClampNeg) p1) 12 0 ((S 1 0 1).toNatClampNeg) then _ else _) = _; rw [hv12, if_neg d_19]; exact hq) (fun k hk => EL.el hR1 (by decide) (by rw [hz1]; exact hk)) (hX 32 0 (hR.1 32 (by decide) (by decide))) (Nat.le_of_ble_eq_true rfl) (Nat.le_of_ble_eq_true rfl) (Nat.le_of_ble_eq_true rfl) (Nat.le_of_ble_eq_true rfl) (Nat.le_of_ble_eq_true rfl) dX10_right_61 (fun L2 u2 cp2 H locs hG hw => ?_)
              have hR2 : MR (addS (up3 x_16.2 12 0 ((S 1 0 1).toNatClampNeg) p1) 1 (nI ((S 1 0 1).toNatClampNeg + 1))) L2 cp2 := MR.add hR1 (by decide) hz1 (by omega) hG (fun z => absurd z (by decide)) (fun _ => ⟨fun z => absurd (by rw [hv12] at z; exact z) d_19, by rw [hv12]; exact c_18⟩) (fun z => absurd z (by decide)) (fun z => absurd z (by decide)) (fun z => absurd z (by decide))
              have hzz : msz (addS (up3 x_16.2 12 0 ((S 1 0 1).toNatClampNeg) p1) 1 (nI ((S 1 0 1).toNatClampNeg + 1))) 1 = (S 1 0 1).toNatClampNeg + 1 := by rw [addS_z (by decide) (by decide) (by omega), if_pos rfl]
              have hF2 : MF (addS (up3 x_16.2 12 0 ((S 1 0 1).toNatClampNeg) p1) 1 (nI ((S 1 0 1).toNatClampNeg + 1))) L2 cp2 := MFz.gl (MF.addz hFT hSE (by decide) hz0 (by omega)) (by decide) hG
              have hI2 : CI (addS (up3 x_16.2 12 0 ((S 1 0 1).toNatClampNeg) p1) 1 (nI ((S 1 0 1).toNatClampNeg + 1))) := CI.add (by decide) (Nat.lt_of_not_le c_21) (SE.ci hSE hCT)
              have e30 : u2 30 0 = ad 30 0 := (hG.2.2.1 30 0 (by decide)).trans (hX 30 0 (hR.1 30 (by decide) (by decide)))
              rw [← e30] at hl
              refine lv_pop hx hb dX10_right_64 rfl ?_
              refine lv_aload_n hx hb dX10_right_65 rfl (lv_at hl 0 rfl) ?_
              refine k_get (C := RX10) (T := TX10) (N := 9) (v := .ref (u2 32 0)) hx hb hts inB_X10 hown hK hw (hR2.1 30 (by decide) (by decide)) mke_30 rfl 3 (by decide) (hts _ w_f_X10_20) (fun _ h9 => h9) rfl dX10_right_66 ?_
              refine k_ci0 hw (k_rV (f := 32) (o := 0) (As := []) (rest := []) ⟨hx, hb, hml, hown, hts⟩ hK hO hw (ct_size_1 (SM.rf (addS (up3 x_16.2 12 0 ((S 1 0 1).toNatClampNeg) p1) 1 (nI ((S 1 0 1).toNatClampNeg + 1)))) hR2 _ (wk.hA hw hA)) (cwV 0 hts (gB_V w_ml_X10_43 w_im_Jx4a65c_size_8abf5 w_se_Jx4a65c_size_8abf5 w_in_Jx4a65c w_co_Jx4a65c_size_8abf5) rfl rfl rfl (by decide +kernel) ⟨Nat.le_of_ble_eq_true rfl, Nat.le_of_ble_eq_true rfl⟩) (hR2.1 32 (by decide) (by decide)) (ce_l1 (SM.rf (addS (up3 x_16.2 12 0 ((S 1 0 1).toNatClampNeg) p1) 1 (nI ((S 1 0 1).toNatClampNeg + 1))))) rfl rfl hl.1 rfl (Nat.le_of_ble_eq_true rfl) dX10_right_69 ⟨(Nat.le_of_ble_eq_true rfl), (Nat.le_of_ble_eq_true rfl)⟩) (fun H locs hw => ?_)
              refine lv_iconst (v := 1) hx hb dX10_right_72 (by decide) ?_
              refine lv_isub hx hb dX10_right_73 ?_
              exact m_iretG hx hb hr hlocks rfl (GRW.of (by decide) (MR.sm (SM.rf (addS (up3 x_16.2 12 0 ((S 1 0 1).toNatClampNeg) p1) 1 (nI ((S 1 0 1).toNatClampNeg + 1)))) hR2) (MF.sm (SM.rf (addS (up3 x_16.2 12 0 ((S 1 0 1).toNatClampNeg) p1) 1 (nI ((S 1 0 1).toNatClampNeg + 1)))) hF2) hG (fun i h => h) (fun i h => Or.inl h) hX) hw hE (Nat.le_of_ble_eq_true rfl) (Nat.le_of_ble_eq_true rfl) dX10_right_74
          · have hE := (if_neg c_17).symm.trans hE
            refine lv_iconst (v := 0) hx hb dX10_right_51 (by decide) ?_
            exact m_iretG hx hb hr hlocks rfl (GRW.same (MR.sm (SM.tr (SM.tr (SM.rf S) (sf_X10_start hx_13)) (sf_X10_refuse hx_16)) hR) (MF.sm (SM.tr (SM.tr (SM.rf S) (sf_X10_start hx_13)) (sf_X10_refuse hx_16)) hF)) hw hE (Nat.le_of_ble_eq_true rfl) (Nat.le_of_ble_eq_true rfl) dX10_right_52
        refine lv_icmp_ne (tgt := 43) hx hb dX10_right_36 (by decide) (fun c_15 => ?_) (fun c_15 => ?_)
        · refine lv_iconst (v := 0) hx hb dX10_right_43 (by decide) ?_
          exact hjc_15 _ (if_neg c_15).symm
        · refine lv_iconst (v := 1) hx hb dX10_right_39 (by decide) ?_
          refine lv_goto (tgt := 44) hx hb dX10_right_40 (by decide) ?_
          exact hjc_15 _ (if_pos c_15).symm
    refine lv_if_eq (tgt := 18) hx hb dX10_right_11 (by decide) (fun c_12 => ?_) (fun c_12 => ?_)
    · refine lv_iconst (v := 0) hx hb dX10_right_18 (by decide) ?_
      exact hjc_12 _ (if_pos c_12).symm
    · refine lv_iconst (v := 1) hx hb dX10_right_14 (by decide) ?_
      refine lv_goto (tgt := 19) hx hb dX10_right_15 (by decide) ?_
      exact hjc_12 _ (if_neg c_12).symm

abbrev bw_X10_order : List Cond := .code yX10_order cX10_order 4 (some .int) :: BIG
abbrev rm_X10_order : Room := { frames := 20, cells := 2, slots := 26, locals := 1000 }
noncomputable def sp_X10_order (S : (Nat → Nat → Nat → Int32)) (p1 : Int32) (p2 : Int32) (p3 : Int32) : Option (Int32 × (Nat → Nat → Nat → Int32)) := (sp_X10_start S (sp_X10_isNoItem p1) 1).bind fun x_1 => (if x_1.1 = 0 then (if (sp_X10_isFrom p2 1 20) = 0 then ((sp_X10_refuse x_1.2 1 2).bind fun x_4 => (if x_4.1 = 0 then ((sp_X10_refuse x_4.2 (if S 2 0 0 = 20 then 1 else 0) 3).bind fun x_7 => (if x_7.1 = 0 then (if 20 ≤ (S 2 0 0).toNatClampNeg then none else (some ((((addS (elO x_7.2 ((S 2 0 0).toNatClampNeg) p1 p2 p3) 2 (nI ((S 2 0 0).toNatClampNeg + 1))) 2 0 0) - 1, (addS (elO x_7.2 ((S 2 0 0).toNatClampNeg) p1 p2 p3) 2 (nI ((S 2 0 0).toNatClampNeg + 1))))))) else (some ((0, x_7.2))))) else (some ((0, x_4.2))))) else ((sp_X10_isNoDay x_1.2 p3).bind fun x_10 => ((sp_X10_refuse x_1.2 (if x_10 = 0 then 0 else 1) 2).bind fun x_12 => (if x_12.1 = 0 then ((sp_X10_refuse x_12.2 (if S 2 0 0 = 20 then 1 else 0) 3).bind fun x_15 => (if x_15.1 = 0 then (if 20 ≤ (S 2 0 0).toNatClampNeg then none else (some ((((addS (elO x_15.2 ((S 2 0 0).toNatClampNeg) p1 p2 p3) 2 (nI ((S 2 0 0).toNatClampNeg + 1))) 2 0 0) - 1, (addS (elO x_15.2 ((S 2 0 0).toNatClampNeg) p1 p2 p3) 2 (nI ((S 2 0 0).toNatClampNeg + 1))))))) else (some ((0, x_15.2))))) else (some ((0, x_12.2))))))) else (some ((0, x_1.2))))
set_option maxHeartbeats 1000000 in
set_option maxRecDepth 100000 in
theorem ct_X10_order {l : Launch} {D : va_G} {cI cG cJ cO : ClassId} {K0 : Nat → Nat} {A : Nat → Prop} {L : List (Nat × Nat)} {ad : Nat → Nat → Nat} {ce : Nat → Nat → va_E} {cp : Nat → Nat} {S : (Nat → Nat → Nat → Int32)} (hR : MR S L cp) (hI : CI S) {p1 : Int32} {p2 : Int32} {p3 : Int32} (hF : MF S L cp) (h59 : (59, 0) ∉ L) {v : Int32 × (Nat → Nat → Nat → Int32)} (hE : sp_X10_order S p1 p2 p3 = some v) (sz : Nat) (hA : ∀ q, sz ≤ q → A q) : Met l yX10_order bw_X10_order (rm_X10_order) (kP D (ktys cI cG cJ cO) K0 A L ad (mK cI cO K0 ad cp ce S) sz [.ref (ad 30 0), .int p1, .int p2, .int p3]) (kQg D A v.1 v.2 L ad cI cO K0 ce) 2 26 A := by
  refine Met.ofW (cc := cX10_order) (maxL := 4) (ret := (some .int)) (by decide) rfl ?_
  intro p e s m args below meth c s₁ B hml hv_
  obtain ⟨hav, hsz, hP, hD, hK, hO⟩ := hv_
  have hx := B.exec
  have hb := B.bytes
  have hr := B.returns
  have hts : ∀ w ∈ BIG, w.before args s = true := fun w h => atoms_spec (ws := bw_X10_order) B.pre w (List.mem_cons_of_mem _ h)
  have hown : s.vm.findClass RX10 = some m.cls := findClass_of_methodNamed B.named
  have hlocks := B.notSynchronized
  subst hsz
  have hw := wk.start hP hD
  refine k_start (by rfl) hav (Nat.le_of_ble_eq_true rfl) (fun ls hl => ?_)
  have hl : lv_has ls 4 [(0, .ref (ad 30 0)), (1, .int p1), (2, .int p2), (3, .int p3)] := hl
  unfold sp_X10_order at hE
  refine lv_aload_n hx hb dX10_order_0 rfl (lv_at hl 0 rfl) ?_
  refine lv_iload_n hx hb dX10_order_1 rfl (lv_at hl 1 rfl) ?_
  refine k_ci0 hw (k_rS (As := [.int p1]) (rest := [.ref (ad 30 0)]) ⟨hx, hb, hml, hown, hts⟩ hK hO hw (ct_X10_isNoItem p1 _ (wk.hA hw hA)) (va_cwS 1 hts (gB_S w_ml_X10_225 w_st_X10_isNoItem w_in_X10 w_co_X10_isNoItem) rfl rfl rfl (by decide +kernel) ⟨Nat.le_of_ble_eq_true rfl, Nat.le_of_ble_eq_true rfl⟩) rfl hl.1 rfl (Nat.le_of_ble_eq_true rfl) dX10_order_2 ⟨(Nat.le_of_ble_eq_true rfl), (Nat.le_of_ble_eq_true rfl)⟩) (fun H locs hw => ?_)
  refine lv_iconst (v := 1) hx hb dX10_order_5 (by decide) ?_
  obtain ⟨x_1, hx_1, hE⟩ := ob1 hE
  refine k_ci0 hw (k_rV (f := 30) (o := 0) (As := [.int (sp_X10_isNoItem p1), .int 1]) (rest := []) ⟨hx, hb, hml, hown, hts⟩ hK hO hw (ct_X10_start (MR.sm (SM.rf S) hR) (SM.ci (SM.rf S) hI) hx_1 _ (wk.hA hw hA)) (cwV 2 hts (gB_V w_ml_X10_186 w_im_X10_start w_se_X10_start w_in_X10 w_co_X10_start) rfl rfl rfl (by decide +kernel) ⟨Nat.le_of_ble_eq_true rfl, Nat.le_of_ble_eq_true rfl⟩) (hR.1 30 (by decide) (by decide)) mke_30 rfl rfl hl.1 rfl (Nat.le_of_ble_eq_true rfl) dX10_order_6 ⟨(Nat.le_of_ble_eq_true rfl), (Nat.le_of_ble_eq_true rfl)⟩) (fun H locs hw => ?_)
  refine lv_if_ne (tgt := 68) hx hb dX10_order_9 (by decide) (fun c_2 => ?_) (fun c_2 => ?_)
  · have hE := (if_neg c_2).symm.trans hE
    refine lv_iconst (v := 0) hx hb dX10_order_68 (by decide) ?_
    exact m_iretG hx hb hr hlocks rfl (GRW.same (MR.sm (SM.tr (SM.rf S) (sf_X10_start hx_1)) hR) (MF.sm (SM.tr (SM.rf S) (sf_X10_start hx_1)) hF)) hw hE (Nat.le_of_ble_eq_true rfl) (Nat.le_of_ble_eq_true rfl) dX10_order_69
  · have hE := (if_pos c_2).symm.trans hE
    refine lv_aload_n hx hb dX10_order_12 rfl (lv_at hl 0 rfl) ?_
    refine lv_iload_n hx hb dX10_order_13 rfl (lv_at hl 2 rfl) ?_
    refine lv_iconst (v := 1) hx hb dX10_order_14 (by decide) ?_
    refine lv_bipush (v := 20) hx hb dX10_order_15 (by decide) ?_
    refine k_ci0 hw (k_rS (As := [.int p2, .int 1, .int 20]) (rest := [.ref (ad 30 0)]) ⟨hx, hb, hml, hown, hts⟩ hK hO hw (ct_X10_isFrom p2 1 20 _ (wk.hA hw hA)) (va_cwS 3 hts (gB_S w_ml_X10_47 w_st_X10_isFrom w_in_X10 w_co_X10_isFrom) rfl rfl rfl (by decide +kernel) ⟨Nat.le_of_ble_eq_true rfl, Nat.le_of_ble_eq_true rfl⟩) rfl hl.1 rfl (Nat.le_of_ble_eq_true rfl) dX10_order_17 ⟨(Nat.le_of_ble_eq_true rfl), (Nat.le_of_ble_eq_true rfl)⟩) (fun H locs hw => ?_)
    refine lv_if_eq (tgt := 31) hx hb dX10_order_20 (by decide) (fun c_3 => ?_) (fun c_3 => ?_)
    · have hE := (if_pos c_3).symm.trans hE
      refine lv_iconst (v := 1) hx hb dX10_order_31 (by decide) ?_
      refine lv_goto (tgt := 36) hx hb dX10_order_32 (by decide) ?_
      refine lv_iconst (v := 2) hx hb dX10_order_36 (by decide) ?_
      obtain ⟨x_4, hx_4, hE⟩ := ob1 hE
      refine k_ci0 hw (k_rV (f := 30) (o := 0) (As := [.int 1, .int 2]) (rest := []) ⟨hx, hb, hml, hown, hts⟩ hK hO hw (ct_X10_refuse (MR.sm (SM.tr (SM.rf S) (sf_X10_start hx_1)) hR) (SM.ci (SM.tr (SM.rf S) (sf_X10_start hx_1)) hI) hx_4 _ (wk.hA hw hA)) (cwV 2 hts (gB_V w_ml_X10_39 w_im_X10_refuse w_se_X10_refuse w_in_X10 w_co_X10_refuse) rfl rfl rfl (by decide +kernel) ⟨Nat.le_of_ble_eq_true rfl, Nat.le_of_ble_eq_true rfl⟩) (hR.1 30 (by decide) (by decide)) mke_30 rfl rfl hl.1 rfl (Nat.le_of_ble_eq_true rfl) dX10_order_37 ⟨(Nat.le_of_ble_eq_true rfl), (Nat.le_of_ble_eq_true rfl)⟩) (fun H locs hw => ?_)
      refine lv_if_ne (tgt := 68) hx hb dX10_order_40 (by decide) (fun c_5 => ?_) (fun c_5 => ?_)
      · have hE := (if_neg c_5).symm.trans hE
        refine lv_iconst (v := 0) hx hb dX10_order_68 (by decide) ?_
        exact m_iretG hx hb hr hlocks rfl (GRW.same (MR.sm (SM.tr (SM.tr (SM.rf S) (sf_X10_start hx_1)) (sf_X10_refuse hx_4)) hR) (MF.sm (SM.tr (SM.tr (SM.rf S) (sf_X10_start hx_1)) (sf_X10_refuse hx_4)) hF)) hw hE (Nat.le_of_ble_eq_true rfl) (Nat.le_of_ble_eq_true rfl) dX10_order_69
      · have hE := (if_pos c_5).symm.trans hE
        refine lv_aload_n hx hb dX10_order_43 rfl (lv_at hl 0 rfl) ?_
        refine lv_aload_n hx hb dX10_order_44 rfl (lv_at hl 0 rfl) ?_
        refine k_get (C := RX10) (T := TX10) (N := 9) (v := .ref (ad 33 0)) hx hb hts inB_X10 hown hK hw (hR.1 30 (by decide) (by decide)) mke_30 rfl 5 (by decide) (hts _ w_f_X10_26) (fun _ h9 => h9) rfl dX10_order_45 ?_
        refine k_ci0 hw (k_rV (f := 33) (o := 0) (As := []) (rest := [.ref (ad 30 0)]) ⟨hx, hb, hml, hown, hts⟩ hK hO hw (ct_size_2 (SM.tr (SM.tr (SM.rf S) (sf_X10_start hx_1)) (sf_X10_refuse hx_4)) hR _ (wk.hA hw hA)) (cwV 0 hts (gB_V w_ml_X10_43 w_im_Jx4a65c_size_8abf5 w_se_Jx4a65c_size_8abf5 w_in_Jx4a65c w_co_Jx4a65c_size_8abf5) rfl rfl rfl (by decide +kernel) ⟨Nat.le_of_ble_eq_true rfl, Nat.le_of_ble_eq_true rfl⟩) (hR.1 33 (by decide) (by decide)) (ce_l2 (SM.tr (SM.tr (SM.rf S) (sf_X10_start hx_1)) (sf_X10_refuse hx_4))) rfl rfl hl.1 rfl (Nat.le_of_ble_eq_true rfl) dX10_order_48 ⟨(Nat.le_of_ble_eq_true rfl), (Nat.le_of_ble_eq_true rfl)⟩) (fun H locs hw => ?_)
        refine lv_bipush (v := 20) hx hb dX10_order_51 (by decide) ?_
        have hjc_6 : ∀ bc_6 : Int32, bc_6 = (if S 2 0 0 = 20 then 1 else 0) → W p l e (headSpec bw_X10_order (rm_X10_order)).room s m args below meth c H locs 0 0 (MQ below (kQg D A v.1 v.2 L ad cI cO K0 ce) args s 2 26 A) (F0 m 61 ls [.int bc_6, .ref (ad 30 0)]) := by
          intro bc_6 hbc_6
          subst hbc_6
          refine lv_iconst (v := 3) hx hb dX10_order_61 (by decide) ?_
          obtain ⟨x_7, hx_7, hE⟩ := ob1 hE
          refine k_ci0 hw (k_rV (f := 30) (o := 0) (As := [.int (if S 2 0 0 = 20 then 1 else 0), .int 3]) (rest := []) ⟨hx, hb, hml, hown, hts⟩ hK hO hw (ct_X10_refuse (MR.sm (SM.tr (SM.tr (SM.rf S) (sf_X10_start hx_1)) (sf_X10_refuse hx_4)) hR) (SM.ci (SM.tr (SM.tr (SM.rf S) (sf_X10_start hx_1)) (sf_X10_refuse hx_4)) hI) hx_7 _ (wk.hA hw hA)) (cwV 2 hts (gB_V w_ml_X10_39 w_im_X10_refuse w_se_X10_refuse w_in_X10 w_co_X10_refuse) rfl rfl rfl (by decide +kernel) ⟨Nat.le_of_ble_eq_true rfl, Nat.le_of_ble_eq_true rfl⟩) (hR.1 30 (by decide) (by decide)) mke_30 rfl rfl hl.1 rfl (Nat.le_of_ble_eq_true rfl) dX10_order_62 ⟨(Nat.le_of_ble_eq_true rfl), (Nat.le_of_ble_eq_true rfl)⟩) (fun H locs hw => ?_)
          refine lv_if_eq (tgt := 70) hx hb dX10_order_65 (by decide) (fun c_8 => ?_) (fun c_8 => ?_)
          · have hE := (if_pos c_8).symm.trans hE
            refine lv_aload_n hx hb dX10_order_70 rfl (lv_at hl 0 rfl) ?_
            refine k_get (C := RX10) (T := TX10) (N := 9) (v := .ref (ad 33 0)) hx hb hts inB_X10 hown hK hw (hR.1 30 (by decide) (by decide)) mke_30 rfl 5 (by decide) (hts _ w_f_X10_26) (fun _ h9 => h9) rfl dX10_order_71 ?_
            have hRT : MR x_7.2 L cp := MR.sm (SM.tr (SM.tr (SM.tr (SM.rf S) (sf_X10_start hx_1)) (sf_X10_refuse hx_4)) (sf_X10_refuse hx_7)) hR
            have hFT : MF x_7.2 L cp := MF.sm (SM.tr (SM.tr (SM.tr (SM.rf S) (sf_X10_start hx_1)) (sf_X10_refuse hx_4)) (sf_X10_refuse hx_7)) hF
            have hz0 : msz x_7.2 2 = (S 2 0 0).toNatClampNeg := SM.z (SM.tr (SM.tr (SM.tr (SM.rf S) (sf_X10_start hx_1)) (sf_X10_refuse hx_4)) (sf_X10_refuse hx_7)) 2
            have hCT : CI x_7.2 := SM.ci (SM.tr (SM.tr (SM.tr (SM.rf S) (sf_X10_start hx_1)) (sf_X10_refuse hx_4)) (sf_X10_refuse hx_7)) hI
            have hi0 : mszI x_7.2 2 = nI ((S 2 0 0).toNatClampNeg) := (SM.c2 (SM.tr (SM.tr (SM.tr (SM.rf S) (sf_X10_start hx_1)) (sf_X10_refuse hx_4)) (sf_X10_refuse hx_7))).trans (cn_eq hI.2.2.1.1)
            have hn : (44, (S 2 0 0).toNatClampNeg) ∉ L := (hF.2.2.1 _ (Nat.le_refl _))
            refine k_new (C := RX7) (T := TX7) (N := 4) (ci := 10) (fs := [.int 0, .int 0, .int 0, .int 0]) hx hb hts inB_X7 tyX7 tyX7_ok hown (hts _ w_cl_X10_88) (hts _ w_is_X7) (hts _ w_in_X7) hK hw hA rfl (fun j hj => match j, hj with | 0, _ => rfl | 1, _ => rfl | 2, _ => rfl | 3, _ => rfl | n + 4, h => absurd h (by omega)) (Nat.le_of_ble_eq_true rfl) (Nat.le_of_ble_eq_true rfl) 44 ((S 2 0 0).toNatClampNeg) hn dX10_order_74 (fun q H hw => ?_)
            rw [upa_eq]
            have hRn := hR.push (i := (44, (S 2 0 0).toNatClampNeg))
            refine lv_dup hx hb dX10_order_77 rfl ?_
            refine lv_iload_n hx hb dX10_order_78 rfl (lv_at hl 1 rfl) ?_
            refine lv_iload_n hx hb dX10_order_79 rfl (lv_at hl 2 rfl) ?_
            refine lv_iload_n hx hb dX10_order_80 rfl (lv_at hl 3 rfl) ?_
            have ct := ct_X7_init (l := l) (D := D) (cI := cI) (cG := cG) (cJ := cJ) (cO := cO) (K0 := K0) (A := A) (L := L ++ [(44, (S 2 0 0).toNatClampNeg)]) (ad := upa ad 44 ((S 2 0 0).toNatClampNeg) q) (ce := up2 (mK cI cO K0 ad cp ce x_7.2) 44 ((S 2 0 0).toNatClampNeg) (.inr (10, [.int 0, .int 0, .int 0, .int 0]))) (o := ((S 2 0 0).toNatClampNeg)) (v0 := p1) (v1 := p2) (v2 := p3) (List.mem_append_right _ (List.mem_singleton_self _)) up2_eq _ (wk.hA hw hA)
            rw [upa_eq] at ct
            refine k_cv0 hw (k_rI (As := [.int p1, .int p2, .int p3]) (rest := [.ref q, .ref (ad 33 0)]) ⟨hx, hb, hml, hown, hts⟩ hK hO hw ct (cwI 3 hts (gB_0 w_co_X7_init) rfl rfl rfl (hts _ w_in_X7) (hts _ w_ml_X10_231) (hts _ w_im_X7_init) rfl (by decide +kernel) ⟨Nat.le_of_ble_eq_true rfl, Nat.le_of_ble_eq_true rfl⟩) rfl hl.1 rfl (Nat.le_of_ble_eq_true rfl) dX10_order_81 ⟨(Nat.le_of_ble_eq_true rfl), (Nat.le_of_ble_eq_true rfl)⟩) (fun H locs hw => ?_)
            rw [up2_up2] at hw
            have hSE : SE x_7.2 (elO x_7.2 ((S 2 0 0).toNatClampNeg) p1 p2 p3) := SE.elO (Nat.le_of_eq hz0)
            have hw := wk.el (by decide) (by decide) hRT hFT hn hSE (mc_elO) hw
            have hR1 : MR (elO x_7.2 ((S 2 0 0).toNatClampNeg) p1 p2 p3) (L ++ [(44, (S 2 0 0).toNatClampNeg)]) cp := (MR.se hSE hRT).push
            have hX : Ex L ad (upa ad 44 ((S 2 0 0).toNatClampNeg) q) := Ex.upa hn
            by_cases c_9 : 20 ≤ (S 2 0 0).toNatClampNeg
            · exact nomatch (if_pos c_9).symm.trans hE
            have hE := (if_neg c_9).symm.trans hE
            have hz1 : msz (elO x_7.2 ((S 2 0 0).toNatClampNeg) p1 p2 p3) 2 = (S 2 0 0).toNatClampNeg := (SE.z hSE 2).trans hz0
            have hi1 : mszI (elO x_7.2 ((S 2 0 0).toNatClampNeg) p1 p2 p3) 2 = nI ((S 2 0 0).toNatClampNeg) := (SE.zi hSE 2).trans hi0
            have hcap := (hR1.2.2.1 2 (by decide)).1
            rw [hz1] at hcap
            obtain ⟨hz, hnz, hval⟩ := hFT.2.2.2.2.2 2 (by decide)
            refine m_add ⟨hx, hb, hml, hown, hts⟩ hl.1 hK hO hA hw 2 (by decide) hz1 hi1 (by omega) (hR1.1 _ (by decide) (by decide)) hcap hval (fun a => nmemf (hz a) (by decide)) (fun a => List.mem_append_left _ (hnz a)) (nmemf (h59) (by decide)) (Or.inl ⟨44, _, 10, _, (RX7, TX7, 4), (List.mem_append_right _ (List.mem_singleton_self _)), upa_eq, mke_44, rfl, w_ca_X7⟩) (show (upa ad 44 ((S 2 0 0).toNatClampNeg) q) 44 ((S 2 0 0).toNatClampNeg) = q from upa_eq) (fun k hk => EL.el hR1 (by decide) (by rw [hz1]; exact hk)) (hX 33 0 (hR.1 33 (by decide) (by decide))) (Nat.le_of_ble_eq_true rfl) (Nat.le_of_ble_eq_true rfl) (Nat.le_of_ble_eq_true rfl) (Nat.le_of_ble_eq_true rfl) (Nat.le_of_ble_eq_true rfl) dX10_order_84 (fun L2 u2 cp2 H locs hG hw => ?_)
            have hR2 : MR (addS (elO x_7.2 ((S 2 0 0).toNatClampNeg) p1 p2 p3) 2 (nI ((S 2 0 0).toNatClampNeg + 1))) L2 cp2 := MR.add hR1 (by decide) hz1 (by omega) hG (fun z => absurd z (by decide)) (fun z => absurd z (by decide)) (fun _ => List.mem_append_right _ (List.mem_singleton_self _)) (fun z => absurd z (by decide)) (fun z => absurd z (by decide))
            have hzz : msz (addS (elO x_7.2 ((S 2 0 0).toNatClampNeg) p1 p2 p3) 2 (nI ((S 2 0 0).toNatClampNeg + 1))) 2 = (S 2 0 0).toNatClampNeg + 1 := by rw [addS_z (by decide) (by decide) (by omega), if_pos rfl]
            have hF2 : MF (addS (elO x_7.2 ((S 2 0 0).toNatClampNeg) p1 p2 p3) 2 (nI ((S 2 0 0).toNatClampNeg + 1))) L2 cp2 := MFz.gl ((MF.addz hFT hSE (by decide) hz0 (by omega)).push (by decide) (fun z => absurd z (by decide)) (fun z => absurd z (by decide)) (fun _ => by rw [hzz]; omega) (fun z => absurd z (by decide)) (fun a b => absurd a (by decide))) (by decide) hG
            have hI2 : CI (addS (elO x_7.2 ((S 2 0 0).toNatClampNeg) p1 p2 p3) 2 (nI ((S 2 0 0).toNatClampNeg + 1))) := CI.add (by decide) (Nat.lt_of_not_le c_9) (SE.ci hSE hCT)
            have e30 : u2 30 0 = ad 30 0 := (hG.2.2.1 30 0 (by decide)).trans (hX 30 0 (hR.1 30 (by decide) (by decide)))
            rw [← e30] at hl
            refine lv_pop hx hb dX10_order_87 rfl ?_
            refine lv_aload_n hx hb dX10_order_88 rfl (lv_at hl 0 rfl) ?_
            refine k_get (C := RX10) (T := TX10) (N := 9) (v := .ref (u2 33 0)) hx hb hts inB_X10 hown hK hw (hR2.1 30 (by decide) (by decide)) mke_30 rfl 5 (by decide) (hts _ w_f_X10_26) (fun _ h9 => h9) rfl dX10_order_89 ?_
            refine k_ci0 hw (k_rV (f := 33) (o := 0) (As := []) (rest := []) ⟨hx, hb, hml, hown, hts⟩ hK hO hw (ct_size_2 (SM.rf (addS (elO x_7.2 ((S 2 0 0).toNatClampNeg) p1 p2 p3) 2 (nI ((S 2 0 0).toNatClampNeg + 1)))) hR2 _ (wk.hA hw hA)) (cwV 0 hts (gB_V w_ml_X10_43 w_im_Jx4a65c_size_8abf5 w_se_Jx4a65c_size_8abf5 w_in_Jx4a65c w_co_Jx4a65c_size_8abf5) rfl rfl rfl (by decide +kernel) ⟨Nat.le_of_ble_eq_true rfl, Nat.le_of_ble_eq_true rfl⟩) (hR2.1 33 (by decide) (by decide)) (ce_l2 (SM.rf (addS (elO x_7.2 ((S 2 0 0).toNatClampNeg) p1 p2 p3) 2 (nI ((S 2 0 0).toNatClampNeg + 1))))) rfl rfl hl.1 rfl (Nat.le_of_ble_eq_true rfl) dX10_order_92 ⟨(Nat.le_of_ble_eq_true rfl), (Nat.le_of_ble_eq_true rfl)⟩) (fun H locs hw => ?_)
            refine lv_iconst (v := 1) hx hb dX10_order_95 (by decide) ?_
            refine lv_isub hx hb dX10_order_96 ?_
            exact m_iretG hx hb hr hlocks rfl (GRW.of (by decide) (MR.sm (SM.rf (addS (elO x_7.2 ((S 2 0 0).toNatClampNeg) p1 p2 p3) 2 (nI ((S 2 0 0).toNatClampNeg + 1)))) hR2) (MF.sm (SM.rf (addS (elO x_7.2 ((S 2 0 0).toNatClampNeg) p1 p2 p3) 2 (nI ((S 2 0 0).toNatClampNeg + 1)))) hF2) hG (fun i h => by simp [h]) (fun i h => mem_k h (by decide)) hX) hw hE (Nat.le_of_ble_eq_true rfl) (Nat.le_of_ble_eq_true rfl) dX10_order_97
          · have hE := (if_neg c_8).symm.trans hE
            refine lv_iconst (v := 0) hx hb dX10_order_68 (by decide) ?_
            exact m_iretG hx hb hr hlocks rfl (GRW.same (MR.sm (SM.tr (SM.tr (SM.tr (SM.rf S) (sf_X10_start hx_1)) (sf_X10_refuse hx_4)) (sf_X10_refuse hx_7)) hR) (MF.sm (SM.tr (SM.tr (SM.tr (SM.rf S) (sf_X10_start hx_1)) (sf_X10_refuse hx_4)) (sf_X10_refuse hx_7)) hF)) hw hE (Nat.le_of_ble_eq_true rfl) (Nat.le_of_ble_eq_true rfl) dX10_order_69
        refine lv_icmp_ne (tgt := 60) hx hb dX10_order_53 (by decide) (fun c_6 => ?_) (fun c_6 => ?_)
        · refine lv_iconst (v := 0) hx hb dX10_order_60 (by decide) ?_
          exact hjc_6 _ (if_neg c_6).symm
        · refine lv_iconst (v := 1) hx hb dX10_order_56 (by decide) ?_
          refine lv_goto (tgt := 61) hx hb dX10_order_57 (by decide) ?_
          exact hjc_6 _ (if_pos c_6).symm
    · have hE := (if_neg c_3).symm.trans hE
      refine lv_aload_n hx hb dX10_order_23 rfl (lv_at hl 0 rfl) ?_
      refine lv_iload_n hx hb dX10_order_24 rfl (lv_at hl 3 rfl) ?_
      obtain ⟨x_10, hx_10, hE⟩ := ob1 hE
      refine k_ci0 hw (k_rV (f := 30) (o := 0) (As := [.int p3]) (rest := [.ref (ad 30 0)]) ⟨hx, hb, hml, hown, hts⟩ hK hO hw (ct_X10_isNoDay (MR.sm (SM.tr (SM.rf S) (sf_X10_start hx_1)) hR) (SM.ci (SM.tr (SM.rf S) (sf_X10_start hx_1)) hI) hx_10 _ (wk.hA hw hA)) (cwV 1 hts (gB_V w_ml_X10_228 w_im_X10_isNoDay w_se_X10_isNoDay w_in_X10 w_co_X10_isNoDay) rfl rfl rfl (by decide +kernel) ⟨Nat.le_of_ble_eq_true rfl, Nat.le_of_ble_eq_true rfl⟩) (hR.1 30 (by decide) (by decide)) mke_30 rfl rfl hl.1 rfl (Nat.le_of_ble_eq_true rfl) dX10_order_25 ⟨(Nat.le_of_ble_eq_true rfl), (Nat.le_of_ble_eq_true rfl)⟩) (fun H locs hw => ?_)
      have hjc_11 : ∀ bc_11 : Int32, bc_11 = (if x_10 = 0 then 0 else 1) → W p l e (headSpec bw_X10_order (rm_X10_order)).room s m args below meth c H locs 0 0 (MQ below (kQg D A v.1 v.2 L ad cI cO K0 ce) args s 2 26 A) (F0 m 36 ls [.int bc_11, .ref (ad 30 0)]) := by
        intro bc_11 hbc_11
        subst hbc_11
        refine lv_iconst (v := 2) hx hb dX10_order_36 (by decide) ?_
        obtain ⟨x_12, hx_12, hE⟩ := ob1 hE
        refine k_ci0 hw (k_rV (f := 30) (o := 0) (As := [.int (if x_10 = 0 then 0 else 1), .int 2]) (rest := []) ⟨hx, hb, hml, hown, hts⟩ hK hO hw (ct_X10_refuse (MR.sm (SM.tr (SM.rf S) (sf_X10_start hx_1)) hR) (SM.ci (SM.tr (SM.rf S) (sf_X10_start hx_1)) hI) hx_12 _ (wk.hA hw hA)) (cwV 2 hts (gB_V w_ml_X10_39 w_im_X10_refuse w_se_X10_refuse w_in_X10 w_co_X10_refuse) rfl rfl rfl (by decide +kernel) ⟨Nat.le_of_ble_eq_true rfl, Nat.le_of_ble_eq_true rfl⟩) (hR.1 30 (by decide) (by decide)) mke_30 rfl rfl hl.1 rfl (Nat.le_of_ble_eq_true rfl) dX10_order_37 ⟨(Nat.le_of_ble_eq_true rfl), (Nat.le_of_ble_eq_true rfl)⟩) (fun H locs hw => ?_)
        refine lv_if_ne (tgt := 68) hx hb dX10_order_40 (by decide) (fun c_13 => ?_) (fun c_13 => ?_)
        · have hE := (if_neg c_13).symm.trans hE
          refine lv_iconst (v := 0) hx hb dX10_order_68 (by decide) ?_
          exact m_iretG hx hb hr hlocks rfl (GRW.same (MR.sm (SM.tr (SM.tr (SM.rf S) (sf_X10_start hx_1)) (sf_X10_refuse hx_12)) hR) (MF.sm (SM.tr (SM.tr (SM.rf S) (sf_X10_start hx_1)) (sf_X10_refuse hx_12)) hF)) hw hE (Nat.le_of_ble_eq_true rfl) (Nat.le_of_ble_eq_true rfl) dX10_order_69
        · have hE := (if_pos c_13).symm.trans hE
          refine lv_aload_n hx hb dX10_order_43 rfl (lv_at hl 0 rfl) ?_
          refine lv_aload_n hx hb dX10_order_44 rfl (lv_at hl 0 rfl) ?_
          refine k_get (C := RX10) (T := TX10) (N := 9) (v := .ref (ad 33 0)) hx hb hts inB_X10 hown hK hw (hR.1 30 (by decide) (by decide)) mke_30 rfl 5 (by decide) (hts _ w_f_X10_26) (fun _ h9 => h9) rfl dX10_order_45 ?_
          refine k_ci0 hw (k_rV (f := 33) (o := 0) (As := []) (rest := [.ref (ad 30 0)]) ⟨hx, hb, hml, hown, hts⟩ hK hO hw (ct_size_2 (SM.tr (SM.tr (SM.rf S) (sf_X10_start hx_1)) (sf_X10_refuse hx_12)) hR _ (wk.hA hw hA)) (cwV 0 hts (gB_V w_ml_X10_43 w_im_Jx4a65c_size_8abf5 w_se_Jx4a65c_size_8abf5 w_in_Jx4a65c w_co_Jx4a65c_size_8abf5) rfl rfl rfl (by decide +kernel) ⟨Nat.le_of_ble_eq_true rfl, Nat.le_of_ble_eq_true rfl⟩) (hR.1 33 (by decide) (by decide)) (ce_l2 (SM.tr (SM.tr (SM.rf S) (sf_X10_start hx_1)) (sf_X10_refuse hx_12))) rfl rfl hl.1 rfl (Nat.le_of_ble_eq_true rfl) dX10_order_48 ⟨(Nat.le_of_ble_eq_true rfl), (Nat.le_of_ble_eq_true rfl)⟩) (fun H locs hw => ?_)
          refine lv_bipush (v := 20) hx hb dX10_order_51 (by decide) ?_
          have hjc_14 : ∀ bc_14 : Int32, bc_14 = (if S 2 0 0 = 20 then 1 else 0) → W p l e (headSpec bw_X10_order (rm_X10_order)).room s m args below meth c H locs 0 0 (MQ below (kQg D A v.1 v.2 L ad cI cO K0 ce) args s 2 26 A) (F0 m 61 ls [.int bc_14, .ref (ad 30 0)]) := by
            intro bc_14 hbc_14
            subst hbc_14
            refine lv_iconst (v := 3) hx hb dX10_order_61 (by decide) ?_
            obtain ⟨x_15, hx_15, hE⟩ := ob1 hE
            refine k_ci0 hw (k_rV (f := 30) (o := 0) (As := [.int (if S 2 0 0 = 20 then 1 else 0), .int 3]) (rest := []) ⟨hx, hb, hml, hown, hts⟩ hK hO hw (ct_X10_refuse (MR.sm (SM.tr (SM.tr (SM.rf S) (sf_X10_start hx_1)) (sf_X10_refuse hx_12)) hR) (SM.ci (SM.tr (SM.tr (SM.rf S) (sf_X10_start hx_1)) (sf_X10_refuse hx_12)) hI) hx_15 _ (wk.hA hw hA)) (cwV 2 hts (gB_V w_ml_X10_39 w_im_X10_refuse w_se_X10_refuse w_in_X10 w_co_X10_refuse) rfl rfl rfl (by decide +kernel) ⟨Nat.le_of_ble_eq_true rfl, Nat.le_of_ble_eq_true rfl⟩) (hR.1 30 (by decide) (by decide)) mke_30 rfl rfl hl.1 rfl (Nat.le_of_ble_eq_true rfl) dX10_order_62 ⟨(Nat.le_of_ble_eq_true rfl), (Nat.le_of_ble_eq_true rfl)⟩) (fun H locs hw => ?_)
            refine lv_if_eq (tgt := 70) hx hb dX10_order_65 (by decide) (fun c_16 => ?_) (fun c_16 => ?_)
            · have hE := (if_pos c_16).symm.trans hE
              refine lv_aload_n hx hb dX10_order_70 rfl (lv_at hl 0 rfl) ?_
              refine k_get (C := RX10) (T := TX10) (N := 9) (v := .ref (ad 33 0)) hx hb hts inB_X10 hown hK hw (hR.1 30 (by decide) (by decide)) mke_30 rfl 5 (by decide) (hts _ w_f_X10_26) (fun _ h9 => h9) rfl dX10_order_71 ?_
              have hRT : MR x_15.2 L cp := MR.sm (SM.tr (SM.tr (SM.tr (SM.rf S) (sf_X10_start hx_1)) (sf_X10_refuse hx_12)) (sf_X10_refuse hx_15)) hR
              have hFT : MF x_15.2 L cp := MF.sm (SM.tr (SM.tr (SM.tr (SM.rf S) (sf_X10_start hx_1)) (sf_X10_refuse hx_12)) (sf_X10_refuse hx_15)) hF
              have hz0 : msz x_15.2 2 = (S 2 0 0).toNatClampNeg := SM.z (SM.tr (SM.tr (SM.tr (SM.rf S) (sf_X10_start hx_1)) (sf_X10_refuse hx_12)) (sf_X10_refuse hx_15)) 2
              have hCT : CI x_15.2 := SM.ci (SM.tr (SM.tr (SM.tr (SM.rf S) (sf_X10_start hx_1)) (sf_X10_refuse hx_12)) (sf_X10_refuse hx_15)) hI
              have hi0 : mszI x_15.2 2 = nI ((S 2 0 0).toNatClampNeg) := (SM.c2 (SM.tr (SM.tr (SM.tr (SM.rf S) (sf_X10_start hx_1)) (sf_X10_refuse hx_12)) (sf_X10_refuse hx_15))).trans (cn_eq hI.2.2.1.1)
              have hn : (44, (S 2 0 0).toNatClampNeg) ∉ L := (hF.2.2.1 _ (Nat.le_refl _))
              refine k_new (C := RX7) (T := TX7) (N := 4) (ci := 10) (fs := [.int 0, .int 0, .int 0, .int 0]) hx hb hts inB_X7 tyX7 tyX7_ok hown (hts _ w_cl_X10_88) (hts _ w_is_X7) (hts _ w_in_X7) hK hw hA rfl (fun j hj => match j, hj with | 0, _ => rfl | 1, _ => rfl | 2, _ => rfl | 3, _ => rfl | n + 4, h => absurd h (by omega)) (Nat.le_of_ble_eq_true rfl) (Nat.le_of_ble_eq_true rfl) 44 ((S 2 0 0).toNatClampNeg) hn dX10_order_74 (fun q H hw => ?_)
              rw [upa_eq]
              have hRn := hR.push (i := (44, (S 2 0 0).toNatClampNeg))
              refine lv_dup hx hb dX10_order_77 rfl ?_
              refine lv_iload_n hx hb dX10_order_78 rfl (lv_at hl 1 rfl) ?_
              refine lv_iload_n hx hb dX10_order_79 rfl (lv_at hl 2 rfl) ?_
              refine lv_iload_n hx hb dX10_order_80 rfl (lv_at hl 3 rfl) ?_
              have ct := ct_X7_init (l := l) (D := D) (cI := cI) (cG := cG) (cJ := cJ) (cO := cO) (K0 := K0) (A := A) (L := L ++ [(44, (S 2 0 0).toNatClampNeg)]) (ad := upa ad 44 ((S 2 0 0).toNatClampNeg) q) (ce := up2 (mK cI cO K0 ad cp ce x_15.2) 44 ((S 2 0 0).toNatClampNeg) (.inr (10, [.int 0, .int 0, .int 0, .int 0]))) (o := ((S 2 0 0).toNatClampNeg)) (v0 := p1) (v1 := p2) (v2 := p3) (List.mem_append_right _ (List.mem_singleton_self _)) up2_eq _ (wk.hA hw hA)
              rw [upa_eq] at ct
              refine k_cv0 hw (k_rI (As := [.int p1, .int p2, .int p3]) (rest := [.ref q, .ref (ad 33 0)]) ⟨hx, hb, hml, hown, hts⟩ hK hO hw ct (cwI 3 hts (gB_0 w_co_X7_init) rfl rfl rfl (hts _ w_in_X7) (hts _ w_ml_X10_231) (hts _ w_im_X7_init) rfl (by decide +kernel) ⟨Nat.le_of_ble_eq_true rfl, Nat.le_of_ble_eq_true rfl⟩) rfl hl.1 rfl (Nat.le_of_ble_eq_true rfl) dX10_order_81 ⟨(Nat.le_of_ble_eq_true rfl), (Nat.le_of_ble_eq_true rfl)⟩) (fun H locs hw => ?_)
              rw [up2_up2] at hw
              have hSE : SE x_15.2 (elO x_15.2 ((S 2 0 0).toNatClampNeg) p1 p2 p3) := SE.elO (Nat.le_of_eq hz0)
              have hw := wk.el (by decide) (by decide) hRT hFT hn hSE (mc_elO) hw
              have hR1 : MR (elO x_15.2 ((S 2 0 0).toNatClampNeg) p1 p2 p3) (L ++ [(44, (S 2 0 0).toNatClampNeg)]) cp := (MR.se hSE hRT).push
              have hX : Ex L ad (upa ad 44 ((S 2 0 0).toNatClampNeg) q) := Ex.upa hn
              by_cases c_17 : 20 ≤ (S 2 0 0).toNatClampNeg
              · exact nomatch (if_pos c_17).symm.trans hE
              have hE := (if_neg c_17).symm.trans hE
              have hz1 : msz (elO x_15.2 ((S 2 0 0).toNatClampNeg) p1 p2 p3) 2 = (S 2 0 0).toNatClampNeg := (SE.z hSE 2).trans hz0
              have hi1 : mszI (elO x_15.2 ((S 2 0 0).toNatClampNeg) p1 p2 p3) 2 = nI ((S 2 0 0).toNatClampNeg) := (SE.zi hSE 2).trans hi0
              have hcap := (hR1.2.2.1 2 (by decide)).1
              rw [hz1] at hcap
              obtain ⟨hz, hnz, hval⟩ := hFT.2.2.2.2.2 2 (by decide)
              refine m_add ⟨hx, hb, hml, hown, hts⟩ hl.1 hK hO hA hw 2 (by decide) hz1 hi1 (by omega) (hR1.1 _ (by decide) (by decide)) hcap hval (fun a => nmemf (hz a) (by decide)) (fun a => List.mem_append_left _ (hnz a)) (nmemf (h59) (by decide)) (Or.inl ⟨44, _, 10, _, (RX7, TX7, 4), (List.mem_append_right _ (List.mem_singleton_self _)), upa_eq, mke_44, rfl, w_ca_X7⟩) (show (upa ad 44 ((S 2 0 0).toNatClampNeg) q) 44 ((S 2 0 0).toNatClampNeg) = q from upa_eq) (fun k hk => EL.el hR1 (by decide) (by rw [hz1]; exact hk)) (hX 33 0 (hR.1 33 (by decide) (by decide))) (Nat.le_of_ble_eq_true rfl) (Nat.le_of_ble_eq_true rfl) (Nat.le_of_ble_eq_true rfl) (Nat.le_of_ble_eq_true rfl) (Nat.le_of_ble_eq_true rfl) dX10_order_84 (fun L2 u2 cp2 H locs hG hw => ?_)
              have hR2 : MR (addS (elO x_15.2 ((S 2 0 0).toNatClampNeg) p1 p2 p3) 2 (nI ((S 2 0 0).toNatClampNeg + 1))) L2 cp2 := MR.add hR1 (by decide) hz1 (by omega) hG (fun z => absurd z (by decide)) (fun z => absurd z (by decide)) (fun _ => List.mem_append_right _ (List.mem_singleton_self _)) (fun z => absurd z (by decide)) (fun z => absurd z (by decide))
              have hzz : msz (addS (elO x_15.2 ((S 2 0 0).toNatClampNeg) p1 p2 p3) 2 (nI ((S 2 0 0).toNatClampNeg + 1))) 2 = (S 2 0 0).toNatClampNeg + 1 := by rw [addS_z (by decide) (by decide) (by omega), if_pos rfl]
              have hF2 : MF (addS (elO x_15.2 ((S 2 0 0).toNatClampNeg) p1 p2 p3) 2 (nI ((S 2 0 0).toNatClampNeg + 1))) L2 cp2 := MFz.gl ((MF.addz hFT hSE (by decide) hz0 (by omega)).push (by decide) (fun z => absurd z (by decide)) (fun z => absurd z (by decide)) (fun _ => by rw [hzz]; omega) (fun z => absurd z (by decide)) (fun a b => absurd a (by decide))) (by decide) hG
              have hI2 : CI (addS (elO x_15.2 ((S 2 0 0).toNatClampNeg) p1 p2 p3) 2 (nI ((S 2 0 0).toNatClampNeg + 1))) := CI.add (by decide) (Nat.lt_of_not_le c_17) (SE.ci hSE hCT)
              have e30 : u2 30 0 = ad 30 0 := (hG.2.2.1 30 0 (by decide)).trans (hX 30 0 (hR.1 30 (by decide) (by decide)))
              rw [← e30] at hl
              refine lv_pop hx hb dX10_order_87 rfl ?_
              refine lv_aload_n hx hb dX10_order_88 rfl (lv_at hl 0 rfl) ?_
              refine k_get (C := RX10) (T := TX10) (N := 9) (v := .ref (u2 33 0)) hx hb hts inB_X10 hown hK hw (hR2.1 30 (by decide) (by decide)) mke_30 rfl 5 (by decide) (hts _ w_f_X10_26) (fun _ h9 => h9) rfl dX10_order_89 ?_
              refine k_ci0 hw (k_rV (f := 33) (o := 0) (As := []) (rest := []) ⟨hx, hb, hml, hown, hts⟩ hK hO hw (ct_size_2 (SM.rf (addS (elO x_15.2 ((S 2 0 0).toNatClampNeg) p1 p2 p3) 2 (nI ((S 2 0 0).toNatClampNeg + 1)))) hR2 _ (wk.hA hw hA)) (cwV 0 hts (gB_V w_ml_X10_43 w_im_Jx4a65c_size_8abf5 w_se_Jx4a65c_size_8abf5 w_in_Jx4a65c w_co_Jx4a65c_size_8abf5) rfl rfl rfl (by decide +kernel) ⟨Nat.le_of_ble_eq_true rfl, Nat.le_of_ble_eq_true rfl⟩) (hR2.1 33 (by decide) (by decide)) (ce_l2 (SM.rf (addS (elO x_15.2 ((S 2 0 0).toNatClampNeg) p1 p2 p3) 2 (nI ((S 2 0 0).toNatClampNeg + 1))))) rfl rfl hl.1 rfl (Nat.le_of_ble_eq_true rfl) dX10_order_92 ⟨(Nat.le_of_ble_eq_true rfl), (Nat.le_of_ble_eq_true rfl)⟩) (fun H locs hw => ?_)
              refine lv_iconst (v := 1) hx hb dX10_order_95 (by decide) ?_
              refine lv_isub hx hb dX10_order_96 ?_
              exact m_iretG hx hb hr hlocks rfl (GRW.of (by decide) (MR.sm (SM.rf (addS (elO x_15.2 ((S 2 0 0).toNatClampNeg) p1 p2 p3) 2 (nI ((S 2 0 0).toNatClampNeg + 1)))) hR2) (MF.sm (SM.rf (addS (elO x_15.2 ((S 2 0 0).toNatClampNeg) p1 p2 p3) 2 (nI ((S 2 0 0).toNatClampNeg + 1)))) hF2) hG (fun i h => by simp [h]) (fun i h => mem_k h (by decide)) hX) hw hE (Nat.le_of_ble_eq_true rfl) (Nat.le_of_ble_eq_true rfl) dX10_order_97
            · have hE := (if_neg c_16).symm.trans hE
              refine lv_iconst (v := 0) hx hb dX10_order_68 (by decide) ?_
              exact m_iretG hx hb hr hlocks rfl (GRW.same (MR.sm (SM.tr (SM.tr (SM.tr (SM.rf S) (sf_X10_start hx_1)) (sf_X10_refuse hx_12)) (sf_X10_refuse hx_15)) hR) (MF.sm (SM.tr (SM.tr (SM.tr (SM.rf S) (sf_X10_start hx_1)) (sf_X10_refuse hx_12)) (sf_X10_refuse hx_15)) hF)) hw hE (Nat.le_of_ble_eq_true rfl) (Nat.le_of_ble_eq_true rfl) dX10_order_69
          refine lv_icmp_ne (tgt := 60) hx hb dX10_order_53 (by decide) (fun c_14 => ?_) (fun c_14 => ?_)
          · refine lv_iconst (v := 0) hx hb dX10_order_60 (by decide) ?_
            exact hjc_14 _ (if_neg c_14).symm
          · refine lv_iconst (v := 1) hx hb dX10_order_56 (by decide) ?_
            refine lv_goto (tgt := 61) hx hb dX10_order_57 (by decide) ?_
            exact hjc_14 _ (if_pos c_14).symm
      refine lv_if_eq (tgt := 35) hx hb dX10_order_28 (by decide) (fun c_11 => ?_) (fun c_11 => ?_)
      · refine lv_iconst (v := 0) hx hb dX10_order_35 (by decide) ?_
        exact hjc_11 _ (if_pos c_11).symm
      · refine lv_iconst (v := 1) hx hb dX10_order_31 (by decide) ?_
        refine lv_goto (tgt := 36) hx hb dX10_order_32 (by decide) ?_
        exact hjc_11 _ (if_neg c_11).symm

abbrev bw_X10_session : List Cond := .code yX10_session cX10_session 4 (some .int) :: BIG
abbrev rm_X10_session : Room := { frames := 42, cells := 163, slots := 669, locals := 2249 }
noncomputable def sp_X10_session (S : (Nat → Nat → Nat → Int32)) (p1 : Int32) (p2 : Int32) (p3 : Int32) : Option (Int32 × (Nat → Nat → Nat → Int32)) := (sp_X10_start S (if (sp_X10_isFrom p1 0 ((S 1 0 0) - 1)) = 0 then 1 else 0) 1).bind fun x_2 => (if x_2.1 = 0 then (if p1 < 0 ∨ (S 1 0 0).toNatClampNeg ≤ p1.toNatClampNeg then none else (if x_2.2 7 0 p1.toNatClampNeg = 2 then ((sp_X10_isNoDay x_2.2 p2).bind fun x_13 => (if x_13 = 0 then ((sp_X10_refuse x_2.2 (if (sp_X10_isFrom p3 1 9) = 0 then 1 else 0) 2).bind fun x_23 => (if x_23.1 = 0 then ((sp_X10_refuse x_23.2 (if S 3 0 0 = 20 then 1 else 0) 3).bind fun x_26 => (if x_26.1 = 0 then (if 20 ≤ (S 3 0 0).toNatClampNeg then none else ((sp_X10_bookAll (addS (elE x_26.2 ((S 3 0 0).toNatClampNeg) p1 p2 p3) 3 (nI ((S 3 0 0).toNatClampNeg + 1))) ).bind fun x_29 => (some ((((addS (elE x_26.2 ((S 3 0 0).toNatClampNeg) p1 p2 p3) 3 (nI ((S 3 0 0).toNatClampNeg + 1))) 3 0 0) - 1, x_29))))) else (some ((0, x_26.2))))) else (some ((0, x_23.2))))) else ((sp_X10_refuse x_2.2 1 2).bind fun x_15 => (if x_15.1 = 0 then ((sp_X10_refuse x_15.2 (if S 3 0 0 = 20 then 1 else 0) 3).bind fun x_18 => (if x_18.1 = 0 then (if 20 ≤ (S 3 0 0).toNatClampNeg then none else ((sp_X10_bookAll (addS (elE x_18.2 ((S 3 0 0).toNatClampNeg) p1 p2 p3) 3 (nI ((S 3 0 0).toNatClampNeg + 1))) ).bind fun x_21 => (some ((((addS (elE x_18.2 ((S 3 0 0).toNatClampNeg) p1 p2 p3) 3 (nI ((S 3 0 0).toNatClampNeg + 1))) 3 0 0) - 1, x_21))))) else (some ((0, x_18.2))))) else (some ((0, x_15.2))))))) else ((sp_X10_refuse x_2.2 1 2).bind fun x_6 => (if x_6.1 = 0 then ((sp_X10_refuse x_6.2 (if S 3 0 0 = 20 then 1 else 0) 3).bind fun x_9 => (if x_9.1 = 0 then (if 20 ≤ (S 3 0 0).toNatClampNeg then none else ((sp_X10_bookAll (addS (elE x_9.2 ((S 3 0 0).toNatClampNeg) p1 p2 p3) 3 (nI ((S 3 0 0).toNatClampNeg + 1))) ).bind fun x_12 => (some ((((addS (elE x_9.2 ((S 3 0 0).toNatClampNeg) p1 p2 p3) 3 (nI ((S 3 0 0).toNatClampNeg + 1))) 3 0 0) - 1, x_12))))) else (some ((0, x_9.2))))) else (some ((0, x_6.2))))))) else (some ((0, x_2.2))))
set_option maxHeartbeats 1000000 in
set_option maxRecDepth 100000 in
theorem ct_X10_session {l : Launch} {D : va_G} {cI cG cJ cO : ClassId} {K0 : Nat → Nat} {A : Nat → Prop} {L : List (Nat × Nat)} {ad : Nat → Nat → Nat} {ce : Nat → Nat → va_E} {cp : Nat → Nat} {S : (Nat → Nat → Nat → Int32)} (hR : MR S L cp) (hI : CI S) (hT : TL 61 L) {p1 : Int32} {p2 : Int32} {p3 : Int32} (hF : MF S L cp) (h59 : (59, 0) ∉ L) {v : Int32 × (Nat → Nat → Nat → Int32)} (hE : sp_X10_session S p1 p2 p3 = some v) (sz : Nat) (hA : ∀ q, sz ≤ q → A q) : Met l yX10_session bw_X10_session (rm_X10_session) (kP D (ktys cI cG cJ cO) K0 A L ad (mK cI cO K0 ad cp ce S) sz [.ref (ad 30 0), .int p1, .int p2, .int p3]) (kQg D A v.1 v.2 L ad cI cO K0 ce) 163 669 A := by
  refine Met.ofW (cc := cX10_session) (maxL := 4) (ret := (some .int)) (by decide) rfl ?_
  intro p e s m args below meth c s₁ B hml hv_
  obtain ⟨hav, hsz, hP, hD, hK, hO⟩ := hv_
  have hx := B.exec
  have hb := B.bytes
  have hr := B.returns
  have hts : ∀ w ∈ BIG, w.before args s = true := fun w h => atoms_spec (ws := bw_X10_session) B.pre w (List.mem_cons_of_mem _ h)
  have hown : s.vm.findClass RX10 = some m.cls := findClass_of_methodNamed B.named
  have hlocks := B.notSynchronized
  subst hsz
  have hw := wk.start hP hD
  refine k_start (by rfl) hav (Nat.le_of_ble_eq_true rfl) (fun ls hl => ?_)
  have hl : lv_has ls 4 [(0, .ref (ad 30 0)), (1, .int p1), (2, .int p2), (3, .int p3)] := hl
  unfold sp_X10_session at hE
  refine lv_aload_n hx hb dX10_session_0 rfl (lv_at hl 0 rfl) ?_
  refine lv_iload_n hx hb dX10_session_1 rfl (lv_at hl 1 rfl) ?_
  refine lv_iconst (v := 0) hx hb dX10_session_2 (by decide) ?_
  refine lv_aload_n hx hb dX10_session_3 rfl (lv_at hl 0 rfl) ?_
  refine k_get (C := RX10) (T := TX10) (N := 9) (v := .ref (ad 31 0)) hx hb hts inB_X10 hown hK hw (hR.1 30 (by decide) (by decide)) mke_30 rfl 1 (by decide) (hts _ w_f_X10_10) (fun _ h9 => h9) rfl dX10_session_4 ?_
  refine k_ci0 hw (k_rV (f := 31) (o := 0) (As := []) (rest := [.int 0, .int p1, .ref (ad 30 0)]) ⟨hx, hb, hml, hown, hts⟩ hK hO hw (ct_size_0 (SM.rf S) hR _ (wk.hA hw hA)) (cwV 0 hts (gB_V w_ml_X10_43 w_im_Jx4a65c_size_8abf5 w_se_Jx4a65c_size_8abf5 w_in_Jx4a65c w_co_Jx4a65c_size_8abf5) rfl rfl rfl (by decide +kernel) ⟨Nat.le_of_ble_eq_true rfl, Nat.le_of_ble_eq_true rfl⟩) (hR.1 31 (by decide) (by decide)) (ce_l0 (SM.rf S)) rfl rfl hl.1 rfl (Nat.le_of_ble_eq_true rfl) dX10_session_7 ⟨(Nat.le_of_ble_eq_true rfl), (Nat.le_of_ble_eq_true rfl)⟩) (fun H locs hw => ?_)
  refine lv_iconst (v := 1) hx hb dX10_session_10 (by decide) ?_
  refine lv_isub hx hb dX10_session_11 ?_
  refine k_ci0 hw (k_rS (As := [.int p1, .int 0, .int ((S 1 0 0) - 1)]) (rest := [.ref (ad 30 0)]) ⟨hx, hb, hml, hown, hts⟩ hK hO hw (ct_X10_isFrom p1 0 ((S 1 0 0) - 1) _ (wk.hA hw hA)) (va_cwS 3 hts (gB_S w_ml_X10_47 w_st_X10_isFrom w_in_X10 w_co_X10_isFrom) rfl rfl rfl (by decide +kernel) ⟨Nat.le_of_ble_eq_true rfl, Nat.le_of_ble_eq_true rfl⟩) rfl hl.1 rfl (Nat.le_of_ble_eq_true rfl) dX10_session_12 ⟨(Nat.le_of_ble_eq_true rfl), (Nat.le_of_ble_eq_true rfl)⟩) (fun H locs hw => ?_)
  have hjc_1 : ∀ bc_1 : Int32, bc_1 = (if (sp_X10_isFrom p1 0 ((S 1 0 0) - 1)) = 0 then 1 else 0) → W p l e (headSpec bw_X10_session (rm_X10_session)).room s m args below meth c H locs 0 0 (MQ below (kQg D A v.1 v.2 L ad cI cO K0 ce) args s 163 669 A) (F0 m 23 ls [.int bc_1, .ref (ad 30 0)]) := by
    intro bc_1 hbc_1
    subst hbc_1
    refine lv_iconst (v := 1) hx hb dX10_session_23 (by decide) ?_
    obtain ⟨x_2, hx_2, hE⟩ := ob1 hE
    refine k_ci0 hw (k_rV (f := 30) (o := 0) (As := [.int (if (sp_X10_isFrom p1 0 ((S 1 0 0) - 1)) = 0 then 1 else 0), .int 1]) (rest := []) ⟨hx, hb, hml, hown, hts⟩ hK hO hw (ct_X10_start (MR.sm (SM.rf S) hR) (SM.ci (SM.rf S) hI) hx_2 _ (wk.hA hw hA)) (cwV 2 hts (gB_V w_ml_X10_186 w_im_X10_start w_se_X10_start w_in_X10 w_co_X10_start) rfl rfl rfl (by decide +kernel) ⟨Nat.le_of_ble_eq_true rfl, Nat.le_of_ble_eq_true rfl⟩) (hR.1 30 (by decide) (by decide)) mke_30 rfl rfl hl.1 rfl (Nat.le_of_ble_eq_true rfl) dX10_session_24 ⟨(Nat.le_of_ble_eq_true rfl), (Nat.le_of_ble_eq_true rfl)⟩) (fun H locs hw => ?_)
    refine lv_if_ne (tgt := 104) hx hb dX10_session_27 (by decide) (fun c_3 => ?_) (fun c_3 => ?_)
    · have hE := (if_neg c_3).symm.trans hE
      refine lv_iconst (v := 0) hx hb dX10_session_104 (by decide) ?_
      exact m_iretG hx hb hr hlocks rfl (GRW.same (MR.sm (SM.tr (SM.rf S) (sf_X10_start hx_2)) hR) (MF.sm (SM.tr (SM.rf S) (sf_X10_start hx_2)) hF)) hw hE (Nat.le_of_ble_eq_true rfl) (Nat.le_of_ble_eq_true rfl) dX10_session_105
    · have hE := (if_pos c_3).symm.trans hE
      refine lv_aload_n hx hb dX10_session_30 rfl (lv_at hl 0 rfl) ?_
      refine lv_aload_n hx hb dX10_session_31 rfl (lv_at hl 0 rfl) ?_
      refine k_get (C := RX10) (T := TX10) (N := 9) (v := .ref (ad 31 0)) hx hb hts inB_X10 hown hK hw (hR.1 30 (by decide) (by decide)) mke_30 rfl 1 (by decide) (hts _ w_f_X10_10) (fun _ h9 => h9) rfl dX10_session_32 ?_
      refine lv_iload_n hx hb dX10_session_35 rfl (lv_at hl 1 rfl) ?_
      by_cases c_4 : p1 < 0 ∨ (S 1 0 0).toNatClampNeg ≤ p1.toNatClampNeg
      · exact nomatch (if_pos c_4).symm.trans hE
      have hE := (if_neg c_4).symm.trans hE
      refine k_cr0 (v := (ad 43 p1.toNatClampNeg)) hw (k_rV (f := 31) (o := 0) (As := [.int p1]) (rest := [.ref (ad 30 0)]) ⟨hx, hb, hml, hown, hts⟩ hK hO hw (ct_get_0 (SM.tr (SM.rf S) (sf_X10_start hx_2)) hR (i := p1.toNatClampNeg) (fun z => c_4 (Or.inl z)) rfl (Nat.not_le.mp fun z => c_4 (Or.inr z)) _ (wk.hA hw hA)) (cwV 1 hts (gB_V w_ml_X10_51 w_im_Jx4a65c_get_915e3 w_se_Jx4a65c_get_915e3 w_in_Jx4a65c w_co_Jx4a65c_get_915e3) rfl rfl rfl (by decide +kernel) ⟨Nat.le_of_ble_eq_true rfl, Nat.le_of_ble_eq_true rfl⟩) (hR.1 31 (by decide) (by decide)) (ce_l0 (SM.tr (SM.rf S) (sf_X10_start hx_2))) rfl rfl hl.1 rfl (Nat.le_of_ble_eq_true rfl) dX10_session_36 ⟨(Nat.le_of_ble_eq_true rfl), (Nat.le_of_ble_eq_true rfl)⟩) (fun H locs hw => ?_)
      refine k_cast (f := 43) (o := p1.toNatClampNeg) hx hb hown (hts _ w_cl_X10_55) hK hw (hR.2.2.2.1 _ (Nat.not_le.mp fun z => c_4 (Or.inr z))) mke_43 rfl dX10_session_39 ?_
      refine k_get (C := RX9) (T := TX9) (N := 4) (v := .int (x_2.2 7 0 p1.toNatClampNeg)) hx hb hts inB_X9 hown hK hw (hR.2.2.2.1 _ (Nat.not_le.mp fun z => c_4 (Or.inr z))) mke_43 rfl 0 (by decide) (hts _ w_f_X10_60) (fun _ h9 => h9) rfl dX10_session_42 ?_
      refine lv_iconst (v := 2) hx hb dX10_session_45 (by decide) ?_
      refine lv_icmp_ne (tgt := 67) hx hb dX10_session_46 (by decide) (fun c_5 => ?_) (fun c_5 => ?_)
      · have hE := (if_neg c_5).symm.trans hE
        refine lv_iconst (v := 1) hx hb dX10_session_67 (by decide) ?_
        refine lv_goto (tgt := 72) hx hb dX10_session_68 (by decide) ?_
        refine lv_iconst (v := 2) hx hb dX10_session_72 (by decide) ?_
        obtain ⟨x_6, hx_6, hE⟩ := ob1 hE
        refine k_ci0 hw (k_rV (f := 30) (o := 0) (As := [.int 1, .int 2]) (rest := []) ⟨hx, hb, hml, hown, hts⟩ hK hO hw (ct_X10_refuse (MR.sm (SM.tr (SM.rf S) (sf_X10_start hx_2)) hR) (SM.ci (SM.tr (SM.rf S) (sf_X10_start hx_2)) hI) hx_6 _ (wk.hA hw hA)) (cwV 2 hts (gB_V w_ml_X10_39 w_im_X10_refuse w_se_X10_refuse w_in_X10 w_co_X10_refuse) rfl rfl rfl (by decide +kernel) ⟨Nat.le_of_ble_eq_true rfl, Nat.le_of_ble_eq_true rfl⟩) (hR.1 30 (by decide) (by decide)) mke_30 rfl rfl hl.1 rfl (Nat.le_of_ble_eq_true rfl) dX10_session_73 ⟨(Nat.le_of_ble_eq_true rfl), (Nat.le_of_ble_eq_true rfl)⟩) (fun H locs hw => ?_)
        refine lv_if_ne (tgt := 104) hx hb dX10_session_76 (by decide) (fun c_7 => ?_) (fun c_7 => ?_)
        · have hE := (if_neg c_7).symm.trans hE
          refine lv_iconst (v := 0) hx hb dX10_session_104 (by decide) ?_
          exact m_iretG hx hb hr hlocks rfl (GRW.same (MR.sm (SM.tr (SM.tr (SM.rf S) (sf_X10_start hx_2)) (sf_X10_refuse hx_6)) hR) (MF.sm (SM.tr (SM.tr (SM.rf S) (sf_X10_start hx_2)) (sf_X10_refuse hx_6)) hF)) hw hE (Nat.le_of_ble_eq_true rfl) (Nat.le_of_ble_eq_true rfl) dX10_session_105
        · have hE := (if_pos c_7).symm.trans hE
          refine lv_aload_n hx hb dX10_session_79 rfl (lv_at hl 0 rfl) ?_
          refine lv_aload_n hx hb dX10_session_80 rfl (lv_at hl 0 rfl) ?_
          refine k_get (C := RX10) (T := TX10) (N := 9) (v := .ref (ad 34 0)) hx hb hts inB_X10 hown hK hw (hR.1 30 (by decide) (by decide)) mke_30 rfl 6 (by decide) (hts _ w_f_X10_29) (fun _ h9 => h9) rfl dX10_session_81 ?_
          refine k_ci0 hw (k_rV (f := 34) (o := 0) (As := []) (rest := [.ref (ad 30 0)]) ⟨hx, hb, hml, hown, hts⟩ hK hO hw (ct_size_3 (SM.tr (SM.tr (SM.rf S) (sf_X10_start hx_2)) (sf_X10_refuse hx_6)) hR _ (wk.hA hw hA)) (cwV 0 hts (gB_V w_ml_X10_43 w_im_Jx4a65c_size_8abf5 w_se_Jx4a65c_size_8abf5 w_in_Jx4a65c w_co_Jx4a65c_size_8abf5) rfl rfl rfl (by decide +kernel) ⟨Nat.le_of_ble_eq_true rfl, Nat.le_of_ble_eq_true rfl⟩) (hR.1 34 (by decide) (by decide)) (ce_l3 (SM.tr (SM.tr (SM.rf S) (sf_X10_start hx_2)) (sf_X10_refuse hx_6))) rfl rfl hl.1 rfl (Nat.le_of_ble_eq_true rfl) dX10_session_84 ⟨(Nat.le_of_ble_eq_true rfl), (Nat.le_of_ble_eq_true rfl)⟩) (fun H locs hw => ?_)
          refine lv_bipush (v := 20) hx hb dX10_session_87 (by decide) ?_
          have hjc_8 : ∀ bc_8 : Int32, bc_8 = (if S 3 0 0 = 20 then 1 else 0) → W p l e (headSpec bw_X10_session (rm_X10_session)).room s m args below meth c H locs 0 0 (MQ below (kQg D A v.1 v.2 L ad cI cO K0 ce) args s 163 669 A) (F0 m 97 ls [.int bc_8, .ref (ad 30 0)]) := by
            intro bc_8 hbc_8
            subst hbc_8
            refine lv_iconst (v := 3) hx hb dX10_session_97 (by decide) ?_
            obtain ⟨x_9, hx_9, hE⟩ := ob1 hE
            refine k_ci0 hw (k_rV (f := 30) (o := 0) (As := [.int (if S 3 0 0 = 20 then 1 else 0), .int 3]) (rest := []) ⟨hx, hb, hml, hown, hts⟩ hK hO hw (ct_X10_refuse (MR.sm (SM.tr (SM.tr (SM.rf S) (sf_X10_start hx_2)) (sf_X10_refuse hx_6)) hR) (SM.ci (SM.tr (SM.tr (SM.rf S) (sf_X10_start hx_2)) (sf_X10_refuse hx_6)) hI) hx_9 _ (wk.hA hw hA)) (cwV 2 hts (gB_V w_ml_X10_39 w_im_X10_refuse w_se_X10_refuse w_in_X10 w_co_X10_refuse) rfl rfl rfl (by decide +kernel) ⟨Nat.le_of_ble_eq_true rfl, Nat.le_of_ble_eq_true rfl⟩) (hR.1 30 (by decide) (by decide)) mke_30 rfl rfl hl.1 rfl (Nat.le_of_ble_eq_true rfl) dX10_session_98 ⟨(Nat.le_of_ble_eq_true rfl), (Nat.le_of_ble_eq_true rfl)⟩) (fun H locs hw => ?_)
            refine lv_if_eq (tgt := 106) hx hb dX10_session_101 (by decide) (fun c_10 => ?_) (fun c_10 => ?_)
            · have hE := (if_pos c_10).symm.trans hE
              refine lv_aload_n hx hb dX10_session_106 rfl (lv_at hl 0 rfl) ?_
              refine k_get (C := RX10) (T := TX10) (N := 9) (v := .ref (ad 34 0)) hx hb hts inB_X10 hown hK hw (hR.1 30 (by decide) (by decide)) mke_30 rfl 6 (by decide) (hts _ w_f_X10_29) (fun _ h9 => h9) rfl dX10_session_107 ?_
              have hRT : MR x_9.2 L cp := MR.sm (SM.tr (SM.tr (SM.tr (SM.rf S) (sf_X10_start hx_2)) (sf_X10_refuse hx_6)) (sf_X10_refuse hx_9)) hR
              have hFT : MF x_9.2 L cp := MF.sm (SM.tr (SM.tr (SM.tr (SM.rf S) (sf_X10_start hx_2)) (sf_X10_refuse hx_6)) (sf_X10_refuse hx_9)) hF
              have hz0 : msz x_9.2 3 = (S 3 0 0).toNatClampNeg := SM.z (SM.tr (SM.tr (SM.tr (SM.rf S) (sf_X10_start hx_2)) (sf_X10_refuse hx_6)) (sf_X10_refuse hx_9)) 3
              have hCT : CI x_9.2 := SM.ci (SM.tr (SM.tr (SM.tr (SM.rf S) (sf_X10_start hx_2)) (sf_X10_refuse hx_6)) (sf_X10_refuse hx_9)) hI
              have hi0 : mszI x_9.2 3 = nI ((S 3 0 0).toNatClampNeg) := (SM.c3 (SM.tr (SM.tr (SM.tr (SM.rf S) (sf_X10_start hx_2)) (sf_X10_refuse hx_6)) (sf_X10_refuse hx_9))).trans (cn_eq hI.2.2.2.1.1)
              have hn : (45, (S 3 0 0).toNatClampNeg) ∉ L := (hF.2.2.2.1 _ (Nat.le_refl _))
              refine k_new (C := RX8) (T := TX8) (N := 3) (ci := 11) (fs := [.int 0, .int 0, .int 0]) hx hb hts inB_X8 tyX8 tyX8_ok hown (hts _ w_cl_X10_129) (hts _ w_is_X8) (hts _ w_in_X8) hK hw hA rfl (fun j hj => match j, hj with | 0, _ => rfl | 1, _ => rfl | 2, _ => rfl | n + 3, h => absurd h (by omega)) (Nat.le_of_ble_eq_true rfl) (Nat.le_of_ble_eq_true rfl) 45 ((S 3 0 0).toNatClampNeg) hn dX10_session_110 (fun q H hw => ?_)
              rw [upa_eq]
              have hRn := hR.push (i := (45, (S 3 0 0).toNatClampNeg))
              refine lv_dup hx hb dX10_session_113 rfl ?_
              refine lv_iload_n hx hb dX10_session_114 rfl (lv_at hl 1 rfl) ?_
              refine lv_iload_n hx hb dX10_session_115 rfl (lv_at hl 2 rfl) ?_
              refine lv_iload_n hx hb dX10_session_116 rfl (lv_at hl 3 rfl) ?_
              have ct := ct_X8_init (l := l) (D := D) (cI := cI) (cG := cG) (cJ := cJ) (cO := cO) (K0 := K0) (A := A) (L := L ++ [(45, (S 3 0 0).toNatClampNeg)]) (ad := upa ad 45 ((S 3 0 0).toNatClampNeg) q) (ce := up2 (mK cI cO K0 ad cp ce x_9.2) 45 ((S 3 0 0).toNatClampNeg) (.inr (11, [.int 0, .int 0, .int 0]))) (o := ((S 3 0 0).toNatClampNeg)) (v0 := p1) (v1 := p2) (v2 := p3) (List.mem_append_right _ (List.mem_singleton_self _)) up2_eq _ (wk.hA hw hA)
              rw [upa_eq] at ct
              refine k_cv0 hw (k_rI (As := [.int p1, .int p2, .int p3]) (rest := [.ref q, .ref (ad 34 0)]) ⟨hx, hb, hml, hown, hts⟩ hK hO hw ct (cwI 3 hts (gB_0 w_co_X8_init) rfl rfl rfl (hts _ w_in_X8) (hts _ w_ml_X10_237) (hts _ w_im_X8_init) rfl (by decide +kernel) ⟨Nat.le_of_ble_eq_true rfl, Nat.le_of_ble_eq_true rfl⟩) rfl hl.1 rfl (Nat.le_of_ble_eq_true rfl) dX10_session_117 ⟨(Nat.le_of_ble_eq_true rfl), (Nat.le_of_ble_eq_true rfl)⟩) (fun H locs hw => ?_)
              rw [up2_up2] at hw
              have hSE : SE x_9.2 (elE x_9.2 ((S 3 0 0).toNatClampNeg) p1 p2 p3) := SE.elE (Nat.le_of_eq hz0)
              have hw := wk.el (by decide) (by decide) hRT hFT hn hSE (mc_elE) hw
              have hR1 : MR (elE x_9.2 ((S 3 0 0).toNatClampNeg) p1 p2 p3) (L ++ [(45, (S 3 0 0).toNatClampNeg)]) cp := (MR.se hSE hRT).push
              have hX : Ex L ad (upa ad 45 ((S 3 0 0).toNatClampNeg) q) := Ex.upa hn
              by_cases c_11 : 20 ≤ (S 3 0 0).toNatClampNeg
              · exact nomatch (if_pos c_11).symm.trans hE
              have hE := (if_neg c_11).symm.trans hE
              have hz1 : msz (elE x_9.2 ((S 3 0 0).toNatClampNeg) p1 p2 p3) 3 = (S 3 0 0).toNatClampNeg := (SE.z hSE 3).trans hz0
              have hi1 : mszI (elE x_9.2 ((S 3 0 0).toNatClampNeg) p1 p2 p3) 3 = nI ((S 3 0 0).toNatClampNeg) := (SE.zi hSE 3).trans hi0
              have hcap := (hR1.2.2.1 3 (by decide)).1
              rw [hz1] at hcap
              obtain ⟨hz, hnz, hval⟩ := hFT.2.2.2.2.2 3 (by decide)
              refine m_add ⟨hx, hb, hml, hown, hts⟩ hl.1 hK hO hA hw 3 (by decide) hz1 hi1 (by omega) (hR1.1 _ (by decide) (by decide)) hcap hval (fun a => nmemf (hz a) (by decide)) (fun a => List.mem_append_left _ (hnz a)) (nmemf (h59) (by decide)) (Or.inl ⟨45, _, 11, _, (RX8, TX8, 3), (List.mem_append_right _ (List.mem_singleton_self _)), upa_eq, mke_45, rfl, w_ca_X8⟩) (show (upa ad 45 ((S 3 0 0).toNatClampNeg) q) 45 ((S 3 0 0).toNatClampNeg) = q from upa_eq) (fun k hk => EL.el hR1 (by decide) (by rw [hz1]; exact hk)) (hX 34 0 (hR.1 34 (by decide) (by decide))) (Nat.le_of_ble_eq_true rfl) (Nat.le_of_ble_eq_true rfl) (Nat.le_of_ble_eq_true rfl) (Nat.le_of_ble_eq_true rfl) (Nat.le_of_ble_eq_true rfl) dX10_session_120 (fun L2 u2 cp2 H locs hG hw => ?_)
              have hR2 : MR (addS (elE x_9.2 ((S 3 0 0).toNatClampNeg) p1 p2 p3) 3 (nI ((S 3 0 0).toNatClampNeg + 1))) L2 cp2 := MR.add hR1 (by decide) hz1 (by omega) hG (fun z => absurd z (by decide)) (fun z => absurd z (by decide)) (fun z => absurd z (by decide)) (fun _ => List.mem_append_right _ (List.mem_singleton_self _)) (fun z => absurd z (by decide))
              have hzz : msz (addS (elE x_9.2 ((S 3 0 0).toNatClampNeg) p1 p2 p3) 3 (nI ((S 3 0 0).toNatClampNeg + 1))) 3 = (S 3 0 0).toNatClampNeg + 1 := by rw [addS_z (by decide) (by decide) (by omega), if_pos rfl]
              have hF2 : MF (addS (elE x_9.2 ((S 3 0 0).toNatClampNeg) p1 p2 p3) 3 (nI ((S 3 0 0).toNatClampNeg + 1))) L2 cp2 := MFz.gl ((MF.addz hFT hSE (by decide) hz0 (by omega)).push (by decide) (fun z => absurd z (by decide)) (fun z => absurd z (by decide)) (fun z => absurd z (by decide)) (fun _ => by rw [hzz]; omega) (fun a b => absurd a (by decide))) (by decide) hG
              have hI2 : CI (addS (elE x_9.2 ((S 3 0 0).toNatClampNeg) p1 p2 p3) 3 (nI ((S 3 0 0).toNatClampNeg + 1))) := CI.add (by decide) (Nat.lt_of_not_le c_11) (SE.ci hSE hCT)
              have e30 : u2 30 0 = ad 30 0 := (hG.2.2.1 30 0 (by decide)).trans (hX 30 0 (hR.1 30 (by decide) (by decide)))
              rw [← e30] at hl
              have hT2 : TL 61 L2 := TL.gl (TL.small hT (by decide)) (by decide) hG
              refine lv_pop hx hb dX10_session_123 rfl ?_
              refine lv_aload_n hx hb dX10_session_124 rfl (lv_at hl 0 rfl) ?_
              obtain ⟨x_12, hx_12, hE⟩ := ob1 hE
              refine k_cv hw (k_rV (f := 30) (o := 0) (As := []) (rest := []) ⟨hx, hb, hml, hown, hts⟩ hK hO hw (ct_X10_bookAll (MR.sm (SM.rf (addS (elE x_9.2 ((S 3 0 0).toNatClampNeg) p1 p2 p3) 3 (nI ((S 3 0 0).toNatClampNeg + 1)))) hR2) (SM.ci (SM.rf (addS (elE x_9.2 ((S 3 0 0).toNatClampNeg) p1 p2 p3) 3 (nI ((S 3 0 0).toNatClampNeg + 1)))) hI2) (TL.le hT2 (by decide)) hx_12 _ (wk.hA hw hA)) (cwV 0 hts (gB_V w_ml_X10_201 w_im_X10_bookAll w_se_X10_bookAll w_in_X10 w_co_X10_bookAll) rfl rfl rfl (by decide +kernel) ⟨Nat.le_of_ble_eq_true rfl, Nat.le_of_ble_eq_true rfl⟩) (hR2.1 30 (by decide) (by decide)) mke_30 rfl rfl hl.1 rfl (Nat.le_of_ble_eq_true rfl) dX10_session_125 ⟨(Nat.le_of_ble_eq_true rfl), (Nat.le_of_ble_eq_true rfl)⟩) (fun H locs hw => ?_)
              refine lv_aload_n hx hb dX10_session_128 rfl (lv_at hl 0 rfl) ?_
              refine k_get (C := RX10) (T := TX10) (N := 9) (v := .ref (u2 34 0)) hx hb hts inB_X10 hown hK hw (hR2.1 30 (by decide) (by decide)) mke_30 rfl 6 (by decide) (hts _ w_f_X10_29) (fun _ h9 => h9) rfl dX10_session_129 ?_
              refine k_ci0 hw (k_rV (f := 34) (o := 0) (As := []) (rest := []) ⟨hx, hb, hml, hown, hts⟩ hK hO hw (ct_size_3 (SM.tr (SM.rf (addS (elE x_9.2 ((S 3 0 0).toNatClampNeg) p1 p2 p3) 3 (nI ((S 3 0 0).toNatClampNeg + 1)))) (sf_X10_bookAll hx_12)) hR2 _ (wk.hA hw hA)) (cwV 0 hts (gB_V w_ml_X10_43 w_im_Jx4a65c_size_8abf5 w_se_Jx4a65c_size_8abf5 w_in_Jx4a65c w_co_Jx4a65c_size_8abf5) rfl rfl rfl (by decide +kernel) ⟨Nat.le_of_ble_eq_true rfl, Nat.le_of_ble_eq_true rfl⟩) (hR2.1 34 (by decide) (by decide)) (ce_l3 (SM.tr (SM.rf (addS (elE x_9.2 ((S 3 0 0).toNatClampNeg) p1 p2 p3) 3 (nI ((S 3 0 0).toNatClampNeg + 1)))) (sf_X10_bookAll hx_12))) rfl rfl hl.1 rfl (Nat.le_of_ble_eq_true rfl) dX10_session_132 ⟨(Nat.le_of_ble_eq_true rfl), (Nat.le_of_ble_eq_true rfl)⟩) (fun H locs hw => ?_)
              refine lv_iconst (v := 1) hx hb dX10_session_135 (by decide) ?_
              refine lv_isub hx hb dX10_session_136 ?_
              exact m_iretG hx hb hr hlocks rfl (GRW.of (by decide) (MR.sm (SM.tr (SM.rf (addS (elE x_9.2 ((S 3 0 0).toNatClampNeg) p1 p2 p3) 3 (nI ((S 3 0 0).toNatClampNeg + 1)))) (sf_X10_bookAll hx_12)) hR2) (MF.sm (SM.tr (SM.rf (addS (elE x_9.2 ((S 3 0 0).toNatClampNeg) p1 p2 p3) 3 (nI ((S 3 0 0).toNatClampNeg + 1)))) (sf_X10_bookAll hx_12)) hF2) hG (fun i h => by simp [h]) (fun i h => mem_k h (by decide)) hX) hw hE (Nat.le_of_ble_eq_true rfl) (Nat.le_of_ble_eq_true rfl) dX10_session_137
            · have hE := (if_neg c_10).symm.trans hE
              refine lv_iconst (v := 0) hx hb dX10_session_104 (by decide) ?_
              exact m_iretG hx hb hr hlocks rfl (GRW.same (MR.sm (SM.tr (SM.tr (SM.tr (SM.rf S) (sf_X10_start hx_2)) (sf_X10_refuse hx_6)) (sf_X10_refuse hx_9)) hR) (MF.sm (SM.tr (SM.tr (SM.tr (SM.rf S) (sf_X10_start hx_2)) (sf_X10_refuse hx_6)) (sf_X10_refuse hx_9)) hF)) hw hE (Nat.le_of_ble_eq_true rfl) (Nat.le_of_ble_eq_true rfl) dX10_session_105
          refine lv_icmp_ne (tgt := 96) hx hb dX10_session_89 (by decide) (fun c_8 => ?_) (fun c_8 => ?_)
          · refine lv_iconst (v := 0) hx hb dX10_session_96 (by decide) ?_
            exact hjc_8 _ (if_neg c_8).symm
          · refine lv_iconst (v := 1) hx hb dX10_session_92 (by decide) ?_
            refine lv_goto (tgt := 97) hx hb dX10_session_93 (by decide) ?_
            exact hjc_8 _ (if_pos c_8).symm
      · have hE := (if_pos c_5).symm.trans hE
        refine lv_aload_n hx hb dX10_session_49 rfl (lv_at hl 0 rfl) ?_
        refine lv_iload_n hx hb dX10_session_50 rfl (lv_at hl 2 rfl) ?_
        obtain ⟨x_13, hx_13, hE⟩ := ob1 hE
        refine k_ci0 hw (k_rV (f := 30) (o := 0) (As := [.int p2]) (rest := [.ref (ad 30 0)]) ⟨hx, hb, hml, hown, hts⟩ hK hO hw (ct_X10_isNoDay (MR.sm (SM.tr (SM.rf S) (sf_X10_start hx_2)) hR) (SM.ci (SM.tr (SM.rf S) (sf_X10_start hx_2)) hI) hx_13 _ (wk.hA hw hA)) (cwV 1 hts (gB_V w_ml_X10_228 w_im_X10_isNoDay w_se_X10_isNoDay w_in_X10 w_co_X10_isNoDay) rfl rfl rfl (by decide +kernel) ⟨Nat.le_of_ble_eq_true rfl, Nat.le_of_ble_eq_true rfl⟩) (hR.1 30 (by decide) (by decide)) mke_30 rfl rfl hl.1 rfl (Nat.le_of_ble_eq_true rfl) dX10_session_51 ⟨(Nat.le_of_ble_eq_true rfl), (Nat.le_of_ble_eq_true rfl)⟩) (fun H locs hw => ?_)
        refine lv_if_ne (tgt := 67) hx hb dX10_session_54 (by decide) (fun c_14 => ?_) (fun c_14 => ?_)
        · have hE := (if_neg c_14).symm.trans hE
          refine lv_iconst (v := 1) hx hb dX10_session_67 (by decide) ?_
          refine lv_goto (tgt := 72) hx hb dX10_session_68 (by decide) ?_
          refine lv_iconst (v := 2) hx hb dX10_session_72 (by decide) ?_
          obtain ⟨x_15, hx_15, hE⟩ := ob1 hE
          refine k_ci0 hw (k_rV (f := 30) (o := 0) (As := [.int 1, .int 2]) (rest := []) ⟨hx, hb, hml, hown, hts⟩ hK hO hw (ct_X10_refuse (MR.sm (SM.tr (SM.rf S) (sf_X10_start hx_2)) hR) (SM.ci (SM.tr (SM.rf S) (sf_X10_start hx_2)) hI) hx_15 _ (wk.hA hw hA)) (cwV 2 hts (gB_V w_ml_X10_39 w_im_X10_refuse w_se_X10_refuse w_in_X10 w_co_X10_refuse) rfl rfl rfl (by decide +kernel) ⟨Nat.le_of_ble_eq_true rfl, Nat.le_of_ble_eq_true rfl⟩) (hR.1 30 (by decide) (by decide)) mke_30 rfl rfl hl.1 rfl (Nat.le_of_ble_eq_true rfl) dX10_session_73 ⟨(Nat.le_of_ble_eq_true rfl), (Nat.le_of_ble_eq_true rfl)⟩) (fun H locs hw => ?_)
          refine lv_if_ne (tgt := 104) hx hb dX10_session_76 (by decide) (fun c_16 => ?_) (fun c_16 => ?_)
          · have hE := (if_neg c_16).symm.trans hE
            refine lv_iconst (v := 0) hx hb dX10_session_104 (by decide) ?_
            exact m_iretG hx hb hr hlocks rfl (GRW.same (MR.sm (SM.tr (SM.tr (SM.rf S) (sf_X10_start hx_2)) (sf_X10_refuse hx_15)) hR) (MF.sm (SM.tr (SM.tr (SM.rf S) (sf_X10_start hx_2)) (sf_X10_refuse hx_15)) hF)) hw hE (Nat.le_of_ble_eq_true rfl) (Nat.le_of_ble_eq_true rfl) dX10_session_105
          · have hE := (if_pos c_16).symm.trans hE
            refine lv_aload_n hx hb dX10_session_79 rfl (lv_at hl 0 rfl) ?_
            refine lv_aload_n hx hb dX10_session_80 rfl (lv_at hl 0 rfl) ?_
            refine k_get (C := RX10) (T := TX10) (N := 9) (v := .ref (ad 34 0)) hx hb hts inB_X10 hown hK hw (hR.1 30 (by decide) (by decide)) mke_30 rfl 6 (by decide) (hts _ w_f_X10_29) (fun _ h9 => h9) rfl dX10_session_81 ?_
            refine k_ci0 hw (k_rV (f := 34) (o := 0) (As := []) (rest := [.ref (ad 30 0)]) ⟨hx, hb, hml, hown, hts⟩ hK hO hw (ct_size_3 (SM.tr (SM.tr (SM.rf S) (sf_X10_start hx_2)) (sf_X10_refuse hx_15)) hR _ (wk.hA hw hA)) (cwV 0 hts (gB_V w_ml_X10_43 w_im_Jx4a65c_size_8abf5 w_se_Jx4a65c_size_8abf5 w_in_Jx4a65c w_co_Jx4a65c_size_8abf5) rfl rfl rfl (by decide +kernel) ⟨Nat.le_of_ble_eq_true rfl, Nat.le_of_ble_eq_true rfl⟩) (hR.1 34 (by decide) (by decide)) (ce_l3 (SM.tr (SM.tr (SM.rf S) (sf_X10_start hx_2)) (sf_X10_refuse hx_15))) rfl rfl hl.1 rfl (Nat.le_of_ble_eq_true rfl) dX10_session_84 ⟨(Nat.le_of_ble_eq_true rfl), (Nat.le_of_ble_eq_true rfl)⟩) (fun H locs hw => ?_)
            refine lv_bipush (v := 20) hx hb dX10_session_87 (by decide) ?_
            have hjc_17 : ∀ bc_17 : Int32, bc_17 = (if S 3 0 0 = 20 then 1 else 0) → W p l e (headSpec bw_X10_session (rm_X10_session)).room s m args below meth c H locs 0 0 (MQ below (kQg D A v.1 v.2 L ad cI cO K0 ce) args s 163 669 A) (F0 m 97 ls [.int bc_17, .ref (ad 30 0)]) := by
              intro bc_17 hbc_17
              subst hbc_17
              refine lv_iconst (v := 3) hx hb dX10_session_97 (by decide) ?_
              obtain ⟨x_18, hx_18, hE⟩ := ob1 hE
              refine k_ci0 hw (k_rV (f := 30) (o := 0) (As := [.int (if S 3 0 0 = 20 then 1 else 0), .int 3]) (rest := []) ⟨hx, hb, hml, hown, hts⟩ hK hO hw (ct_X10_refuse (MR.sm (SM.tr (SM.tr (SM.rf S) (sf_X10_start hx_2)) (sf_X10_refuse hx_15)) hR) (SM.ci (SM.tr (SM.tr (SM.rf S) (sf_X10_start hx_2)) (sf_X10_refuse hx_15)) hI) hx_18 _ (wk.hA hw hA)) (cwV 2 hts (gB_V w_ml_X10_39 w_im_X10_refuse w_se_X10_refuse w_in_X10 w_co_X10_refuse) rfl rfl rfl (by decide +kernel) ⟨Nat.le_of_ble_eq_true rfl, Nat.le_of_ble_eq_true rfl⟩) (hR.1 30 (by decide) (by decide)) mke_30 rfl rfl hl.1 rfl (Nat.le_of_ble_eq_true rfl) dX10_session_98 ⟨(Nat.le_of_ble_eq_true rfl), (Nat.le_of_ble_eq_true rfl)⟩) (fun H locs hw => ?_)
              refine lv_if_eq (tgt := 106) hx hb dX10_session_101 (by decide) (fun c_19 => ?_) (fun c_19 => ?_)
              · have hE := (if_pos c_19).symm.trans hE
                refine lv_aload_n hx hb dX10_session_106 rfl (lv_at hl 0 rfl) ?_
                refine k_get (C := RX10) (T := TX10) (N := 9) (v := .ref (ad 34 0)) hx hb hts inB_X10 hown hK hw (hR.1 30 (by decide) (by decide)) mke_30 rfl 6 (by decide) (hts _ w_f_X10_29) (fun _ h9 => h9) rfl dX10_session_107 ?_
                have hRT : MR x_18.2 L cp := MR.sm (SM.tr (SM.tr (SM.tr (SM.rf S) (sf_X10_start hx_2)) (sf_X10_refuse hx_15)) (sf_X10_refuse hx_18)) hR
                have hFT : MF x_18.2 L cp := MF.sm (SM.tr (SM.tr (SM.tr (SM.rf S) (sf_X10_start hx_2)) (sf_X10_refuse hx_15)) (sf_X10_refuse hx_18)) hF
                have hz0 : msz x_18.2 3 = (S 3 0 0).toNatClampNeg := SM.z (SM.tr (SM.tr (SM.tr (SM.rf S) (sf_X10_start hx_2)) (sf_X10_refuse hx_15)) (sf_X10_refuse hx_18)) 3
                have hCT : CI x_18.2 := SM.ci (SM.tr (SM.tr (SM.tr (SM.rf S) (sf_X10_start hx_2)) (sf_X10_refuse hx_15)) (sf_X10_refuse hx_18)) hI
                have hi0 : mszI x_18.2 3 = nI ((S 3 0 0).toNatClampNeg) := (SM.c3 (SM.tr (SM.tr (SM.tr (SM.rf S) (sf_X10_start hx_2)) (sf_X10_refuse hx_15)) (sf_X10_refuse hx_18))).trans (cn_eq hI.2.2.2.1.1)
                have hn : (45, (S 3 0 0).toNatClampNeg) ∉ L := (hF.2.2.2.1 _ (Nat.le_refl _))
                refine k_new (C := RX8) (T := TX8) (N := 3) (ci := 11) (fs := [.int 0, .int 0, .int 0]) hx hb hts inB_X8 tyX8 tyX8_ok hown (hts _ w_cl_X10_129) (hts _ w_is_X8) (hts _ w_in_X8) hK hw hA rfl (fun j hj => match j, hj with | 0, _ => rfl | 1, _ => rfl | 2, _ => rfl | n + 3, h => absurd h (by omega)) (Nat.le_of_ble_eq_true rfl) (Nat.le_of_ble_eq_true rfl) 45 ((S 3 0 0).toNatClampNeg) hn dX10_session_110 (fun q H hw => ?_)
                rw [upa_eq]
                have hRn := hR.push (i := (45, (S 3 0 0).toNatClampNeg))
                refine lv_dup hx hb dX10_session_113 rfl ?_
                refine lv_iload_n hx hb dX10_session_114 rfl (lv_at hl 1 rfl) ?_
                refine lv_iload_n hx hb dX10_session_115 rfl (lv_at hl 2 rfl) ?_
                refine lv_iload_n hx hb dX10_session_116 rfl (lv_at hl 3 rfl) ?_
                have ct := ct_X8_init (l := l) (D := D) (cI := cI) (cG := cG) (cJ := cJ) (cO := cO) (K0 := K0) (A := A) (L := L ++ [(45, (S 3 0 0).toNatClampNeg)]) (ad := upa ad 45 ((S 3 0 0).toNatClampNeg) q) (ce := up2 (mK cI cO K0 ad cp ce x_18.2) 45 ((S 3 0 0).toNatClampNeg) (.inr (11, [.int 0, .int 0, .int 0]))) (o := ((S 3 0 0).toNatClampNeg)) (v0 := p1) (v1 := p2) (v2 := p3) (List.mem_append_right _ (List.mem_singleton_self _)) up2_eq _ (wk.hA hw hA)
                rw [upa_eq] at ct
                refine k_cv0 hw (k_rI (As := [.int p1, .int p2, .int p3]) (rest := [.ref q, .ref (ad 34 0)]) ⟨hx, hb, hml, hown, hts⟩ hK hO hw ct (cwI 3 hts (gB_0 w_co_X8_init) rfl rfl rfl (hts _ w_in_X8) (hts _ w_ml_X10_237) (hts _ w_im_X8_init) rfl (by decide +kernel) ⟨Nat.le_of_ble_eq_true rfl, Nat.le_of_ble_eq_true rfl⟩) rfl hl.1 rfl (Nat.le_of_ble_eq_true rfl) dX10_session_117 ⟨(Nat.le_of_ble_eq_true rfl), (Nat.le_of_ble_eq_true rfl)⟩) (fun H locs hw => ?_)
                rw [up2_up2] at hw
                have hSE : SE x_18.2 (elE x_18.2 ((S 3 0 0).toNatClampNeg) p1 p2 p3) := SE.elE (Nat.le_of_eq hz0)
                have hw := wk.el (by decide) (by decide) hRT hFT hn hSE (mc_elE) hw
                have hR1 : MR (elE x_18.2 ((S 3 0 0).toNatClampNeg) p1 p2 p3) (L ++ [(45, (S 3 0 0).toNatClampNeg)]) cp := (MR.se hSE hRT).push
                have hX : Ex L ad (upa ad 45 ((S 3 0 0).toNatClampNeg) q) := Ex.upa hn
                by_cases c_20 : 20 ≤ (S 3 0 0).toNatClampNeg
                · exact nomatch (if_pos c_20).symm.trans hE
                have hE := (if_neg c_20).symm.trans hE
                have hz1 : msz (elE x_18.2 ((S 3 0 0).toNatClampNeg) p1 p2 p3) 3 = (S 3 0 0).toNatClampNeg := (SE.z hSE 3).trans hz0
                have hi1 : mszI (elE x_18.2 ((S 3 0 0).toNatClampNeg) p1 p2 p3) 3 = nI ((S 3 0 0).toNatClampNeg) := (SE.zi hSE 3).trans hi0
                have hcap := (hR1.2.2.1 3 (by decide)).1
                rw [hz1] at hcap
                obtain ⟨hz, hnz, hval⟩ := hFT.2.2.2.2.2 3 (by decide)
                refine m_add ⟨hx, hb, hml, hown, hts⟩ hl.1 hK hO hA hw 3 (by decide) hz1 hi1 (by omega) (hR1.1 _ (by decide) (by decide)) hcap hval (fun a => nmemf (hz a) (by decide)) (fun a => List.mem_append_left _ (hnz a)) (nmemf (h59) (by decide)) (Or.inl ⟨45, _, 11, _, (RX8, TX8, 3), (List.mem_append_right _ (List.mem_singleton_self _)), upa_eq, mke_45, rfl, w_ca_X8⟩) (show (upa ad 45 ((S 3 0 0).toNatClampNeg) q) 45 ((S 3 0 0).toNatClampNeg) = q from upa_eq) (fun k hk => EL.el hR1 (by decide) (by rw [hz1]; exact hk)) (hX 34 0 (hR.1 34 (by decide) (by decide))) (Nat.le_of_ble_eq_true rfl) (Nat.le_of_ble_eq_true rfl) (Nat.le_of_ble_eq_true rfl) (Nat.le_of_ble_eq_true rfl) (Nat.le_of_ble_eq_true rfl) dX10_session_120 (fun L2 u2 cp2 H locs hG hw => ?_)
                have hR2 : MR (addS (elE x_18.2 ((S 3 0 0).toNatClampNeg) p1 p2 p3) 3 (nI ((S 3 0 0).toNatClampNeg + 1))) L2 cp2 := MR.add hR1 (by decide) hz1 (by omega) hG (fun z => absurd z (by decide)) (fun z => absurd z (by decide)) (fun z => absurd z (by decide)) (fun _ => List.mem_append_right _ (List.mem_singleton_self _)) (fun z => absurd z (by decide))
                have hzz : msz (addS (elE x_18.2 ((S 3 0 0).toNatClampNeg) p1 p2 p3) 3 (nI ((S 3 0 0).toNatClampNeg + 1))) 3 = (S 3 0 0).toNatClampNeg + 1 := by rw [addS_z (by decide) (by decide) (by omega), if_pos rfl]
                have hF2 : MF (addS (elE x_18.2 ((S 3 0 0).toNatClampNeg) p1 p2 p3) 3 (nI ((S 3 0 0).toNatClampNeg + 1))) L2 cp2 := MFz.gl ((MF.addz hFT hSE (by decide) hz0 (by omega)).push (by decide) (fun z => absurd z (by decide)) (fun z => absurd z (by decide)) (fun z => absurd z (by decide)) (fun _ => by rw [hzz]; omega) (fun a b => absurd a (by decide))) (by decide) hG
                have hI2 : CI (addS (elE x_18.2 ((S 3 0 0).toNatClampNeg) p1 p2 p3) 3 (nI ((S 3 0 0).toNatClampNeg + 1))) := CI.add (by decide) (Nat.lt_of_not_le c_20) (SE.ci hSE hCT)
                have e30 : u2 30 0 = ad 30 0 := (hG.2.2.1 30 0 (by decide)).trans (hX 30 0 (hR.1 30 (by decide) (by decide)))
                rw [← e30] at hl
                have hT2 : TL 61 L2 := TL.gl (TL.small hT (by decide)) (by decide) hG
                refine lv_pop hx hb dX10_session_123 rfl ?_
                refine lv_aload_n hx hb dX10_session_124 rfl (lv_at hl 0 rfl) ?_
                obtain ⟨x_21, hx_21, hE⟩ := ob1 hE
                refine k_cv hw (k_rV (f := 30) (o := 0) (As := []) (rest := []) ⟨hx, hb, hml, hown, hts⟩ hK hO hw (ct_X10_bookAll (MR.sm (SM.rf (addS (elE x_18.2 ((S 3 0 0).toNatClampNeg) p1 p2 p3) 3 (nI ((S 3 0 0).toNatClampNeg + 1)))) hR2) (SM.ci (SM.rf (addS (elE x_18.2 ((S 3 0 0).toNatClampNeg) p1 p2 p3) 3 (nI ((S 3 0 0).toNatClampNeg + 1)))) hI2) (TL.le hT2 (by decide)) hx_21 _ (wk.hA hw hA)) (cwV 0 hts (gB_V w_ml_X10_201 w_im_X10_bookAll w_se_X10_bookAll w_in_X10 w_co_X10_bookAll) rfl rfl rfl (by decide +kernel) ⟨Nat.le_of_ble_eq_true rfl, Nat.le_of_ble_eq_true rfl⟩) (hR2.1 30 (by decide) (by decide)) mke_30 rfl rfl hl.1 rfl (Nat.le_of_ble_eq_true rfl) dX10_session_125 ⟨(Nat.le_of_ble_eq_true rfl), (Nat.le_of_ble_eq_true rfl)⟩) (fun H locs hw => ?_)
                refine lv_aload_n hx hb dX10_session_128 rfl (lv_at hl 0 rfl) ?_
                refine k_get (C := RX10) (T := TX10) (N := 9) (v := .ref (u2 34 0)) hx hb hts inB_X10 hown hK hw (hR2.1 30 (by decide) (by decide)) mke_30 rfl 6 (by decide) (hts _ w_f_X10_29) (fun _ h9 => h9) rfl dX10_session_129 ?_
                refine k_ci0 hw (k_rV (f := 34) (o := 0) (As := []) (rest := []) ⟨hx, hb, hml, hown, hts⟩ hK hO hw (ct_size_3 (SM.tr (SM.rf (addS (elE x_18.2 ((S 3 0 0).toNatClampNeg) p1 p2 p3) 3 (nI ((S 3 0 0).toNatClampNeg + 1)))) (sf_X10_bookAll hx_21)) hR2 _ (wk.hA hw hA)) (cwV 0 hts (gB_V w_ml_X10_43 w_im_Jx4a65c_size_8abf5 w_se_Jx4a65c_size_8abf5 w_in_Jx4a65c w_co_Jx4a65c_size_8abf5) rfl rfl rfl (by decide +kernel) ⟨Nat.le_of_ble_eq_true rfl, Nat.le_of_ble_eq_true rfl⟩) (hR2.1 34 (by decide) (by decide)) (ce_l3 (SM.tr (SM.rf (addS (elE x_18.2 ((S 3 0 0).toNatClampNeg) p1 p2 p3) 3 (nI ((S 3 0 0).toNatClampNeg + 1)))) (sf_X10_bookAll hx_21))) rfl rfl hl.1 rfl (Nat.le_of_ble_eq_true rfl) dX10_session_132 ⟨(Nat.le_of_ble_eq_true rfl), (Nat.le_of_ble_eq_true rfl)⟩) (fun H locs hw => ?_)
                refine lv_iconst (v := 1) hx hb dX10_session_135 (by decide) ?_
                refine lv_isub hx hb dX10_session_136 ?_
                exact m_iretG hx hb hr hlocks rfl (GRW.of (by decide) (MR.sm (SM.tr (SM.rf (addS (elE x_18.2 ((S 3 0 0).toNatClampNeg) p1 p2 p3) 3 (nI ((S 3 0 0).toNatClampNeg + 1)))) (sf_X10_bookAll hx_21)) hR2) (MF.sm (SM.tr (SM.rf (addS (elE x_18.2 ((S 3 0 0).toNatClampNeg) p1 p2 p3) 3 (nI ((S 3 0 0).toNatClampNeg + 1)))) (sf_X10_bookAll hx_21)) hF2) hG (fun i h => by simp [h]) (fun i h => mem_k h (by decide)) hX) hw hE (Nat.le_of_ble_eq_true rfl) (Nat.le_of_ble_eq_true rfl) dX10_session_137
              · have hE := (if_neg c_19).symm.trans hE
                refine lv_iconst (v := 0) hx hb dX10_session_104 (by decide) ?_
                exact m_iretG hx hb hr hlocks rfl (GRW.same (MR.sm (SM.tr (SM.tr (SM.tr (SM.rf S) (sf_X10_start hx_2)) (sf_X10_refuse hx_15)) (sf_X10_refuse hx_18)) hR) (MF.sm (SM.tr (SM.tr (SM.tr (SM.rf S) (sf_X10_start hx_2)) (sf_X10_refuse hx_15)) (sf_X10_refuse hx_18)) hF)) hw hE (Nat.le_of_ble_eq_true rfl) (Nat.le_of_ble_eq_true rfl) dX10_session_105
            refine lv_icmp_ne (tgt := 96) hx hb dX10_session_89 (by decide) (fun c_17 => ?_) (fun c_17 => ?_)
            · refine lv_iconst (v := 0) hx hb dX10_session_96 (by decide) ?_
              exact hjc_17 _ (if_neg c_17).symm
            · refine lv_iconst (v := 1) hx hb dX10_session_92 (by decide) ?_
              refine lv_goto (tgt := 97) hx hb dX10_session_93 (by decide) ?_
              exact hjc_17 _ (if_pos c_17).symm
        · have hE := (if_pos c_14).symm.trans hE
          refine lv_iload_n hx hb dX10_session_57 rfl (lv_at hl 3 rfl) ?_
          refine lv_iconst (v := 1) hx hb dX10_session_58 (by decide) ?_
          refine lv_bipush (v := 9) hx hb dX10_session_59 (by decide) ?_
          refine k_ci0 hw (k_rS (As := [.int p3, .int 1, .int 9]) (rest := [.ref (ad 30 0)]) ⟨hx, hb, hml, hown, hts⟩ hK hO hw (ct_X10_isFrom p3 1 9 _ (wk.hA hw hA)) (va_cwS 3 hts (gB_S w_ml_X10_47 w_st_X10_isFrom w_in_X10 w_co_X10_isFrom) rfl rfl rfl (by decide +kernel) ⟨Nat.le_of_ble_eq_true rfl, Nat.le_of_ble_eq_true rfl⟩) rfl hl.1 rfl (Nat.le_of_ble_eq_true rfl) dX10_session_61 ⟨(Nat.le_of_ble_eq_true rfl), (Nat.le_of_ble_eq_true rfl)⟩) (fun H locs hw => ?_)
          have hjc_22 : ∀ bc_22 : Int32, bc_22 = (if (sp_X10_isFrom p3 1 9) = 0 then 1 else 0) → W p l e (headSpec bw_X10_session (rm_X10_session)).room s m args below meth c H locs 0 0 (MQ below (kQg D A v.1 v.2 L ad cI cO K0 ce) args s 163 669 A) (F0 m 72 ls [.int bc_22, .ref (ad 30 0)]) := by
            intro bc_22 hbc_22
            subst hbc_22
            refine lv_iconst (v := 2) hx hb dX10_session_72 (by decide) ?_
            obtain ⟨x_23, hx_23, hE⟩ := ob1 hE
            refine k_ci0 hw (k_rV (f := 30) (o := 0) (As := [.int (if (sp_X10_isFrom p3 1 9) = 0 then 1 else 0), .int 2]) (rest := []) ⟨hx, hb, hml, hown, hts⟩ hK hO hw (ct_X10_refuse (MR.sm (SM.tr (SM.rf S) (sf_X10_start hx_2)) hR) (SM.ci (SM.tr (SM.rf S) (sf_X10_start hx_2)) hI) hx_23 _ (wk.hA hw hA)) (cwV 2 hts (gB_V w_ml_X10_39 w_im_X10_refuse w_se_X10_refuse w_in_X10 w_co_X10_refuse) rfl rfl rfl (by decide +kernel) ⟨Nat.le_of_ble_eq_true rfl, Nat.le_of_ble_eq_true rfl⟩) (hR.1 30 (by decide) (by decide)) mke_30 rfl rfl hl.1 rfl (Nat.le_of_ble_eq_true rfl) dX10_session_73 ⟨(Nat.le_of_ble_eq_true rfl), (Nat.le_of_ble_eq_true rfl)⟩) (fun H locs hw => ?_)
            refine lv_if_ne (tgt := 104) hx hb dX10_session_76 (by decide) (fun c_24 => ?_) (fun c_24 => ?_)
            · have hE := (if_neg c_24).symm.trans hE
              refine lv_iconst (v := 0) hx hb dX10_session_104 (by decide) ?_
              exact m_iretG hx hb hr hlocks rfl (GRW.same (MR.sm (SM.tr (SM.tr (SM.rf S) (sf_X10_start hx_2)) (sf_X10_refuse hx_23)) hR) (MF.sm (SM.tr (SM.tr (SM.rf S) (sf_X10_start hx_2)) (sf_X10_refuse hx_23)) hF)) hw hE (Nat.le_of_ble_eq_true rfl) (Nat.le_of_ble_eq_true rfl) dX10_session_105
            · have hE := (if_pos c_24).symm.trans hE
              refine lv_aload_n hx hb dX10_session_79 rfl (lv_at hl 0 rfl) ?_
              refine lv_aload_n hx hb dX10_session_80 rfl (lv_at hl 0 rfl) ?_
              refine k_get (C := RX10) (T := TX10) (N := 9) (v := .ref (ad 34 0)) hx hb hts inB_X10 hown hK hw (hR.1 30 (by decide) (by decide)) mke_30 rfl 6 (by decide) (hts _ w_f_X10_29) (fun _ h9 => h9) rfl dX10_session_81 ?_
              refine k_ci0 hw (k_rV (f := 34) (o := 0) (As := []) (rest := [.ref (ad 30 0)]) ⟨hx, hb, hml, hown, hts⟩ hK hO hw (ct_size_3 (SM.tr (SM.tr (SM.rf S) (sf_X10_start hx_2)) (sf_X10_refuse hx_23)) hR _ (wk.hA hw hA)) (cwV 0 hts (gB_V w_ml_X10_43 w_im_Jx4a65c_size_8abf5 w_se_Jx4a65c_size_8abf5 w_in_Jx4a65c w_co_Jx4a65c_size_8abf5) rfl rfl rfl (by decide +kernel) ⟨Nat.le_of_ble_eq_true rfl, Nat.le_of_ble_eq_true rfl⟩) (hR.1 34 (by decide) (by decide)) (ce_l3 (SM.tr (SM.tr (SM.rf S) (sf_X10_start hx_2)) (sf_X10_refuse hx_23))) rfl rfl hl.1 rfl (Nat.le_of_ble_eq_true rfl) dX10_session_84 ⟨(Nat.le_of_ble_eq_true rfl), (Nat.le_of_ble_eq_true rfl)⟩) (fun H locs hw => ?_)
              refine lv_bipush (v := 20) hx hb dX10_session_87 (by decide) ?_
              have hjc_25 : ∀ bc_25 : Int32, bc_25 = (if S 3 0 0 = 20 then 1 else 0) → W p l e (headSpec bw_X10_session (rm_X10_session)).room s m args below meth c H locs 0 0 (MQ below (kQg D A v.1 v.2 L ad cI cO K0 ce) args s 163 669 A) (F0 m 97 ls [.int bc_25, .ref (ad 30 0)]) := by
                intro bc_25 hbc_25
                subst hbc_25
                refine lv_iconst (v := 3) hx hb dX10_session_97 (by decide) ?_
                obtain ⟨x_26, hx_26, hE⟩ := ob1 hE
                refine k_ci0 hw (k_rV (f := 30) (o := 0) (As := [.int (if S 3 0 0 = 20 then 1 else 0), .int 3]) (rest := []) ⟨hx, hb, hml, hown, hts⟩ hK hO hw (ct_X10_refuse (MR.sm (SM.tr (SM.tr (SM.rf S) (sf_X10_start hx_2)) (sf_X10_refuse hx_23)) hR) (SM.ci (SM.tr (SM.tr (SM.rf S) (sf_X10_start hx_2)) (sf_X10_refuse hx_23)) hI) hx_26 _ (wk.hA hw hA)) (cwV 2 hts (gB_V w_ml_X10_39 w_im_X10_refuse w_se_X10_refuse w_in_X10 w_co_X10_refuse) rfl rfl rfl (by decide +kernel) ⟨Nat.le_of_ble_eq_true rfl, Nat.le_of_ble_eq_true rfl⟩) (hR.1 30 (by decide) (by decide)) mke_30 rfl rfl hl.1 rfl (Nat.le_of_ble_eq_true rfl) dX10_session_98 ⟨(Nat.le_of_ble_eq_true rfl), (Nat.le_of_ble_eq_true rfl)⟩) (fun H locs hw => ?_)
                refine lv_if_eq (tgt := 106) hx hb dX10_session_101 (by decide) (fun c_27 => ?_) (fun c_27 => ?_)
                · have hE := (if_pos c_27).symm.trans hE
                  refine lv_aload_n hx hb dX10_session_106 rfl (lv_at hl 0 rfl) ?_
                  refine k_get (C := RX10) (T := TX10) (N := 9) (v := .ref (ad 34 0)) hx hb hts inB_X10 hown hK hw (hR.1 30 (by decide) (by decide)) mke_30 rfl 6 (by decide) (hts _ w_f_X10_29) (fun _ h9 => h9) rfl dX10_session_107 ?_
                  have hRT : MR x_26.2 L cp := MR.sm (SM.tr (SM.tr (SM.tr (SM.rf S) (sf_X10_start hx_2)) (sf_X10_refuse hx_23)) (sf_X10_refuse hx_26)) hR
                  have hFT : MF x_26.2 L cp := MF.sm (SM.tr (SM.tr (SM.tr (SM.rf S) (sf_X10_start hx_2)) (sf_X10_refuse hx_23)) (sf_X10_refuse hx_26)) hF
                  have hz0 : msz x_26.2 3 = (S 3 0 0).toNatClampNeg := SM.z (SM.tr (SM.tr (SM.tr (SM.rf S) (sf_X10_start hx_2)) (sf_X10_refuse hx_23)) (sf_X10_refuse hx_26)) 3
                  have hCT : CI x_26.2 := SM.ci (SM.tr (SM.tr (SM.tr (SM.rf S) (sf_X10_start hx_2)) (sf_X10_refuse hx_23)) (sf_X10_refuse hx_26)) hI
                  have hi0 : mszI x_26.2 3 = nI ((S 3 0 0).toNatClampNeg) := (SM.c3 (SM.tr (SM.tr (SM.tr (SM.rf S) (sf_X10_start hx_2)) (sf_X10_refuse hx_23)) (sf_X10_refuse hx_26))).trans (cn_eq hI.2.2.2.1.1)
                  have hn : (45, (S 3 0 0).toNatClampNeg) ∉ L := (hF.2.2.2.1 _ (Nat.le_refl _))
                  refine k_new (C := RX8) (T := TX8) (N := 3) (ci := 11) (fs := [.int 0, .int 0, .int 0]) hx hb hts inB_X8 tyX8 tyX8_ok hown (hts _ w_cl_X10_129) (hts _ w_is_X8) (hts _ w_in_X8) hK hw hA rfl (fun j hj => match j, hj with | 0, _ => rfl | 1, _ => rfl | 2, _ => rfl | n + 3, h => absurd h (by omega)) (Nat.le_of_ble_eq_true rfl) (Nat.le_of_ble_eq_true rfl) 45 ((S 3 0 0).toNatClampNeg) hn dX10_session_110 (fun q H hw => ?_)
                  rw [upa_eq]
                  have hRn := hR.push (i := (45, (S 3 0 0).toNatClampNeg))
                  refine lv_dup hx hb dX10_session_113 rfl ?_
                  refine lv_iload_n hx hb dX10_session_114 rfl (lv_at hl 1 rfl) ?_
                  refine lv_iload_n hx hb dX10_session_115 rfl (lv_at hl 2 rfl) ?_
                  refine lv_iload_n hx hb dX10_session_116 rfl (lv_at hl 3 rfl) ?_
                  have ct := ct_X8_init (l := l) (D := D) (cI := cI) (cG := cG) (cJ := cJ) (cO := cO) (K0 := K0) (A := A) (L := L ++ [(45, (S 3 0 0).toNatClampNeg)]) (ad := upa ad 45 ((S 3 0 0).toNatClampNeg) q) (ce := up2 (mK cI cO K0 ad cp ce x_26.2) 45 ((S 3 0 0).toNatClampNeg) (.inr (11, [.int 0, .int 0, .int 0]))) (o := ((S 3 0 0).toNatClampNeg)) (v0 := p1) (v1 := p2) (v2 := p3) (List.mem_append_right _ (List.mem_singleton_self _)) up2_eq _ (wk.hA hw hA)
                  rw [upa_eq] at ct
                  refine k_cv0 hw (k_rI (As := [.int p1, .int p2, .int p3]) (rest := [.ref q, .ref (ad 34 0)]) ⟨hx, hb, hml, hown, hts⟩ hK hO hw ct (cwI 3 hts (gB_0 w_co_X8_init) rfl rfl rfl (hts _ w_in_X8) (hts _ w_ml_X10_237) (hts _ w_im_X8_init) rfl (by decide +kernel) ⟨Nat.le_of_ble_eq_true rfl, Nat.le_of_ble_eq_true rfl⟩) rfl hl.1 rfl (Nat.le_of_ble_eq_true rfl) dX10_session_117 ⟨(Nat.le_of_ble_eq_true rfl), (Nat.le_of_ble_eq_true rfl)⟩) (fun H locs hw => ?_)
                  rw [up2_up2] at hw
                  have hSE : SE x_26.2 (elE x_26.2 ((S 3 0 0).toNatClampNeg) p1 p2 p3) := SE.elE (Nat.le_of_eq hz0)
                  have hw := wk.el (by decide) (by decide) hRT hFT hn hSE (mc_elE) hw
                  have hR1 : MR (elE x_26.2 ((S 3 0 0).toNatClampNeg) p1 p2 p3) (L ++ [(45, (S 3 0 0).toNatClampNeg)]) cp := (MR.se hSE hRT).push
                  have hX : Ex L ad (upa ad 45 ((S 3 0 0).toNatClampNeg) q) := Ex.upa hn
                  by_cases c_28 : 20 ≤ (S 3 0 0).toNatClampNeg
                  · exact nomatch (if_pos c_28).symm.trans hE
                  have hE := (if_neg c_28).symm.trans hE
                  have hz1 : msz (elE x_26.2 ((S 3 0 0).toNatClampNeg) p1 p2 p3) 3 = (S 3 0 0).toNatClampNeg := (SE.z hSE 3).trans hz0
                  have hi1 : mszI (elE x_26.2 ((S 3 0 0).toNatClampNeg) p1 p2 p3) 3 = nI ((S 3 0 0).toNatClampNeg) := (SE.zi hSE 3).trans hi0
                  have hcap := (hR1.2.2.1 3 (by decide)).1
                  rw [hz1] at hcap
                  obtain ⟨hz, hnz, hval⟩ := hFT.2.2.2.2.2 3 (by decide)
                  refine m_add ⟨hx, hb, hml, hown, hts⟩ hl.1 hK hO hA hw 3 (by decide) hz1 hi1 (by omega) (hR1.1 _ (by decide) (by decide)) hcap hval (fun a => nmemf (hz a) (by decide)) (fun a => List.mem_append_left _ (hnz a)) (nmemf (h59) (by decide)) (Or.inl ⟨45, _, 11, _, (RX8, TX8, 3), (List.mem_append_right _ (List.mem_singleton_self _)), upa_eq, mke_45, rfl, w_ca_X8⟩) (show (upa ad 45 ((S 3 0 0).toNatClampNeg) q) 45 ((S 3 0 0).toNatClampNeg) = q from upa_eq) (fun k hk => EL.el hR1 (by decide) (by rw [hz1]; exact hk)) (hX 34 0 (hR.1 34 (by decide) (by decide))) (Nat.le_of_ble_eq_true rfl) (Nat.le_of_ble_eq_true rfl) (Nat.le_of_ble_eq_true rfl) (Nat.le_of_ble_eq_true rfl) (Nat.le_of_ble_eq_true rfl) dX10_session_120 (fun L2 u2 cp2 H locs hG hw => ?_)
                  have hR2 : MR (addS (elE x_26.2 ((S 3 0 0).toNatClampNeg) p1 p2 p3) 3 (nI ((S 3 0 0).toNatClampNeg + 1))) L2 cp2 := MR.add hR1 (by decide) hz1 (by omega) hG (fun z => absurd z (by decide)) (fun z => absurd z (by decide)) (fun z => absurd z (by decide)) (fun _ => List.mem_append_right _ (List.mem_singleton_self _)) (fun z => absurd z (by decide))
                  have hzz : msz (addS (elE x_26.2 ((S 3 0 0).toNatClampNeg) p1 p2 p3) 3 (nI ((S 3 0 0).toNatClampNeg + 1))) 3 = (S 3 0 0).toNatClampNeg + 1 := by rw [addS_z (by decide) (by decide) (by omega), if_pos rfl]
                  have hF2 : MF (addS (elE x_26.2 ((S 3 0 0).toNatClampNeg) p1 p2 p3) 3 (nI ((S 3 0 0).toNatClampNeg + 1))) L2 cp2 := MFz.gl ((MF.addz hFT hSE (by decide) hz0 (by omega)).push (by decide) (fun z => absurd z (by decide)) (fun z => absurd z (by decide)) (fun z => absurd z (by decide)) (fun _ => by rw [hzz]; omega) (fun a b => absurd a (by decide))) (by decide) hG
                  have hI2 : CI (addS (elE x_26.2 ((S 3 0 0).toNatClampNeg) p1 p2 p3) 3 (nI ((S 3 0 0).toNatClampNeg + 1))) := CI.add (by decide) (Nat.lt_of_not_le c_28) (SE.ci hSE hCT)
                  have e30 : u2 30 0 = ad 30 0 := (hG.2.2.1 30 0 (by decide)).trans (hX 30 0 (hR.1 30 (by decide) (by decide)))
                  rw [← e30] at hl
                  have hT2 : TL 61 L2 := TL.gl (TL.small hT (by decide)) (by decide) hG
                  refine lv_pop hx hb dX10_session_123 rfl ?_
                  refine lv_aload_n hx hb dX10_session_124 rfl (lv_at hl 0 rfl) ?_
                  obtain ⟨x_29, hx_29, hE⟩ := ob1 hE
                  refine k_cv hw (k_rV (f := 30) (o := 0) (As := []) (rest := []) ⟨hx, hb, hml, hown, hts⟩ hK hO hw (ct_X10_bookAll (MR.sm (SM.rf (addS (elE x_26.2 ((S 3 0 0).toNatClampNeg) p1 p2 p3) 3 (nI ((S 3 0 0).toNatClampNeg + 1)))) hR2) (SM.ci (SM.rf (addS (elE x_26.2 ((S 3 0 0).toNatClampNeg) p1 p2 p3) 3 (nI ((S 3 0 0).toNatClampNeg + 1)))) hI2) (TL.le hT2 (by decide)) hx_29 _ (wk.hA hw hA)) (cwV 0 hts (gB_V w_ml_X10_201 w_im_X10_bookAll w_se_X10_bookAll w_in_X10 w_co_X10_bookAll) rfl rfl rfl (by decide +kernel) ⟨Nat.le_of_ble_eq_true rfl, Nat.le_of_ble_eq_true rfl⟩) (hR2.1 30 (by decide) (by decide)) mke_30 rfl rfl hl.1 rfl (Nat.le_of_ble_eq_true rfl) dX10_session_125 ⟨(Nat.le_of_ble_eq_true rfl), (Nat.le_of_ble_eq_true rfl)⟩) (fun H locs hw => ?_)
                  refine lv_aload_n hx hb dX10_session_128 rfl (lv_at hl 0 rfl) ?_
                  refine k_get (C := RX10) (T := TX10) (N := 9) (v := .ref (u2 34 0)) hx hb hts inB_X10 hown hK hw (hR2.1 30 (by decide) (by decide)) mke_30 rfl 6 (by decide) (hts _ w_f_X10_29) (fun _ h9 => h9) rfl dX10_session_129 ?_
                  refine k_ci0 hw (k_rV (f := 34) (o := 0) (As := []) (rest := []) ⟨hx, hb, hml, hown, hts⟩ hK hO hw (ct_size_3 (SM.tr (SM.rf (addS (elE x_26.2 ((S 3 0 0).toNatClampNeg) p1 p2 p3) 3 (nI ((S 3 0 0).toNatClampNeg + 1)))) (sf_X10_bookAll hx_29)) hR2 _ (wk.hA hw hA)) (cwV 0 hts (gB_V w_ml_X10_43 w_im_Jx4a65c_size_8abf5 w_se_Jx4a65c_size_8abf5 w_in_Jx4a65c w_co_Jx4a65c_size_8abf5) rfl rfl rfl (by decide +kernel) ⟨Nat.le_of_ble_eq_true rfl, Nat.le_of_ble_eq_true rfl⟩) (hR2.1 34 (by decide) (by decide)) (ce_l3 (SM.tr (SM.rf (addS (elE x_26.2 ((S 3 0 0).toNatClampNeg) p1 p2 p3) 3 (nI ((S 3 0 0).toNatClampNeg + 1)))) (sf_X10_bookAll hx_29))) rfl rfl hl.1 rfl (Nat.le_of_ble_eq_true rfl) dX10_session_132 ⟨(Nat.le_of_ble_eq_true rfl), (Nat.le_of_ble_eq_true rfl)⟩) (fun H locs hw => ?_)
                  refine lv_iconst (v := 1) hx hb dX10_session_135 (by decide) ?_
                  refine lv_isub hx hb dX10_session_136 ?_
                  exact m_iretG hx hb hr hlocks rfl (GRW.of (by decide) (MR.sm (SM.tr (SM.rf (addS (elE x_26.2 ((S 3 0 0).toNatClampNeg) p1 p2 p3) 3 (nI ((S 3 0 0).toNatClampNeg + 1)))) (sf_X10_bookAll hx_29)) hR2) (MF.sm (SM.tr (SM.rf (addS (elE x_26.2 ((S 3 0 0).toNatClampNeg) p1 p2 p3) 3 (nI ((S 3 0 0).toNatClampNeg + 1)))) (sf_X10_bookAll hx_29)) hF2) hG (fun i h => by simp [h]) (fun i h => mem_k h (by decide)) hX) hw hE (Nat.le_of_ble_eq_true rfl) (Nat.le_of_ble_eq_true rfl) dX10_session_137
                · have hE := (if_neg c_27).symm.trans hE
                  refine lv_iconst (v := 0) hx hb dX10_session_104 (by decide) ?_
                  exact m_iretG hx hb hr hlocks rfl (GRW.same (MR.sm (SM.tr (SM.tr (SM.tr (SM.rf S) (sf_X10_start hx_2)) (sf_X10_refuse hx_23)) (sf_X10_refuse hx_26)) hR) (MF.sm (SM.tr (SM.tr (SM.tr (SM.rf S) (sf_X10_start hx_2)) (sf_X10_refuse hx_23)) (sf_X10_refuse hx_26)) hF)) hw hE (Nat.le_of_ble_eq_true rfl) (Nat.le_of_ble_eq_true rfl) dX10_session_105
              refine lv_icmp_ne (tgt := 96) hx hb dX10_session_89 (by decide) (fun c_25 => ?_) (fun c_25 => ?_)
              · refine lv_iconst (v := 0) hx hb dX10_session_96 (by decide) ?_
                exact hjc_25 _ (if_neg c_25).symm
              · refine lv_iconst (v := 1) hx hb dX10_session_92 (by decide) ?_
                refine lv_goto (tgt := 97) hx hb dX10_session_93 (by decide) ?_
                exact hjc_25 _ (if_pos c_25).symm
          refine lv_if_ne (tgt := 71) hx hb dX10_session_64 (by decide) (fun c_22 => ?_) (fun c_22 => ?_)
          · refine lv_iconst (v := 0) hx hb dX10_session_71 (by decide) ?_
            exact hjc_22 _ (if_neg c_22).symm
          · refine lv_iconst (v := 1) hx hb dX10_session_67 (by decide) ?_
            refine lv_goto (tgt := 72) hx hb dX10_session_68 (by decide) ?_
            exact hjc_22 _ (if_pos c_22).symm
  refine lv_if_ne (tgt := 22) hx hb dX10_session_15 (by decide) (fun c_1 => ?_) (fun c_1 => ?_)
  · refine lv_iconst (v := 0) hx hb dX10_session_22 (by decide) ?_
    exact hjc_1 _ (if_neg c_1).symm
  · refine lv_iconst (v := 1) hx hb dX10_session_18 (by decide) ?_
    refine lv_goto (tgt := 23) hx hb dX10_session_19 (by decide) ?_
    exact hjc_1 _ (if_pos c_1).symm

abbrev bw_X10_join : List Cond := .code yX10_join cX10_join 3 (some .int) :: BIG
abbrev rm_X10_join : Room := { frames := 42, cells := 168, slots := 734, locals := 2249 }
noncomputable def sp_X10_join (S : (Nat → Nat → Nat → Int32)) (p1 : Int32) (p2 : Int32) : Option (Int32 × (Nat → Nat → Nat → Int32)) := (sp_X10_start S (sp_X10_isNoRole p1) 1).bind fun x_1 => (if x_1.1 = 0 then ((sp_X10_isNoDay x_1.2 p2).bind fun x_3 => ((sp_X10_refuse x_1.2 x_3 2).bind fun x_4 => (if x_4.1 = 0 then (if S 0 0 0 = 8 then ((sp_X10_refuse x_4.2 1 3).bind fun x_7 => (if x_7.1 = 0 then (if p1 < 0 ∨ 4 ≤ p1.toNatClampNeg then none else (if 8 ≤ (S 0 0 0).toNatClampNeg then none else ((sp_X10_bookAll (addS (newJ x_7.2 ((S 0 0 0).toNatClampNeg) (x_7.2 11 0 p1.toNatClampNeg) p2) 4 (nI ((S 0 0 0).toNatClampNeg + 1))) ).bind fun x_11 => (some ((((addS (newJ x_7.2 ((S 0 0 0).toNatClampNeg) (x_7.2 11 0 p1.toNatClampNeg) p2) 4 (nI ((S 0 0 0).toNatClampNeg + 1))) 0 0 0) - 1, x_11)))))) else (some ((0, x_7.2))))) else (if p1 < 0 ∨ 4 ≤ p1.toNatClampNeg then none else ((sp_X10_refuse x_4.2 (if x_4.2 11 0 p1.toNatClampNeg = 0 then 1 else 0) 3).bind fun x_14 => (if x_14.1 = 0 then (if 8 ≤ (S 0 0 0).toNatClampNeg then none else ((sp_X10_bookAll (addS (newJ x_14.2 ((S 0 0 0).toNatClampNeg) (x_14.2 11 0 p1.toNatClampNeg) p2) 4 (nI ((S 0 0 0).toNatClampNeg + 1))) ).bind fun x_17 => (some ((((addS (newJ x_14.2 ((S 0 0 0).toNatClampNeg) (x_14.2 11 0 p1.toNatClampNeg) p2) 4 (nI ((S 0 0 0).toNatClampNeg + 1))) 0 0 0) - 1, x_17))))) else (some ((0, x_14.2))))))) else (some ((0, x_4.2)))))) else (some ((0, x_1.2))))
set_option maxHeartbeats 1000000 in
set_option maxRecDepth 100000 in
theorem ct_X10_join {l : Launch} {D : va_G} {cI cG cJ cO : ClassId} {K0 : Nat → Nat} {A : Nat → Prop} {L : List (Nat × Nat)} {ad : Nat → Nat → Nat} {ce : Nat → Nat → va_E} {cp : Nat → Nat} {S : (Nat → Nat → Nat → Int32)} (hR : MR S L cp) (hI : CI S) (hT : TL 61 L) {p1 : Int32} {p2 : Int32} (hF : MF S L cp) (h59 : (59, 0) ∉ L) {v : Int32 × (Nat → Nat → Nat → Int32)} (hE : sp_X10_join S p1 p2 = some v) (sz : Nat) (hA : ∀ q, sz ≤ q → A q) : Met l yX10_join bw_X10_join (rm_X10_join) (kP D (ktys cI cG cJ cO) K0 A L ad (mK cI cO K0 ad cp ce S) sz [.ref (ad 30 0), .int p1, .int p2]) (kQg D A v.1 v.2 L ad cI cO K0 ce) 168 734 A := by
  refine Met.ofW (cc := cX10_join) (maxL := 3) (ret := (some .int)) (by decide) rfl ?_
  intro p e s m args below meth c s₁ B hml hv_
  obtain ⟨hav, hsz, hP, hD, hK, hO⟩ := hv_
  have hx := B.exec
  have hb := B.bytes
  have hr := B.returns
  have hts : ∀ w ∈ BIG, w.before args s = true := fun w h => atoms_spec (ws := bw_X10_join) B.pre w (List.mem_cons_of_mem _ h)
  have hown : s.vm.findClass RX10 = some m.cls := findClass_of_methodNamed B.named
  have hlocks := B.notSynchronized
  subst hsz
  have hw := wk.start hP hD
  refine k_start (by rfl) hav (Nat.le_of_ble_eq_true rfl) (fun ls hl => ?_)
  have hl : lv_has ls 3 [(0, .ref (ad 30 0)), (1, .int p1), (2, .int p2)] := hl
  unfold sp_X10_join at hE
  refine lv_aload_n hx hb dX10_join_0 rfl (lv_at hl 0 rfl) ?_
  refine lv_iload_n hx hb dX10_join_1 rfl (lv_at hl 1 rfl) ?_
  refine k_ci0 hw (k_rS (As := [.int p1]) (rest := [.ref (ad 30 0)]) ⟨hx, hb, hml, hown, hts⟩ hK hO hw (ct_X10_isNoRole p1 _ (wk.hA hw hA)) (va_cwS 1 hts (gB_S w_ml_X10_218 w_st_X10_isNoRole w_in_X10 w_co_X10_isNoRole) rfl rfl rfl (by decide +kernel) ⟨Nat.le_of_ble_eq_true rfl, Nat.le_of_ble_eq_true rfl⟩) rfl hl.1 rfl (Nat.le_of_ble_eq_true rfl) dX10_join_2 ⟨(Nat.le_of_ble_eq_true rfl), (Nat.le_of_ble_eq_true rfl)⟩) (fun H locs hw => ?_)
  refine lv_iconst (v := 1) hx hb dX10_join_5 (by decide) ?_
  obtain ⟨x_1, hx_1, hE⟩ := ob1 hE
  refine k_ci0 hw (k_rV (f := 30) (o := 0) (As := [.int (sp_X10_isNoRole p1), .int 1]) (rest := []) ⟨hx, hb, hml, hown, hts⟩ hK hO hw (ct_X10_start (MR.sm (SM.rf S) hR) (SM.ci (SM.rf S) hI) hx_1 _ (wk.hA hw hA)) (cwV 2 hts (gB_V w_ml_X10_186 w_im_X10_start w_se_X10_start w_in_X10 w_co_X10_start) rfl rfl rfl (by decide +kernel) ⟨Nat.le_of_ble_eq_true rfl, Nat.le_of_ble_eq_true rfl⟩) (hR.1 30 (by decide) (by decide)) mke_30 rfl rfl hl.1 rfl (Nat.le_of_ble_eq_true rfl) dX10_join_6 ⟨(Nat.le_of_ble_eq_true rfl), (Nat.le_of_ble_eq_true rfl)⟩) (fun H locs hw => ?_)
  refine lv_if_ne (tgt := 59) hx hb dX10_join_9 (by decide) (fun c_2 => ?_) (fun c_2 => ?_)
  · have hE := (if_neg c_2).symm.trans hE
    refine lv_iconst (v := 0) hx hb dX10_join_59 (by decide) ?_
    exact m_iretG hx hb hr hlocks rfl (GRW.same (MR.sm (SM.tr (SM.rf S) (sf_X10_start hx_1)) hR) (MF.sm (SM.tr (SM.rf S) (sf_X10_start hx_1)) hF)) hw hE (Nat.le_of_ble_eq_true rfl) (Nat.le_of_ble_eq_true rfl) dX10_join_60
  · have hE := (if_pos c_2).symm.trans hE
    refine lv_aload_n hx hb dX10_join_12 rfl (lv_at hl 0 rfl) ?_
    refine lv_aload_n hx hb dX10_join_13 rfl (lv_at hl 0 rfl) ?_
    refine lv_iload_n hx hb dX10_join_14 rfl (lv_at hl 2 rfl) ?_
    obtain ⟨x_3, hx_3, hE⟩ := ob1 hE
    refine k_ci0 hw (k_rV (f := 30) (o := 0) (As := [.int p2]) (rest := [.ref (ad 30 0)]) ⟨hx, hb, hml, hown, hts⟩ hK hO hw (ct_X10_isNoDay (MR.sm (SM.tr (SM.rf S) (sf_X10_start hx_1)) hR) (SM.ci (SM.tr (SM.rf S) (sf_X10_start hx_1)) hI) hx_3 _ (wk.hA hw hA)) (cwV 1 hts (gB_V w_ml_X10_228 w_im_X10_isNoDay w_se_X10_isNoDay w_in_X10 w_co_X10_isNoDay) rfl rfl rfl (by decide +kernel) ⟨Nat.le_of_ble_eq_true rfl, Nat.le_of_ble_eq_true rfl⟩) (hR.1 30 (by decide) (by decide)) mke_30 rfl rfl hl.1 rfl (Nat.le_of_ble_eq_true rfl) dX10_join_15 ⟨(Nat.le_of_ble_eq_true rfl), (Nat.le_of_ble_eq_true rfl)⟩) (fun H locs hw => ?_)
    refine lv_iconst (v := 2) hx hb dX10_join_18 (by decide) ?_
    obtain ⟨x_4, hx_4, hE⟩ := ob1 hE
    refine k_ci0 hw (k_rV (f := 30) (o := 0) (As := [.int x_3, .int 2]) (rest := []) ⟨hx, hb, hml, hown, hts⟩ hK hO hw (ct_X10_refuse (MR.sm (SM.tr (SM.rf S) (sf_X10_start hx_1)) hR) (SM.ci (SM.tr (SM.rf S) (sf_X10_start hx_1)) hI) hx_4 _ (wk.hA hw hA)) (cwV 2 hts (gB_V w_ml_X10_39 w_im_X10_refuse w_se_X10_refuse w_in_X10 w_co_X10_refuse) rfl rfl rfl (by decide +kernel) ⟨Nat.le_of_ble_eq_true rfl, Nat.le_of_ble_eq_true rfl⟩) (hR.1 30 (by decide) (by decide)) mke_30 rfl rfl hl.1 rfl (Nat.le_of_ble_eq_true rfl) dX10_join_19 ⟨(Nat.le_of_ble_eq_true rfl), (Nat.le_of_ble_eq_true rfl)⟩) (fun H locs hw => ?_)
    refine lv_if_ne (tgt := 59) hx hb dX10_join_22 (by decide) (fun c_5 => ?_) (fun c_5 => ?_)
    · have hE := (if_neg c_5).symm.trans hE
      refine lv_iconst (v := 0) hx hb dX10_join_59 (by decide) ?_
      exact m_iretG hx hb hr hlocks rfl (GRW.same (MR.sm (SM.tr (SM.tr (SM.rf S) (sf_X10_start hx_1)) (sf_X10_refuse hx_4)) hR) (MF.sm (SM.tr (SM.tr (SM.rf S) (sf_X10_start hx_1)) (sf_X10_refuse hx_4)) hF)) hw hE (Nat.le_of_ble_eq_true rfl) (Nat.le_of_ble_eq_true rfl) dX10_join_60
    · have hE := (if_pos c_5).symm.trans hE
      refine lv_aload_n hx hb dX10_join_25 rfl (lv_at hl 0 rfl) ?_
      refine lv_aload_n hx hb dX10_join_26 rfl (lv_at hl 0 rfl) ?_
      refine k_get (C := RX10) (T := TX10) (N := 9) (v := .ref (ad 35 0)) hx hb hts inB_X10 hown hK hw (hR.1 30 (by decide) (by decide)) mke_30 rfl 7 (by decide) (hts _ w_f_X10_32) (fun _ h9 => h9) rfl dX10_join_27 ?_
      refine k_ci0 hw (k_rV (f := 35) (o := 0) (As := []) (rest := [.ref (ad 30 0)]) ⟨hx, hb, hml, hown, hts⟩ hK hO hw (ct_size_4 (SM.tr (SM.tr (SM.rf S) (sf_X10_start hx_1)) (sf_X10_refuse hx_4)) hR _ (wk.hA hw hA)) (cwV 0 hts (gB_V w_ml_X10_43 w_im_Jx4a65c_size_8abf5 w_se_Jx4a65c_size_8abf5 w_in_Jx4a65c w_co_Jx4a65c_size_8abf5) rfl rfl rfl (by decide +kernel) ⟨Nat.le_of_ble_eq_true rfl, Nat.le_of_ble_eq_true rfl⟩) (hR.1 35 (by decide) (by decide)) (ce_l4 (SM.tr (SM.tr (SM.rf S) (sf_X10_start hx_1)) (sf_X10_refuse hx_4))) rfl rfl hl.1 rfl (Nat.le_of_ble_eq_true rfl) dX10_join_30 ⟨(Nat.le_of_ble_eq_true rfl), (Nat.le_of_ble_eq_true rfl)⟩) (fun H locs hw => ?_)
      refine lv_bipush (v := 8) hx hb dX10_join_33 (by decide) ?_
      refine lv_icmp_eq (tgt := 47) hx hb dX10_join_35 (by decide) (fun c_6 => ?_) (fun c_6 => ?_)
      · have hE := (if_pos c_6).symm.trans hE
        refine lv_iconst (v := 1) hx hb dX10_join_47 (by decide) ?_
        refine lv_goto (tgt := 52) hx hb dX10_join_48 (by decide) ?_
        refine lv_iconst (v := 3) hx hb dX10_join_52 (by decide) ?_
        obtain ⟨x_7, hx_7, hE⟩ := ob1 hE
        refine k_ci0 hw (k_rV (f := 30) (o := 0) (As := [.int 1, .int 3]) (rest := []) ⟨hx, hb, hml, hown, hts⟩ hK hO hw (ct_X10_refuse (MR.sm (SM.tr (SM.tr (SM.rf S) (sf_X10_start hx_1)) (sf_X10_refuse hx_4)) hR) (SM.ci (SM.tr (SM.tr (SM.rf S) (sf_X10_start hx_1)) (sf_X10_refuse hx_4)) hI) hx_7 _ (wk.hA hw hA)) (cwV 2 hts (gB_V w_ml_X10_39 w_im_X10_refuse w_se_X10_refuse w_in_X10 w_co_X10_refuse) rfl rfl rfl (by decide +kernel) ⟨Nat.le_of_ble_eq_true rfl, Nat.le_of_ble_eq_true rfl⟩) (hR.1 30 (by decide) (by decide)) mke_30 rfl rfl hl.1 rfl (Nat.le_of_ble_eq_true rfl) dX10_join_53 ⟨(Nat.le_of_ble_eq_true rfl), (Nat.le_of_ble_eq_true rfl)⟩) (fun H locs hw => ?_)
        refine lv_if_eq (tgt := 61) hx hb dX10_join_56 (by decide) (fun c_8 => ?_) (fun c_8 => ?_)
        · have hE := (if_pos c_8).symm.trans hE
          refine lv_aload_n hx hb dX10_join_61 rfl (lv_at hl 0 rfl) ?_
          refine k_get (C := RX10) (T := TX10) (N := 9) (v := .ref (ad 35 0)) hx hb hts inB_X10 hown hK hw (hR.1 30 (by decide) (by decide)) mke_30 rfl 7 (by decide) (hts _ w_f_X10_32) (fun _ h9 => h9) rfl dX10_join_62 ?_
          have hRT : MR x_7.2 L cp := MR.sm (SM.tr (SM.tr (SM.tr (SM.rf S) (sf_X10_start hx_1)) (sf_X10_refuse hx_4)) (sf_X10_refuse hx_7)) hR
          have hFT : MF x_7.2 L cp := MF.sm (SM.tr (SM.tr (SM.tr (SM.rf S) (sf_X10_start hx_1)) (sf_X10_refuse hx_4)) (sf_X10_refuse hx_7)) hF
          have hz0 : msz x_7.2 4 = (S 0 0 0).toNatClampNeg := SM.z (SM.tr (SM.tr (SM.tr (SM.rf S) (sf_X10_start hx_1)) (sf_X10_refuse hx_4)) (sf_X10_refuse hx_7)) 4
          have hCT : CI x_7.2 := SM.ci (SM.tr (SM.tr (SM.tr (SM.rf S) (sf_X10_start hx_1)) (sf_X10_refuse hx_4)) (sf_X10_refuse hx_7)) hI
          have hi0 : mszI x_7.2 4 = nI ((S 0 0 0).toNatClampNeg) := (SM.c4 (SM.tr (SM.tr (SM.tr (SM.rf S) (sf_X10_start hx_1)) (sf_X10_refuse hx_4)) (sf_X10_refuse hx_7))).trans (cn_eq hI.2.2.2.2.1)
          have hn : (46, (S 0 0 0).toNatClampNeg) ∉ L := (hF.2.2.2.2.1 46 _ (by decide) (by decide) (Nat.le_refl _))
          refine k_new (C := RX6) (T := TX6) (N := 8) (ci := 9) (fs := [.int 0, .int 0, .null, .null, .null, .null, .null, .int 0]) hx hb hts inB_X6 tyX6 tyX6_ok hown (hts _ w_cl_X10_64) (hts _ w_is_X6) (hts _ w_in_X6) hK hw hA rfl (fun j hj => match j, hj with | 0, _ => rfl | 1, _ => rfl | 2, _ => rfl | 3, _ => rfl | 4, _ => rfl | 5, _ => rfl | 6, _ => rfl | 7, _ => rfl | n + 8, h => absurd h (by omega)) (Nat.le_of_ble_eq_true rfl) (Nat.le_of_ble_eq_true rfl) 46 ((S 0 0 0).toNatClampNeg) hn dX10_join_65 (fun q H hw => ?_)
          rw [upa_eq]
          have hRn := hR.push (i := (46, (S 0 0 0).toNatClampNeg))
          refine lv_dup hx hb dX10_join_68 rfl ?_
          refine lv_aload_n hx hb dX10_join_69 rfl (lv_at hl 0 rfl) ?_
          refine k_get (C := RX10) (T := TX10) (N := 9) (v := .ref (ad 36 0)) hx hb hts inB_X10 hown hK hw (hRn.1 30 (by decide) (by decide)) ((up2_n (by decide)).trans mke_30) rfl 2 (by decide) (hts _ w_f_X10_16) (fun _ h9 => h9) rfl dX10_join_70 ?_
          refine lv_iload_n hx hb dX10_join_73 rfl (lv_at hl 1 rfl) ?_
          by_cases c_9 : p1 < 0 ∨ 4 ≤ p1.toNatClampNeg
          · exact nomatch (if_pos c_9).symm.trans hE
          have hE := (if_neg c_9).symm.trans hE
          refine k_aldi hx hb hK hw (hRn.1 36 (by decide) (by decide)) 0 ((up2_n (by decide)).trans mke_36) rfl (fun z => c_9 (Or.inl z)) rfl (Nat.not_le.mp fun z => c_9 (Or.inr z)) (v := x_7.2 11 0 p1.toNatClampNeg) rfl dX10_join_74 ?_
          refine lv_iload_n hx hb dX10_join_75 rfl (lv_at hl 2 rfl) ?_
          have ct := ct_X6_init (l := l) (D := D) (cI := cI) (cG := cG) (cJ := cJ) (cO := cO) (K0 := K0) (A := A) (L := L ++ [(46, (S 0 0 0).toNatClampNeg)]) (ad := upa ad 46 ((S 0 0 0).toNatClampNeg) q) (ce := up2 (mK cI cO K0 ad cp ce x_7.2) 46 ((S 0 0 0).toNatClampNeg) (.inr (9, [.int 0, .int 0, .null, .null, .null, .null, .null, .int 0]))) (o := ((S 0 0 0).toNatClampNeg)) (v0 := x_7.2 11 0 p1.toNatClampNeg) (v1 := p2) (cp := cp) (M := x_7.2) (a0 := q) (List.mem_append_right _ (List.mem_singleton_self _)) upa_eq up2_eq (nmemf (hF.2.2.2.2.1 47 _ (by decide) (by decide) (Nat.le_refl _)) (by decide)) (nmemf (hF.2.2.2.2.1 48 _ (by decide) (by decide) (Nat.le_refl _)) (by decide)) (nmemf (hF.2.2.2.2.1 49 _ (by decide) (by decide) (Nat.le_refl _)) (by decide)) (nmemf (hF.2.2.2.2.1 50 _ (by decide) (by decide) (Nat.le_refl _)) (by decide)) (nmemf (hF.2.2.2.2.1 51 _ (by decide) (by decide) (Nat.le_refl _)) (by decide)) _ (wk.hA hw hA)
          refine k_cvx hw (k_rI (As := [.int (x_7.2 11 0 p1.toNatClampNeg), .int p2]) (rest := [.ref q, .ref (ad 35 0)]) ⟨hx, hb, hml, hown, hts⟩ hK hO hw ct (cwI 2 hts (gB_0 w_co_X6_init) rfl rfl rfl (hts _ w_in_X6) (hts _ w_ml_X10_244) (hts _ w_im_X6_init) rfl (by decide +kernel) ⟨Nat.le_of_ble_eq_true rfl, Nat.le_of_ble_eq_true rfl⟩) rfl hl.1 rfl (Nat.le_of_ble_eq_true rfl) dX10_join_76 ⟨(Nat.le_of_ble_eq_true rfl), (Nat.le_of_ble_eq_true rfl)⟩) (fun u H locs hE1 hw => ?_)
          have hw := wk.elJ hRT hFT hn (Nat.le_of_eq hz0) hE1 hw
          have hSE : SE x_7.2 (newJ x_7.2 ((S 0 0 0).toNatClampNeg) (x_7.2 11 0 p1.toNatClampNeg) p2) := SE.nj (Nat.le_of_eq hz0)
          have hX : Ex L ad u := Ex.tr (Ex.upa hn) hE1 (fun _ z => List.mem_append_left _ z)
          have hq : u 46 ((S 0 0 0).toNatClampNeg) = q := (hE1 46 _ (List.mem_append_right _ (List.mem_singleton_self _))).trans upa_eq
          have hR1 : MR (newJ x_7.2 ((S 0 0 0).toNatClampNeg) (x_7.2 11 0 p1.toNatClampNeg) p2) (L ++ [(46, (S 0 0 0).toNatClampNeg)] ++ [(47, (S 0 0 0).toNatClampNeg)] ++ [(48, (S 0 0 0).toNatClampNeg)] ++ [(49, (S 0 0 0).toNatClampNeg)] ++ [(50, (S 0 0 0).toNatClampNeg)] ++ [(51, (S 0 0 0).toNatClampNeg)]) cp := (((((MR.se hSE hRT).push).push).push).push).push.push
          by_cases c_10 : 8 ≤ (S 0 0 0).toNatClampNeg
          · exact nomatch (if_pos c_10).symm.trans hE
          have hE := (if_neg c_10).symm.trans hE
          have hz1 : msz (newJ x_7.2 ((S 0 0 0).toNatClampNeg) (x_7.2 11 0 p1.toNatClampNeg) p2) 4 = (S 0 0 0).toNatClampNeg := (SE.z hSE 4).trans hz0
          have hi1 : mszI (newJ x_7.2 ((S 0 0 0).toNatClampNeg) (x_7.2 11 0 p1.toNatClampNeg) p2) 4 = nI ((S 0 0 0).toNatClampNeg) := (SE.zi hSE 4).trans hi0
          have hcap := (hR1.2.2.1 4 (by decide)).1
          rw [hz1] at hcap
          obtain ⟨hz, hnz, hval⟩ := hFT.2.2.2.2.2 4 (by decide)
          refine m_add ⟨hx, hb, hml, hown, hts⟩ hl.1 hK hO hA hw 4 (by decide) hz1 hi1 (by omega) (hR1.1 _ (by decide) (by decide)) hcap hval (fun a => nmemf (nmemf (nmemf (nmemf (nmemf (nmemf (hz a) (by decide)) (by decide)) (by decide)) (by decide)) (by decide)) (by decide)) (fun a => List.mem_append_left _ (List.mem_append_left _ (List.mem_append_left _ (List.mem_append_left _ (List.mem_append_left _ (List.mem_append_left _ (hnz a))))))) (nmemf (nmemf (nmemf (nmemf (nmemf (nmemf (h59) (by decide)) (by decide)) (by decide)) (by decide)) (by decide)) (by decide)) (Or.inl ⟨46, _, 9, _, (RX6, TX6, 8), (by simp), hq, mke_46, rfl, w_ca_X6⟩) (show u 46 ((S 0 0 0).toNatClampNeg) = q from hq) (fun k hk => EL.el hR1 (by decide) (by rw [hz1]; exact hk)) (hX 35 0 (hR.1 35 (by decide) (by decide))) (Nat.le_of_ble_eq_true rfl) (Nat.le_of_ble_eq_true rfl) (Nat.le_of_ble_eq_true rfl) (Nat.le_of_ble_eq_true rfl) (Nat.le_of_ble_eq_true rfl) dX10_join_79 (fun L2 u2 cp2 H locs hG hw => ?_)
          have hR2 : MR (addS (newJ x_7.2 ((S 0 0 0).toNatClampNeg) (x_7.2 11 0 p1.toNatClampNeg) p2) 4 (nI ((S 0 0 0).toNatClampNeg + 1))) L2 cp2 := MR.add hR1 (by decide) hz1 (by omega) hG (fun z => absurd z (by decide)) (fun z => absurd z (by decide)) (fun z => absurd z (by decide)) (fun z => absurd z (by decide)) (fun _ f a b => mem_j a b)
          have hzz : msz (addS (newJ x_7.2 ((S 0 0 0).toNatClampNeg) (x_7.2 11 0 p1.toNatClampNeg) p2) 4 (nI ((S 0 0 0).toNatClampNeg + 1))) 4 = (S 0 0 0).toNatClampNeg + 1 := by rw [addS_z (by decide) (by decide) (by omega), if_pos rfl]
          have hF2 : MF (addS (newJ x_7.2 ((S 0 0 0).toNatClampNeg) (x_7.2 11 0 p1.toNatClampNeg) p2) 4 (nI ((S 0 0 0).toNatClampNeg + 1))) L2 cp2 := MFz.gl (((((((MF.addz hFT hSE (by decide) hz0 (by omega)).push (by decide) (fun z => absurd z (by decide)) (fun z => absurd z (by decide)) (fun z => absurd z (by decide)) (fun z => absurd z (by decide)) (fun _ _ => by rw [hzz]; omega)).push (by decide) (fun z => absurd z (by decide)) (fun z => absurd z (by decide)) (fun z => absurd z (by decide)) (fun z => absurd z (by decide)) (fun _ _ => by rw [hzz]; omega)).push (by decide) (fun z => absurd z (by decide)) (fun z => absurd z (by decide)) (fun z => absurd z (by decide)) (fun z => absurd z (by decide)) (fun _ _ => by rw [hzz]; omega)).push (by decide) (fun z => absurd z (by decide)) (fun z => absurd z (by decide)) (fun z => absurd z (by decide)) (fun z => absurd z (by decide)) (fun _ _ => by rw [hzz]; omega)).push (by decide) (fun z => absurd z (by decide)) (fun z => absurd z (by decide)) (fun z => absurd z (by decide)) (fun z => absurd z (by decide)) (fun _ _ => by rw [hzz]; omega)).push (by decide) (fun z => absurd z (by decide)) (fun z => absurd z (by decide)) (fun z => absurd z (by decide)) (fun z => absurd z (by decide)) (fun _ _ => by rw [hzz]; omega)) (by decide) hG
          have hI2 : CI (addS (newJ x_7.2 ((S 0 0 0).toNatClampNeg) (x_7.2 11 0 p1.toNatClampNeg) p2) 4 (nI ((S 0 0 0).toNatClampNeg + 1))) := CI.add (by decide) (Nat.lt_of_not_le c_10) (SE.ci hSE hCT)
          have e30 : u2 30 0 = ad 30 0 := (hG.2.2.1 30 0 (by decide)).trans (hX 30 0 (hR.1 30 (by decide) (by decide)))
          rw [← e30] at hl
          have hT2 : TL 61 L2 := TL.gl (TL.small (TL.small (TL.small (TL.small (TL.small (TL.small hT (by decide)) (by decide)) (by decide)) (by decide)) (by decide)) (by decide)) (by decide) hG
          refine lv_pop hx hb dX10_join_82 rfl ?_
          refine lv_aload_n hx hb dX10_join_83 rfl (lv_at hl 0 rfl) ?_
          obtain ⟨x_11, hx_11, hE⟩ := ob1 hE
          refine k_cv hw (k_rV (f := 30) (o := 0) (As := []) (rest := []) ⟨hx, hb, hml, hown, hts⟩ hK hO hw (ct_X10_bookAll (MR.sm (SM.rf (addS (newJ x_7.2 ((S 0 0 0).toNatClampNeg) (x_7.2 11 0 p1.toNatClampNeg) p2) 4 (nI ((S 0 0 0).toNatClampNeg + 1)))) hR2) (SM.ci (SM.rf (addS (newJ x_7.2 ((S 0 0 0).toNatClampNeg) (x_7.2 11 0 p1.toNatClampNeg) p2) 4 (nI ((S 0 0 0).toNatClampNeg + 1)))) hI2) (TL.le hT2 (by decide)) hx_11 _ (wk.hA hw hA)) (cwV 0 hts (gB_V w_ml_X10_201 w_im_X10_bookAll w_se_X10_bookAll w_in_X10 w_co_X10_bookAll) rfl rfl rfl (by decide +kernel) ⟨Nat.le_of_ble_eq_true rfl, Nat.le_of_ble_eq_true rfl⟩) (hR2.1 30 (by decide) (by decide)) mke_30 rfl rfl hl.1 rfl (Nat.le_of_ble_eq_true rfl) dX10_join_84 ⟨(Nat.le_of_ble_eq_true rfl), (Nat.le_of_ble_eq_true rfl)⟩) (fun H locs hw => ?_)
          refine lv_aload_n hx hb dX10_join_87 rfl (lv_at hl 0 rfl) ?_
          refine k_get (C := RX10) (T := TX10) (N := 9) (v := .ref (u2 35 0)) hx hb hts inB_X10 hown hK hw (hR2.1 30 (by decide) (by decide)) mke_30 rfl 7 (by decide) (hts _ w_f_X10_32) (fun _ h9 => h9) rfl dX10_join_88 ?_
          refine k_ci0 hw (k_rV (f := 35) (o := 0) (As := []) (rest := []) ⟨hx, hb, hml, hown, hts⟩ hK hO hw (ct_size_4 (SM.tr (SM.rf (addS (newJ x_7.2 ((S 0 0 0).toNatClampNeg) (x_7.2 11 0 p1.toNatClampNeg) p2) 4 (nI ((S 0 0 0).toNatClampNeg + 1)))) (sf_X10_bookAll hx_11)) hR2 _ (wk.hA hw hA)) (cwV 0 hts (gB_V w_ml_X10_43 w_im_Jx4a65c_size_8abf5 w_se_Jx4a65c_size_8abf5 w_in_Jx4a65c w_co_Jx4a65c_size_8abf5) rfl rfl rfl (by decide +kernel) ⟨Nat.le_of_ble_eq_true rfl, Nat.le_of_ble_eq_true rfl⟩) (hR2.1 35 (by decide) (by decide)) (ce_l4 (SM.tr (SM.rf (addS (newJ x_7.2 ((S 0 0 0).toNatClampNeg) (x_7.2 11 0 p1.toNatClampNeg) p2) 4 (nI ((S 0 0 0).toNatClampNeg + 1)))) (sf_X10_bookAll hx_11))) rfl rfl hl.1 rfl (Nat.le_of_ble_eq_true rfl) dX10_join_91 ⟨(Nat.le_of_ble_eq_true rfl), (Nat.le_of_ble_eq_true rfl)⟩) (fun H locs hw => ?_)
          refine lv_iconst (v := 1) hx hb dX10_join_94 (by decide) ?_
          refine lv_isub hx hb dX10_join_95 ?_
          exact m_iretG hx hb hr hlocks rfl (GRW.of (by decide) (MR.sm (SM.tr (SM.rf (addS (newJ x_7.2 ((S 0 0 0).toNatClampNeg) (x_7.2 11 0 p1.toNatClampNeg) p2) 4 (nI ((S 0 0 0).toNatClampNeg + 1)))) (sf_X10_bookAll hx_11)) hR2) (MF.sm (SM.tr (SM.rf (addS (newJ x_7.2 ((S 0 0 0).toNatClampNeg) (x_7.2 11 0 p1.toNatClampNeg) p2) 4 (nI ((S 0 0 0).toNatClampNeg + 1)))) (sf_X10_bookAll hx_11)) hF2) hG (fun i h => by simp [h]) (fun i h => mem_k6 h) hX) hw hE (Nat.le_of_ble_eq_true rfl) (Nat.le_of_ble_eq_true rfl) dX10_join_96
        · have hE := (if_neg c_8).symm.trans hE
          refine lv_iconst (v := 0) hx hb dX10_join_59 (by decide) ?_
          exact m_iretG hx hb hr hlocks rfl (GRW.same (MR.sm (SM.tr (SM.tr (SM.tr (SM.rf S) (sf_X10_start hx_1)) (sf_X10_refuse hx_4)) (sf_X10_refuse hx_7)) hR) (MF.sm (SM.tr (SM.tr (SM.tr (SM.rf S) (sf_X10_start hx_1)) (sf_X10_refuse hx_4)) (sf_X10_refuse hx_7)) hF)) hw hE (Nat.le_of_ble_eq_true rfl) (Nat.le_of_ble_eq_true rfl) dX10_join_60
      · have hE := (if_neg c_6).symm.trans hE
        refine lv_aload_n hx hb dX10_join_38 rfl (lv_at hl 0 rfl) ?_
        refine k_get (C := RX10) (T := TX10) (N := 9) (v := .ref (ad 36 0)) hx hb hts inB_X10 hown hK hw (hR.1 30 (by decide) (by decide)) mke_30 rfl 2 (by decide) (hts _ w_f_X10_16) (fun _ h9 => h9) rfl dX10_join_39 ?_
        refine lv_iload_n hx hb dX10_join_42 rfl (lv_at hl 1 rfl) ?_
        by_cases c_12 : p1 < 0 ∨ 4 ≤ p1.toNatClampNeg
        · exact nomatch (if_pos c_12).symm.trans hE
        have hE := (if_neg c_12).symm.trans hE
        refine k_aldi hx hb hK hw (hR.1 36 (by decide) (by decide)) 0 mke_36 rfl (fun z => c_12 (Or.inl z)) rfl (Nat.not_le.mp fun z => c_12 (Or.inr z)) (v := x_4.2 11 0 p1.toNatClampNeg) rfl dX10_join_43 ?_
        have hjc_13 : ∀ bc_13 : Int32, bc_13 = (if x_4.2 11 0 p1.toNatClampNeg = 0 then 1 else 0) → W p l e (headSpec bw_X10_join (rm_X10_join)).room s m args below meth c H locs 0 0 (MQ below (kQg D A v.1 v.2 L ad cI cO K0 ce) args s 168 734 A) (F0 m 52 ls [.int bc_13, .ref (ad 30 0)]) := by
          intro bc_13 hbc_13
          subst hbc_13
          refine lv_iconst (v := 3) hx hb dX10_join_52 (by decide) ?_
          obtain ⟨x_14, hx_14, hE⟩ := ob1 hE
          refine k_ci0 hw (k_rV (f := 30) (o := 0) (As := [.int (if x_4.2 11 0 p1.toNatClampNeg = 0 then 1 else 0), .int 3]) (rest := []) ⟨hx, hb, hml, hown, hts⟩ hK hO hw (ct_X10_refuse (MR.sm (SM.tr (SM.tr (SM.rf S) (sf_X10_start hx_1)) (sf_X10_refuse hx_4)) hR) (SM.ci (SM.tr (SM.tr (SM.rf S) (sf_X10_start hx_1)) (sf_X10_refuse hx_4)) hI) hx_14 _ (wk.hA hw hA)) (cwV 2 hts (gB_V w_ml_X10_39 w_im_X10_refuse w_se_X10_refuse w_in_X10 w_co_X10_refuse) rfl rfl rfl (by decide +kernel) ⟨Nat.le_of_ble_eq_true rfl, Nat.le_of_ble_eq_true rfl⟩) (hR.1 30 (by decide) (by decide)) mke_30 rfl rfl hl.1 rfl (Nat.le_of_ble_eq_true rfl) dX10_join_53 ⟨(Nat.le_of_ble_eq_true rfl), (Nat.le_of_ble_eq_true rfl)⟩) (fun H locs hw => ?_)
          refine lv_if_eq (tgt := 61) hx hb dX10_join_56 (by decide) (fun c_15 => ?_) (fun c_15 => ?_)
          · have hE := (if_pos c_15).symm.trans hE
            refine lv_aload_n hx hb dX10_join_61 rfl (lv_at hl 0 rfl) ?_
            refine k_get (C := RX10) (T := TX10) (N := 9) (v := .ref (ad 35 0)) hx hb hts inB_X10 hown hK hw (hR.1 30 (by decide) (by decide)) mke_30 rfl 7 (by decide) (hts _ w_f_X10_32) (fun _ h9 => h9) rfl dX10_join_62 ?_
            have hRT : MR x_14.2 L cp := MR.sm (SM.tr (SM.tr (SM.tr (SM.rf S) (sf_X10_start hx_1)) (sf_X10_refuse hx_4)) (sf_X10_refuse hx_14)) hR
            have hFT : MF x_14.2 L cp := MF.sm (SM.tr (SM.tr (SM.tr (SM.rf S) (sf_X10_start hx_1)) (sf_X10_refuse hx_4)) (sf_X10_refuse hx_14)) hF
            have hz0 : msz x_14.2 4 = (S 0 0 0).toNatClampNeg := SM.z (SM.tr (SM.tr (SM.tr (SM.rf S) (sf_X10_start hx_1)) (sf_X10_refuse hx_4)) (sf_X10_refuse hx_14)) 4
            have hCT : CI x_14.2 := SM.ci (SM.tr (SM.tr (SM.tr (SM.rf S) (sf_X10_start hx_1)) (sf_X10_refuse hx_4)) (sf_X10_refuse hx_14)) hI
            have hi0 : mszI x_14.2 4 = nI ((S 0 0 0).toNatClampNeg) := (SM.c4 (SM.tr (SM.tr (SM.tr (SM.rf S) (sf_X10_start hx_1)) (sf_X10_refuse hx_4)) (sf_X10_refuse hx_14))).trans (cn_eq hI.2.2.2.2.1)
            have hn : (46, (S 0 0 0).toNatClampNeg) ∉ L := (hF.2.2.2.2.1 46 _ (by decide) (by decide) (Nat.le_refl _))
            refine k_new (C := RX6) (T := TX6) (N := 8) (ci := 9) (fs := [.int 0, .int 0, .null, .null, .null, .null, .null, .int 0]) hx hb hts inB_X6 tyX6 tyX6_ok hown (hts _ w_cl_X10_64) (hts _ w_is_X6) (hts _ w_in_X6) hK hw hA rfl (fun j hj => match j, hj with | 0, _ => rfl | 1, _ => rfl | 2, _ => rfl | 3, _ => rfl | 4, _ => rfl | 5, _ => rfl | 6, _ => rfl | 7, _ => rfl | n + 8, h => absurd h (by omega)) (Nat.le_of_ble_eq_true rfl) (Nat.le_of_ble_eq_true rfl) 46 ((S 0 0 0).toNatClampNeg) hn dX10_join_65 (fun q H hw => ?_)
            rw [upa_eq]
            have hRn := hR.push (i := (46, (S 0 0 0).toNatClampNeg))
            refine lv_dup hx hb dX10_join_68 rfl ?_
            refine lv_aload_n hx hb dX10_join_69 rfl (lv_at hl 0 rfl) ?_
            refine k_get (C := RX10) (T := TX10) (N := 9) (v := .ref (ad 36 0)) hx hb hts inB_X10 hown hK hw (hRn.1 30 (by decide) (by decide)) ((up2_n (by decide)).trans mke_30) rfl 2 (by decide) (hts _ w_f_X10_16) (fun _ h9 => h9) rfl dX10_join_70 ?_
            refine lv_iload_n hx hb dX10_join_73 rfl (lv_at hl 1 rfl) ?_
            refine k_aldi hx hb hK hw (hRn.1 36 (by decide) (by decide)) 0 ((up2_n (by decide)).trans mke_36) rfl (fun z => c_12 (Or.inl z)) rfl (Nat.not_le.mp fun z => c_12 (Or.inr z)) (v := x_14.2 11 0 p1.toNatClampNeg) rfl dX10_join_74 ?_
            refine lv_iload_n hx hb dX10_join_75 rfl (lv_at hl 2 rfl) ?_
            have ct := ct_X6_init (l := l) (D := D) (cI := cI) (cG := cG) (cJ := cJ) (cO := cO) (K0 := K0) (A := A) (L := L ++ [(46, (S 0 0 0).toNatClampNeg)]) (ad := upa ad 46 ((S 0 0 0).toNatClampNeg) q) (ce := up2 (mK cI cO K0 ad cp ce x_14.2) 46 ((S 0 0 0).toNatClampNeg) (.inr (9, [.int 0, .int 0, .null, .null, .null, .null, .null, .int 0]))) (o := ((S 0 0 0).toNatClampNeg)) (v0 := x_14.2 11 0 p1.toNatClampNeg) (v1 := p2) (cp := cp) (M := x_14.2) (a0 := q) (List.mem_append_right _ (List.mem_singleton_self _)) upa_eq up2_eq (nmemf (hF.2.2.2.2.1 47 _ (by decide) (by decide) (Nat.le_refl _)) (by decide)) (nmemf (hF.2.2.2.2.1 48 _ (by decide) (by decide) (Nat.le_refl _)) (by decide)) (nmemf (hF.2.2.2.2.1 49 _ (by decide) (by decide) (Nat.le_refl _)) (by decide)) (nmemf (hF.2.2.2.2.1 50 _ (by decide) (by decide) (Nat.le_refl _)) (by decide)) (nmemf (hF.2.2.2.2.1 51 _ (by decide) (by decide) (Nat.le_refl _)) (by decide)) _ (wk.hA hw hA)
            refine k_cvx hw (k_rI (As := [.int (x_14.2 11 0 p1.toNatClampNeg), .int p2]) (rest := [.ref q, .ref (ad 35 0)]) ⟨hx, hb, hml, hown, hts⟩ hK hO hw ct (cwI 2 hts (gB_0 w_co_X6_init) rfl rfl rfl (hts _ w_in_X6) (hts _ w_ml_X10_244) (hts _ w_im_X6_init) rfl (by decide +kernel) ⟨Nat.le_of_ble_eq_true rfl, Nat.le_of_ble_eq_true rfl⟩) rfl hl.1 rfl (Nat.le_of_ble_eq_true rfl) dX10_join_76 ⟨(Nat.le_of_ble_eq_true rfl), (Nat.le_of_ble_eq_true rfl)⟩) (fun u H locs hE1 hw => ?_)
            have hw := wk.elJ hRT hFT hn (Nat.le_of_eq hz0) hE1 hw
            have hSE : SE x_14.2 (newJ x_14.2 ((S 0 0 0).toNatClampNeg) (x_14.2 11 0 p1.toNatClampNeg) p2) := SE.nj (Nat.le_of_eq hz0)
            have hX : Ex L ad u := Ex.tr (Ex.upa hn) hE1 (fun _ z => List.mem_append_left _ z)
            have hq : u 46 ((S 0 0 0).toNatClampNeg) = q := (hE1 46 _ (List.mem_append_right _ (List.mem_singleton_self _))).trans upa_eq
            have hR1 : MR (newJ x_14.2 ((S 0 0 0).toNatClampNeg) (x_14.2 11 0 p1.toNatClampNeg) p2) (L ++ [(46, (S 0 0 0).toNatClampNeg)] ++ [(47, (S 0 0 0).toNatClampNeg)] ++ [(48, (S 0 0 0).toNatClampNeg)] ++ [(49, (S 0 0 0).toNatClampNeg)] ++ [(50, (S 0 0 0).toNatClampNeg)] ++ [(51, (S 0 0 0).toNatClampNeg)]) cp := (((((MR.se hSE hRT).push).push).push).push).push.push
            by_cases c_16 : 8 ≤ (S 0 0 0).toNatClampNeg
            · exact nomatch (if_pos c_16).symm.trans hE
            have hE := (if_neg c_16).symm.trans hE
            have hz1 : msz (newJ x_14.2 ((S 0 0 0).toNatClampNeg) (x_14.2 11 0 p1.toNatClampNeg) p2) 4 = (S 0 0 0).toNatClampNeg := (SE.z hSE 4).trans hz0
            have hi1 : mszI (newJ x_14.2 ((S 0 0 0).toNatClampNeg) (x_14.2 11 0 p1.toNatClampNeg) p2) 4 = nI ((S 0 0 0).toNatClampNeg) := (SE.zi hSE 4).trans hi0
            have hcap := (hR1.2.2.1 4 (by decide)).1
            rw [hz1] at hcap
            obtain ⟨hz, hnz, hval⟩ := hFT.2.2.2.2.2 4 (by decide)
            refine m_add ⟨hx, hb, hml, hown, hts⟩ hl.1 hK hO hA hw 4 (by decide) hz1 hi1 (by omega) (hR1.1 _ (by decide) (by decide)) hcap hval (fun a => nmemf (nmemf (nmemf (nmemf (nmemf (nmemf (hz a) (by decide)) (by decide)) (by decide)) (by decide)) (by decide)) (by decide)) (fun a => List.mem_append_left _ (List.mem_append_left _ (List.mem_append_left _ (List.mem_append_left _ (List.mem_append_left _ (List.mem_append_left _ (hnz a))))))) (nmemf (nmemf (nmemf (nmemf (nmemf (nmemf (h59) (by decide)) (by decide)) (by decide)) (by decide)) (by decide)) (by decide)) (Or.inl ⟨46, _, 9, _, (RX6, TX6, 8), (by simp), hq, mke_46, rfl, w_ca_X6⟩) (show u 46 ((S 0 0 0).toNatClampNeg) = q from hq) (fun k hk => EL.el hR1 (by decide) (by rw [hz1]; exact hk)) (hX 35 0 (hR.1 35 (by decide) (by decide))) (Nat.le_of_ble_eq_true rfl) (Nat.le_of_ble_eq_true rfl) (Nat.le_of_ble_eq_true rfl) (Nat.le_of_ble_eq_true rfl) (Nat.le_of_ble_eq_true rfl) dX10_join_79 (fun L2 u2 cp2 H locs hG hw => ?_)
            have hR2 : MR (addS (newJ x_14.2 ((S 0 0 0).toNatClampNeg) (x_14.2 11 0 p1.toNatClampNeg) p2) 4 (nI ((S 0 0 0).toNatClampNeg + 1))) L2 cp2 := MR.add hR1 (by decide) hz1 (by omega) hG (fun z => absurd z (by decide)) (fun z => absurd z (by decide)) (fun z => absurd z (by decide)) (fun z => absurd z (by decide)) (fun _ f a b => mem_j a b)
            have hzz : msz (addS (newJ x_14.2 ((S 0 0 0).toNatClampNeg) (x_14.2 11 0 p1.toNatClampNeg) p2) 4 (nI ((S 0 0 0).toNatClampNeg + 1))) 4 = (S 0 0 0).toNatClampNeg + 1 := by rw [addS_z (by decide) (by decide) (by omega), if_pos rfl]
            have hF2 : MF (addS (newJ x_14.2 ((S 0 0 0).toNatClampNeg) (x_14.2 11 0 p1.toNatClampNeg) p2) 4 (nI ((S 0 0 0).toNatClampNeg + 1))) L2 cp2 := MFz.gl (((((((MF.addz hFT hSE (by decide) hz0 (by omega)).push (by decide) (fun z => absurd z (by decide)) (fun z => absurd z (by decide)) (fun z => absurd z (by decide)) (fun z => absurd z (by decide)) (fun _ _ => by rw [hzz]; omega)).push (by decide) (fun z => absurd z (by decide)) (fun z => absurd z (by decide)) (fun z => absurd z (by decide)) (fun z => absurd z (by decide)) (fun _ _ => by rw [hzz]; omega)).push (by decide) (fun z => absurd z (by decide)) (fun z => absurd z (by decide)) (fun z => absurd z (by decide)) (fun z => absurd z (by decide)) (fun _ _ => by rw [hzz]; omega)).push (by decide) (fun z => absurd z (by decide)) (fun z => absurd z (by decide)) (fun z => absurd z (by decide)) (fun z => absurd z (by decide)) (fun _ _ => by rw [hzz]; omega)).push (by decide) (fun z => absurd z (by decide)) (fun z => absurd z (by decide)) (fun z => absurd z (by decide)) (fun z => absurd z (by decide)) (fun _ _ => by rw [hzz]; omega)).push (by decide) (fun z => absurd z (by decide)) (fun z => absurd z (by decide)) (fun z => absurd z (by decide)) (fun z => absurd z (by decide)) (fun _ _ => by rw [hzz]; omega)) (by decide) hG
            have hI2 : CI (addS (newJ x_14.2 ((S 0 0 0).toNatClampNeg) (x_14.2 11 0 p1.toNatClampNeg) p2) 4 (nI ((S 0 0 0).toNatClampNeg + 1))) := CI.add (by decide) (Nat.lt_of_not_le c_16) (SE.ci hSE hCT)
            have e30 : u2 30 0 = ad 30 0 := (hG.2.2.1 30 0 (by decide)).trans (hX 30 0 (hR.1 30 (by decide) (by decide)))
            rw [← e30] at hl
            have hT2 : TL 61 L2 := TL.gl (TL.small (TL.small (TL.small (TL.small (TL.small (TL.small hT (by decide)) (by decide)) (by decide)) (by decide)) (by decide)) (by decide)) (by decide) hG
            refine lv_pop hx hb dX10_join_82 rfl ?_
            refine lv_aload_n hx hb dX10_join_83 rfl (lv_at hl 0 rfl) ?_
            obtain ⟨x_17, hx_17, hE⟩ := ob1 hE
            refine k_cv hw (k_rV (f := 30) (o := 0) (As := []) (rest := []) ⟨hx, hb, hml, hown, hts⟩ hK hO hw (ct_X10_bookAll (MR.sm (SM.rf (addS (newJ x_14.2 ((S 0 0 0).toNatClampNeg) (x_14.2 11 0 p1.toNatClampNeg) p2) 4 (nI ((S 0 0 0).toNatClampNeg + 1)))) hR2) (SM.ci (SM.rf (addS (newJ x_14.2 ((S 0 0 0).toNatClampNeg) (x_14.2 11 0 p1.toNatClampNeg) p2) 4 (nI ((S 0 0 0).toNatClampNeg + 1)))) hI2) (TL.le hT2 (by decide)) hx_17 _ (wk.hA hw hA)) (cwV 0 hts (gB_V w_ml_X10_201 w_im_X10_bookAll w_se_X10_bookAll w_in_X10 w_co_X10_bookAll) rfl rfl rfl (by decide +kernel) ⟨Nat.le_of_ble_eq_true rfl, Nat.le_of_ble_eq_true rfl⟩) (hR2.1 30 (by decide) (by decide)) mke_30 rfl rfl hl.1 rfl (Nat.le_of_ble_eq_true rfl) dX10_join_84 ⟨(Nat.le_of_ble_eq_true rfl), (Nat.le_of_ble_eq_true rfl)⟩) (fun H locs hw => ?_)
            refine lv_aload_n hx hb dX10_join_87 rfl (lv_at hl 0 rfl) ?_
            refine k_get (C := RX10) (T := TX10) (N := 9) (v := .ref (u2 35 0)) hx hb hts inB_X10 hown hK hw (hR2.1 30 (by decide) (by decide)) mke_30 rfl 7 (by decide) (hts _ w_f_X10_32) (fun _ h9 => h9) rfl dX10_join_88 ?_
            refine k_ci0 hw (k_rV (f := 35) (o := 0) (As := []) (rest := []) ⟨hx, hb, hml, hown, hts⟩ hK hO hw (ct_size_4 (SM.tr (SM.rf (addS (newJ x_14.2 ((S 0 0 0).toNatClampNeg) (x_14.2 11 0 p1.toNatClampNeg) p2) 4 (nI ((S 0 0 0).toNatClampNeg + 1)))) (sf_X10_bookAll hx_17)) hR2 _ (wk.hA hw hA)) (cwV 0 hts (gB_V w_ml_X10_43 w_im_Jx4a65c_size_8abf5 w_se_Jx4a65c_size_8abf5 w_in_Jx4a65c w_co_Jx4a65c_size_8abf5) rfl rfl rfl (by decide +kernel) ⟨Nat.le_of_ble_eq_true rfl, Nat.le_of_ble_eq_true rfl⟩) (hR2.1 35 (by decide) (by decide)) (ce_l4 (SM.tr (SM.rf (addS (newJ x_14.2 ((S 0 0 0).toNatClampNeg) (x_14.2 11 0 p1.toNatClampNeg) p2) 4 (nI ((S 0 0 0).toNatClampNeg + 1)))) (sf_X10_bookAll hx_17))) rfl rfl hl.1 rfl (Nat.le_of_ble_eq_true rfl) dX10_join_91 ⟨(Nat.le_of_ble_eq_true rfl), (Nat.le_of_ble_eq_true rfl)⟩) (fun H locs hw => ?_)
            refine lv_iconst (v := 1) hx hb dX10_join_94 (by decide) ?_
            refine lv_isub hx hb dX10_join_95 ?_
            exact m_iretG hx hb hr hlocks rfl (GRW.of (by decide) (MR.sm (SM.tr (SM.rf (addS (newJ x_14.2 ((S 0 0 0).toNatClampNeg) (x_14.2 11 0 p1.toNatClampNeg) p2) 4 (nI ((S 0 0 0).toNatClampNeg + 1)))) (sf_X10_bookAll hx_17)) hR2) (MF.sm (SM.tr (SM.rf (addS (newJ x_14.2 ((S 0 0 0).toNatClampNeg) (x_14.2 11 0 p1.toNatClampNeg) p2) 4 (nI ((S 0 0 0).toNatClampNeg + 1)))) (sf_X10_bookAll hx_17)) hF2) hG (fun i h => by simp [h]) (fun i h => mem_k6 h) hX) hw hE (Nat.le_of_ble_eq_true rfl) (Nat.le_of_ble_eq_true rfl) dX10_join_96
          · have hE := (if_neg c_15).symm.trans hE
            refine lv_iconst (v := 0) hx hb dX10_join_59 (by decide) ?_
            exact m_iretG hx hb hr hlocks rfl (GRW.same (MR.sm (SM.tr (SM.tr (SM.tr (SM.rf S) (sf_X10_start hx_1)) (sf_X10_refuse hx_4)) (sf_X10_refuse hx_14)) hR) (MF.sm (SM.tr (SM.tr (SM.tr (SM.rf S) (sf_X10_start hx_1)) (sf_X10_refuse hx_4)) (sf_X10_refuse hx_14)) hF)) hw hE (Nat.le_of_ble_eq_true rfl) (Nat.le_of_ble_eq_true rfl) dX10_join_60
        refine lv_if_ne (tgt := 51) hx hb dX10_join_44 (by decide) (fun c_13 => ?_) (fun c_13 => ?_)
        · refine lv_iconst (v := 0) hx hb dX10_join_51 (by decide) ?_
          exact hjc_13 _ (if_neg c_13).symm
        · refine lv_iconst (v := 1) hx hb dX10_join_47 (by decide) ?_
          refine lv_goto (tgt := 52) hx hb dX10_join_48 (by decide) ?_
          exact hjc_13 _ (if_pos c_13).symm
