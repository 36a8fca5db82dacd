abbrev bw_X5_leave : List Cond := .code yX5_leave cX5_leave 4 (some .int) :: BIG
abbrev rm_X5_leave : Room := { frames := 7, cells := 2, slots := 12, locals := 135 }
noncomputable def lp_X5_leave_30 (S : (Nat → Nat → Nat → Int32)) (p1 : Int32) : Nat → Nat → (Nat → Nat → Nat → Int32) → (Nat → Nat → Nat → Int32)
  | 0, i, Sx => (Sx)
  | k + 1, i, Sx => if Sx 24 ((sp_X5_joinerAt S p1).2) i = 0 then (lp_X5_leave_30 S p1 k (i + 1) (up3 (sp_X4_release Sx (Sx 27 ((sp_X5_joinerAt S p1).2) i)) 27 ((sp_X5_joinerAt S p1).2) i (-1))) else (lp_X5_leave_30 S p1 k (i + 1) Sx)
theorem lz_lp_X5_leave_30 (S : (Nat → Nat → Nat → Int32)) (p1 : Int32) (i : Nat) (Sx : (Nat → Nat → Nat → Int32)) : lp_X5_leave_30 S p1 0 i Sx = (Sx) := rfl
theorem sfl_lp_X5_leave_30 (S : (Nat → Nat → Nat → Int32)) (p1 : Int32) : ∀ (k i : Nat) (Sx T : (Nat → Nat → Nat → Int32)), SF T Sx → SF T ((lp_X5_leave_30 S p1 k i Sx)) := by
  intro k
  induction k with
  | zero => intro i Sx T h; exact h
  | succ k ih => 
    intro i Sx T h
    unfold lp_X5_leave_30
    by_cases q_4 : Sx 24 ((sp_X5_joinerAt S p1).2) i = 0
    · rw [if_pos q_4]
      exact ih (i + 1) (up3 (sp_X4_release Sx (Sx 27 ((sp_X5_joinerAt S p1).2) i)) 27 ((sp_X5_joinerAt S p1).2) i (-1)) T (SF.up (by decide) (SF.tr h (sf_X4_release Sx (Sx 27 ((sp_X5_joinerAt S p1).2) i))))
    · rw [if_neg q_4]
      exact ih (i + 1) Sx T h

noncomputable def rw_X5_leave (S : (Nat → Nat → Nat → Int32)) (p1 : Int32) : Nat × Int32 × (Nat → Nat → Nat → Int32) := if (sp_X5_joinerAt S p1).1 = 0 then (if S 6 ((sp_X5_joinerAt S p1).2) 2 = 0 then ((0, (sp_X1_countIn (sp_X5_bookAll (lp_X5_leave_30 S p1 12 0 (up3 S 6 ((sp_X5_joinerAt S p1).2) 2 1))) ((sp_X5_joinerAt S p1).2) 1) + (sp_X1_countIn (sp_X5_bookAll (lp_X5_leave_30 S p1 12 0 (up3 S 6 ((sp_X5_joinerAt S p1).2) 2 1))) ((sp_X5_joinerAt S p1).2) 2), (sp_X5_bookAll (lp_X5_leave_30 S p1 12 0 (up3 S 6 ((sp_X5_joinerAt S p1).2) 2 1))))) else ((3, 0, S))) else (((sp_X5_joinerAt S p1).1, 0, S))
/-- sealed: it unfolds by un_ alone -/
noncomputable def sp_X5_leave : (Nat → Nat → Nat → Int32) → Int32 → (Nat × Int32 × (Nat → Nat → Nat → Int32)) := Classical.choose (⟨rw_X5_leave, rfl⟩ : ∃ f, f = rw_X5_leave)
theorem un_X5_leave (S : (Nat → Nat → Nat → Int32)) (p1 : Int32) : sp_X5_leave S p1 = rw_X5_leave S p1 := (congrFun (congrFun (Classical.choose_spec (⟨rw_X5_leave, rfl⟩ : ∃ f, f = rw_X5_leave)) S) p1)
set_option maxHeartbeats 1000000 in
set_option maxRecDepth 100000 in
theorem ct_X5_leave {l : Launch} {D : va_G} {cI cG cJ cO : ClassId} {K0 : Nat → Nat} {A : Nat → Prop} {L : List (Nat × Nat)} {ad : Nat → Nat → Nat} {ce : Nat → Nat → va_E} (hL : ∀ f o, cid f o = true → (f, o) ∈ L) (S : (Nat → Nat → Nat → Int32)) (hI : CI S) (p1 : Int32) (hst : l.stackTraces = false) (sz : Nat) (hA : ∀ q, sz ≤ q → A q) : vx_Met l yX5_leave bw_X5_leave rm_X5_leave (kP D (ktys cI cG cJ cO) K0 A L ad (cK cI cJ ad ce S) sz [.ref (ad 0 0), .int p1]) (va_Qi (fun (r : Int32) (_ : Unit) => r = (sp_X5_leave S p1).2.1 ∧ (sp_X5_leave S p1).1 = 0) (fun _ t => WE D A L ad (cK cI cJ ad ce ((sp_X5_leave S p1).2.2)) t) A) (vx_X (fun (_ : Unit) => True) (fun E _ t => kE E (sp_X5_leave S p1).1 ∧ WE D A L ad (cK cI cJ ad ce S) t) A) 2 12 A := by
  refine vx_ofW (cc := cX5_leave) (maxL := 4) (ret := (some .int)) (by decide) rfl ?_
  intro p e s m args below meth c s₁ B hml hexn hv
  obtain ⟨hav, hsz, hP, hD, hK, hO⟩ := hv
  have hx := B.exec
  have hb := B.bytes
  have hr := B.returns
  have hts : ∀ w ∈ BIG, w.before args s = true := fun w h => atoms_spec (ws := bw_X5_leave) B.pre w (List.mem_cons_of_mem _ h)
  have hown : s.vm.findClass RX5 = some m.cls := findClass_of_methodNamed B.named
  have hlocks := B.notSynchronized
  subst hsz
  have hw := wk.start hP hD
  refine k_start (by rfl) hav (Nat.le_of_ble_eq_true rfl) (fun ls hl => ?_)
  have hl : lv_has ls 4 [(0, .ref (ad 0 0)), (1, .int p1)] := hl
  have hE : sp_X5_leave S p1 = rw_X5_leave S p1 := un_X5_leave S p1
  refine lv_aload_n hx hb dX5_leave_0 rfl (lv_at hl 0 rfl) ?_
  refine lv_iload_n hx hb dX5_leave_1 rfl (lv_at hl 1 rfl) ?_
  refine x_cq hw (x_rV (As := [.int p1]) (rest := []) ⟨hx, hb, hml, hown, hts⟩ hK hO hw (ct_X5_joinerAt hL S (SF.ci (SF.rf _) hI) p1 hst _ (wk.hA hw hA)) (cwV 1 hts (gB_V w_ml_X5_179 w_im_X5_joinerAt w_se_X5_joinerAt w_in_X5 w_co_X5_joinerAt) rfl rfl rfl (by decide +kernel) ⟨by decide, by decide⟩) (hL 0 0 rfl) cke_0 rfl rfl hl.1 rfl (Nat.le_of_ble_eq_true rfl) dX5_leave_2 ⟨Nat.le_of_ble_eq_true rfl, Nat.le_of_ble_eq_true rfl⟩) (fun E cx q9 H locs hx9 hw hcx hvx hclx => ?_) (fun H locs x_1 hw => ?_)
  · have hE := hE.trans (if_neg hx9.ne)
    exact x_out hexn hlocks hw hcx hvx hclx (by rw [hE]; exact hx9) (Nat.le_of_ble_eq_true rfl) (Nat.le_of_ble_eq_true rfl)
  · have hE := hE.trans (if_pos x_1)
    refine lv_astore_n (lv' := [(2, .ref (ad 6 ((sp_X5_joinerAt S p1).2))), (0, .ref (ad 0 0)), (1, .int p1)]) hx hb dX5_leave_5 rfl hl (by decide) rfl (fun ls hl => ?_)
    refine lv_aload_n hx hb dX5_leave_6 rfl (lv_at hl 0 rfl) ?_
    refine k_get (C := RX1) (T := TX1) (N := 8) (v := .int (S 6 ((sp_X5_joinerAt S p1).2) 2)) hx hb hts inB_X1 hown hK hw (hL 6 ((sp_X5_joinerAt S p1).2) (cidJ6 (jn_ok x_1))) cke_6 rfl 7 (by decide) (hts _ w_f_X5_189) (fun _ h9 => h9) rfl dX5_leave_7 ?_
    refine lv_if_eq (tgt := 23) hx hb dX5_leave_10 (by decide) (fun c_2 => ?_) (fun c_2 => ?_)
    · have hE := hE.trans (if_pos c_2)
      refine lv_aload_n hx hb dX5_leave_23 rfl (lv_at hl 0 rfl) ?_
      refine lv_iconst (v := 1) hx hb dX5_leave_24 (by decide) ?_
      refine k_put (C := RX1) (T := TX1) (N := 8) (v := .int 1) (ty := .boolean) hx hb hts inB_X1 tyX1 tyX1_ok nmX1 hown hK hw (hL 6 ((sp_X5_joinerAt S p1).2) (cidJ6 (jn_ok x_1))) cke_6 rfl 7 (by decide) (hts _ w_f_X5_189) (fun _ h9 => h9) rfl (by decide +kernel) rfl rfl (Nat.le_of_ble_eq_true rfl) (cK_up (i := 2) (x := 1) (by decide) rfl) dX5_leave_25 (fun H locs hw => ?_)
      refine lv_iconst (v := 0) hx hb dX5_leave_28 (by decide) ?_
      refine lv_istore_n (lv' := [(3, .int 0), (2, .ref (ad 6 ((sp_X5_joinerAt S p1).2))), (0, .ref (ad 0 0)), (1, .int p1)]) hx hb dX5_leave_29 rfl hl (by decide) rfl (fun ls hl => ?_)
      have key_30 : ∀ (k i : Nat) (Sx : (Nat → Nat → Nat → Int32)) (H : Heap) (locs : List Loc) (ls : Array Slot), i + k = 12 → SF S Sx → (lp_X5_leave_30 S p1 12 0 (up3 S 6 ((sp_X5_joinerAt S p1).2) 2 1)) = lp_X5_leave_30 S p1 k i Sx → wk D A L ad (cK cI cJ ad ce Sx) s.heap H locs → lv_has ls 4 [(0, .ref (ad 0 0)), (1, .int p1), (2, .ref (ad 6 ((sp_X5_joinerAt S p1).2))), (3, .int (nI i))] → W p l e (headSpec bw_X5_leave rm_X5_leave).room s m args below meth c H locs 1 6 (vx_MQ below (va_Qi (fun (r : Int32) (_ : Unit) => r = (sp_X5_leave S p1).2.1 ∧ (sp_X5_leave S p1).1 = 0) (fun _ t => WE D A L ad (cK cI cJ ad ce ((sp_X5_leave S p1).2.2)) t) A) (vx_X (fun (_ : Unit) => True) (fun E _ t => kE E (sp_X5_leave S p1).1 ∧ WE D A L ad (cK cI cJ ad ce S) t) A) args s 2 12 A) (F0 m 30 ls []) := by
        intro k
        induction k with
        | zero =>
          intro i Sx H locs ls hk hsf hV hw hl
          have hV := hV.trans (lz_lp_X5_leave_30 S p1 i Sx)
          subst hV
          refine lv_iload_n hx hb dX5_leave_30 rfl (lv_at hl 3 rfl) ?_
          refine lv_bipush (v := 12) hx hb dX5_leave_31 (by decide) ?_
          refine lv_icmp_ge (tgt := 71) hx hb dX5_leave_33 (by decide) (fun _ => ?_) (fun h => absurd (lp_o rfl hk (by decide)) h)
          refine lv_aload_n hx hb dX5_leave_71 rfl (lv_at hl 0 rfl) ?_
          refine k_cv0 hw (k_rV (As := []) (rest := []) ⟨hx, hb, hml, hown, hts⟩ hK hO hw (ct_X5_bookAll hL (lp_X5_leave_30 S p1 12 0 (up3 S 6 ((sp_X5_joinerAt S p1).2) 2 1)) (SF.ci hsf hI) _ (wk.hA hw hA)) (cwV 0 hts (gB_V w_ml_X5_136 w_im_X5_bookAll w_se_X5_bookAll w_in_X5 w_co_X5_bookAll) rfl rfl rfl (by decide +kernel) ⟨by decide, by decide⟩) (hL 0 0 rfl) cke_0 rfl rfl hl.1 rfl (Nat.le_of_ble_eq_true rfl) dX5_leave_72 ⟨Nat.le_of_ble_eq_true rfl, Nat.le_of_ble_eq_true rfl⟩) (fun H locs hw => ?_)
          refine lv_aload_n hx hb dX5_leave_75 rfl (lv_at hl 2 rfl) ?_
          refine lv_iconst (v := 1) hx hb dX5_leave_76 (by decide) ?_
          refine k_ci0 hw (k_rV (As := [.int 1]) (rest := []) ⟨hx, hb, hml, hown, hts⟩ hK hO hw (ct_X1_countIn hL (sp_X5_bookAll (lp_X5_leave_30 S p1 12 0 (up3 S 6 ((sp_X5_joinerAt S p1).2) 2 1))) (SF.ci (SF.tr hsf (sf_X5_bookAll (lp_X5_leave_30 S p1 12 0 (up3 S 6 ((sp_X5_joinerAt S p1).2) 2 1)))) hI) ((sp_X5_joinerAt S p1).2) (jn_ok x_1) 1 _ (wk.hA hw hA)) (cwV 1 hts (gB_V w_ml_X5_205 w_im_X1_countIn w_se_X1_countIn w_in_X1 w_co_X1_countIn) rfl rfl rfl (by decide +kernel) ⟨by decide, by decide⟩) (hL 6 ((sp_X5_joinerAt S p1).2) (cidJ6 (jn_ok x_1))) cke_6 rfl rfl hl.1 rfl (Nat.le_of_ble_eq_true rfl) dX5_leave_77 ⟨Nat.le_of_ble_eq_true rfl, Nat.le_of_ble_eq_true rfl⟩) (fun H locs hw => ?_)
          refine lv_aload_n hx hb dX5_leave_80 rfl (lv_at hl 2 rfl) ?_
          refine lv_iconst (v := 2) hx hb dX5_leave_81 (by decide) ?_
          refine k_ci0 hw (k_rV (As := [.int 2]) (rest := [.int (sp_X1_countIn (sp_X5_bookAll (lp_X5_leave_30 S p1 12 0 (up3 S 6 ((sp_X5_joinerAt S p1).2) 2 1))) ((sp_X5_joinerAt S p1).2) 1)]) ⟨hx, hb, hml, hown, hts⟩ hK hO hw (ct_X1_countIn hL (sp_X5_bookAll (lp_X5_leave_30 S p1 12 0 (up3 S 6 ((sp_X5_joinerAt S p1).2) 2 1))) (SF.ci (SF.tr hsf (sf_X5_bookAll (lp_X5_leave_30 S p1 12 0 (up3 S 6 ((sp_X5_joinerAt S p1).2) 2 1)))) hI) ((sp_X5_joinerAt S p1).2) (jn_ok x_1) 2 _ (wk.hA hw hA)) (cwV 1 hts (gB_V w_ml_X5_205 w_im_X1_countIn w_se_X1_countIn w_in_X1 w_co_X1_countIn) rfl rfl rfl (by decide +kernel) ⟨by decide, by decide⟩) (hL 6 ((sp_X5_joinerAt S p1).2) (cidJ6 (jn_ok x_1))) cke_6 rfl rfl hl.1 rfl (Nat.le_of_ble_eq_true rfl) dX5_leave_82 ⟨Nat.le_of_ble_eq_true rfl, Nat.le_of_ble_eq_true rfl⟩) (fun H locs hw => ?_)
          refine lv_iadd hx hb dX5_leave_85 ?_
          exact x_iretE hx hb hr hlocks rfl hw hE (Nat.le_of_ble_eq_true rfl) (Nat.le_of_ble_eq_true rfl) dX5_leave_86
        | succ k ih =>
          intro i Sx H locs ls hk hsf hV hw hl
          refine lv_iload_n hx hb dX5_leave_30 rfl (lv_at hl 3 rfl) ?_
          refine lv_bipush (v := 12) hx hb dX5_leave_31 (by decide) ?_
          refine lv_icmp_ge (tgt := 71) hx hb dX5_leave_33 (by decide) (fun h => absurd h (lp_i rfl hk (by decide))) (fun _ => ?_)
          refine lv_aload_n hx hb dX5_leave_36 rfl (lv_at hl 2 rfl) ?_
          refine k_get (C := RX1) (T := TX1) (N := 8) (v := .ref (ad 24 ((sp_X5_joinerAt S p1).2))) hx hb hts inB_X1 hown hK hw (hL 6 ((sp_X5_joinerAt S p1).2) (cidJ6 (jn_ok x_1))) cke_6 rfl 0 (by decide) (hts _ w_f_X5_195) (fun _ h9 => h9) rfl dX5_leave_37 ?_
          refine lv_iload_n hx hb dX5_leave_40 rfl (lv_at hl 3 rfl) ?_
          refine k_aldn hx hb hK hw (hL 24 ((sp_X5_joinerAt S p1).2) (cidJ24 (jn_ok x_1))) 0 cke_24 rfl (lp_l hk) (by decide) dX5_leave_41 ?_
          refine lv_if_ne (tgt := 65) hx hb dX5_leave_42 (by decide) (fun c_3 => ?_) (fun c_3 => ?_)
          · have hV := hV.trans (if_neg c_3)
            refine lv_iinc (v := (nI (i + 1))) (lv' := [(3, .int (nI (i + 1))), (0, .ref (ad 0 0)), (1, .int p1), (2, .ref (ad 6 ((sp_X5_joinerAt S p1).2)))]) hx hb dX5_leave_65 hl (k := 3) rfl (nI_1 _) (by decide) rfl (fun ls hl => ?_)
            refine lv_goto (tgt := 30) hx hb dX5_leave_68 (by decide) ?_
            exact ih (i + 1) Sx _ _ _ (lp_s hk) hsf hV hw (lv_sub hl [1, 2, 3, 0] rfl)
          · have hV := hV.trans (if_pos c_3)
            refine lv_aload_n hx hb dX5_leave_45 rfl (lv_at hl 0 rfl) ?_
            refine k_get (C := RX5) (T := TX5) (N := 7) (v := .ref (ad 3 0)) hx hb hts inB_X5 hown hK hw (hL 0 0 rfl) cke_0 rfl 2 (by decide) (hts _ w_f_X5_26) (fun _ h9 => h9) rfl dX5_leave_46 ?_
            refine lv_aload_n hx hb dX5_leave_49 rfl (lv_at hl 2 rfl) ?_
            refine k_get (C := RX1) (T := TX1) (N := 8) (v := .ref (ad 27 ((sp_X5_joinerAt S p1).2))) hx hb hts inB_X1 hown hK hw (hL 6 ((sp_X5_joinerAt S p1).2) (cidJ6 (jn_ok x_1))) cke_6 rfl 3 (by decide) (hts _ w_f_X5_198) (fun _ h9 => h9) rfl dX5_leave_50 ?_
            refine lv_iload_n hx hb dX5_leave_53 rfl (lv_at hl 3 rfl) ?_
            refine k_aldn hx hb hK hw (hL 27 ((sp_X5_joinerAt S p1).2) (cidJ27 (jn_ok x_1))) 0 cke_27 rfl (lp_l hk) (by decide) dX5_leave_54 ?_
            refine k_cv0 hw (k_rV (As := [.int (Sx 27 ((sp_X5_joinerAt S p1).2) i)]) (rest := []) ⟨hx, hb, hml, hown, hts⟩ hK hO hw (ct_X4_release hL Sx (SF.ci hsf hI) (Sx 27 ((sp_X5_joinerAt S p1).2) i) _ (wk.hA hw hA)) (cwV 1 hts (gB_V w_ml_X5_201 w_im_X4_release w_se_X4_release w_in_X4 w_co_X4_release) rfl rfl rfl (by decide +kernel) ⟨by decide, by decide⟩) (hL 3 0 rfl) cke_3 rfl rfl hl.1 rfl (Nat.le_of_ble_eq_true rfl) dX5_leave_55 ⟨Nat.le_of_ble_eq_true rfl, Nat.le_of_ble_eq_true rfl⟩) (fun H locs hw => ?_)
            refine lv_aload_n hx hb dX5_leave_58 rfl (lv_at hl 2 rfl) ?_
            refine k_get (C := RX1) (T := TX1) (N := 8) (v := .ref (ad 27 ((sp_X5_joinerAt S p1).2))) hx hb hts inB_X1 hown hK hw (hL 6 ((sp_X5_joinerAt S p1).2) (cidJ6 (jn_ok x_1))) cke_6 rfl 3 (by decide) (hts _ w_f_X5_198) (fun _ h9 => h9) rfl dX5_leave_59 ?_
            refine lv_iload_n hx hb dX5_leave_62 rfl (lv_at hl 3 rfl) ?_
            refine lv_iconst (v := (-1)) hx hb dX5_leave_63 (by decide) ?_
            refine k_astn hx hb hK hw (hL 27 ((sp_X5_joinerAt S p1).2) (cidJ27 (jn_ok x_1))) 0 cke_27 rfl (lp_l hk) (by decide) (cK_up (i := i) (x := (-1)) (by decide) rfl) dX5_leave_64 (fun H locs hw => ?_)
            refine lv_iinc (v := (nI (i + 1))) (lv' := [(3, .int (nI (i + 1))), (0, .ref (ad 0 0)), (1, .int p1), (2, .ref (ad 6 ((sp_X5_joinerAt S p1).2)))]) hx hb dX5_leave_65 hl (k := 3) rfl (nI_1 _) (by decide) rfl (fun ls hl => ?_)
            refine lv_goto (tgt := 30) hx hb dX5_leave_68 (by decide) ?_
            exact ih (i + 1) (up3 (sp_X4_release Sx (Sx 27 ((sp_X5_joinerAt S p1).2) i)) 27 ((sp_X5_joinerAt S p1).2) i (-1)) _ _ _ (lp_s hk) (SF.up (by decide) (SF.tr hsf (sf_X4_release Sx (Sx 27 ((sp_X5_joinerAt S p1).2) i)))) hV hw (lv_sub hl [1, 2, 3, 0] rfl)
      exact key_30 12 0 (up3 S 6 ((sp_X5_joinerAt S p1).2) 2 1) _ _ _ (Nat.zero_add _) (SF.up (by decide) (SF.rf _)) rfl hw (lv_sub hl [2, 3, 1, 0] rfl)
    · have hE := hE.trans (if_neg c_2)
      obtain ⟨sa, hsa⟩ := hO.2.1 (RX5, 193, "it has LEFT") (by decide +kernel)
      exact k_throw hx hb hst hown (by decide +kernel) (by decide +kernel) (hts _ w_cl_X5_69) (hts _ w_in_java_lang_IllegalStateException) hsa (xh_3 hts hO.2.2.1) xg_3 hO hw hl.1 hml dX5_leave_13 dX5_leave_16 dX5_leave_17 dX5_leave_19 dX5_leave_22 hexn (Nat.le_of_ble_eq_true rfl) (Nat.le_of_ble_eq_true rfl) (Nat.le_of_ble_eq_true rfl) (Nat.le_of_ble_eq_true rfl) hlocks (by rw [hE]; exact kE_3) (Nat.le_of_ble_eq_true rfl) (Nat.le_of_ble_eq_true rfl)
