abbrev bw_X5_day : List Cond := .code yX5_day cX5_day 3 (some .int) :: BIG
abbrev rm_X5_day : Room := { frames := 6, cells := 2, slots := 12, locals := 135 }
noncomputable def lp_X5_day_130 : Nat → Nat → (Nat → Nat → Nat → Int32) → (Nat → Nat → Nat → Int32)
  | 0, i, Sx => (Sx)
  | k + 1, i, Sx => lp_X5_day_130 k (i + 1) (sp_X5_takeBackStep Sx i)
theorem lz_lp_X5_day_130 (i : Nat) (Sx : (Nat → Nat → Nat → Int32)) : lp_X5_day_130 0 i Sx = (Sx) := rfl
theorem ls_lp_X5_day_130 (k i : Nat) (Sx : (Nat → Nat → Nat → Int32)) : lp_X5_day_130 (k + 1) i Sx = lp_X5_day_130 k (i + 1) (sp_X5_takeBackStep Sx i) := rfl
theorem sfl_lp_X5_day_130 : ∀ (k i : Nat) (Sx T : (Nat → Nat → Nat → Int32)), SF T Sx → SF T ((lp_X5_day_130 k i Sx)) := by
  intro k
  induction k with
  | zero => intro i Sx T h; exact h
  | succ k ih => 
    intro i Sx T h
    unfold lp_X5_day_130
    exact ih (i + 1) (sp_X5_takeBackStep Sx i) T (SF.tr h (sf_X5_takeBackStep Sx i))

noncomputable def lp_X5_day_101 : Nat → Nat → (Nat → Nat → Nat → Int32) → (Nat → Nat → Nat → Int32)
  | 0, i, Sx => (Sx)
  | k + 1, i, Sx => lp_X5_day_101 k (i + 1) (sp_X5_loseSessions Sx i)
theorem lz_lp_X5_day_101 (i : Nat) (Sx : (Nat → Nat → Nat → Int32)) : lp_X5_day_101 0 i Sx = (Sx) := rfl
theorem ls_lp_X5_day_101 (k i : Nat) (Sx : (Nat → Nat → Nat → Int32)) : lp_X5_day_101 (k + 1) i Sx = lp_X5_day_101 k (i + 1) (sp_X5_loseSessions Sx i) := rfl
theorem sfl_lp_X5_day_101 : ∀ (k i : Nat) (Sx T : (Nat → Nat → Nat → Int32)), SF T Sx → SF T ((lp_X5_day_101 k i Sx)) := by
  intro k
  induction k with
  | zero => intro i Sx T h; exact h
  | succ k ih => 
    intro i Sx T h
    unfold lp_X5_day_101
    exact ih (i + 1) (sp_X5_loseSessions Sx i) T (SF.tr h (sf_X5_loseSessions Sx i))

noncomputable def lp_X5_day_76 : Nat → Nat → (Nat → Nat → Nat → Int32) → (Nat → Nat → Nat → Int32)
  | 0, i, Sx => (Sx)
  | k + 1, i, Sx => lp_X5_day_76 k (i + 1) (sp_X5_beginSteps Sx i)
theorem lz_lp_X5_day_76 (i : Nat) (Sx : (Nat → Nat → Nat → Int32)) : lp_X5_day_76 0 i Sx = (Sx) := rfl
theorem ls_lp_X5_day_76 (k i : Nat) (Sx : (Nat → Nat → Nat → Int32)) : lp_X5_day_76 (k + 1) i Sx = lp_X5_day_76 k (i + 1) (sp_X5_beginSteps Sx i) := rfl
theorem sfl_lp_X5_day_76 : ∀ (k i : Nat) (Sx T : (Nat → Nat → Nat → Int32)), SF T Sx → SF T ((lp_X5_day_76 k i Sx)) := by
  intro k
  induction k with
  | zero => intro i Sx T h; exact h
  | succ k ih => 
    intro i Sx T h
    unfold lp_X5_day_76
    exact ih (i + 1) (sp_X5_beginSteps Sx i) T (SF.tr h (sf_X5_beginSteps Sx i))

noncomputable def lp_X5_day_45 : Nat → Nat → Int32 → (Nat → Nat → Nat → Int32) → Int32 × (Nat → Nat → Nat → Int32)
  | 0, i, v1, Sx => (v1, Sx)
  | k + 1, i, v1, Sx => lp_X5_day_45 k (i + 1) (v1 + ((sp_X1_finishSteps Sx i (Sx 0 0 1)).1)) ((sp_X1_finishSteps Sx i (Sx 0 0 1)).2)
theorem lz_lp_X5_day_45 (i : Nat) (v1 : Int32) (Sx : (Nat → Nat → Nat → Int32)) : lp_X5_day_45 0 i v1 Sx = (v1, Sx) := rfl
theorem ls_lp_X5_day_45 (k i : Nat) (v1 : Int32) (Sx : (Nat → Nat → Nat → Int32)) : lp_X5_day_45 (k + 1) i v1 Sx = lp_X5_day_45 k (i + 1) (v1 + ((sp_X1_finishSteps Sx i (Sx 0 0 1)).1)) ((sp_X1_finishSteps Sx i (Sx 0 0 1)).2) := rfl
theorem sfl_lp_X5_day_45 : ∀ (k i : Nat) (v1 : Int32) (Sx T : (Nat → Nat → Nat → Int32)), SF T Sx → SF T ((lp_X5_day_45 k i v1 Sx).2) := by
  intro k
  induction k with
  | zero => intro i v1 Sx T h; exact h
  | succ k ih => 
    intro i v1 Sx T h
    unfold lp_X5_day_45
    exact ih (i + 1) (v1 + ((sp_X1_finishSteps Sx i (Sx 0 0 1)).1)) ((sp_X1_finishSteps Sx i (Sx 0 0 1)).2) T (SF.tr h (sf_X1_finishSteps Sx i (Sx 0 0 1)))

noncomputable def rw_X5_day (S : (Nat → Nat → Nat → Int32)) : Nat × Int32 × (Nat → Nat → Nat → Int32) := if S 0 0 1 < 199 then ((0, (lp_X5_day_45 ((S 0 0 0).toNatClampNeg) 0 0 (sp_X3_receive (up3 S 0 0 1 ((S 0 0 1) + 1)) ((up3 S 0 0 1 ((S 0 0 1) + 1)) 0 0 1))).1, (lp_X5_day_130 ((S 0 0 0).toNatClampNeg) 0 (sp_X5_bookAll (lp_X5_day_101 ((S 0 0 0).toNatClampNeg) 0 (lp_X5_day_76 ((S 0 0 0).toNatClampNeg) 0 ((lp_X5_day_45 ((S 0 0 0).toNatClampNeg) 0 0 (sp_X3_receive (up3 S 0 0 1 ((S 0 0 1) + 1)) ((up3 S 0 0 1 ((S 0 0 1) + 1)) 0 0 1))).2))))))) else ((3, 0, S))
/-- sealed: it unfolds by un_ alone -/
noncomputable def sp_X5_day : (Nat → Nat → Nat → Int32) → (Nat × Int32 × (Nat → Nat → Nat → Int32)) := Classical.choose (⟨rw_X5_day, rfl⟩ : ∃ f, f = rw_X5_day)
theorem un_X5_day (S : (Nat → Nat → Nat → Int32)) : sp_X5_day S = rw_X5_day S := (congrFun (Classical.choose_spec (⟨rw_X5_day, rfl⟩ : ∃ f, f = rw_X5_day)) S)
set_option maxHeartbeats 1000000 in
set_option maxRecDepth 100000 in
theorem ct_X5_day {l : Launch} {D : va_G} {cI cG cJ cO : ClassId} {K0 : Nat → Nat} {A : Nat → Prop} {L : List (Nat × Nat)} {ad : Nat → Nat → Nat} {ce : Nat → Nat → va_E} (hL : ∀ f o, cid f o = true → (f, o) ∈ L) (S : (Nat → Nat → Nat → Int32)) (hI : CI S) (hst : l.stackTraces = false) (sz : Nat) (hA : ∀ q, sz ≤ q → A q) : vx_Met l yX5_day bw_X5_day rm_X5_day (kP D (ktys cI cG cJ cO) K0 A L ad (cK cI cJ ad ce S) sz [.ref (ad 0 0)]) (va_Qi (fun (r : Int32) (_ : Unit) => r = (sp_X5_day S).2.1 ∧ (sp_X5_day S).1 = 0) (fun _ t => WE D A L ad (cK cI cJ ad ce ((sp_X5_day S).2.2)) t) A) (vx_X (fun (_ : Unit) => True) (fun E _ t => kE E (sp_X5_day S).1 ∧ WE D A L ad (cK cI cJ ad ce S) t) A) 2 12 A := by
  refine vx_ofW (cc := cX5_day) (maxL := 3) (ret := (some .int)) (by decide) rfl ?_
  intro p e s m args below meth c s₁ B hml hexn hv
  obtain ⟨hav, hsz, hP, hD, hK, hO⟩ := hv
  have hx := B.exec
  have hb := B.bytes
  have hr := B.returns
  have hts : ∀ w ∈ BIG, w.before args s = true := fun w h => atoms_spec (ws := bw_X5_day) B.pre w (List.mem_cons_of_mem _ h)
  have hown : s.vm.findClass RX5 = some m.cls := findClass_of_methodNamed B.named
  have hlocks := B.notSynchronized
  subst hsz
  have hw := wk.start hP hD
  refine k_start (by rfl) hav (Nat.le_of_ble_eq_true rfl) (fun ls hl => ?_)
  have hl : lv_has ls 3 [(0, .ref (ad 0 0))] := hl
  have hE : sp_X5_day S = rw_X5_day S := un_X5_day S
  refine lv_aload_n hx hb dX5_day_0 rfl (lv_at hl 0 rfl) ?_
  refine k_get (C := RX5) (T := TX5) (N := 7) (v := .int (S 0 0 1)) hx hb hts inB_X5 hown hK hw (hL 0 0 rfl) cke_0 rfl 6 (by decide) (hts _ w_f_X5_160) (fun _ h9 => h9) rfl dX5_day_1 ?_
  refine lv_sipush (v := 199) hx hb dX5_day_4 (by decide) ?_
  refine lv_icmp_lt (tgt := 20) hx hb dX5_day_7 (by decide) (fun c_1 => ?_) (fun c_1 => ?_)
  · have hE := hE.trans (if_pos c_1)
    refine lv_aload_n hx hb dX5_day_20 rfl (lv_at hl 0 rfl) ?_
    refine lv_dup hx hb dX5_day_21 rfl ?_
    refine k_get (C := RX5) (T := TX5) (N := 7) (v := .int (S 0 0 1)) hx hb hts inB_X5 hown hK hw (hL 0 0 rfl) cke_0 rfl 6 (by decide) (hts _ w_f_X5_160) (fun _ h9 => h9) rfl dX5_day_22 ?_
    refine lv_iconst (v := 1) hx hb dX5_day_25 (by decide) ?_
    refine lv_iadd hx hb dX5_day_26 ?_
    refine k_put (C := RX5) (T := TX5) (N := 7) (v := .int ((S 0 0 1) + 1)) (ty := .int) hx hb hts inB_X5 tyX5 tyX5_ok nmX5 hown hK hw (hL 0 0 rfl) cke_0 rfl 6 (by decide) (hts _ w_f_X5_160) (fun _ h9 => h9) rfl (by decide +kernel) rfl rfl (Nat.le_of_ble_eq_true rfl) (cK_up (i := 1) (x := ((S 0 0 1) + 1)) (by decide) rfl) dX5_day_27 (fun H locs hw => ?_)
    refine lv_aload_n hx hb dX5_day_30 rfl (lv_at hl 0 rfl) ?_
    refine k_get (C := RX5) (T := TX5) (N := 7) (v := .ref (ad 2 0)) hx hb hts inB_X5 hown hK hw (hL 0 0 rfl) cke_0 rfl 1 (by decide) (hts _ w_f_X5_19) (fun _ h9 => h9) rfl dX5_day_31 ?_
    refine lv_aload_n hx hb dX5_day_34 rfl (lv_at hl 0 rfl) ?_
    refine k_get (C := RX5) (T := TX5) (N := 7) (v := .int ((up3 S 0 0 1 ((S 0 0 1) + 1)) 0 0 1)) hx hb hts inB_X5 hown hK hw (hL 0 0 rfl) cke_0 rfl 6 (by decide) (hts _ w_f_X5_160) (fun _ h9 => h9) rfl dX5_day_35 ?_
    refine k_cv0 hw (k_rV (As := [.int ((up3 S 0 0 1 ((S 0 0 1) + 1)) 0 0 1)]) (rest := []) ⟨hx, hb, hml, hown, hts⟩ hK hO hw (ct_X3_receive hL (up3 S 0 0 1 ((S 0 0 1) + 1)) (SF.ci (SF.rf _) (CI.day hI)) ((up3 S 0 0 1 ((S 0 0 1) + 1)) 0 0 1) _ (wk.hA hw hA)) (cwV 1 hts (gB_V w_ml_X5_210 w_im_X3_receive w_se_X3_receive w_in_X3 w_co_X3_receive) rfl rfl rfl (by decide +kernel) ⟨by decide, by decide⟩) (hL 2 0 rfl) cke_2 rfl rfl hl.1 rfl (Nat.le_of_ble_eq_true rfl) dX5_day_38 ⟨Nat.le_of_ble_eq_true rfl, Nat.le_of_ble_eq_true rfl⟩) (fun H locs hw => ?_)
    refine lv_iconst (v := 0) hx hb dX5_day_41 (by decide) ?_
    refine lv_istore_n (lv' := [(1, .int 0), (0, .ref (ad 0 0))]) hx hb dX5_day_42 rfl hl (by decide) rfl (fun ls hl => ?_)
    refine lv_iconst (v := 0) hx hb dX5_day_43 (by decide) ?_
    refine lv_istore_n (lv' := [(2, .int 0), (1, .int 0), (0, .ref (ad 0 0))]) hx hb dX5_day_44 rfl hl (by decide) rfl (fun ls hl => ?_)
    have key_45 : ∀ (k i : Nat) (v1 : Int32) (Sx : (Nat → Nat → Nat → Int32)) (H : Heap) (locs : List Loc) (ls : Array Slot), i + k = (S 0 0 0).toNatClampNeg → SF (up3 S 0 0 1 ((S 0 0 1) + 1)) Sx → (lp_X5_day_45 ((S 0 0 0).toNatClampNeg) 0 0 (sp_X3_receive (up3 S 0 0 1 ((S 0 0 1) + 1)) ((up3 S 0 0 1 ((S 0 0 1) + 1)) 0 0 1))) = lp_X5_day_45 k i v1 Sx → wk D A L ad (cK cI cJ ad ce Sx) s.heap H locs → lv_has ls 3 [(0, .ref (ad 0 0)), (1, .int v1), (2, .int (nI i))] → W p l e (headSpec bw_X5_day rm_X5_day).room s m args below meth c H locs 0 0 (vx_MQ below (va_Qi (fun (r : Int32) (_ : Unit) => r = (sp_X5_day S).2.1 ∧ (sp_X5_day S).1 = 0) (fun _ t => WE D A L ad (cK cI cJ ad ce ((sp_X5_day S).2.2)) t) A) (vx_X (fun (_ : Unit) => True) (fun E _ t => kE E (sp_X5_day S).1 ∧ WE D A L ad (cK cI cJ ad ce S) t) A) args s 2 12 A) (F0 m 45 ls []) := by
      intro k
      induction k with
      | zero =>
        intro i v1 Sx H locs ls hk hsf hV hw hl
        have hV := hV.trans (lz_lp_X5_day_45 i v1 Sx)
        obtain rfl : v1 = (lp_X5_day_45 ((S 0 0 0).toNatClampNeg) 0 0 (sp_X3_receive (up3 S 0 0 1 ((S 0 0 1) + 1)) ((up3 S 0 0 1 ((S 0 0 1) + 1)) 0 0 1))).1 := (congrArg (fun z => z.1) hV).symm
        obtain rfl : Sx = (lp_X5_day_45 ((S 0 0 0).toNatClampNeg) 0 0 (sp_X3_receive (up3 S 0 0 1 ((S 0 0 1) + 1)) ((up3 S 0 0 1 ((S 0 0 1) + 1)) 0 0 1))).2 := (congrArg (fun z => z.2) hV).symm
        refine lv_iload_n hx hb dX5_day_45 rfl (lv_at hl 2 rfl) ?_
        refine lv_aload_n hx hb dX5_day_46 rfl (lv_at hl 0 rfl) ?_
        refine k_get (C := RX5) (T := TX5) (N := 7) (v := .int (((lp_X5_day_45 ((S 0 0 0).toNatClampNeg) 0 0 (sp_X3_receive (up3 S 0 0 1 ((S 0 0 1) + 1)) ((up3 S 0 0 1 ((S 0 0 1) + 1)) 0 0 1))).2) 0 0 0)) hx hb hts inB_X5 hown hK hw (hL 0 0 rfl) cke_0 rfl 5 (by decide) (hts _ w_f_X5_174) (fun _ h9 => h9) rfl dX5_day_47 ?_
        refine lv_icmp_ge (tgt := 74) hx hb dX5_day_50 (by decide) (fun _ => ?_) (fun h => absurd (lp_o (SF.b5 hsf (CI.day hI)) hk (cn_lt _)) h)
        refine lv_iconst (v := 0) hx hb dX5_day_74 (by decide) ?_
        refine lv_istore_n (lv' := [(2, .int 0), (0, .ref (ad 0 0)), (1, .int ((lp_X5_day_45 ((S 0 0 0).toNatClampNeg) 0 0 (sp_X3_receive (up3 S 0 0 1 ((S 0 0 1) + 1)) ((up3 S 0 0 1 ((S 0 0 1) + 1)) 0 0 1))).1))]) hx hb dX5_day_75 rfl hl (by decide) rfl (fun ls hl => ?_)
        have key_76 : ∀ (k i : Nat) (Sx : (Nat → Nat → Nat → Int32)) (H : Heap) (locs : List Loc) (ls : Array Slot), i + k = (S 0 0 0).toNatClampNeg → SF (up3 S 0 0 1 ((S 0 0 1) + 1)) Sx → (lp_X5_day_76 ((S 0 0 0).toNatClampNeg) 0 ((lp_X5_day_45 ((S 0 0 0).toNatClampNeg) 0 0 (sp_X3_receive (up3 S 0 0 1 ((S 0 0 1) + 1)) ((up3 S 0 0 1 ((S 0 0 1) + 1)) 0 0 1))).2)) = lp_X5_day_76 k i Sx → wk D A L ad (cK cI cJ ad ce Sx) s.heap H locs → lv_has ls 3 [(0, .ref (ad 0 0)), (1, .int ((lp_X5_day_45 ((S 0 0 0).toNatClampNeg) 0 0 (sp_X3_receive (up3 S 0 0 1 ((S 0 0 1) + 1)) ((up3 S 0 0 1 ((S 0 0 1) + 1)) 0 0 1))).1)), (2, .int (nI i))] → W p l e (headSpec bw_X5_day rm_X5_day).room s m args below meth c H locs 0 0 (vx_MQ below (va_Qi (fun (r : Int32) (_ : Unit) => r = (sp_X5_day S).2.1 ∧ (sp_X5_day S).1 = 0) (fun _ t => WE D A L ad (cK cI cJ ad ce ((sp_X5_day S).2.2)) t) A) (vx_X (fun (_ : Unit) => True) (fun E _ t => kE E (sp_X5_day S).1 ∧ WE D A L ad (cK cI cJ ad ce S) t) A) args s 2 12 A) (F0 m 76 ls []) := by
          intro k
          induction k with
          | zero =>
            intro i Sx H locs ls hk hsf hV hw hl
            have hV := hV.trans (lz_lp_X5_day_76 i Sx)
            subst hV
            refine lv_iload_n hx hb dX5_day_76 rfl (lv_at hl 2 rfl) ?_
            refine lv_aload_n hx hb dX5_day_77 rfl (lv_at hl 0 rfl) ?_
            refine k_get (C := RX5) (T := TX5) (N := 7) (v := .int ((lp_X5_day_76 ((S 0 0 0).toNatClampNeg) 0 ((lp_X5_day_45 ((S 0 0 0).toNatClampNeg) 0 0 (sp_X3_receive (up3 S 0 0 1 ((S 0 0 1) + 1)) ((up3 S 0 0 1 ((S 0 0 1) + 1)) 0 0 1))).2)) 0 0 0)) hx hb hts inB_X5 hown hK hw (hL 0 0 rfl) cke_0 rfl 5 (by decide) (hts _ w_f_X5_174) (fun _ h9 => h9) rfl dX5_day_78 ?_
            refine lv_icmp_ge (tgt := 99) hx hb dX5_day_81 (by decide) (fun _ => ?_) (fun h => absurd (lp_o (SF.b5 hsf (CI.day hI)) hk (cn_lt _)) h)
            refine lv_iconst (v := 0) hx hb dX5_day_99 (by decide) ?_
            refine lv_istore_n (lv' := [(2, .int 0), (0, .ref (ad 0 0)), (1, .int ((lp_X5_day_45 ((S 0 0 0).toNatClampNeg) 0 0 (sp_X3_receive (up3 S 0 0 1 ((S 0 0 1) + 1)) ((up3 S 0 0 1 ((S 0 0 1) + 1)) 0 0 1))).1))]) hx hb dX5_day_100 rfl hl (by decide) rfl (fun ls hl => ?_)
            have key_101 : ∀ (k i : Nat) (Sx : (Nat → Nat → Nat → Int32)) (H : Heap) (locs : List Loc) (ls : Array Slot), i + k = (S 0 0 0).toNatClampNeg → SF (up3 S 0 0 1 ((S 0 0 1) + 1)) Sx → (lp_X5_day_101 ((S 0 0 0).toNatClampNeg) 0 (lp_X5_day_76 ((S 0 0 0).toNatClampNeg) 0 ((lp_X5_day_45 ((S 0 0 0).toNatClampNeg) 0 0 (sp_X3_receive (up3 S 0 0 1 ((S 0 0 1) + 1)) ((up3 S 0 0 1 ((S 0 0 1) + 1)) 0 0 1))).2))) = lp_X5_day_101 k i Sx → wk D A L ad (cK cI cJ ad ce Sx) s.heap H locs → lv_has ls 3 [(0, .ref (ad 0 0)), (1, .int ((lp_X5_day_45 ((S 0 0 0).toNatClampNeg) 0 0 (sp_X3_receive (up3 S 0 0 1 ((S 0 0 1) + 1)) ((up3 S 0 0 1 ((S 0 0 1) + 1)) 0 0 1))).1)), (2, .int (nI i))] → W p l e (headSpec bw_X5_day rm_X5_day).room s m args below meth c H locs 0 0 (vx_MQ below (va_Qi (fun (r : Int32) (_ : Unit) => r = (sp_X5_day S).2.1 ∧ (sp_X5_day S).1 = 0) (fun _ t => WE D A L ad (cK cI cJ ad ce ((sp_X5_day S).2.2)) t) A) (vx_X (fun (_ : Unit) => True) (fun E _ t => kE E (sp_X5_day S).1 ∧ WE D A L ad (cK cI cJ ad ce S) t) A) args s 2 12 A) (F0 m 101 ls []) := by
              intro k
              induction k with
              | zero =>
                intro i Sx H locs ls hk hsf hV hw hl
                have hV := hV.trans (lz_lp_X5_day_101 i Sx)
                subst hV
                refine lv_iload_n hx hb dX5_day_101 rfl (lv_at hl 2 rfl) ?_
                refine lv_aload_n hx hb dX5_day_102 rfl (lv_at hl 0 rfl) ?_
                refine k_get (C := RX5) (T := TX5) (N := 7) (v := .int ((lp_X5_day_101 ((S 0 0 0).toNatClampNeg) 0 (lp_X5_day_76 ((S 0 0 0).toNatClampNeg) 0 ((lp_X5_day_45 ((S 0 0 0).toNatClampNeg) 0 0 (sp_X3_receive (up3 S 0 0 1 ((S 0 0 1) + 1)) ((up3 S 0 0 1 ((S 0 0 1) + 1)) 0 0 1))).2))) 0 0 0)) hx hb hts inB_X5 hown hK hw (hL 0 0 rfl) cke_0 rfl 5 (by decide) (hts _ w_f_X5_174) (fun _ h9 => h9) rfl dX5_day_103 ?_
                refine lv_icmp_ge (tgt := 124) hx hb dX5_day_106 (by decide) (fun _ => ?_) (fun h => absurd (lp_o (SF.b5 hsf (CI.day hI)) hk (cn_lt _)) h)
                refine lv_aload_n hx hb dX5_day_124 rfl (lv_at hl 0 rfl) ?_
                refine k_cv0 hw (k_rV (As := []) (rest := []) ⟨hx, hb, hml, hown, hts⟩ hK hO hw (ct_X5_bookAll hL (lp_X5_day_101 ((S 0 0 0).toNatClampNeg) 0 (lp_X5_day_76 ((S 0 0 0).toNatClampNeg) 0 ((lp_X5_day_45 ((S 0 0 0).toNatClampNeg) 0 0 (sp_X3_receive (up3 S 0 0 1 ((S 0 0 1) + 1)) ((up3 S 0 0 1 ((S 0 0 1) + 1)) 0 0 1))).2))) (SF.ci hsf (CI.day hI)) _ (wk.hA hw hA)) (cwV 0 hts (gB_V w_ml_X5_136 w_im_X5_bookAll w_se_X5_bookAll w_in_X5 w_co_X5_bookAll) rfl rfl rfl (by decide +kernel) ⟨by decide, by decide⟩) (hL 0 0 rfl) cke_0 rfl rfl hl.1 rfl (Nat.le_of_ble_eq_true rfl) dX5_day_125 ⟨Nat.le_of_ble_eq_true rfl, Nat.le_of_ble_eq_true rfl⟩) (fun H locs hw => ?_)
                refine lv_iconst (v := 0) hx hb dX5_day_128 (by decide) ?_
                refine lv_istore_n (lv' := [(2, .int 0), (0, .ref (ad 0 0)), (1, .int ((lp_X5_day_45 ((S 0 0 0).toNatClampNeg) 0 0 (sp_X3_receive (up3 S 0 0 1 ((S 0 0 1) + 1)) ((up3 S 0 0 1 ((S 0 0 1) + 1)) 0 0 1))).1))]) hx hb dX5_day_129 rfl hl (by decide) rfl (fun ls hl => ?_)
                have key_130 : ∀ (k i : Nat) (Sx : (Nat → Nat → Nat → Int32)) (H : Heap) (locs : List Loc) (ls : Array Slot), i + k = (S 0 0 0).toNatClampNeg → SF (up3 S 0 0 1 ((S 0 0 1) + 1)) Sx → (lp_X5_day_130 ((S 0 0 0).toNatClampNeg) 0 (sp_X5_bookAll (lp_X5_day_101 ((S 0 0 0).toNatClampNeg) 0 (lp_X5_day_76 ((S 0 0 0).toNatClampNeg) 0 ((lp_X5_day_45 ((S 0 0 0).toNatClampNeg) 0 0 (sp_X3_receive (up3 S 0 0 1 ((S 0 0 1) + 1)) ((up3 S 0 0 1 ((S 0 0 1) + 1)) 0 0 1))).2))))) = lp_X5_day_130 k i Sx → wk D A L ad (cK cI cJ ad ce Sx) s.heap H locs → lv_has ls 3 [(0, .ref (ad 0 0)), (1, .int ((lp_X5_day_45 ((S 0 0 0).toNatClampNeg) 0 0 (sp_X3_receive (up3 S 0 0 1 ((S 0 0 1) + 1)) ((up3 S 0 0 1 ((S 0 0 1) + 1)) 0 0 1))).1)), (2, .int (nI i))] → W p l e (headSpec bw_X5_day rm_X5_day).room s m args below meth c H locs 0 0 (vx_MQ below (va_Qi (fun (r : Int32) (_ : Unit) => r = (sp_X5_day S).2.1 ∧ (sp_X5_day S).1 = 0) (fun _ t => WE D A L ad (cK cI cJ ad ce ((sp_X5_day S).2.2)) t) A) (vx_X (fun (_ : Unit) => True) (fun E _ t => kE E (sp_X5_day S).1 ∧ WE D A L ad (cK cI cJ ad ce S) t) A) args s 2 12 A) (F0 m 130 ls []) := by
                  intro k
                  induction k with
                  | zero =>
                    intro i Sx H locs ls hk hsf hV hw hl
                    have hV := hV.trans (lz_lp_X5_day_130 i Sx)
                    subst hV
                    refine lv_iload_n hx hb dX5_day_130 rfl (lv_at hl 2 rfl) ?_
                    refine lv_aload_n hx hb dX5_day_131 rfl (lv_at hl 0 rfl) ?_
                    refine k_get (C := RX5) (T := TX5) (N := 7) (v := .int ((lp_X5_day_130 ((S 0 0 0).toNatClampNeg) 0 (sp_X5_bookAll (lp_X5_day_101 ((S 0 0 0).toNatClampNeg) 0 (lp_X5_day_76 ((S 0 0 0).toNatClampNeg) 0 ((lp_X5_day_45 ((S 0 0 0).toNatClampNeg) 0 0 (sp_X3_receive (up3 S 0 0 1 ((S 0 0 1) + 1)) ((up3 S 0 0 1 ((S 0 0 1) + 1)) 0 0 1))).2))))) 0 0 0)) hx hb hts inB_X5 hown hK hw (hL 0 0 rfl) cke_0 rfl 5 (by decide) (hts _ w_f_X5_174) (fun _ h9 => h9) rfl dX5_day_132 ?_
                    refine lv_icmp_ge (tgt := 153) hx hb dX5_day_135 (by decide) (fun _ => ?_) (fun h => absurd (lp_o (SF.b5 hsf (CI.day hI)) hk (cn_lt _)) h)
                    refine lv_iload_n hx hb dX5_day_153 rfl (lv_at hl 1 rfl) ?_
                    exact x_iretE hx hb hr hlocks rfl hw hE (Nat.le_of_ble_eq_true rfl) (Nat.le_of_ble_eq_true rfl) dX5_day_154
                  | succ k ih =>
                    intro i Sx H locs ls hk hsf hV hw hl
                    have hV := hV.trans (ls_lp_X5_day_130 k i Sx)
                    refine lv_iload_n hx hb dX5_day_130 rfl (lv_at hl 2 rfl) ?_
                    refine lv_aload_n hx hb dX5_day_131 rfl (lv_at hl 0 rfl) ?_
                    refine k_get (C := RX5) (T := TX5) (N := 7) (v := .int (Sx 0 0 0)) hx hb hts inB_X5 hown hK hw (hL 0 0 rfl) cke_0 rfl 5 (by decide) (hts _ w_f_X5_174) (fun _ h9 => h9) rfl dX5_day_132 ?_
                    refine lv_icmp_ge (tgt := 153) hx hb dX5_day_135 (by decide) (fun h => absurd h (lp_i (SF.b5 hsf (CI.day hI)) hk (cn_lt _))) (fun _ => ?_)
                    refine lv_aload_n hx hb dX5_day_138 rfl (lv_at hl 0 rfl) ?_
                    refine lv_aload_n hx hb dX5_day_139 rfl (lv_at hl 0 rfl) ?_
                    refine lv_iload_n hx hb dX5_day_140 rfl (lv_at hl 2 rfl) ?_
                    refine k_cr0 hw (k_rV (As := [.int (nI i)]) (rest := [.ref (ad 0 0)]) ⟨hx, hb, hml, hown, hts⟩ hK hO hw (ct_X5_joinerAt_n hL Sx (SF.ci hsf (CI.day hI)) i (SF.q5 hsf (lp_l hk)) _ (wk.hA hw hA)) (cwV 1 hts (gB_V w_ml_X5_179 w_im_X5_joinerAt w_se_X5_joinerAt w_in_X5 w_co_X5_joinerAt) rfl rfl rfl (by decide +kernel) ⟨by decide, by decide⟩) (hL 0 0 rfl) cke_0 rfl rfl hl.1 rfl (Nat.le_of_ble_eq_true rfl) dX5_day_141 ⟨Nat.le_of_ble_eq_true rfl, Nat.le_of_ble_eq_true rfl⟩) (fun H locs hw => ?_)
                    refine k_cv0 hw (k_rV (As := [.ref (ad 6 i)]) (rest := []) ⟨hx, hb, hml, hown, hts⟩ hK hO hw (ct_X5_takeBackStep hL Sx (SF.ci hsf (CI.day hI)) i (Nat.lt_of_lt_of_le (lp_l hk) (CI.n5 hI)) _ (wk.hA hw hA)) (cwV 1 hts (gB_V w_ml_X5_223 w_im_X5_takeBackStep w_se_X5_takeBackStep w_in_X5 w_co_X5_takeBackStep) rfl rfl rfl (by decide +kernel) ⟨by decide, by decide⟩) (hL 0 0 rfl) cke_0 rfl rfl hl.1 rfl (Nat.le_of_ble_eq_true rfl) dX5_day_144 ⟨Nat.le_of_ble_eq_true rfl, Nat.le_of_ble_eq_true rfl⟩) (fun H locs hw => ?_)
                    refine lv_iinc (v := (nI (i + 1))) (lv' := [(2, .int (nI (i + 1))), (0, .ref (ad 0 0)), (1, .int ((lp_X5_day_45 ((S 0 0 0).toNatClampNeg) 0 0 (sp_X3_receive (up3 S 0 0 1 ((S 0 0 1) + 1)) ((up3 S 0 0 1 ((S 0 0 1) + 1)) 0 0 1))).1))]) hx hb dX5_day_147 hl (k := 2) rfl (nI_1 _) (by decide) rfl (fun ls hl => ?_)
                    refine lv_goto (tgt := 130) hx hb dX5_day_150 (by decide) ?_
                    exact ih (i + 1) (sp_X5_takeBackStep Sx i) _ _ _ (lp_s hk) (SF.tr hsf (sf_X5_takeBackStep Sx i)) hV hw (lv_sub hl [1, 2, 0] rfl)
                exact key_130 ((S 0 0 0).toNatClampNeg) 0 (sp_X5_bookAll (lp_X5_day_101 ((S 0 0 0).toNatClampNeg) 0 (lp_X5_day_76 ((S 0 0 0).toNatClampNeg) 0 ((lp_X5_day_45 ((S 0 0 0).toNatClampNeg) 0 0 (sp_X3_receive (up3 S 0 0 1 ((S 0 0 1) + 1)) ((up3 S 0 0 1 ((S 0 0 1) + 1)) 0 0 1))).2)))) _ _ _ (Nat.zero_add _) (SF.tr hsf (sf_X5_bookAll (lp_X5_day_101 ((S 0 0 0).toNatClampNeg) 0 (lp_X5_day_76 ((S 0 0 0).toNatClampNeg) 0 ((lp_X5_day_45 ((S 0 0 0).toNatClampNeg) 0 0 (sp_X3_receive (up3 S 0 0 1 ((S 0 0 1) + 1)) ((up3 S 0 0 1 ((S 0 0 1) + 1)) 0 0 1))).2))))) rfl hw (lv_sub hl [1, 2, 0] rfl)
              | succ k ih =>
                intro i Sx H locs ls hk hsf hV hw hl
                have hV := hV.trans (ls_lp_X5_day_101 k i Sx)
                refine lv_iload_n hx hb dX5_day_101 rfl (lv_at hl 2 rfl) ?_
                refine lv_aload_n hx hb dX5_day_102 rfl (lv_at hl 0 rfl) ?_
                refine k_get (C := RX5) (T := TX5) (N := 7) (v := .int (Sx 0 0 0)) hx hb hts inB_X5 hown hK hw (hL 0 0 rfl) cke_0 rfl 5 (by decide) (hts _ w_f_X5_174) (fun _ h9 => h9) rfl dX5_day_103 ?_
                refine lv_icmp_ge (tgt := 124) hx hb dX5_day_106 (by decide) (fun h => absurd h (lp_i (SF.b5 hsf (CI.day hI)) hk (cn_lt _))) (fun _ => ?_)
                refine lv_aload_n hx hb dX5_day_109 rfl (lv_at hl 0 rfl) ?_
                refine lv_aload_n hx hb dX5_day_110 rfl (lv_at hl 0 rfl) ?_
                refine lv_iload_n hx hb dX5_day_111 rfl (lv_at hl 2 rfl) ?_
                refine k_cr0 hw (k_rV (As := [.int (nI i)]) (rest := [.ref (ad 0 0)]) ⟨hx, hb, hml, hown, hts⟩ hK hO hw (ct_X5_joinerAt_n hL Sx (SF.ci hsf (CI.day hI)) i (SF.q5 hsf (lp_l hk)) _ (wk.hA hw hA)) (cwV 1 hts (gB_V w_ml_X5_179 w_im_X5_joinerAt w_se_X5_joinerAt w_in_X5 w_co_X5_joinerAt) rfl rfl rfl (by decide +kernel) ⟨by decide, by decide⟩) (hL 0 0 rfl) cke_0 rfl rfl hl.1 rfl (Nat.le_of_ble_eq_true rfl) dX5_day_112 ⟨Nat.le_of_ble_eq_true rfl, Nat.le_of_ble_eq_true rfl⟩) (fun H locs hw => ?_)
                refine k_cv0 hw (k_rV (As := [.ref (ad 6 i)]) (rest := []) ⟨hx, hb, hml, hown, hts⟩ hK hO hw (ct_X5_loseSessions hL Sx (SF.ci hsf (CI.day hI)) i (Nat.lt_of_lt_of_le (lp_l hk) (CI.n5 hI)) _ (wk.hA hw hA)) (cwV 1 hts (gB_V w_ml_X5_220 w_im_X5_loseSessions w_se_X5_loseSessions w_in_X5 w_co_X5_loseSessions) rfl rfl rfl (by decide +kernel) ⟨by decide, by decide⟩) (hL 0 0 rfl) cke_0 rfl rfl hl.1 rfl (Nat.le_of_ble_eq_true rfl) dX5_day_115 ⟨Nat.le_of_ble_eq_true rfl, Nat.le_of_ble_eq_true rfl⟩) (fun H locs hw => ?_)
                refine lv_iinc (v := (nI (i + 1))) (lv' := [(2, .int (nI (i + 1))), (0, .ref (ad 0 0)), (1, .int ((lp_X5_day_45 ((S 0 0 0).toNatClampNeg) 0 0 (sp_X3_receive (up3 S 0 0 1 ((S 0 0 1) + 1)) ((up3 S 0 0 1 ((S 0 0 1) + 1)) 0 0 1))).1))]) hx hb dX5_day_118 hl (k := 2) rfl (nI_1 _) (by decide) rfl (fun ls hl => ?_)
                refine lv_goto (tgt := 101) hx hb dX5_day_121 (by decide) ?_
                exact ih (i + 1) (sp_X5_loseSessions Sx i) _ _ _ (lp_s hk) (SF.tr hsf (sf_X5_loseSessions Sx i)) hV hw (lv_sub hl [1, 2, 0] rfl)
            exact key_101 ((S 0 0 0).toNatClampNeg) 0 (lp_X5_day_76 ((S 0 0 0).toNatClampNeg) 0 ((lp_X5_day_45 ((S 0 0 0).toNatClampNeg) 0 0 (sp_X3_receive (up3 S 0 0 1 ((S 0 0 1) + 1)) ((up3 S 0 0 1 ((S 0 0 1) + 1)) 0 0 1))).2)) _ _ _ (Nat.zero_add _) hsf rfl hw (lv_sub hl [1, 2, 0] rfl)
          | succ k ih =>
            intro i Sx H locs ls hk hsf hV hw hl
            have hV := hV.trans (ls_lp_X5_day_76 k i Sx)
            refine lv_iload_n hx hb dX5_day_76 rfl (lv_at hl 2 rfl) ?_
            refine lv_aload_n hx hb dX5_day_77 rfl (lv_at hl 0 rfl) ?_
            refine k_get (C := RX5) (T := TX5) (N := 7) (v := .int (Sx 0 0 0)) hx hb hts inB_X5 hown hK hw (hL 0 0 rfl) cke_0 rfl 5 (by decide) (hts _ w_f_X5_174) (fun _ h9 => h9) rfl dX5_day_78 ?_
            refine lv_icmp_ge (tgt := 99) hx hb dX5_day_81 (by decide) (fun h => absurd h (lp_i (SF.b5 hsf (CI.day hI)) hk (cn_lt _))) (fun _ => ?_)
            refine lv_aload_n hx hb dX5_day_84 rfl (lv_at hl 0 rfl) ?_
            refine lv_aload_n hx hb dX5_day_85 rfl (lv_at hl 0 rfl) ?_
            refine lv_iload_n hx hb dX5_day_86 rfl (lv_at hl 2 rfl) ?_
            refine k_cr0 hw (k_rV (As := [.int (nI i)]) (rest := [.ref (ad 0 0)]) ⟨hx, hb, hml, hown, hts⟩ hK hO hw (ct_X5_joinerAt_n hL Sx (SF.ci hsf (CI.day hI)) i (SF.q5 hsf (lp_l hk)) _ (wk.hA hw hA)) (cwV 1 hts (gB_V w_ml_X5_179 w_im_X5_joinerAt w_se_X5_joinerAt w_in_X5 w_co_X5_joinerAt) rfl rfl rfl (by decide +kernel) ⟨by decide, by decide⟩) (hL 0 0 rfl) cke_0 rfl rfl hl.1 rfl (Nat.le_of_ble_eq_true rfl) dX5_day_87 ⟨Nat.le_of_ble_eq_true rfl, Nat.le_of_ble_eq_true rfl⟩) (fun H locs hw => ?_)
            refine k_cv0 hw (k_rV (As := [.ref (ad 6 i)]) (rest := []) ⟨hx, hb, hml, hown, hts⟩ hK hO hw (ct_X5_beginSteps hL Sx (SF.ci hsf (CI.day hI)) i (Nat.lt_of_lt_of_le (lp_l hk) (CI.n5 hI)) _ (wk.hA hw hA)) (cwV 1 hts (gB_V w_ml_X5_216 w_im_X5_beginSteps w_se_X5_beginSteps w_in_X5 w_co_X5_beginSteps) rfl rfl rfl (by decide +kernel) ⟨by decide, by decide⟩) (hL 0 0 rfl) cke_0 rfl rfl hl.1 rfl (Nat.le_of_ble_eq_true rfl) dX5_day_90 ⟨Nat.le_of_ble_eq_true rfl, Nat.le_of_ble_eq_true rfl⟩) (fun H locs hw => ?_)
            refine lv_iinc (v := (nI (i + 1))) (lv' := [(2, .int (nI (i + 1))), (0, .ref (ad 0 0)), (1, .int ((lp_X5_day_45 ((S 0 0 0).toNatClampNeg) 0 0 (sp_X3_receive (up3 S 0 0 1 ((S 0 0 1) + 1)) ((up3 S 0 0 1 ((S 0 0 1) + 1)) 0 0 1))).1))]) hx hb dX5_day_93 hl (k := 2) rfl (nI_1 _) (by decide) rfl (fun ls hl => ?_)
            refine lv_goto (tgt := 76) hx hb dX5_day_96 (by decide) ?_
            exact ih (i + 1) (sp_X5_beginSteps Sx i) _ _ _ (lp_s hk) (SF.tr hsf (sf_X5_beginSteps Sx i)) hV hw (lv_sub hl [1, 2, 0] rfl)
        exact key_76 ((S 0 0 0).toNatClampNeg) 0 ((lp_X5_day_45 ((S 0 0 0).toNatClampNeg) 0 0 (sp_X3_receive (up3 S 0 0 1 ((S 0 0 1) + 1)) ((up3 S 0 0 1 ((S 0 0 1) + 1)) 0 0 1))).2) _ _ _ (Nat.zero_add _) hsf rfl hw (lv_sub hl [1, 2, 0] rfl)
      | succ k ih =>
        intro i v1 Sx H locs ls hk hsf hV hw hl
        have hV := hV.trans (ls_lp_X5_day_45 k i v1 Sx)
        refine lv_iload_n hx hb dX5_day_45 rfl (lv_at hl 2 rfl) ?_
        refine lv_aload_n hx hb dX5_day_46 rfl (lv_at hl 0 rfl) ?_
        refine k_get (C := RX5) (T := TX5) (N := 7) (v := .int (Sx 0 0 0)) hx hb hts inB_X5 hown hK hw (hL 0 0 rfl) cke_0 rfl 5 (by decide) (hts _ w_f_X5_174) (fun _ h9 => h9) rfl dX5_day_47 ?_
        refine lv_icmp_ge (tgt := 74) hx hb dX5_day_50 (by decide) (fun h => absurd h (lp_i (SF.b5 hsf (CI.day hI)) hk (cn_lt _))) (fun _ => ?_)
        refine lv_iload_n hx hb dX5_day_53 rfl (lv_at hl 1 rfl) ?_
        refine lv_aload_n hx hb dX5_day_54 rfl (lv_at hl 0 rfl) ?_
        refine lv_iload_n hx hb dX5_day_55 rfl (lv_at hl 2 rfl) ?_
        refine k_cr0 hw (k_rV (As := [.int (nI i)]) (rest := [.int v1]) ⟨hx, hb, hml, hown, hts⟩ hK hO hw (ct_X5_joinerAt_n hL Sx (SF.ci hsf (CI.day hI)) i (SF.q5 hsf (lp_l hk)) _ (wk.hA hw hA)) (cwV 1 hts (gB_V w_ml_X5_179 w_im_X5_joinerAt w_se_X5_joinerAt w_in_X5 w_co_X5_joinerAt) rfl rfl rfl (by decide +kernel) ⟨by decide, by decide⟩) (hL 0 0 rfl) cke_0 rfl rfl hl.1 rfl (Nat.le_of_ble_eq_true rfl) dX5_day_56 ⟨Nat.le_of_ble_eq_true rfl, Nat.le_of_ble_eq_true rfl⟩) (fun H locs hw => ?_)
        refine lv_aload_n hx hb dX5_day_59 rfl (lv_at hl 0 rfl) ?_
        refine k_get (C := RX5) (T := TX5) (N := 7) (v := .int (Sx 0 0 1)) hx hb hts inB_X5 hown hK hw (hL 0 0 rfl) cke_0 rfl 6 (by decide) (hts _ w_f_X5_160) (fun _ h9 => h9) rfl dX5_day_60 ?_
        refine k_ci0 hw (k_rV (As := [.int (Sx 0 0 1)]) (rest := [.int v1]) ⟨hx, hb, hml, hown, hts⟩ hK hO hw (ct_X1_finishSteps hL Sx (SF.ci hsf (CI.day hI)) i (Nat.lt_of_lt_of_le (lp_l hk) (CI.n5 hI)) (Sx 0 0 1) _ (wk.hA hw hA)) (cwV 1 hts (gB_V w_ml_X5_213 w_im_X1_finishSteps w_se_X1_finishSteps w_in_X1 w_co_X1_finishSteps) rfl rfl rfl (by decide +kernel) ⟨by decide, by decide⟩) (hL 6 i (cidJ6 (Nat.lt_of_lt_of_le (lp_l hk) (CI.n5 hI)))) cke_6 rfl rfl hl.1 rfl (Nat.le_of_ble_eq_true rfl) dX5_day_63 ⟨Nat.le_of_ble_eq_true rfl, Nat.le_of_ble_eq_true rfl⟩) (fun H locs hw => ?_)
        refine lv_iadd hx hb dX5_day_66 ?_
        refine lv_istore_n (lv' := [(1, .int (v1 + ((sp_X1_finishSteps Sx i (Sx 0 0 1)).1))), (0, .ref (ad 0 0)), (2, .int (nI i))]) hx hb dX5_day_67 rfl hl (by decide) rfl (fun ls hl => ?_)
        refine lv_iinc (v := (nI (i + 1))) (lv' := [(2, .int (nI (i + 1))), (1, .int (v1 + ((sp_X1_finishSteps Sx i (Sx 0 0 1)).1))), (0, .ref (ad 0 0))]) hx hb dX5_day_68 hl (k := 2) rfl (nI_1 _) (by decide) rfl (fun ls hl => ?_)
        refine lv_goto (tgt := 45) hx hb dX5_day_71 (by decide) ?_
        exact ih (i + 1) (v1 + ((sp_X1_finishSteps Sx i (Sx 0 0 1)).1)) ((sp_X1_finishSteps Sx i (Sx 0 0 1)).2) _ _ _ (lp_s hk) (SF.tr hsf (sf_X1_finishSteps Sx i (Sx 0 0 1))) hV hw (lv_sub hl [2, 1, 0] rfl)
    exact key_45 ((S 0 0 0).toNatClampNeg) 0 0 (sp_X3_receive (up3 S 0 0 1 ((S 0 0 1) + 1)) ((up3 S 0 0 1 ((S 0 0 1) + 1)) 0 0 1)) _ _ _ (Nat.zero_add _) (SF.tr (SF.rf _) (sf_X3_receive (up3 S 0 0 1 ((S 0 0 1) + 1)) ((up3 S 0 0 1 ((S 0 0 1) + 1)) 0 0 1))) rfl hw (lv_sub hl [2, 1, 0] rfl)
  · have hE := hE.trans (if_neg c_1)
    obtain ⟨sa, hsa⟩ := hO.2.1 (RX5, 208, "it is the last DAY") (by decide +kernel)
    exact k_throw hx hb hst hown (by decide +kernel) (by decide +kernel) (hts _ w_cl_X5_69) (hts _ w_in_java_lang_IllegalStateException) hsa (xh_3 hts hO.2.2.1) xg_3 hO hw hl.1 hml dX5_day_10 dX5_day_13 dX5_day_14 dX5_day_16 dX5_day_19 hexn (Nat.le_of_ble_eq_true rfl) (Nat.le_of_ble_eq_true rfl) (Nat.le_of_ble_eq_true rfl) (Nat.le_of_ble_eq_true rfl) hlocks (by rw [hE]; exact kE_3) (Nat.le_of_ble_eq_true rfl) (Nat.le_of_ble_eq_true rfl)
