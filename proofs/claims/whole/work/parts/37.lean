abbrev bw_X5_meanDays : List Cond := .code yX5_meanDays cX5_meanDays 6 (some .double) :: BIG
abbrev rm_X5_meanDays : Room := { frames := 5, cells := 0, slots := 0, locals := 116 }
noncomputable def lp_X5_meanDays_6 : Nat → Nat → Int32 → Int32 → (Nat → Nat → Nat → Int32) → Int32 × Int32 × (Nat → Nat → Nat → Int32)
  | 0, i, v1, v2, Sx => (v1, v2, Sx)
  | k + 1, i, v1, v2, Sx => if sp_X0_greatestEnd (sp_X0_foresee Sx i (Sx 0 0 1) (-1) 0) ((sp_X0_foresee Sx i (Sx 0 0 1) (-1) 0) 6 i 0) = (-1) then (lp_X5_meanDays_6 k (i + 1) v1 v2 (sp_X0_foresee Sx i (Sx 0 0 1) (-1) 0)) else (lp_X5_meanDays_6 k (i + 1) (v1 + ((sp_X0_greatestEnd (sp_X0_foresee Sx i (Sx 0 0 1) (-1) 0) ((sp_X0_foresee Sx i (Sx 0 0 1) (-1) 0) 6 i 0)) - ((sp_X0_foresee Sx i (Sx 0 0 1) (-1) 0) 6 i 1))) (v2 + 1) (sp_X0_foresee Sx i (Sx 0 0 1) (-1) 0))
theorem lz_lp_X5_meanDays_6 (i : Nat) (v1 : Int32) (v2 : Int32) (Sx : (Nat → Nat → Nat → Int32)) : lp_X5_meanDays_6 0 i v1 v2 Sx = (v1, v2, Sx) := rfl
theorem sfl_lp_X5_meanDays_6 : ∀ (k i : Nat) (v1 : Int32) (v2 : Int32) (Sx T : (Nat → Nat → Nat → Int32)), SF T Sx → SF T ((lp_X5_meanDays_6 k i v1 v2 Sx).2.2) := by
  intro k
  induction k with
  | zero => intro i v1 v2 Sx T h; exact h
  | succ k ih => 
    intro i v1 v2 Sx T h
    unfold lp_X5_meanDays_6
    by_cases q_3 : sp_X0_greatestEnd (sp_X0_foresee Sx i (Sx 0 0 1) (-1) 0) ((sp_X0_foresee Sx i (Sx 0 0 1) (-1) 0) 6 i 0) = (-1)
    · rw [if_pos q_3]
      exact ih (i + 1) v1 v2 (sp_X0_foresee Sx i (Sx 0 0 1) (-1) 0) T (SF.tr h (sf_X0_foresee Sx i (Sx 0 0 1) (-1) 0))
    · rw [if_neg q_3]
      exact ih (i + 1) (v1 + ((sp_X0_greatestEnd (sp_X0_foresee Sx i (Sx 0 0 1) (-1) 0) ((sp_X0_foresee Sx i (Sx 0 0 1) (-1) 0) 6 i 0)) - ((sp_X0_foresee Sx i (Sx 0 0 1) (-1) 0) 6 i 1))) (v2 + 1) (sp_X0_foresee Sx i (Sx 0 0 1) (-1) 0) T (SF.tr h (sf_X0_foresee Sx i (Sx 0 0 1) (-1) 0))

noncomputable def rw_X5_meanDays (S : (Nat → Nat → Nat → Int32)) : UInt64 × (Nat → Nat → Nat → Int32) := if (lp_X5_meanDays_6 ((S 0 0 0).toNatClampNeg) 0 0 0 S).2.1 = 0 then ((FP.dconst0, (lp_X5_meanDays_6 ((S 0 0 0).toNatClampNeg) 0 0 0 S).2.2)) else ((FP.ddiv (FP.i2d ((lp_X5_meanDays_6 ((S 0 0 0).toNatClampNeg) 0 0 0 S).1)) (FP.i2d ((lp_X5_meanDays_6 ((S 0 0 0).toNatClampNeg) 0 0 0 S).2.1)), (lp_X5_meanDays_6 ((S 0 0 0).toNatClampNeg) 0 0 0 S).2.2))
/-- sealed: it unfolds by un_ alone -/
noncomputable def sp_X5_meanDays : (Nat → Nat → Nat → Int32) → (UInt64 × (Nat → Nat → Nat → Int32)) := Classical.choose (⟨rw_X5_meanDays, rfl⟩ : ∃ f, f = rw_X5_meanDays)
theorem un_X5_meanDays (S : (Nat → Nat → Nat → Int32)) : sp_X5_meanDays S = rw_X5_meanDays S := (congrFun (Classical.choose_spec (⟨rw_X5_meanDays, rfl⟩ : ∃ f, f = rw_X5_meanDays)) S)
theorem sf_X5_meanDays (S : (Nat → Nat → Nat → Int32)) : SF S (sp_X5_meanDays S).2 := by
  rw [un_X5_meanDays]
  unfold rw_X5_meanDays
  by_cases q_4 : (lp_X5_meanDays_6 ((S 0 0 0).toNatClampNeg) 0 0 0 S).2.1 = 0
  · rw [if_pos q_4]
    exact (sfl_lp_X5_meanDays_6 ((S 0 0 0).toNatClampNeg) 0 0 0 S _ (SF.rf _))
  · rw [if_neg q_4]
    exact (sfl_lp_X5_meanDays_6 ((S 0 0 0).toNatClampNeg) 0 0 0 S _ (SF.rf _))

set_option maxHeartbeats 1000000 in
set_option maxRecDepth 100000 in
theorem ct_X5_meanDays {l : Launch} {D : va_G} {cI cG cJ cO : ClassId} {K0 : Nat → Nat} {A : Nat → Prop} {L : List (Nat × Nat)} {ad : Nat → Nat → Nat} {ce : Nat → Nat → va_E} (hL : ∀ f o, cid f o = true → (f, o) ∈ L) (S : (Nat → Nat → Nat → Int32)) (hI : CI S) (sz : Nat) (hA : ∀ q, sz ≤ q → A q) : MetD lw_cs l yX5_meanDays bw_X5_meanDays rm_X5_meanDays (kP D (ktys cI cG cJ cO) K0 A L ad (cK cI cJ ad ce S) sz [.ref (ad 0 0)]) (va_Qd (fun (r : UInt64) (_ : Unit) => alike64 r (sp_X5_meanDays S).1 = true) (fun _ t => WE D A L ad (cK cI cJ ad ce (sp_X5_meanDays S).2) t) A) 0 0 A := by
  refine MetD.ofW (cc := cX5_meanDays) (maxL := 6) (ret := (some .double)) (by decide) rfl ?_
  intro p e s m args below meth c s₁ B hml hv hd0
  refine W.unbase ?_
  obtain ⟨hav, hsz, hP, hD, hK, hO⟩ := hv
  have hx := B.exec
  have hb := B.bytes
  have hr := B.returns
  have hts : ∀ w ∈ BIG, w.before args s = true := fun w h => atoms_spec (ws := bw_X5_meanDays) B.pre w (List.mem_cons_of_mem _ h)
  have hown : s.vm.findClass RX5 = some m.cls := findClass_of_methodNamed B.named
  have hlocks := B.notSynchronized
  subst hsz
  have hw := wk.start hP hD
  refine k_start (by rfl) hav (Nat.le_of_ble_eq_true rfl) (fun ls hl => ?_)
  have hl : lv_has ls 6 [(0, .ref (ad 0 0))] := hl
  have hE : sp_X5_meanDays S = rw_X5_meanDays S := un_X5_meanDays S
  refine lv_iconst (v := 0) hx hb dX5_meanDays_0 (by decide) ?_
  refine lv_istore_n (lv' := [(1, .int 0), (0, .ref (ad 0 0))]) hx hb dX5_meanDays_1 rfl hl (by decide) rfl (fun ls hl => ?_)
  refine lv_iconst (v := 0) hx hb dX5_meanDays_2 (by decide) ?_
  refine lv_istore_n (lv' := [(2, .int 0), (1, .int 0), (0, .ref (ad 0 0))]) hx hb dX5_meanDays_3 rfl hl (by decide) rfl (fun ls hl => ?_)
  refine lv_iconst (v := 0) hx hb dX5_meanDays_4 (by decide) ?_
  refine lv_istore_n (lv' := [(3, .int 0), (2, .int 0), (1, .int 0), (0, .ref (ad 0 0))]) hx hb dX5_meanDays_5 rfl hl (by decide) rfl (fun ls hl => ?_)
  have key_6 : ∀ (k i : Nat) (v1 : Int32) (v2 : Int32) (Sx : (Nat → Nat → Nat → Int32)) (H : Heap) (locs : List Loc) (ls : Array Slot), i + k = (S 0 0 0).toNatClampNeg → SF S Sx → (lp_X5_meanDays_6 ((S 0 0 0).toNatClampNeg) 0 0 0 S) = lp_X5_meanDays_6 k i v1 v2 Sx → wk D A L ad (cK cI cJ ad ce Sx) s.heap H locs → lv_has ls 6 [(0, .ref (ad 0 0)), (1, .int v1), (2, .int v2), (3, .int (nI i))] → W p l e (headSpec bw_X5_meanDays rm_X5_meanDays).room s m args below meth c H locs 0 0 (MQD lw_cs below (va_Qd (fun (r : UInt64) (_ : Unit) => alike64 r (sp_X5_meanDays S).1 = true) (fun _ t => WE D A L ad (cK cI cJ ad ce (sp_X5_meanDays S).2) t) A) args s 0 0 A) (F0 m 6 ls []) := by
    intro k
    induction k with
    | zero =>
      intro i v1 v2 Sx H locs ls hk hsf hV hw hl
      have hV := hV.trans (lz_lp_X5_meanDays_6 i v1 v2 Sx)
      obtain rfl : v1 = (lp_X5_meanDays_6 ((S 0 0 0).toNatClampNeg) 0 0 0 S).1 := (congrArg (fun z => z.1) hV).symm
      obtain rfl : v2 = (lp_X5_meanDays_6 ((S 0 0 0).toNatClampNeg) 0 0 0 S).2.1 := (congrArg (fun z => z.2.1) hV).symm
      obtain rfl : Sx = (lp_X5_meanDays_6 ((S 0 0 0).toNatClampNeg) 0 0 0 S).2.2 := (congrArg (fun z => z.2.2) hV).symm
      refine lv_iload_n hx hb dX5_meanDays_6 rfl (lv_at hl 3 rfl) ?_
      refine lv_aload_n hx hb dX5_meanDays_7 rfl (lv_at hl 0 rfl) ?_
      refine k_get (C := RX5) (T := TX5) (N := 7) (v := .int (((lp_X5_meanDays_6 ((S 0 0 0).toNatClampNeg) 0 0 0 S).2.2) 0 0 0)) hx hb hts inB_X5 hown hK hw (hL 0 0 rfl) cke_0 rfl 5 (by decide) (hts _ w_f_X5_174) (fun _ h9 => h9) rfl dX5_meanDays_8 ?_
      refine lv_icmp_ge (tgt := 76) hx hb dX5_meanDays_11 (by decide) (fun _ => ?_) (fun h => absurd (lp_o (SF.b5 hsf hI) hk (cn_lt _)) h)
      refine lv_iload_n hx hb dX5_meanDays_76 rfl (lv_at hl 2 rfl) ?_
      refine lv_if_ne (tgt := 84) hx hb dX5_meanDays_77 (by decide) (fun c_1 => ?_) (fun c_1 => ?_)
      · have hE := hE.trans (if_neg c_1)
        refine lv_iload_n hx hb dX5_meanDays_84 rfl (lv_at hl 1 rfl) ?_
        refine lv_i2d hx hb dX5_meanDays_85 ?_
        refine lv_iload_n hx hb dX5_meanDays_86 rfl (lv_at hl 2 rfl) ?_
        refine lv_i2d hx hb dX5_meanDays_87 ?_
        refine W.base ?_
        refine lv_ddiv_any hd0 lw_bits hx hb dX5_meanDays_88 (fun rr d1 hal hd1 => ?_)
        exact k_dretE hd1 hx hb hr hlocks hw hE hal dX5_meanDays_89
      · have hE := hE.trans (if_pos c_1)
        refine lv_dconst0 hx hb dX5_meanDays_80 ?_
        refine lv_goto (tgt := 89) hx hb dX5_meanDays_81 (by decide) ?_
        refine W.base ?_
        exact k_dretE hd0 hx hb hr hlocks hw hE (alike64_refl _) dX5_meanDays_89
    | succ k ih =>
      intro i v1 v2 Sx H locs ls hk hsf hV hw hl
      refine lv_iload_n hx hb dX5_meanDays_6 rfl (lv_at hl 3 rfl) ?_
      refine lv_aload_n hx hb dX5_meanDays_7 rfl (lv_at hl 0 rfl) ?_
      refine k_get (C := RX5) (T := TX5) (N := 7) (v := .int (Sx 0 0 0)) hx hb hts inB_X5 hown hK hw (hL 0 0 rfl) cke_0 rfl 5 (by decide) (hts _ w_f_X5_174) (fun _ h9 => h9) rfl dX5_meanDays_8 ?_
      refine lv_icmp_ge (tgt := 76) hx hb dX5_meanDays_11 (by decide) (fun h => absurd h (lp_i (SF.b5 hsf hI) hk (cn_lt _))) (fun _ => ?_)
      refine lv_aload_n hx hb dX5_meanDays_14 rfl (lv_at hl 0 rfl) ?_
      refine lv_iload_n hx hb dX5_meanDays_15 rfl (lv_at hl 3 rfl) ?_
      refine k_cr0 hw (k_rV (As := [.int (nI i)]) (rest := []) ⟨hx, hb, hml, hown, hts⟩ hK hO hw (ct_X5_joinerAt_n hL Sx (SF.ci hsf hI) i (SF.q5 hsf (lp_l hk)) _ (wk.hA hw hA)) (cwV 1 hts (gB_V w_ml_X5_179 w_im_X5_joinerAt w_se_X5_joinerAt w_in_X5 w_co_X5_joinerAt) rfl rfl rfl (by decide +kernel) ⟨by decide, by decide⟩) (hL 0 0 rfl) cke_0 rfl rfl hl.1 rfl (Nat.le_of_ble_eq_true rfl) dX5_meanDays_16 ⟨Nat.le_of_ble_eq_true rfl, Nat.le_of_ble_eq_true rfl⟩) (fun H locs hw => ?_)
      refine lv_astore (lv' := [(4, .ref (ad 6 i)), (0, .ref (ad 0 0)), (1, .int v1), (2, .int v2), (3, .int (nI i))]) hx hb dX5_meanDays_19 hl (by decide) rfl (fun ls hl => ?_)
      refine lv_aload_n hx hb dX5_meanDays_21 rfl (lv_at hl 1 rfl) ?_
      refine k_get (C := RX5) (T := TX5) (N := 7) (v := .ref (ad 4 0)) hx hb hts inB_X5 hown hK hw (hL 0 0 rfl) cke_0 rfl 3 (by decide) (hts _ w_f_X5_35) (fun _ h9 => h9) rfl dX5_meanDays_22 ?_
      refine lv_aload hx hb dX5_meanDays_25 (lv_at hl 0 rfl) ?_
      refine lv_aload_n hx hb dX5_meanDays_27 rfl (lv_at hl 1 rfl) ?_
      refine k_get (C := RX5) (T := TX5) (N := 7) (v := .int (Sx 0 0 1)) hx hb hts inB_X5 hown hK hw (hL 0 0 rfl) cke_0 rfl 6 (by decide) (hts _ w_f_X5_160) (fun _ h9 => h9) rfl dX5_meanDays_28 ?_
      refine lv_iconst (v := (-1)) hx hb dX5_meanDays_31 (by decide) ?_
      refine lv_iconst (v := 0) hx hb dX5_meanDays_32 (by decide) ?_
      refine k_cv0 hw (k_rV (As := [.ref (ad 6 i), .int (Sx 0 0 1), .int (-1), .int 0]) (rest := []) ⟨hx, hb, hml, hown, hts⟩ hK hO hw (ct_X0_foresee hL Sx (SF.ci hsf hI) i (Nat.lt_of_lt_of_le (lp_l hk) (CI.n5 hI)) (Sx 0 0 1) (-1) 0 _ (wk.hA hw hA)) (cwV 4 hts (gB_V w_ml_X5_233 w_im_X0_foresee w_se_X0_foresee w_in_X0 w_co_X0_foresee) rfl rfl rfl (by decide +kernel) ⟨by decide, by decide⟩) (hL 4 0 rfl) cke_4 rfl rfl hl.1 rfl (Nat.le_of_ble_eq_true rfl) dX5_meanDays_33 ⟨Nat.le_of_ble_eq_true rfl, Nat.le_of_ble_eq_true rfl⟩) (fun H locs hw => ?_)
      refine lv_aload_n hx hb dX5_meanDays_36 rfl (lv_at hl 1 rfl) ?_
      refine k_get (C := RX5) (T := TX5) (N := 7) (v := .ref (ad 4 0)) hx hb hts inB_X5 hown hK hw (hL 0 0 rfl) cke_0 rfl 3 (by decide) (hts _ w_f_X5_35) (fun _ h9 => h9) rfl dX5_meanDays_37 ?_
      refine lv_aload hx hb dX5_meanDays_40 (lv_at hl 0 rfl) ?_
      refine k_get (C := RX1) (T := TX1) (N := 8) (v := .int ((sp_X0_foresee Sx i (Sx 0 0 1) (-1) 0) 6 i 0)) hx hb hts inB_X1 hown hK hw (hL 6 i (cidJ6 (Nat.lt_of_lt_of_le (lp_l hk) (CI.n5 hI)))) cke_6 rfl 5 (by decide) (hts _ w_f_X5_183) (fun _ h9 => h9) rfl dX5_meanDays_42 ?_
      refine k_ci0 hw (k_rV (As := [.int ((sp_X0_foresee Sx i (Sx 0 0 1) (-1) 0) 6 i 0)]) (rest := []) ⟨hx, hb, hml, hown, hts⟩ hK hO hw (ct_X0_greatestEnd hL (sp_X0_foresee Sx i (Sx 0 0 1) (-1) 0) (SF.ci (SF.tr hsf (sf_X0_foresee Sx i (Sx 0 0 1) (-1) 0)) hI) ((sp_X0_foresee Sx i (Sx 0 0 1) (-1) 0) 6 i 0) _ (wk.hA hw hA)) (cwV 1 hts (gB_V w_ml_X5_268 w_im_X0_greatestEnd w_se_X0_greatestEnd w_in_X0 w_co_X0_greatestEnd) rfl rfl rfl (by decide +kernel) ⟨by decide, by decide⟩) (hL 4 0 rfl) cke_4 rfl rfl hl.1 rfl (Nat.le_of_ble_eq_true rfl) dX5_meanDays_45 ⟨Nat.le_of_ble_eq_true rfl, Nat.le_of_ble_eq_true rfl⟩) (fun H locs hw => ?_)
      refine lv_istore (lv' := [(5, .int (sp_X0_greatestEnd (sp_X0_foresee Sx i (Sx 0 0 1) (-1) 0) ((sp_X0_foresee Sx i (Sx 0 0 1) (-1) 0) 6 i 0))), (4, .ref (ad 6 i)), (0, .ref (ad 0 0)), (1, .int v1), (2, .int v2), (3, .int (nI i))]) hx hb dX5_meanDays_48 hl (by decide) rfl (fun ls hl => ?_)
      refine lv_iload hx hb dX5_meanDays_50 (lv_at hl 0 rfl) ?_
      refine lv_iconst (v := (-1)) hx hb dX5_meanDays_52 (by decide) ?_
      refine lv_icmp_eq (tgt := 70) hx hb dX5_meanDays_53 (by decide) (fun c_2 => ?_) (fun c_2 => ?_)
      · have hV := hV.trans (if_pos c_2)
        refine lv_iinc (v := (nI (i + 1))) (lv' := [(3, .int (nI (i + 1))), (5, .int (sp_X0_greatestEnd (sp_X0_foresee Sx i (Sx 0 0 1) (-1) 0) ((sp_X0_foresee Sx i (Sx 0 0 1) (-1) 0) 6 i 0))), (4, .ref (ad 6 i)), (0, .ref (ad 0 0)), (1, .int v1), (2, .int v2)]) hx hb dX5_meanDays_70 hl (k := 5) rfl (nI_1 _) (by decide) rfl (fun ls hl => ?_)
        refine lv_goto (tgt := 6) hx hb dX5_meanDays_73 (by decide) ?_
        exact ih (i + 1) v1 v2 (sp_X0_foresee Sx i (Sx 0 0 1) (-1) 0) _ _ _ (lp_s hk) (SF.tr hsf (sf_X0_foresee Sx i (Sx 0 0 1) (-1) 0)) hV hw (lv_sub hl [3, 4, 5, 0] rfl)
      · have hV := hV.trans (if_neg c_2)
        refine lv_iload_n hx hb dX5_meanDays_56 rfl (lv_at hl 3 rfl) ?_
        refine lv_iload hx hb dX5_meanDays_57 (lv_at hl 0 rfl) ?_
        refine lv_aload hx hb dX5_meanDays_59 (lv_at hl 1 rfl) ?_
        refine k_get (C := RX1) (T := TX1) (N := 8) (v := .int ((sp_X0_foresee Sx i (Sx 0 0 1) (-1) 0) 6 i 1)) hx hb hts inB_X1 hown hK hw (hL 6 i (cidJ6 (Nat.lt_of_lt_of_le (lp_l hk) (CI.n5 hI)))) cke_6 rfl 6 (by decide) (hts _ w_f_X5_186) (fun _ h9 => h9) rfl dX5_meanDays_61 ?_
        refine lv_isub hx hb dX5_meanDays_64 ?_
        refine lv_iadd hx hb dX5_meanDays_65 ?_
        refine lv_istore_n (lv' := [(1, .int (v1 + ((sp_X0_greatestEnd (sp_X0_foresee Sx i (Sx 0 0 1) (-1) 0) ((sp_X0_foresee Sx i (Sx 0 0 1) (-1) 0) 6 i 0)) - ((sp_X0_foresee Sx i (Sx 0 0 1) (-1) 0) 6 i 1)))), (5, .int (sp_X0_greatestEnd (sp_X0_foresee Sx i (Sx 0 0 1) (-1) 0) ((sp_X0_foresee Sx i (Sx 0 0 1) (-1) 0) 6 i 0))), (4, .ref (ad 6 i)), (0, .ref (ad 0 0)), (2, .int v2), (3, .int (nI i))]) hx hb dX5_meanDays_66 rfl hl (by decide) rfl (fun ls hl => ?_)
        refine lv_iinc (v := (v2 + 1)) (lv' := [(2, .int (v2 + 1)), (1, .int (v1 + ((sp_X0_greatestEnd (sp_X0_foresee Sx i (Sx 0 0 1) (-1) 0) ((sp_X0_foresee Sx i (Sx 0 0 1) (-1) 0) 6 i 0)) - ((sp_X0_foresee Sx i (Sx 0 0 1) (-1) 0) 6 i 1)))), (5, .int (sp_X0_greatestEnd (sp_X0_foresee Sx i (Sx 0 0 1) (-1) 0) ((sp_X0_foresee Sx i (Sx 0 0 1) (-1) 0) 6 i 0))), (4, .ref (ad 6 i)), (0, .ref (ad 0 0)), (3, .int (nI i))]) hx hb dX5_meanDays_67 hl (k := 4) rfl rfl (by decide) rfl (fun ls hl => ?_)
        refine lv_iinc (v := (nI (i + 1))) (lv' := [(3, .int (nI (i + 1))), (2, .int (v2 + 1)), (1, .int (v1 + ((sp_X0_greatestEnd (sp_X0_foresee Sx i (Sx 0 0 1) (-1) 0) ((sp_X0_foresee Sx i (Sx 0 0 1) (-1) 0) 6 i 0)) - ((sp_X0_foresee Sx i (Sx 0 0 1) (-1) 0) 6 i 1)))), (5, .int (sp_X0_greatestEnd (sp_X0_foresee Sx i (Sx 0 0 1) (-1) 0) ((sp_X0_foresee Sx i (Sx 0 0 1) (-1) 0) 6 i 0))), (4, .ref (ad 6 i)), (0, .ref (ad 0 0))]) hx hb dX5_meanDays_70 hl (k := 5) rfl (nI_1 _) (by decide) rfl (fun ls hl => ?_)
        refine lv_goto (tgt := 6) hx hb dX5_meanDays_73 (by decide) ?_
        exact ih (i + 1) (v1 + ((sp_X0_greatestEnd (sp_X0_foresee Sx i (Sx 0 0 1) (-1) 0) ((sp_X0_foresee Sx i (Sx 0 0 1) (-1) 0) 6 i 0)) - ((sp_X0_foresee Sx i (Sx 0 0 1) (-1) 0) 6 i 1))) (v2 + 1) (sp_X0_foresee Sx i (Sx 0 0 1) (-1) 0) _ _ _ (lp_s hk) (SF.tr hsf (sf_X0_foresee Sx i (Sx 0 0 1) (-1) 0)) hV hw (lv_sub hl [5, 2, 1, 0] rfl)
  exact key_6 ((S 0 0 0).toNatClampNeg) 0 0 0 S _ _ _ (Nat.zero_add _) (SF.rf _) rfl hw (lv_sub hl [3, 2, 1, 0] rfl)
