abbrev bw_X5_shiftBy : List Cond := .code yX5_shiftBy cX5_shiftBy 8 (some .int) :: BIG
abbrev rm_X5_shiftBy : Room := { frames := 7, cells := 2, slots := 12, locals := 116 }
noncomputable def lp_X5_shiftBy_11 (p1 : Int32) (p2 : Int32) : Nat → Nat → Int32 → (Nat → Nat → Nat → Int32) → Int32 × (Nat → Nat → Nat → Int32)
  | 0, i, v3, Sx => (v3, Sx)
  | k + 1, i, v3, Sx => if sp_X0_greatestEnd (sp_X0_foresee Sx i (Sx 0 0 1) (-1) 0) ((sp_X0_foresee Sx i (Sx 0 0 1) (-1) 0) 6 i 0) = (-1) then (lp_X5_shiftBy_11 p1 p2 k (i + 1) v3 (sp_X0_foresee (sp_X0_foresee Sx i (Sx 0 0 1) (-1) 0) i ((sp_X0_foresee Sx i (Sx 0 0 1) (-1) 0) 0 0 1) p1 p2)) else (if sp_X0_greatestEnd (sp_X0_foresee (sp_X0_foresee Sx i (Sx 0 0 1) (-1) 0) i ((sp_X0_foresee Sx i (Sx 0 0 1) (-1) 0) 0 0 1) p1 p2) ((sp_X0_foresee (sp_X0_foresee Sx i (Sx 0 0 1) (-1) 0) i ((sp_X0_foresee Sx i (Sx 0 0 1) (-1) 0) 0 0 1) p1 p2) 6 i 0) = (-1) then (lp_X5_shiftBy_11 p1 p2 k (i + 1) v3 (sp_X0_foresee (sp_X0_foresee Sx i (Sx 0 0 1) (-1) 0) i ((sp_X0_foresee Sx i (Sx 0 0 1) (-1) 0) 0 0 1) p1 p2)) else (lp_X5_shiftBy_11 p1 p2 k (i + 1) (v3 + ((sp_X0_greatestEnd (sp_X0_foresee (sp_X0_foresee Sx i (Sx 0 0 1) (-1) 0) i ((sp_X0_foresee Sx i (Sx 0 0 1) (-1) 0) 0 0 1) p1 p2) ((sp_X0_foresee (sp_X0_foresee Sx i (Sx 0 0 1) (-1) 0) i ((sp_X0_foresee Sx i (Sx 0 0 1) (-1) 0) 0 0 1) p1 p2) 6 i 0)) - (sp_X0_greatestEnd (sp_X0_foresee Sx i (Sx 0 0 1) (-1) 0) ((sp_X0_foresee Sx i (Sx 0 0 1) (-1) 0) 6 i 0)))) (sp_X0_foresee (sp_X0_foresee Sx i (Sx 0 0 1) (-1) 0) i ((sp_X0_foresee Sx i (Sx 0 0 1) (-1) 0) 0 0 1) p1 p2)))
theorem lz_lp_X5_shiftBy_11 (p1 : Int32) (p2 : Int32) (i : Nat) (v3 : Int32) (Sx : (Nat → Nat → Nat → Int32)) : lp_X5_shiftBy_11 p1 p2 0 i v3 Sx = (v3, Sx) := rfl
theorem sfl_lp_X5_shiftBy_11 (p1 : Int32) (p2 : Int32) : ∀ (k i : Nat) (v3 : Int32) (Sx T : (Nat → Nat → Nat → Int32)), SF T Sx → SF T ((lp_X5_shiftBy_11 p1 p2 k i v3 Sx).2) := by
  intro k
  induction k with
  | zero => intro i v3 Sx T h; exact h
  | succ k ih => 
    intro i v3 Sx T h
    unfold lp_X5_shiftBy_11
    by_cases q_4 : sp_X0_greatestEnd (sp_X0_foresee Sx i (Sx 0 0 1) (-1) 0) ((sp_X0_foresee Sx i (Sx 0 0 1) (-1) 0) 6 i 0) = (-1)
    · rw [if_pos q_4]
      exact ih (i + 1) v3 (sp_X0_foresee (sp_X0_foresee Sx i (Sx 0 0 1) (-1) 0) i ((sp_X0_foresee Sx i (Sx 0 0 1) (-1) 0) 0 0 1) p1 p2) T (SF.tr (SF.tr h (sf_X0_foresee Sx i (Sx 0 0 1) (-1) 0)) (sf_X0_foresee (sp_X0_foresee Sx i (Sx 0 0 1) (-1) 0) i ((sp_X0_foresee Sx i (Sx 0 0 1) (-1) 0) 0 0 1) p1 p2))
    · rw [if_neg q_4]
      by_cases q_5 : sp_X0_greatestEnd (sp_X0_foresee (sp_X0_foresee Sx i (Sx 0 0 1) (-1) 0) i ((sp_X0_foresee Sx i (Sx 0 0 1) (-1) 0) 0 0 1) p1 p2) ((sp_X0_foresee (sp_X0_foresee Sx i (Sx 0 0 1) (-1) 0) i ((sp_X0_foresee Sx i (Sx 0 0 1) (-1) 0) 0 0 1) p1 p2) 6 i 0) = (-1)
      · rw [if_pos q_5]
        exact ih (i + 1) v3 (sp_X0_foresee (sp_X0_foresee Sx i (Sx 0 0 1) (-1) 0) i ((sp_X0_foresee Sx i (Sx 0 0 1) (-1) 0) 0 0 1) p1 p2) T (SF.tr (SF.tr h (sf_X0_foresee Sx i (Sx 0 0 1) (-1) 0)) (sf_X0_foresee (sp_X0_foresee Sx i (Sx 0 0 1) (-1) 0) i ((sp_X0_foresee Sx i (Sx 0 0 1) (-1) 0) 0 0 1) p1 p2))
      · rw [if_neg q_5]
        exact ih (i + 1) (v3 + ((sp_X0_greatestEnd (sp_X0_foresee (sp_X0_foresee Sx i (Sx 0 0 1) (-1) 0) i ((sp_X0_foresee Sx i (Sx 0 0 1) (-1) 0) 0 0 1) p1 p2) ((sp_X0_foresee (sp_X0_foresee Sx i (Sx 0 0 1) (-1) 0) i ((sp_X0_foresee Sx i (Sx 0 0 1) (-1) 0) 0 0 1) p1 p2) 6 i 0)) - (sp_X0_greatestEnd (sp_X0_foresee Sx i (Sx 0 0 1) (-1) 0) ((sp_X0_foresee Sx i (Sx 0 0 1) (-1) 0) 6 i 0)))) (sp_X0_foresee (sp_X0_foresee Sx i (Sx 0 0 1) (-1) 0) i ((sp_X0_foresee Sx i (Sx 0 0 1) (-1) 0) 0 0 1) p1 p2) T (SF.tr (SF.tr h (sf_X0_foresee Sx i (Sx 0 0 1) (-1) 0)) (sf_X0_foresee (sp_X0_foresee Sx i (Sx 0 0 1) (-1) 0) i ((sp_X0_foresee Sx i (Sx 0 0 1) (-1) 0) 0 0 1) p1 p2))

noncomputable def rw_X5_shiftBy (S : (Nat → Nat → Nat → Int32)) (p1 : Int32) (p2 : Int32) : Nat × Int32 × (Nat → Nat → Nat → Int32) := if (sp_X5_checkDelay S p1 p2).1 = 0 then ((0, (lp_X5_shiftBy_11 p1 p2 ((S 0 0 0).toNatClampNeg) 0 0 S).1, (lp_X5_shiftBy_11 p1 p2 ((S 0 0 0).toNatClampNeg) 0 0 S).2)) else (((sp_X5_checkDelay S p1 p2).1, 0, S))
/-- sealed: it unfolds by un_ alone -/
noncomputable def sp_X5_shiftBy : (Nat → Nat → Nat → Int32) → Int32 → Int32 → (Nat × Int32 × (Nat → Nat → Nat → Int32)) := Classical.choose (⟨rw_X5_shiftBy, rfl⟩ : ∃ f, f = rw_X5_shiftBy)
theorem un_X5_shiftBy (S : (Nat → Nat → Nat → Int32)) (p1 : Int32) (p2 : Int32) : sp_X5_shiftBy S p1 p2 = rw_X5_shiftBy S p1 p2 := (congrFun (congrFun (congrFun (Classical.choose_spec (⟨rw_X5_shiftBy, rfl⟩ : ∃ f, f = rw_X5_shiftBy)) S) p1) p2)
set_option maxHeartbeats 1000000 in
set_option maxRecDepth 100000 in
theorem ct_X5_shiftBy {l : Launch} {D : va_G} {cI cG cJ cO : ClassId} {K0 : Nat → Nat} {A : Nat → Prop} {L : List (Nat × Nat)} {ad : Nat → Nat → Nat} {ce : Nat → Nat → va_E} (hL : ∀ f o, cid f o = true → (f, o) ∈ L) (S : (Nat → Nat → Nat → Int32)) (hI : CI S) (p1 : Int32) (p2 : Int32) (hst : l.stackTraces = false) (sz : Nat) (hA : ∀ q, sz ≤ q → A q) : vx_Met l yX5_shiftBy bw_X5_shiftBy rm_X5_shiftBy (kP D (ktys cI cG cJ cO) K0 A L ad (cK cI cJ ad ce S) sz [.ref (ad 0 0), .int p1, .int p2]) (va_Qi (fun (r : Int32) (_ : Unit) => r = (sp_X5_shiftBy S p1 p2).2.1 ∧ (sp_X5_shiftBy S p1 p2).1 = 0) (fun _ t => WE D A L ad (cK cI cJ ad ce ((sp_X5_shiftBy S p1 p2).2.2)) t) A) (vx_X (fun (_ : Unit) => True) (fun E _ t => kE E (sp_X5_shiftBy S p1 p2).1 ∧ WE D A L ad (cK cI cJ ad ce S) t) A) 2 12 A := by
  refine vx_ofW (cc := cX5_shiftBy) (maxL := 8) (ret := (some .int)) (by decide) rfl ?_
  intro p e s m args below meth c s₁ B hml hexn hv
  obtain ⟨hav, hsz, hP, hD, hK, hO⟩ := hv
  have hx := B.exec
  have hb := B.bytes
  have hr := B.returns
  have hts : ∀ w ∈ BIG, w.before args s = true := fun w h => atoms_spec (ws := bw_X5_shiftBy) B.pre w (List.mem_cons_of_mem _ h)
  have hown : s.vm.findClass RX5 = some m.cls := findClass_of_methodNamed B.named
  have hlocks := B.notSynchronized
  subst hsz
  have hw := wk.start hP hD
  refine k_start (by rfl) hav (Nat.le_of_ble_eq_true rfl) (fun ls hl => ?_)
  have hl : lv_has ls 8 [(0, .ref (ad 0 0)), (1, .int p1), (2, .int p2)] := hl
  have hE : sp_X5_shiftBy S p1 p2 = rw_X5_shiftBy S p1 p2 := un_X5_shiftBy S p1 p2
  refine lv_aload_n hx hb dX5_shiftBy_0 rfl (lv_at hl 0 rfl) ?_
  refine lv_iload_n hx hb dX5_shiftBy_1 rfl (lv_at hl 1 rfl) ?_
  refine lv_iload_n hx hb dX5_shiftBy_2 rfl (lv_at hl 2 rfl) ?_
  refine x_cv hw (x_rV (As := [.int p1, .int p2]) (rest := []) ⟨hx, hb, hml, hown, hts⟩ hK hO hw (ct_X5_checkDelay hL S (SF.ci (SF.rf _) hI) p1 p2 hst _ (wk.hA hw hA)) (cwV 2 hts (gB_V w_ml_X5_113 w_im_X5_checkDelay w_se_X5_checkDelay w_in_X5 w_co_X5_checkDelay) rfl rfl rfl (by decide +kernel) ⟨by decide, by decide⟩) (hL 0 0 rfl) cke_0 rfl rfl hl.1 rfl (Nat.le_of_ble_eq_true rfl) dX5_shiftBy_3 ⟨Nat.le_of_ble_eq_true rfl, Nat.le_of_ble_eq_true rfl⟩) (fun E cx q9 H locs hx9 hw hcx hvx hclx => ?_) (fun H locs x_1 hw => ?_)
  · have hE := hE.trans (if_neg hx9.ne)
    exact x_out hexn hlocks hw hcx hvx hclx (by rw [hE]; exact hx9) (Nat.le_of_ble_eq_true rfl) (Nat.le_of_ble_eq_true rfl)
  · have hE := hE.trans (if_pos x_1)
    refine lv_iconst (v := 0) hx hb dX5_shiftBy_6 (by decide) ?_
    refine lv_istore_n (lv' := [(3, .int 0), (0, .ref (ad 0 0)), (1, .int p1), (2, .int p2)]) hx hb dX5_shiftBy_7 rfl hl (by decide) rfl (fun ls hl => ?_)
    refine lv_iconst (v := 0) hx hb dX5_shiftBy_8 (by decide) ?_
    refine lv_istore (lv' := [(4, .int 0), (3, .int 0), (0, .ref (ad 0 0)), (1, .int p1), (2, .int p2)]) hx hb dX5_shiftBy_9 hl (by decide) rfl (fun ls hl => ?_)
    have key_11 : ∀ (k i : Nat) (v3 : Int32) (Sx : (Nat → Nat → Nat → Int32)) (H : Heap) (locs : List Loc) (ls : Array Slot), i + k = (S 0 0 0).toNatClampNeg → SF S Sx → (lp_X5_shiftBy_11 p1 p2 ((S 0 0 0).toNatClampNeg) 0 0 S) = lp_X5_shiftBy_11 p1 p2 k i v3 Sx → wk D A L ad (cK cI cJ ad ce Sx) s.heap H locs → lv_has ls 8 [(0, .ref (ad 0 0)), (1, .int p1), (2, .int p2), (3, .int v3), (4, .int (nI i))] → W p l e (headSpec bw_X5_shiftBy rm_X5_shiftBy).room s m args below meth c H locs 1 6 (vx_MQ below (va_Qi (fun (r : Int32) (_ : Unit) => r = (sp_X5_shiftBy S p1 p2).2.1 ∧ (sp_X5_shiftBy S p1 p2).1 = 0) (fun _ t => WE D A L ad (cK cI cJ ad ce ((sp_X5_shiftBy S p1 p2).2.2)) t) A) (vx_X (fun (_ : Unit) => True) (fun E _ t => kE E (sp_X5_shiftBy S p1 p2).1 ∧ WE D A L ad (cK cI cJ ad ce S) t) A) args s 2 12 A) (F0 m 11 ls []) := by
      intro k
      induction k with
      | zero =>
        intro i v3 Sx H locs ls hk hsf hV hw hl
        have hV := hV.trans (lz_lp_X5_shiftBy_11 p1 p2 i v3 Sx)
        obtain rfl : v3 = (lp_X5_shiftBy_11 p1 p2 ((S 0 0 0).toNatClampNeg) 0 0 S).1 := (congrArg (fun z => z.1) hV).symm
        obtain rfl : Sx = (lp_X5_shiftBy_11 p1 p2 ((S 0 0 0).toNatClampNeg) 0 0 S).2 := (congrArg (fun z => z.2) hV).symm
        refine lv_iload hx hb dX5_shiftBy_11 (lv_at hl 4 rfl) ?_
        refine lv_aload_n hx hb dX5_shiftBy_13 rfl (lv_at hl 0 rfl) ?_
        refine k_get (C := RX5) (T := TX5) (N := 7) (v := .int (((lp_X5_shiftBy_11 p1 p2 ((S 0 0 0).toNatClampNeg) 0 0 S).2) 0 0 0)) hx hb hts inB_X5 hown hK hw (hL 0 0 rfl) cke_0 rfl 5 (by decide) (hts _ w_f_X5_174) (fun _ h9 => h9) rfl dX5_shiftBy_14 ?_
        refine lv_icmp_ge (tgt := 112) hx hb dX5_shiftBy_17 (by decide) (fun _ => ?_) (fun h => absurd (lp_o (SF.b5 hsf hI) hk (cn_lt _)) h)
        refine lv_iload_n hx hb dX5_shiftBy_112 rfl (lv_at hl 3 rfl) ?_
        exact x_iretE hx hb hr hlocks rfl hw hE (Nat.le_of_ble_eq_true rfl) (Nat.le_of_ble_eq_true rfl) dX5_shiftBy_113
      | succ k ih =>
        intro i v3 Sx H locs ls hk hsf hV hw hl
        refine lv_iload hx hb dX5_shiftBy_11 (lv_at hl 4 rfl) ?_
        refine lv_aload_n hx hb dX5_shiftBy_13 rfl (lv_at hl 0 rfl) ?_
        refine k_get (C := RX5) (T := TX5) (N := 7) (v := .int (Sx 0 0 0)) hx hb hts inB_X5 hown hK hw (hL 0 0 rfl) cke_0 rfl 5 (by decide) (hts _ w_f_X5_174) (fun _ h9 => h9) rfl dX5_shiftBy_14 ?_
        refine lv_icmp_ge (tgt := 112) hx hb dX5_shiftBy_17 (by decide) (fun h => absurd h (lp_i (SF.b5 hsf hI) hk (cn_lt _))) (fun _ => ?_)
        refine lv_aload_n hx hb dX5_shiftBy_20 rfl (lv_at hl 0 rfl) ?_
        refine lv_iload hx hb dX5_shiftBy_21 (lv_at hl 4 rfl) ?_
        refine k_cr0 hw (k_rV (As := [.int (nI i)]) (rest := []) ⟨hx, hb, hml, hown, hts⟩ hK hO hw (ct_X5_joinerAt_n hL Sx (SF.ci hsf hI) i (SF.q5 hsf (lp_l hk)) _ (wk.hA hw hA)) (cwV 1 hts (gB_V w_ml_X5_179 w_im_X5_joinerAt w_se_X5_joinerAt w_in_X5 w_co_X5_joinerAt) rfl rfl rfl (by decide +kernel) ⟨by decide, by decide⟩) (hL 0 0 rfl) cke_0 rfl rfl hl.1 rfl (Nat.le_of_ble_eq_true rfl) dX5_shiftBy_23 ⟨Nat.le_of_ble_eq_true rfl, Nat.le_of_ble_eq_true rfl⟩) (fun H locs hw => ?_)
        refine lv_astore (lv' := [(5, .ref (ad 6 i)), (0, .ref (ad 0 0)), (1, .int p1), (2, .int p2), (3, .int v3), (4, .int (nI i))]) hx hb dX5_shiftBy_26 hl (by decide) rfl (fun ls hl => ?_)
        refine lv_aload_n hx hb dX5_shiftBy_28 rfl (lv_at hl 1 rfl) ?_
        refine k_get (C := RX5) (T := TX5) (N := 7) (v := .ref (ad 4 0)) hx hb hts inB_X5 hown hK hw (hL 0 0 rfl) cke_0 rfl 3 (by decide) (hts _ w_f_X5_35) (fun _ h9 => h9) rfl dX5_shiftBy_29 ?_
        refine lv_aload hx hb dX5_shiftBy_32 (lv_at hl 0 rfl) ?_
        refine lv_aload_n hx hb dX5_shiftBy_34 rfl (lv_at hl 1 rfl) ?_
        refine k_get (C := RX5) (T := TX5) (N := 7) (v := .int (Sx 0 0 1)) hx hb hts inB_X5 hown hK hw (hL 0 0 rfl) cke_0 rfl 6 (by decide) (hts _ w_f_X5_160) (fun _ h9 => h9) rfl dX5_shiftBy_35 ?_
        refine lv_iconst (v := (-1)) hx hb dX5_shiftBy_38 (by decide) ?_
        refine lv_iconst (v := 0) hx hb dX5_shiftBy_39 (by decide) ?_
        refine k_cv0 hw (k_rV (As := [.ref (ad 6 i), .int (Sx 0 0 1), .int (-1), .int 0]) (rest := []) ⟨hx, hb, hml, hown, hts⟩ hK hO hw (ct_X0_foresee hL Sx (SF.ci hsf hI) i (Nat.lt_of_lt_of_le (lp_l hk) (CI.n5 hI)) (Sx 0 0 1) (-1) 0 _ (wk.hA hw hA)) (cwV 4 hts (gB_V w_ml_X5_233 w_im_X0_foresee w_se_X0_foresee w_in_X0 w_co_X0_foresee) rfl rfl rfl (by decide +kernel) ⟨by decide, by decide⟩) (hL 4 0 rfl) cke_4 rfl rfl hl.1 rfl (Nat.le_of_ble_eq_true rfl) dX5_shiftBy_40 ⟨Nat.le_of_ble_eq_true rfl, Nat.le_of_ble_eq_true rfl⟩) (fun H locs hw => ?_)
        refine lv_aload_n hx hb dX5_shiftBy_43 rfl (lv_at hl 1 rfl) ?_
        refine k_get (C := RX5) (T := TX5) (N := 7) (v := .ref (ad 4 0)) hx hb hts inB_X5 hown hK hw (hL 0 0 rfl) cke_0 rfl 3 (by decide) (hts _ w_f_X5_35) (fun _ h9 => h9) rfl dX5_shiftBy_44 ?_
        refine lv_aload hx hb dX5_shiftBy_47 (lv_at hl 0 rfl) ?_
        refine k_get (C := RX1) (T := TX1) (N := 8) (v := .int ((sp_X0_foresee Sx i (Sx 0 0 1) (-1) 0) 6 i 0)) hx hb hts inB_X1 hown hK hw (hL 6 i (cidJ6 (Nat.lt_of_lt_of_le (lp_l hk) (CI.n5 hI)))) cke_6 rfl 5 (by decide) (hts _ w_f_X5_183) (fun _ h9 => h9) rfl dX5_shiftBy_49 ?_
        refine k_ci0 hw (k_rV (As := [.int ((sp_X0_foresee Sx i (Sx 0 0 1) (-1) 0) 6 i 0)]) (rest := []) ⟨hx, hb, hml, hown, hts⟩ hK hO hw (ct_X0_greatestEnd hL (sp_X0_foresee Sx i (Sx 0 0 1) (-1) 0) (SF.ci (SF.tr hsf (sf_X0_foresee Sx i (Sx 0 0 1) (-1) 0)) hI) ((sp_X0_foresee Sx i (Sx 0 0 1) (-1) 0) 6 i 0) _ (wk.hA hw hA)) (cwV 1 hts (gB_V w_ml_X5_268 w_im_X0_greatestEnd w_se_X0_greatestEnd w_in_X0 w_co_X0_greatestEnd) rfl rfl rfl (by decide +kernel) ⟨by decide, by decide⟩) (hL 4 0 rfl) cke_4 rfl rfl hl.1 rfl (Nat.le_of_ble_eq_true rfl) dX5_shiftBy_52 ⟨Nat.le_of_ble_eq_true rfl, Nat.le_of_ble_eq_true rfl⟩) (fun H locs hw => ?_)
        refine lv_istore (lv' := [(6, .int (sp_X0_greatestEnd (sp_X0_foresee Sx i (Sx 0 0 1) (-1) 0) ((sp_X0_foresee Sx i (Sx 0 0 1) (-1) 0) 6 i 0))), (5, .ref (ad 6 i)), (0, .ref (ad 0 0)), (1, .int p1), (2, .int p2), (3, .int v3), (4, .int (nI i))]) hx hb dX5_shiftBy_55 hl (by decide) rfl (fun ls hl => ?_)
        refine lv_aload_n hx hb dX5_shiftBy_57 rfl (lv_at hl 2 rfl) ?_
        refine k_get (C := RX5) (T := TX5) (N := 7) (v := .ref (ad 4 0)) hx hb hts inB_X5 hown hK hw (hL 0 0 rfl) cke_0 rfl 3 (by decide) (hts _ w_f_X5_35) (fun _ h9 => h9) rfl dX5_shiftBy_58 ?_
        refine lv_aload hx hb dX5_shiftBy_61 (lv_at hl 1 rfl) ?_
        refine lv_aload_n hx hb dX5_shiftBy_63 rfl (lv_at hl 2 rfl) ?_
        refine k_get (C := RX5) (T := TX5) (N := 7) (v := .int ((sp_X0_foresee Sx i (Sx 0 0 1) (-1) 0) 0 0 1)) hx hb hts inB_X5 hown hK hw (hL 0 0 rfl) cke_0 rfl 6 (by decide) (hts _ w_f_X5_160) (fun _ h9 => h9) rfl dX5_shiftBy_64 ?_
        refine lv_iload_n hx hb dX5_shiftBy_67 rfl (lv_at hl 3 rfl) ?_
        refine lv_iload_n hx hb dX5_shiftBy_68 rfl (lv_at hl 4 rfl) ?_
        refine k_cv0 hw (k_rV (As := [.ref (ad 6 i), .int ((sp_X0_foresee Sx i (Sx 0 0 1) (-1) 0) 0 0 1), .int p1, .int p2]) (rest := []) ⟨hx, hb, hml, hown, hts⟩ hK hO hw (ct_X0_foresee hL (sp_X0_foresee Sx i (Sx 0 0 1) (-1) 0) (SF.ci (SF.tr hsf (sf_X0_foresee Sx i (Sx 0 0 1) (-1) 0)) hI) i (Nat.lt_of_lt_of_le (lp_l hk) (CI.n5 hI)) ((sp_X0_foresee Sx i (Sx 0 0 1) (-1) 0) 0 0 1) p1 p2 _ (wk.hA hw hA)) (cwV 4 hts (gB_V w_ml_X5_233 w_im_X0_foresee w_se_X0_foresee w_in_X0 w_co_X0_foresee) rfl rfl rfl (by decide +kernel) ⟨by decide, by decide⟩) (hL 4 0 rfl) cke_4 rfl rfl hl.1 rfl (Nat.le_of_ble_eq_true rfl) dX5_shiftBy_69 ⟨Nat.le_of_ble_eq_true rfl, Nat.le_of_ble_eq_true rfl⟩) (fun H locs hw => ?_)
        refine lv_aload_n hx hb dX5_shiftBy_72 rfl (lv_at hl 2 rfl) ?_
        refine k_get (C := RX5) (T := TX5) (N := 7) (v := .ref (ad 4 0)) hx hb hts inB_X5 hown hK hw (hL 0 0 rfl) cke_0 rfl 3 (by decide) (hts _ w_f_X5_35) (fun _ h9 => h9) rfl dX5_shiftBy_73 ?_
        refine lv_aload hx hb dX5_shiftBy_76 (lv_at hl 1 rfl) ?_
        refine k_get (C := RX1) (T := TX1) (N := 8) (v := .int ((sp_X0_foresee (sp_X0_foresee Sx i (Sx 0 0 1) (-1) 0) i ((sp_X0_foresee Sx i (Sx 0 0 1) (-1) 0) 0 0 1) p1 p2) 6 i 0)) hx hb hts inB_X1 hown hK hw (hL 6 i (cidJ6 (Nat.lt_of_lt_of_le (lp_l hk) (CI.n5 hI)))) cke_6 rfl 5 (by decide) (hts _ w_f_X5_183) (fun _ h9 => h9) rfl dX5_shiftBy_78 ?_
        refine k_ci0 hw (k_rV (As := [.int ((sp_X0_foresee (sp_X0_foresee Sx i (Sx 0 0 1) (-1) 0) i ((sp_X0_foresee Sx i (Sx 0 0 1) (-1) 0) 0 0 1) p1 p2) 6 i 0)]) (rest := []) ⟨hx, hb, hml, hown, hts⟩ hK hO hw (ct_X0_greatestEnd hL (sp_X0_foresee (sp_X0_foresee Sx i (Sx 0 0 1) (-1) 0) i ((sp_X0_foresee Sx i (Sx 0 0 1) (-1) 0) 0 0 1) p1 p2) (SF.ci (SF.tr (SF.tr hsf (sf_X0_foresee Sx i (Sx 0 0 1) (-1) 0)) (sf_X0_foresee (sp_X0_foresee Sx i (Sx 0 0 1) (-1) 0) i ((sp_X0_foresee Sx i (Sx 0 0 1) (-1) 0) 0 0 1) p1 p2)) hI) ((sp_X0_foresee (sp_X0_foresee Sx i (Sx 0 0 1) (-1) 0) i ((sp_X0_foresee Sx i (Sx 0 0 1) (-1) 0) 0 0 1) p1 p2) 6 i 0) _ (wk.hA hw hA)) (cwV 1 hts (gB_V w_ml_X5_268 w_im_X0_greatestEnd w_se_X0_greatestEnd w_in_X0 w_co_X0_greatestEnd) rfl rfl rfl (by decide +kernel) ⟨by decide, by decide⟩) (hL 4 0 rfl) cke_4 rfl rfl hl.1 rfl (Nat.le_of_ble_eq_true rfl) dX5_shiftBy_81 ⟨Nat.le_of_ble_eq_true rfl, Nat.le_of_ble_eq_true rfl⟩) (fun H locs hw => ?_)
        refine lv_istore (lv' := [(7, .int (sp_X0_greatestEnd (sp_X0_foresee (sp_X0_foresee Sx i (Sx 0 0 1) (-1) 0) i ((sp_X0_foresee Sx i (Sx 0 0 1) (-1) 0) 0 0 1) p1 p2) ((sp_X0_foresee (sp_X0_foresee Sx i (Sx 0 0 1) (-1) 0) i ((sp_X0_foresee Sx i (Sx 0 0 1) (-1) 0) 0 0 1) p1 p2) 6 i 0))), (6, .int (sp_X0_greatestEnd (sp_X0_foresee Sx i (Sx 0 0 1) (-1) 0) ((sp_X0_foresee Sx i (Sx 0 0 1) (-1) 0) 6 i 0))), (5, .ref (ad 6 i)), (0, .ref (ad 0 0)), (1, .int p1), (2, .int p2), (3, .int v3), (4, .int (nI i))]) hx hb dX5_shiftBy_84 hl (by decide) rfl (fun ls hl => ?_)
        refine lv_iload hx hb dX5_shiftBy_86 (lv_at hl 1 rfl) ?_
        refine lv_iconst (v := (-1)) hx hb dX5_shiftBy_88 (by decide) ?_
        refine lv_icmp_eq (tgt := 106) hx hb dX5_shiftBy_89 (by decide) (fun c_2 => ?_) (fun c_2 => ?_)
        · have hV := hV.trans (if_pos c_2)
          refine lv_iinc (v := (nI (i + 1))) (lv' := [(4, .int (nI (i + 1))), (7, .int (sp_X0_greatestEnd (sp_X0_foresee (sp_X0_foresee Sx i (Sx 0 0 1) (-1) 0) i ((sp_X0_foresee Sx i (Sx 0 0 1) (-1) 0) 0 0 1) p1 p2) ((sp_X0_foresee (sp_X0_foresee Sx i (Sx 0 0 1) (-1) 0) i ((sp_X0_foresee Sx i (Sx 0 0 1) (-1) 0) 0 0 1) p1 p2) 6 i 0))), (6, .int (sp_X0_greatestEnd (sp_X0_foresee Sx i (Sx 0 0 1) (-1) 0) ((sp_X0_foresee Sx i (Sx 0 0 1) (-1) 0) 6 i 0))), (5, .ref (ad 6 i)), (0, .ref (ad 0 0)), (1, .int p1), (2, .int p2), (3, .int v3)]) hx hb dX5_shiftBy_106 hl (k := 7) rfl (nI_1 _) (by decide) rfl (fun ls hl => ?_)
          refine lv_goto (tgt := 11) hx hb dX5_shiftBy_109 (by decide) ?_
          exact ih (i + 1) v3 (sp_X0_foresee (sp_X0_foresee Sx i (Sx 0 0 1) (-1) 0) i ((sp_X0_foresee Sx i (Sx 0 0 1) (-1) 0) 0 0 1) p1 p2) _ _ _ (lp_s hk) (SF.tr (SF.tr hsf (sf_X0_foresee Sx i (Sx 0 0 1) (-1) 0)) (sf_X0_foresee (sp_X0_foresee Sx i (Sx 0 0 1) (-1) 0) i ((sp_X0_foresee Sx i (Sx 0 0 1) (-1) 0) 0 0 1) p1 p2)) hV hw (lv_sub hl [4, 5, 6, 7, 0] rfl)
        · have hV := hV.trans (if_neg c_2)
          refine lv_iload hx hb dX5_shiftBy_92 (lv_at hl 0 rfl) ?_
          refine lv_iconst (v := (-1)) hx hb dX5_shiftBy_94 (by decide) ?_
          refine lv_icmp_eq (tgt := 106) hx hb dX5_shiftBy_95 (by decide) (fun c_3 => ?_) (fun c_3 => ?_)
          · have hV := hV.trans (if_pos c_3)
            refine lv_iinc (v := (nI (i + 1))) (lv' := [(4, .int (nI (i + 1))), (7, .int (sp_X0_greatestEnd (sp_X0_foresee (sp_X0_foresee Sx i (Sx 0 0 1) (-1) 0) i ((sp_X0_foresee Sx i (Sx 0 0 1) (-1) 0) 0 0 1) p1 p2) ((sp_X0_foresee (sp_X0_foresee Sx i (Sx 0 0 1) (-1) 0) i ((sp_X0_foresee Sx i (Sx 0 0 1) (-1) 0) 0 0 1) p1 p2) 6 i 0))), (6, .int (sp_X0_greatestEnd (sp_X0_foresee Sx i (Sx 0 0 1) (-1) 0) ((sp_X0_foresee Sx i (Sx 0 0 1) (-1) 0) 6 i 0))), (5, .ref (ad 6 i)), (0, .ref (ad 0 0)), (1, .int p1), (2, .int p2), (3, .int v3)]) hx hb dX5_shiftBy_106 hl (k := 7) rfl (nI_1 _) (by decide) rfl (fun ls hl => ?_)
            refine lv_goto (tgt := 11) hx hb dX5_shiftBy_109 (by decide) ?_
            exact ih (i + 1) v3 (sp_X0_foresee (sp_X0_foresee Sx i (Sx 0 0 1) (-1) 0) i ((sp_X0_foresee Sx i (Sx 0 0 1) (-1) 0) 0 0 1) p1 p2) _ _ _ (lp_s hk) (SF.tr (SF.tr hsf (sf_X0_foresee Sx i (Sx 0 0 1) (-1) 0)) (sf_X0_foresee (sp_X0_foresee Sx i (Sx 0 0 1) (-1) 0) i ((sp_X0_foresee Sx i (Sx 0 0 1) (-1) 0) 0 0 1) p1 p2)) hV hw (lv_sub hl [4, 5, 6, 7, 0] rfl)
          · have hV := hV.trans (if_neg c_3)
            refine lv_iload_n hx hb dX5_shiftBy_98 rfl (lv_at hl 6 rfl) ?_
            refine lv_iload hx hb dX5_shiftBy_99 (lv_at hl 0 rfl) ?_
            refine lv_iload hx hb dX5_shiftBy_101 (lv_at hl 1 rfl) ?_
            refine lv_isub hx hb dX5_shiftBy_103 ?_
            refine lv_iadd hx hb dX5_shiftBy_104 ?_
            refine lv_istore_n (lv' := [(3, .int (v3 + ((sp_X0_greatestEnd (sp_X0_foresee (sp_X0_foresee Sx i (Sx 0 0 1) (-1) 0) i ((sp_X0_foresee Sx i (Sx 0 0 1) (-1) 0) 0 0 1) p1 p2) ((sp_X0_foresee (sp_X0_foresee Sx i (Sx 0 0 1) (-1) 0) i ((sp_X0_foresee Sx i (Sx 0 0 1) (-1) 0) 0 0 1) p1 p2) 6 i 0)) - (sp_X0_greatestEnd (sp_X0_foresee Sx i (Sx 0 0 1) (-1) 0) ((sp_X0_foresee Sx i (Sx 0 0 1) (-1) 0) 6 i 0))))), (7, .int (sp_X0_greatestEnd (sp_X0_foresee (sp_X0_foresee Sx i (Sx 0 0 1) (-1) 0) i ((sp_X0_foresee Sx i (Sx 0 0 1) (-1) 0) 0 0 1) p1 p2) ((sp_X0_foresee (sp_X0_foresee Sx i (Sx 0 0 1) (-1) 0) i ((sp_X0_foresee Sx i (Sx 0 0 1) (-1) 0) 0 0 1) p1 p2) 6 i 0))), (6, .int (sp_X0_greatestEnd (sp_X0_foresee Sx i (Sx 0 0 1) (-1) 0) ((sp_X0_foresee Sx i (Sx 0 0 1) (-1) 0) 6 i 0))), (5, .ref (ad 6 i)), (0, .ref (ad 0 0)), (1, .int p1), (2, .int p2), (4, .int (nI i))]) hx hb dX5_shiftBy_105 rfl hl (by decide) rfl (fun ls hl => ?_)
            refine lv_iinc (v := (nI (i + 1))) (lv' := [(4, .int (nI (i + 1))), (3, .int (v3 + ((sp_X0_greatestEnd (sp_X0_foresee (sp_X0_foresee Sx i (Sx 0 0 1) (-1) 0) i ((sp_X0_foresee Sx i (Sx 0 0 1) (-1) 0) 0 0 1) p1 p2) ((sp_X0_foresee (sp_X0_foresee Sx i (Sx 0 0 1) (-1) 0) i ((sp_X0_foresee Sx i (Sx 0 0 1) (-1) 0) 0 0 1) p1 p2) 6 i 0)) - (sp_X0_greatestEnd (sp_X0_foresee Sx i (Sx 0 0 1) (-1) 0) ((sp_X0_foresee Sx i (Sx 0 0 1) (-1) 0) 6 i 0))))), (7, .int (sp_X0_greatestEnd (sp_X0_foresee (sp_X0_foresee Sx i (Sx 0 0 1) (-1) 0) i ((sp_X0_foresee Sx i (Sx 0 0 1) (-1) 0) 0 0 1) p1 p2) ((sp_X0_foresee (sp_X0_foresee Sx i (Sx 0 0 1) (-1) 0) i ((sp_X0_foresee Sx i (Sx 0 0 1) (-1) 0) 0 0 1) p1 p2) 6 i 0))), (6, .int (sp_X0_greatestEnd (sp_X0_foresee Sx i (Sx 0 0 1) (-1) 0) ((sp_X0_foresee Sx i (Sx 0 0 1) (-1) 0) 6 i 0))), (5, .ref (ad 6 i)), (0, .ref (ad 0 0)), (1, .int p1), (2, .int p2)]) hx hb dX5_shiftBy_106 hl (k := 7) rfl (nI_1 _) (by decide) rfl (fun ls hl => ?_)
            refine lv_goto (tgt := 11) hx hb dX5_shiftBy_109 (by decide) ?_
            exact ih (i + 1) (v3 + ((sp_X0_greatestEnd (sp_X0_foresee (sp_X0_foresee Sx i (Sx 0 0 1) (-1) 0) i ((sp_X0_foresee Sx i (Sx 0 0 1) (-1) 0) 0 0 1) p1 p2) ((sp_X0_foresee (sp_X0_foresee Sx i (Sx 0 0 1) (-1) 0) i ((sp_X0_foresee Sx i (Sx 0 0 1) (-1) 0) 0 0 1) p1 p2) 6 i 0)) - (sp_X0_greatestEnd (sp_X0_foresee Sx i (Sx 0 0 1) (-1) 0) ((sp_X0_foresee Sx i (Sx 0 0 1) (-1) 0) 6 i 0)))) (sp_X0_foresee (sp_X0_foresee Sx i (Sx 0 0 1) (-1) 0) i ((sp_X0_foresee Sx i (Sx 0 0 1) (-1) 0) 0 0 1) p1 p2) _ _ _ (lp_s hk) (SF.tr (SF.tr hsf (sf_X0_foresee Sx i (Sx 0 0 1) (-1) 0)) (sf_X0_foresee (sp_X0_foresee Sx i (Sx 0 0 1) (-1) 0) i ((sp_X0_foresee Sx i (Sx 0 0 1) (-1) 0) 0 0 1) p1 p2)) hV hw (lv_sub hl [5, 6, 7, 1, 0] rfl)
    exact key_11 ((S 0 0 0).toNatClampNeg) 0 0 S _ _ _ (Nat.zero_add _) (SF.rf _) rfl hw (lv_sub hl [2, 3, 4, 1, 0] rfl)
