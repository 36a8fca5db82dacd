abbrev bw_X5_digestWith : List Cond := .code yX5_digestWith cX5_digestWith 8 (some .long) :: BIG
abbrev rm_X5_digestWith : Room := { frames := 5, cells := 0, slots := 0, locals := 116 }
noncomputable def lp_X5_digestWith_138 (S : (Nat → Nat → Nat → Int32)) (j : Nat) (p1 : Int64) (k : Nat) (i : Nat) (v4 : Int64) : Nat → Nat → Int64 → Int64
  | 0, ib, v4b => (v4b)
  | kb + 1, ib, v4b => lp_X5_digestWith_138 S j p1 k i v4 kb (ib + 1) ((v4b * 31) + ((sp_X5_foreseenOfStep (sp_X0_foresee S j (S 0 0 1) (-1) 0) j (nI i) (nI ib)).toInt64))
theorem lz_lp_X5_digestWith_138 (S : (Nat → Nat → Nat → Int32)) (j : Nat) (p1 : Int64) (k : Nat) (i : Nat) (v4 : Int64) (ib : Nat) (v4b : Int64) : lp_X5_digestWith_138 S j p1 k i v4 0 ib v4b = (v4b) := rfl
theorem ls_lp_X5_digestWith_138 (S : (Nat → Nat → Nat → Int32)) (j : Nat) (p1 : Int64) (k : Nat) (i : Nat) (v4 : Int64) (kb ib : Nat) (v4b : Int64) : lp_X5_digestWith_138 S j p1 k i v4 (kb + 1) ib v4b = lp_X5_digestWith_138 S j p1 k i v4 kb (ib + 1) ((v4b * 31) + ((sp_X5_foreseenOfStep (sp_X0_foresee S j (S 0 0 1) (-1) 0) j (nI i) (nI ib)).toInt64)) := rfl
noncomputable def lp_X5_digestWith_116 (S : (Nat → Nat → Nat → Int32)) (j : Nat) (p1 : Int64) : Nat → Nat → Int64 → Int64
  | 0, i, v4 => (v4)
  | k + 1, i, v4 => if sp_X5_has ((sp_X0_foresee S j (S 0 0 1) (-1) 0) 6 j 0) (nI i) = 0 then (lp_X5_digestWith_116 S j p1 k (i + 1) v4) else (lp_X5_digestWith_116 S j p1 k (i + 1) (((lp_X5_digestWith_138 S j p1 k i v4 6 0 v4) * 31) + ((sp_X5_countWaitingOn (sp_X0_foresee S j (S 0 0 1) (-1) 0) j (nI i)).toInt64)))
theorem lz_lp_X5_digestWith_116 (S : (Nat → Nat → Nat → Int32)) (j : Nat) (p1 : Int64) (i : Nat) (v4 : Int64) : lp_X5_digestWith_116 S j p1 0 i v4 = (v4) := rfl
noncomputable def lp_X5_digestWith_68 (S : (Nat → Nat → Nat → Int32)) (j : Nat) (p1 : Int64) : Nat → Nat → Int64 → Int64
  | 0, i, v4 => (v4)
  | k + 1, i, v4 => lp_X5_digestWith_68 S j p1 k (i + 1) ((v4 * 31) + ((sp_X0_dayBehind (sp_X0_foresee S j (S 0 0 1) (-1) 0) ((sp_X0_foresee S j (S 0 0 1) (-1) 0) 12 0 i)).toInt64))
theorem lz_lp_X5_digestWith_68 (S : (Nat → Nat → Nat → Int32)) (j : Nat) (p1 : Int64) (i : Nat) (v4 : Int64) : lp_X5_digestWith_68 S j p1 0 i v4 = (v4) := rfl
theorem ls_lp_X5_digestWith_68 (S : (Nat → Nat → Nat → Int32)) (j : Nat) (p1 : Int64) (k i : Nat) (v4 : Int64) : lp_X5_digestWith_68 S j p1 (k + 1) i v4 = lp_X5_digestWith_68 S j p1 k (i + 1) ((v4 * 31) + ((sp_X0_dayBehind (sp_X0_foresee S j (S 0 0 1) (-1) 0) ((sp_X0_foresee S j (S 0 0 1) (-1) 0) 12 0 i)).toInt64)) := rfl
noncomputable def lp_X5_digestWith_20 (S : (Nat → Nat → Nat → Int32)) (j : Nat) (p1 : Int64) : Nat → Nat → Int64 → Int64
  | 0, i, v4 => (v4)
  | k + 1, i, v4 => lp_X5_digestWith_20 S j p1 k (i + 1) ((v4 * 31) + ((sp_X5_foreseenOfJoiner (sp_X0_foresee S j (S 0 0 1) (-1) 0) j (nI i)).toInt64))
theorem lz_lp_X5_digestWith_20 (S : (Nat → Nat → Nat → Int32)) (j : Nat) (p1 : Int64) (i : Nat) (v4 : Int64) : lp_X5_digestWith_20 S j p1 0 i v4 = (v4) := rfl
theorem ls_lp_X5_digestWith_20 (S : (Nat → Nat → Nat → Int32)) (j : Nat) (p1 : Int64) (k i : Nat) (v4 : Int64) : lp_X5_digestWith_20 S j p1 (k + 1) i v4 = lp_X5_digestWith_20 S j p1 k (i + 1) ((v4 * 31) + ((sp_X5_foreseenOfJoiner (sp_X0_foresee S j (S 0 0 1) (-1) 0) j (nI i)).toInt64)) := rfl
noncomputable def rw_X5_digestWith (S : (Nat → Nat → Nat → Int32)) (j : Nat) (p1 : Int64) : Int64 × (Nat → Nat → Nat → Int32) := ((lp_X5_digestWith_116 S j p1 12 0 (lp_X5_digestWith_68 S j p1 ((S 1 0 1).toNatClampNeg) 0 (((lp_X5_digestWith_20 S j p1 7 0 p1) * 31) + ((sp_X5_nextStep (sp_X0_foresee S j (S 0 0 1) (-1) 0) j).toInt64)))), (sp_X0_foresee S j (S 0 0 1) (-1) 0))
/-- sealed: it unfolds by un_ alone -/
noncomputable def sp_X5_digestWith : (Nat → Nat → Nat → Int32) → Nat → Int64 → (Int64 × (Nat → Nat → Nat → Int32)) := Classical.choose (⟨rw_X5_digestWith, rfl⟩ : ∃ f, f = rw_X5_digestWith)
theorem un_X5_digestWith (S : (Nat → Nat → Nat → Int32)) (j : Nat) (p1 : Int64) : sp_X5_digestWith S j p1 = rw_X5_digestWith S j p1 := (congrFun (congrFun (congrFun (Classical.choose_spec (⟨rw_X5_digestWith, rfl⟩ : ∃ f, f = rw_X5_digestWith)) S) j) p1)
theorem sf_X5_digestWith (S : (Nat → Nat → Nat → Int32)) (j : Nat) (p1 : Int64) : SF S (sp_X5_digestWith S j p1).2 := by
  rw [un_X5_digestWith]
  unfold rw_X5_digestWith
  exact (SF.tr (SF.rf _) (sf_X0_foresee S j (S 0 0 1) (-1) 0))

set_option maxHeartbeats 1000000 in
set_option maxRecDepth 100000 in
theorem ct_X5_digestWith {l : Launch} {D : va_G} {cI cG cJ cO : ClassId} {K0 : Nat → Nat} {A : Nat → Prop} {L : List (Nat × Nat)} {ad : Nat → Nat → Nat} {ce : Nat → Nat → va_E} (hL : ∀ f o, cid f o = true → (f, o) ∈ L) (S : (Nat → Nat → Nat → Int32)) (hI : CI S) (j : Nat) (hj : j < 8) (p1 : Int64) (sz : Nat) (hA : ∀ q, sz ≤ q → A q) : Met l yX5_digestWith bw_X5_digestWith rm_X5_digestWith (kP D (ktys cI cG cJ cO) K0 A L ad (cK cI cJ ad ce S) sz [.ref (ad 0 0), .long p1, .ref (ad 6 j)]) (kQl D A (sp_X5_digestWith S j p1).1 L ad (cK cI cJ ad ce (sp_X5_digestWith S j p1).2)) 0 0 A := by
  refine Met.ofW (cc := cX5_digestWith) (maxL := 8) (ret := (some .long)) (by decide) rfl ?_
  intro p e s m args below meth c s₁ B hml hv
  obtain ⟨hav, hsz, hP, hD, hK, hO⟩ := hv
  have hx := B.exec
  have hb := B.bytes
  have hr := B.returns
  have hts : ∀ w ∈ BIG, w.before args s = true := fun w h => atoms_spec (ws := bw_X5_digestWith) B.pre w (List.mem_cons_of_mem _ h)
  have hown : s.vm.findClass RX5 = some m.cls := findClass_of_methodNamed B.named
  have hlocks := B.notSynchronized
  subst hsz
  have hw := wk.start hP hD
  refine k_start (by rfl) hav (Nat.le_of_ble_eq_true rfl) (fun ls hl => ?_)
  have hl : lv_has ls 8 [(0, .ref (ad 0 0)), (1, .long p1), (3, .ref (ad 6 j))] := hl
  have hE : sp_X5_digestWith S j p1 = ((lp_X5_digestWith_116 S j p1 12 0 (lp_X5_digestWith_68 S j p1 ((S 1 0 1).toNatClampNeg) 0 (((lp_X5_digestWith_20 S j p1 7 0 p1) * 31) + ((sp_X5_nextStep (sp_X0_foresee S j (S 0 0 1) (-1) 0) j).toInt64)))), (sp_X0_foresee S j (S 0 0 1) (-1) 0)) := un_X5_digestWith S j p1
  refine lv_lload_n hx hb dX5_digestWith_0 rfl (lv_at hl 1 rfl) ?_
  refine lv_lstore (lv' := [(4, .long p1), (0, .ref (ad 0 0)), (1, .long p1), (3, .ref (ad 6 j))]) hx hb dX5_digestWith_1 hl (by decide) rfl (fun ls hl => ?_)
  refine lv_aload_n hx hb dX5_digestWith_3 rfl (lv_at hl 1 rfl) ?_
  refine k_get (C := RX5) (T := TX5) (N := 7) (v := .ref (ad 4 0)) hx hb hts inB_X5 hown hK hw (hL 0 0 rfl) cke_0 rfl 3 (by decide) (hts _ w_f_X5_35) (fun _ h9 => h9) rfl dX5_digestWith_4 ?_
  refine lv_aload_n hx hb dX5_digestWith_7 rfl (lv_at hl 3 rfl) ?_
  refine lv_aload_n hx hb dX5_digestWith_8 rfl (lv_at hl 1 rfl) ?_
  refine k_get (C := RX5) (T := TX5) (N := 7) (v := .int (S 0 0 1)) hx hb hts inB_X5 hown hK hw (hL 0 0 rfl) cke_0 rfl 6 (by decide) (hts _ w_f_X5_160) (fun _ h9 => h9) rfl dX5_digestWith_9 ?_
  refine lv_iconst (v := (-1)) hx hb dX5_digestWith_12 (by decide) ?_
  refine lv_iconst (v := 0) hx hb dX5_digestWith_13 (by decide) ?_
  refine k_cv0 hw (k_rV (As := [.ref (ad 6 j), .int (S 0 0 1), .int (-1), .int 0]) (rest := []) ⟨hx, hb, hml, hown, hts⟩ hK hO hw (ct_X0_foresee hL S (SF.ci (SF.rf _) hI) j hj (S 0 0 1) (-1) 0 _ (wk.hA hw hA)) (cwV 4 hts (gB_V w_ml_X5_233 w_im_X0_foresee w_se_X0_foresee w_in_X0 w_co_X0_foresee) rfl rfl rfl (by decide +kernel) ⟨by decide, by decide⟩) (hL 4 0 rfl) cke_4 rfl rfl hl.1 rfl (Nat.le_of_ble_eq_true rfl) dX5_digestWith_14 ⟨Nat.le_of_ble_eq_true rfl, Nat.le_of_ble_eq_true rfl⟩) (fun H locs hw => ?_)
  refine lv_iconst (v := 0) hx hb dX5_digestWith_17 (by decide) ?_
  refine lv_istore (lv' := [(6, .int 0), (4, .long p1), (0, .ref (ad 0 0)), (1, .long p1), (3, .ref (ad 6 j))]) hx hb dX5_digestWith_18 hl (by decide) rfl (fun ls hl => ?_)
  have key_20 : ∀ (k i : Nat) (v4 : Int64) (H : Heap) (locs : List Loc) (ls : Array Slot), i + k = 7 → (lp_X5_digestWith_20 S j p1 7 0 p1) = lp_X5_digestWith_20 S j p1 k i v4 → wk D A L ad (cK cI cJ ad ce (sp_X0_foresee S j (S 0 0 1) (-1) 0)) s.heap H locs → lv_has ls 8 [(0, .ref (ad 0 0)), (1, .long p1), (3, .ref (ad 6 j)), (4, .long v4), (6, .int (nI i))] → W p l e (headSpec bw_X5_digestWith rm_X5_digestWith).room s m args below meth c H locs 0 0 (MQ below (kQl D A (sp_X5_digestWith S j p1).1 L ad (cK cI cJ ad ce (sp_X5_digestWith S j p1).2)) args s 0 0 A) (F0 m 20 ls []) := by
    intro k
    induction k with
    | zero =>
      intro i v4 H locs ls hk hV hw hl
      have hV := hV.trans (lz_lp_X5_digestWith_20 S j p1 i v4)
      obtain rfl : v4 = (lp_X5_digestWith_20 S j p1 7 0 p1) := hV.symm
      refine lv_iload hx hb dX5_digestWith_20 (lv_at hl 4 rfl) ?_
      refine lv_bipush (v := 6) hx hb dX5_digestWith_22 (by decide) ?_
      refine lv_icmp_gt (tgt := 50) hx hb dX5_digestWith_24 (by decide) (fun _ => ?_) (fun h => absurd (lp_o' rfl hk (by decide)) h)
      refine lv_lload hx hb dX5_digestWith_50 (lv_at hl 3 rfl) ?_
      refine lv_ldc2 hx hb hown (hts _ w_cq_X5_288) dX5_digestWith_52 ?_
      refine lv_lmul hx hb dX5_digestWith_55 ?_
      refine lv_aload_n hx hb dX5_digestWith_56 rfl (lv_at hl 0 rfl) ?_
      refine lv_aload_n hx hb dX5_digestWith_57 rfl (lv_at hl 2 rfl) ?_
      refine k_ci0 hw (k_rV (As := [.ref (ad 6 j)]) (rest := [.long ((lp_X5_digestWith_20 S j p1 7 0 p1) * 31)]) ⟨hx, hb, hml, hown, hts⟩ hK hO hw (ct_X5_nextStep hL (sp_X0_foresee S j (S 0 0 1) (-1) 0) (SF.ci (SF.tr (SF.rf _) (sf_X0_foresee S j (S 0 0 1) (-1) 0)) hI) j hj _ (wk.hA hw hA)) (cwV 1 hts (gB_V w_ml_X5_279 w_im_X5_nextStep w_se_X5_nextStep w_in_X5 w_co_X5_nextStep) rfl rfl rfl (by decide +kernel) ⟨by decide, by decide⟩) (hL 0 0 rfl) cke_0 rfl rfl hl.1 rfl (Nat.le_of_ble_eq_true rfl) dX5_digestWith_58 ⟨Nat.le_of_ble_eq_true rfl, Nat.le_of_ble_eq_true rfl⟩) (fun H locs hw => ?_)
      refine lv_i2l (v := (sp_X5_nextStep (sp_X0_foresee S j (S 0 0 1) (-1) 0) j).toInt64) hx hb dX5_digestWith_61 rfl ?_
      refine lv_ladd hx hb dX5_digestWith_62 ?_
      refine lv_lstore (lv' := [(4, .long (((lp_X5_digestWith_20 S j p1 7 0 p1) * 31) + ((sp_X5_nextStep (sp_X0_foresee S j (S 0 0 1) (-1) 0) j).toInt64))), (0, .ref (ad 0 0)), (1, .long p1), (3, .ref (ad 6 j)), (6, .int (nI i))]) hx hb dX5_digestWith_63 hl (by decide) rfl (fun ls hl => ?_)
      refine lv_iconst (v := 0) hx hb dX5_digestWith_65 (by decide) ?_
      refine lv_istore (lv' := [(6, .int 0), (4, .long (((lp_X5_digestWith_20 S j p1 7 0 p1) * 31) + ((sp_X5_nextStep (sp_X0_foresee S j (S 0 0 1) (-1) 0) j).toInt64))), (0, .ref (ad 0 0)), (1, .long p1), (3, .ref (ad 6 j))]) hx hb dX5_digestWith_66 hl (by decide) rfl (fun ls hl => ?_)
      have key_68 : ∀ (k i : Nat) (v4 : Int64) (H : Heap) (locs : List Loc) (ls : Array Slot), i + k = (S 1 0 1).toNatClampNeg → (lp_X5_digestWith_68 S j p1 ((S 1 0 1).toNatClampNeg) 0 (((lp_X5_digestWith_20 S j p1 7 0 p1) * 31) + ((sp_X5_nextStep (sp_X0_foresee S j (S 0 0 1) (-1) 0) j).toInt64))) = lp_X5_digestWith_68 S j p1 k i v4 → wk D A L ad (cK cI cJ ad ce (sp_X0_foresee S j (S 0 0 1) (-1) 0)) s.heap H locs → lv_has ls 8 [(0, .ref (ad 0 0)), (1, .long p1), (3, .ref (ad 6 j)), (4, .long v4), (6, .int (nI i))] → W p l e (headSpec bw_X5_digestWith rm_X5_digestWith).room s m args below meth c H locs 0 0 (MQ below (kQl D A (sp_X5_digestWith S j p1).1 L ad (cK cI cJ ad ce (sp_X5_digestWith S j p1).2)) args s 0 0 A) (F0 m 68 ls []) := by
        intro k
        induction k with
        | zero =>
          intro i v4 H locs ls hk hV hw hl
          have hV := hV.trans (lz_lp_X5_digestWith_68 S j p1 i v4)
          obtain rfl : v4 = (lp_X5_digestWith_68 S j p1 ((S 1 0 1).toNatClampNeg) 0 (((lp_X5_digestWith_20 S j p1 7 0 p1) * 31) + ((sp_X5_nextStep (sp_X0_foresee S j (S 0 0 1) (-1) 0) j).toInt64))) := hV.symm
          refine lv_iload hx hb dX5_digestWith_68 (lv_at hl 4 rfl) ?_
          refine lv_aload_n hx hb dX5_digestWith_70 rfl (lv_at hl 0 rfl) ?_
          refine k_get (C := RX5) (T := TX5) (N := 7) (v := .ref (ad 1 0)) hx hb hts inB_X5 hown hK hw (hL 0 0 rfl) cke_0 rfl 0 (by decide) (hts _ w_f_X5_10) (fun _ h9 => h9) rfl dX5_digestWith_71 ?_
          refine k_get (C := RX2) (T := TX2) (N := 8) (v := .int ((sp_X0_foresee S j (S 0 0 1) (-1) 0) 1 0 1)) hx hb hts inB_X2 hown hK hw (hL 1 0 rfl) cke_1 rfl 7 (by decide) (hts _ w_f_X5_249) (fun _ h9 => h9) rfl dX5_digestWith_74 ?_
          refine lv_icmp_ge (tgt := 113) hx hb dX5_digestWith_77 (by decide) (fun _ => ?_) (fun h => absurd (lp_o (SF.b2 (SF.tr (SF.rf _) (sf_X0_foresee S j (S 0 0 1) (-1) 0)) hI) hk (cn_lt _)) h)
          refine lv_iconst (v := 0) hx hb dX5_digestWith_113 (by decide) ?_
          refine lv_istore (lv' := [(6, .int 0), (0, .ref (ad 0 0)), (1, .long p1), (3, .ref (ad 6 j)), (4, .long (lp_X5_digestWith_68 S j p1 ((S 1 0 1).toNatClampNeg) 0 (((lp_X5_digestWith_20 S j p1 7 0 p1) * 31) + ((sp_X5_nextStep (sp_X0_foresee S j (S 0 0 1) (-1) 0) j).toInt64))))]) hx hb dX5_digestWith_114 hl (by decide) rfl (fun ls hl => ?_)
          have key_116 : ∀ (k i : Nat) (v4 : Int64) (H : Heap) (locs : List Loc) (ls : Array Slot), i + k = 12 → (lp_X5_digestWith_116 S j p1 12 0 (lp_X5_digestWith_68 S j p1 ((S 1 0 1).toNatClampNeg) 0 (((lp_X5_digestWith_20 S j p1 7 0 p1) * 31) + ((sp_X5_nextStep (sp_X0_foresee S j (S 0 0 1) (-1) 0) j).toInt64)))) = lp_X5_digestWith_116 S j p1 k i v4 → wk D A L ad (cK cI cJ ad ce (sp_X0_foresee S j (S 0 0 1) (-1) 0)) s.heap H locs → lv_has ls 8 [(0, .ref (ad 0 0)), (1, .long p1), (3, .ref (ad 6 j)), (4, .long v4), (6, .int (nI i))] → W p l e (headSpec bw_X5_digestWith rm_X5_digestWith).room s m args below meth c H locs 0 0 (MQ below (kQl D A (sp_X5_digestWith S j p1).1 L ad (cK cI cJ ad ce (sp_X5_digestWith S j p1).2)) args s 0 0 A) (F0 m 116 ls []) := by
            intro k
            induction k with
            | zero =>
              intro i v4 H locs ls hk hV hw hl
              have hV := hV.trans (lz_lp_X5_digestWith_116 S j p1 i v4)
              obtain rfl : v4 = (lp_X5_digestWith_116 S j p1 12 0 (lp_X5_digestWith_68 S j p1 ((S 1 0 1).toNatClampNeg) 0 (((lp_X5_digestWith_20 S j p1 7 0 p1) * 31) + ((sp_X5_nextStep (sp_X0_foresee S j (S 0 0 1) (-1) 0) j).toInt64)))) := hV.symm
              refine lv_iload hx hb dX5_digestWith_116 (lv_at hl 4 rfl) ?_
              refine lv_bipush (v := 12) hx hb dX5_digestWith_118 (by decide) ?_
              refine lv_icmp_ge (tgt := 192) hx hb dX5_digestWith_120 (by decide) (fun _ => ?_) (fun h => absurd (lp_o rfl hk (by decide)) h)
              refine lv_lload hx hb dX5_digestWith_192 (lv_at hl 3 rfl) ?_
              exact k_lretE hx hb hr hlocks hw hE dX5_digestWith_194
            | succ k ih =>
              intro i v4 H locs ls hk hV hw hl
              refine lv_iload hx hb dX5_digestWith_116 (lv_at hl 4 rfl) ?_
              refine lv_bipush (v := 12) hx hb dX5_digestWith_118 (by decide) ?_
              refine lv_icmp_ge (tgt := 192) hx hb dX5_digestWith_120 (by decide) (fun h => absurd h (lp_i rfl hk (by decide))) (fun _ => ?_)
              refine lv_aload_n hx hb dX5_digestWith_123 rfl (lv_at hl 2 rfl) ?_
              refine k_get (C := RX1) (T := TX1) (N := 8) (v := .int ((sp_X0_foresee S j (S 0 0 1) (-1) 0) 6 j 0)) hx hb hts inB_X1 hown hK hw (hL 6 j (cidJ6 hj)) cke_6 rfl 5 (by decide) (hts _ w_f_X5_183) (fun _ h9 => h9) rfl dX5_digestWith_124 ?_
              refine lv_iload hx hb dX5_digestWith_127 (lv_at hl 4 rfl) ?_
              refine k_ci0 hw (k_rS (As := [.int ((sp_X0_foresee S j (S 0 0 1) (-1) 0) 6 j 0), .int (nI i)]) (rest := []) ⟨hx, hb, hml, hown, hts⟩ hK hO hw (ct_X5_has ((sp_X0_foresee S j (S 0 0 1) (-1) 0) 6 j 0) (nI i) _ (wk.hA hw hA)) (va_cwS 2 hts (gB_S w_ml_X5_226 w_st_X5_has w_in_X5 w_co_X5_has) rfl rfl rfl (by decide +kernel) ⟨by decide, by decide⟩) rfl hl.1 rfl (Nat.le_of_ble_eq_true rfl) dX5_digestWith_129 ⟨Nat.le_of_ble_eq_true rfl, Nat.le_of_ble_eq_true rfl⟩) (fun H locs hw => ?_)
              refine lv_if_eq (tgt := 186) hx hb dX5_digestWith_132 (by decide) (fun c_1 => ?_) (fun c_1 => ?_)
              · have hV := hV.trans (if_pos c_1)
                refine lv_iinc (v := (nI (i + 1))) (lv' := [(6, .int (nI (i + 1))), (0, .ref (ad 0 0)), (1, .long p1), (3, .ref (ad 6 j)), (4, .long v4)]) hx hb dX5_digestWith_186 hl (k := 4) rfl (nI_1 _) (by decide) rfl (fun ls hl => ?_)
                refine lv_goto (tgt := 116) hx hb dX5_digestWith_189 (by decide) ?_
                exact ih (i + 1) v4 _ _ _ (lp_s hk) hV hw (lv_sub hl [1, 2, 3, 4, 0] rfl)
              · have hV := hV.trans (if_neg c_1)
                refine lv_iconst (v := 0) hx hb dX5_digestWith_135 (by decide) ?_
                refine lv_istore (lv' := [(7, .int 0), (0, .ref (ad 0 0)), (1, .long p1), (3, .ref (ad 6 j)), (4, .long v4), (6, .int (nI i))]) hx hb dX5_digestWith_136 hl (by decide) rfl (fun ls hl => ?_)
                have key_138 : ∀ (kb ib : Nat) (v4b : Int64) (H : Heap) (locs : List Loc) (ls : Array Slot), ib + kb = 6 → (lp_X5_digestWith_138 S j p1 k i v4 6 0 v4) = lp_X5_digestWith_138 S j p1 k i v4 kb ib v4b → wk D A L ad (cK cI cJ ad ce (sp_X0_foresee S j (S 0 0 1) (-1) 0)) s.heap H locs → lv_has ls 8 [(0, .ref (ad 0 0)), (1, .long p1), (3, .ref (ad 6 j)), (4, .long v4b), (6, .int (nI i)), (7, .int (nI ib))] → W p l e (headSpec bw_X5_digestWith rm_X5_digestWith).room s m args below meth c H locs 0 0 (MQ below (kQl D A (sp_X5_digestWith S j p1).1 L ad (cK cI cJ ad ce (sp_X5_digestWith S j p1).2)) args s 0 0 A) (F0 m 138 ls []) := by
                  intro kb
                  induction kb with
                  | zero =>
                    intro ib v4b H locs ls hkb hVb hw hl
                    have hVb := hVb.trans (lz_lp_X5_digestWith_138 S j p1 k i v4 ib v4b)
                    obtain rfl : v4b = (lp_X5_digestWith_138 S j p1 k i v4 6 0 v4) := hVb.symm
                    refine lv_iload hx hb dX5_digestWith_138 (lv_at hl 5 rfl) ?_
                    refine lv_iconst (v := 5) hx hb dX5_digestWith_140 (by decide) ?_
                    refine lv_icmp_gt (tgt := 169) hx hb dX5_digestWith_141 (by decide) (fun _ => ?_) (fun h => absurd (lp_o' rfl hkb (by decide)) h)
                    refine lv_lload hx hb dX5_digestWith_169 (lv_at hl 3 rfl) ?_
                    refine lv_ldc2 hx hb hown (hts _ w_cq_X5_288) dX5_digestWith_171 ?_
                    refine lv_lmul hx hb dX5_digestWith_174 ?_
                    refine lv_aload_n hx hb dX5_digestWith_175 rfl (lv_at hl 0 rfl) ?_
                    refine lv_aload_n hx hb dX5_digestWith_176 rfl (lv_at hl 2 rfl) ?_
                    refine lv_iload hx hb dX5_digestWith_177 (lv_at hl 4 rfl) ?_
                    refine k_ci0 hw (k_rV (As := [.ref (ad 6 j), .int (nI i)]) (rest := [.long ((lp_X5_digestWith_138 S j p1 k i v4 6 0 v4) * 31)]) ⟨hx, hb, hml, hown, hts⟩ hK hO hw (ct_X5_countWaitingOn hL (sp_X0_foresee S j (S 0 0 1) (-1) 0) (SF.ci (SF.tr (SF.rf _) (sf_X0_foresee S j (S 0 0 1) (-1) 0)) hI) j hj (nI i) _ (wk.hA hw hA)) (cwV 2 hts (gB_V w_ml_X5_283 w_im_X5_countWaitingOn w_se_X5_countWaitingOn w_in_X5 w_co_X5_countWaitingOn) rfl rfl rfl (by decide +kernel) ⟨by decide, by decide⟩) (hL 0 0 rfl) cke_0 rfl rfl hl.1 rfl (Nat.le_of_ble_eq_true rfl) dX5_digestWith_179 ⟨Nat.le_of_ble_eq_true rfl, Nat.le_of_ble_eq_true rfl⟩) (fun H locs hw => ?_)
                    refine lv_i2l (v := (sp_X5_countWaitingOn (sp_X0_foresee S j (S 0 0 1) (-1) 0) j (nI i)).toInt64) hx hb dX5_digestWith_182 rfl ?_
                    refine lv_ladd hx hb dX5_digestWith_183 ?_
                    refine lv_lstore (lv' := [(4, .long (((lp_X5_digestWith_138 S j p1 k i v4 6 0 v4) * 31) + ((sp_X5_countWaitingOn (sp_X0_foresee S j (S 0 0 1) (-1) 0) j (nI i)).toInt64))), (0, .ref (ad 0 0)), (1, .long p1), (3, .ref (ad 6 j)), (6, .int (nI i)), (7, .int (nI ib))]) hx hb dX5_digestWith_184 hl (by decide) rfl (fun ls hl => ?_)
                    refine lv_iinc (v := (nI (i + 1))) (lv' := [(6, .int (nI (i + 1))), (4, .long (((lp_X5_digestWith_138 S j p1 k i v4 6 0 v4) * 31) + ((sp_X5_countWaitingOn (sp_X0_foresee S j (S 0 0 1) (-1) 0) j (nI i)).toInt64))), (0, .ref (ad 0 0)), (1, .long p1), (3, .ref (ad 6 j)), (7, .int (nI ib))]) hx hb dX5_digestWith_186 hl (k := 4) rfl (nI_1 _) (by decide) rfl (fun ls hl => ?_)
                    refine lv_goto (tgt := 116) hx hb dX5_digestWith_189 (by decide) ?_
                    exact ih (i + 1) (((lp_X5_digestWith_138 S j p1 k i v4 6 0 v4) * 31) + ((sp_X5_countWaitingOn (sp_X0_foresee S j (S 0 0 1) (-1) 0) j (nI i)).toInt64)) _ _ _ (lp_s hk) hV hw (lv_sub hl [2, 3, 4, 1, 0] rfl)
                  | succ kb ihb =>
                    intro ib v4b H locs ls hkb hVb hw hl
                    have hVb := hVb.trans (ls_lp_X5_digestWith_138 S j p1 k i v4 kb ib v4b)
                    refine lv_iload hx hb dX5_digestWith_138 (lv_at hl 5 rfl) ?_
                    refine lv_iconst (v := 5) hx hb dX5_digestWith_140 (by decide) ?_
                    refine lv_icmp_gt (tgt := 169) hx hb dX5_digestWith_141 (by decide) (fun h => absurd h (lp_i' rfl hkb (by decide))) (fun _ => ?_)
                    refine lv_lload hx hb dX5_digestWith_144 (lv_at hl 3 rfl) ?_
                    refine lv_ldc2 hx hb hown (hts _ w_cq_X5_288) dX5_digestWith_146 ?_
                    refine lv_lmul hx hb dX5_digestWith_149 ?_
                    refine lv_aload_n hx hb dX5_digestWith_150 rfl (lv_at hl 0 rfl) ?_
                    refine lv_aload_n hx hb dX5_digestWith_151 rfl (lv_at hl 2 rfl) ?_
                    refine lv_iload hx hb dX5_digestWith_152 (lv_at hl 4 rfl) ?_
                    refine lv_iload hx hb dX5_digestWith_154 (lv_at hl 5 rfl) ?_
                    refine k_ci0 hw (k_rV (As := [.ref (ad 6 j), .int (nI i), .int (nI ib)]) (rest := [.long (v4b * 31)]) ⟨hx, hb, hml, hown, hts⟩ hK hO hw (ct_X5_foreseenOfStep hL (sp_X0_foresee S j (S 0 0 1) (-1) 0) (SF.ci (SF.tr (SF.rf _) (sf_X0_foresee S j (S 0 0 1) (-1) 0)) hI) j hj (nI i) (nI ib) _ (wk.hA hw hA)) (cwV 3 hts (gB_V w_ml_X5_237 w_im_X5_foreseenOfStep w_se_X5_foreseenOfStep w_in_X5 w_co_X5_foreseenOfStep) rfl rfl rfl (by decide +kernel) ⟨by decide, by decide⟩) (hL 0 0 rfl) cke_0 rfl rfl hl.1 rfl (Nat.le_of_ble_eq_true rfl) dX5_digestWith_156 ⟨Nat.le_of_ble_eq_true rfl, Nat.le_of_ble_eq_true rfl⟩) (fun H locs hw => ?_)
                    refine lv_i2l (v := (sp_X5_foreseenOfStep (sp_X0_foresee S j (S 0 0 1) (-1) 0) j (nI i) (nI ib)).toInt64) hx hb dX5_digestWith_159 rfl ?_
                    refine lv_ladd hx hb dX5_digestWith_160 ?_
                    refine lv_lstore (lv' := [(4, .long ((v4b * 31) + ((sp_X5_foreseenOfStep (sp_X0_foresee S j (S 0 0 1) (-1) 0) j (nI i) (nI ib)).toInt64))), (0, .ref (ad 0 0)), (1, .long p1), (3, .ref (ad 6 j)), (6, .int (nI i)), (7, .int (nI ib))]) hx hb dX5_digestWith_161 hl (by decide) rfl (fun ls hl => ?_)
                    refine lv_iinc (v := (nI (ib + 1))) (lv' := [(7, .int (nI (ib + 1))), (4, .long ((v4b * 31) + ((sp_X5_foreseenOfStep (sp_X0_foresee S j (S 0 0 1) (-1) 0) j (nI i) (nI ib)).toInt64))), (0, .ref (ad 0 0)), (1, .long p1), (3, .ref (ad 6 j)), (6, .int (nI i))]) hx hb dX5_digestWith_163 hl (k := 5) rfl (nI_1 _) (by decide) rfl (fun ls hl => ?_)
                    refine lv_goto (tgt := 138) hx hb dX5_digestWith_166 (by decide) ?_
                    exact ihb (ib + 1) ((v4b * 31) + ((sp_X5_foreseenOfStep (sp_X0_foresee S j (S 0 0 1) (-1) 0) j (nI i) (nI ib)).toInt64)) _ _ _ (lp_s hkb) hVb hw (lv_sub hl [2, 3, 4, 1, 5, 0] rfl)
                exact key_138 6 0 v4 _ _ _ (Nat.zero_add _) rfl hw (lv_sub hl [1, 2, 3, 4, 5, 0] rfl)
          exact key_116 12 0 (lp_X5_digestWith_68 S j p1 ((S 1 0 1).toNatClampNeg) 0 (((lp_X5_digestWith_20 S j p1 7 0 p1) * 31) + ((sp_X5_nextStep (sp_X0_foresee S j (S 0 0 1) (-1) 0) j).toInt64))) _ _ _ (Nat.zero_add _) rfl hw (lv_sub hl [1, 2, 3, 4, 0] rfl)
        | succ k ih =>
          intro i v4 H locs ls hk hV hw hl
          have hV := hV.trans (ls_lp_X5_digestWith_68 S j p1 k i v4)
          refine lv_iload hx hb dX5_digestWith_68 (lv_at hl 4 rfl) ?_
          refine lv_aload_n hx hb dX5_digestWith_70 rfl (lv_at hl 0 rfl) ?_
          refine k_get (C := RX5) (T := TX5) (N := 7) (v := .ref (ad 1 0)) hx hb hts inB_X5 hown hK hw (hL 0 0 rfl) cke_0 rfl 0 (by decide) (hts _ w_f_X5_10) (fun _ h9 => h9) rfl dX5_digestWith_71 ?_
          refine k_get (C := RX2) (T := TX2) (N := 8) (v := .int ((sp_X0_foresee S j (S 0 0 1) (-1) 0) 1 0 1)) hx hb hts inB_X2 hown hK hw (hL 1 0 rfl) cke_1 rfl 7 (by decide) (hts _ w_f_X5_249) (fun _ h9 => h9) rfl dX5_digestWith_74 ?_
          refine lv_icmp_ge (tgt := 113) hx hb dX5_digestWith_77 (by decide) (fun h => absurd h (lp_i (SF.b2 (SF.tr (SF.rf _) (sf_X0_foresee S j (S 0 0 1) (-1) 0)) hI) hk (cn_lt _))) (fun _ => ?_)
          refine lv_lload hx hb dX5_digestWith_80 (lv_at hl 3 rfl) ?_
          refine lv_ldc2 hx hb hown (hts _ w_cq_X5_288) dX5_digestWith_82 ?_
          refine lv_lmul hx hb dX5_digestWith_85 ?_
          refine lv_aload_n hx hb dX5_digestWith_86 rfl (lv_at hl 0 rfl) ?_
          refine k_get (C := RX5) (T := TX5) (N := 7) (v := .ref (ad 4 0)) hx hb hts inB_X5 hown hK hw (hL 0 0 rfl) cke_0 rfl 3 (by decide) (hts _ w_f_X5_35) (fun _ h9 => h9) rfl dX5_digestWith_87 ?_
          refine lv_aload_n hx hb dX5_digestWith_90 rfl (lv_at hl 0 rfl) ?_
          refine k_get (C := RX5) (T := TX5) (N := 7) (v := .ref (ad 1 0)) hx hb hts inB_X5 hown hK hw (hL 0 0 rfl) cke_0 rfl 0 (by decide) (hts _ w_f_X5_10) (fun _ h9 => h9) rfl dX5_digestWith_91 ?_
          refine k_get (C := RX2) (T := TX2) (N := 8) (v := .ref (ad 12 0)) hx hb hts inB_X2 hown hK hw (hL 1 0 rfl) cke_1 rfl 5 (by decide) (hts _ w_f_X5_273) (fun _ h9 => h9) rfl dX5_digestWith_94 ?_
          refine lv_iload hx hb dX5_digestWith_97 (lv_at hl 4 rfl) ?_
          refine k_aldn hx hb hK hw (hL 12 0 rfl) 0 cke_12 rfl (Nat.lt_of_lt_of_le (lp_l hk) (CI.n2 hI)) (by decide) dX5_digestWith_99 ?_
          refine k_ci0 hw (k_rV (As := [.int ((sp_X0_foresee S j (S 0 0 1) (-1) 0) 12 0 i)]) (rest := [.long (v4 * 31)]) ⟨hx, hb, hml, hown, hts⟩ hK hO hw (ct_X0_dayBehind hL (sp_X0_foresee S j (S 0 0 1) (-1) 0) (SF.ci (SF.tr (SF.rf _) (sf_X0_foresee S j (S 0 0 1) (-1) 0)) hI) ((sp_X0_foresee S j (S 0 0 1) (-1) 0) 12 0 i) _ (wk.hA hw hA)) (cwV 1 hts (gB_V w_ml_X5_276 w_im_X0_dayBehind w_se_X0_dayBehind w_in_X0 w_co_X0_dayBehind) rfl rfl rfl (by decide +kernel) ⟨by decide, by decide⟩) (hL 4 0 rfl) cke_4 rfl rfl hl.1 rfl (Nat.le_of_ble_eq_true rfl) dX5_digestWith_100 ⟨Nat.le_of_ble_eq_true rfl, Nat.le_of_ble_eq_true rfl⟩) (fun H locs hw => ?_)
          refine lv_i2l (v := (sp_X0_dayBehind (sp_X0_foresee S j (S 0 0 1) (-1) 0) ((sp_X0_foresee S j (S 0 0 1) (-1) 0) 12 0 i)).toInt64) hx hb dX5_digestWith_103 rfl ?_
          refine lv_ladd hx hb dX5_digestWith_104 ?_
          refine lv_lstore (lv' := [(4, .long ((v4 * 31) + ((sp_X0_dayBehind (sp_X0_foresee S j (S 0 0 1) (-1) 0) ((sp_X0_foresee S j (S 0 0 1) (-1) 0) 12 0 i)).toInt64))), (0, .ref (ad 0 0)), (1, .long p1), (3, .ref (ad 6 j)), (6, .int (nI i))]) hx hb dX5_digestWith_105 hl (by decide) rfl (fun ls hl => ?_)
          refine lv_iinc (v := (nI (i + 1))) (lv' := [(6, .int (nI (i + 1))), (4, .long ((v4 * 31) + ((sp_X0_dayBehind (sp_X0_foresee S j (S 0 0 1) (-1) 0) ((sp_X0_foresee S j (S 0 0 1) (-1) 0) 12 0 i)).toInt64))), (0, .ref (ad 0 0)), (1, .long p1), (3, .ref (ad 6 j))]) hx hb dX5_digestWith_107 hl (k := 4) rfl (nI_1 _) (by decide) rfl (fun ls hl => ?_)
          refine lv_goto (tgt := 68) hx hb dX5_digestWith_110 (by decide) ?_
          exact ih (i + 1) ((v4 * 31) + ((sp_X0_dayBehind (sp_X0_foresee S j (S 0 0 1) (-1) 0) ((sp_X0_foresee S j (S 0 0 1) (-1) 0) 12 0 i)).toInt64)) _ _ _ (lp_s hk) hV hw (lv_sub hl [2, 3, 4, 1, 0] rfl)
      exact key_68 ((S 1 0 1).toNatClampNeg) 0 (((lp_X5_digestWith_20 S j p1 7 0 p1) * 31) + ((sp_X5_nextStep (sp_X0_foresee S j (S 0 0 1) (-1) 0) j).toInt64)) _ _ _ (Nat.zero_add _) rfl hw (lv_sub hl [2, 3, 4, 1, 0] rfl)
    | succ k ih =>
      intro i v4 H locs ls hk hV hw hl
      have hV := hV.trans (ls_lp_X5_digestWith_20 S j p1 k i v4)
      refine lv_iload hx hb dX5_digestWith_20 (lv_at hl 4 rfl) ?_
      refine lv_bipush (v := 6) hx hb dX5_digestWith_22 (by decide) ?_
      refine lv_icmp_gt (tgt := 50) hx hb dX5_digestWith_24 (by decide) (fun h => absurd h (lp_i' rfl hk (by decide))) (fun _ => ?_)
      refine lv_lload hx hb dX5_digestWith_27 (lv_at hl 3 rfl) ?_
      refine lv_ldc2 hx hb hown (hts _ w_cq_X5_288) dX5_digestWith_29 ?_
      refine lv_lmul hx hb dX5_digestWith_32 ?_
      refine lv_aload_n hx hb dX5_digestWith_33 rfl (lv_at hl 0 rfl) ?_
      refine lv_aload_n hx hb dX5_digestWith_34 rfl (lv_at hl 2 rfl) ?_
      refine lv_iload hx hb dX5_digestWith_35 (lv_at hl 4 rfl) ?_
      refine k_ci0 hw (k_rV (As := [.ref (ad 6 j), .int (nI i)]) (rest := [.long (v4 * 31)]) ⟨hx, hb, hml, hown, hts⟩ hK hO hw (ct_X5_foreseenOfJoiner hL (sp_X0_foresee S j (S 0 0 1) (-1) 0) (SF.ci (SF.tr (SF.rf _) (sf_X0_foresee S j (S 0 0 1) (-1) 0)) hI) j hj (nI i) _ (wk.hA hw hA)) (cwV 2 hts (gB_V w_ml_X5_243 w_im_X5_foreseenOfJoiner w_se_X5_foreseenOfJoiner w_in_X5 w_co_X5_foreseenOfJoiner) rfl rfl rfl (by decide +kernel) ⟨by decide, by decide⟩) (hL 0 0 rfl) cke_0 rfl rfl hl.1 rfl (Nat.le_of_ble_eq_true rfl) dX5_digestWith_37 ⟨Nat.le_of_ble_eq_true rfl, Nat.le_of_ble_eq_true rfl⟩) (fun H locs hw => ?_)
      refine lv_i2l (v := (sp_X5_foreseenOfJoiner (sp_X0_foresee S j (S 0 0 1) (-1) 0) j (nI i)).toInt64) hx hb dX5_digestWith_40 rfl ?_
      refine lv_ladd hx hb dX5_digestWith_41 ?_
      refine lv_lstore (lv' := [(4, .long ((v4 * 31) + ((sp_X5_foreseenOfJoiner (sp_X0_foresee S j (S 0 0 1) (-1) 0) j (nI i)).toInt64))), (0, .ref (ad 0 0)), (1, .long p1), (3, .ref (ad 6 j)), (6, .int (nI i))]) hx hb dX5_digestWith_42 hl (by decide) rfl (fun ls hl => ?_)
      refine lv_iinc (v := (nI (i + 1))) (lv' := [(6, .int (nI (i + 1))), (4, .long ((v4 * 31) + ((sp_X5_foreseenOfJoiner (sp_X0_foresee S j (S 0 0 1) (-1) 0) j (nI i)).toInt64))), (0, .ref (ad 0 0)), (1, .long p1), (3, .ref (ad 6 j))]) hx hb dX5_digestWith_44 hl (k := 4) rfl (nI_1 _) (by decide) rfl (fun ls hl => ?_)
      refine lv_goto (tgt := 20) hx hb dX5_digestWith_47 (by decide) ?_
      exact ih (i + 1) ((v4 * 31) + ((sp_X5_foreseenOfJoiner (sp_X0_foresee S j (S 0 0 1) (-1) 0) j (nI i)).toInt64)) _ _ _ (lp_s hk) hV hw (lv_sub hl [2, 3, 4, 1, 0] rfl)
  exact key_20 7 0 p1 _ _ _ (Nat.zero_add _) rfl hw (lv_sub hl [2, 3, 4, 1, 0] rfl)
