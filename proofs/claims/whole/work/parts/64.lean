abbrev bw_X10_shiftBy : List Cond := .code yX10_shiftBy cX10_shiftBy 6 (some .int) :: BIG
abbrev rm_X10_shiftBy : Room := { frames := 40, cells := 1, slots := 8, locals := 2170 }
noncomputable def lp_X10_shiftBy_83 (S : (Nat → Nat → Nat → Int32)) (p1 : Int32) (p2 : Int32) (x_1 : Int32 × (Nat → Nat → Nat → Int32)) (w_3 : (Nat → Int32)) : Nat → Nat → Int32 → Option (Int32)
  | 0, i, v4 => some (v4)
  | k + 1, i, v4 => if (w_3) i = (-1) then (lp_X10_shiftBy_83 S p1 p2 x_1 w_3 k (i + 1) v4) else ((sp_X10_endOf (up3 x_1.2 16 0 p1.toNatClampNeg ((x_1.2 16 0 p1.toNatClampNeg) + p2)) i).bind fun x_7 => (if x_7 = (-1) then (lp_X10_shiftBy_83 S p1 p2 x_1 w_3 k (i + 1) v4) else ((sp_X10_endOf (up3 x_1.2 16 0 p1.toNatClampNeg ((x_1.2 16 0 p1.toNatClampNeg) + p2)) i).bind fun x_9 => (lp_X10_shiftBy_83 S p1 p2 x_1 w_3 k (i + 1) (v4 + (x_9 - ((w_3) i)))))))
theorem lz_lp_X10_shiftBy_83 (S : (Nat → Nat → Nat → Int32)) (p1 : Int32) (p2 : Int32) (x_1 : Int32 × (Nat → Nat → Nat → Int32)) (w_3 : (Nat → Int32)) (i : Nat) (v4 : Int32) : lp_X10_shiftBy_83 S p1 p2 x_1 w_3 0 i v4 = some (v4) := rfl
theorem ls_lp_X10_shiftBy_83 (S : (Nat → Nat → Nat → Int32)) (p1 : Int32) (p2 : Int32) (x_1 : Int32 × (Nat → Nat → Nat → Int32)) (w_3 : (Nat → Int32)) (k i : Nat) (v4 : Int32) : lp_X10_shiftBy_83 S p1 p2 x_1 w_3 (k + 1) i v4 = if (w_3) i = (-1) then (lp_X10_shiftBy_83 S p1 p2 x_1 w_3 k (i + 1) v4) else ((sp_X10_endOf (up3 x_1.2 16 0 p1.toNatClampNeg ((x_1.2 16 0 p1.toNatClampNeg) + p2)) i).bind fun x_7 => (if x_7 = (-1) then (lp_X10_shiftBy_83 S p1 p2 x_1 w_3 k (i + 1) v4) else ((sp_X10_endOf (up3 x_1.2 16 0 p1.toNatClampNeg ((x_1.2 16 0 p1.toNatClampNeg) + p2)) i).bind fun x_9 => (lp_X10_shiftBy_83 S p1 p2 x_1 w_3 k (i + 1) (v4 + (x_9 - ((w_3) i))))))) := rfl
noncomputable def lp_X10_shiftBy_24 (S : (Nat → Nat → Nat → Int32)) (p1 : Int32) (p2 : Int32) (x_1 : Int32 × (Nat → Nat → Nat → Int32)) : Nat → Nat → (Nat → Int32) → Option ((Nat → Int32))
  | 0, i, g => some (g)
  | k + 1, i, g => (sp_X10_endOf x_1.2 i).bind fun x_10 => (lp_X10_shiftBy_24 S p1 p2 x_1 k (i + 1) (upd g i x_10))
theorem lz_lp_X10_shiftBy_24 (S : (Nat → Nat → Nat → Int32)) (p1 : Int32) (p2 : Int32) (x_1 : Int32 × (Nat → Nat → Nat → Int32)) (i : Nat) (g : (Nat → Int32)) : lp_X10_shiftBy_24 S p1 p2 x_1 0 i g = some (g) := rfl
theorem ls_lp_X10_shiftBy_24 (S : (Nat → Nat → Nat → Int32)) (p1 : Int32) (p2 : Int32) (x_1 : Int32 × (Nat → Nat → Nat → Int32)) (k i : Nat) (g : (Nat → Int32)) : lp_X10_shiftBy_24 S p1 p2 x_1 (k + 1) i g = (sp_X10_endOf x_1.2 i).bind fun x_10 => (lp_X10_shiftBy_24 S p1 p2 x_1 k (i + 1) (upd g i x_10)) := rfl
noncomputable def sp_X10_shiftBy (S : (Nat → Nat → Nat → Int32)) (p1 : Int32) (p2 : Int32) : Option (Int32 × (Nat → Nat → Nat → Int32)) := (sp_X10_isNoDelay S p1 p2).bind fun x_1 => (if x_1.1 = 0 then ((lp_X10_shiftBy_24 S p1 p2 x_1 ((S 0 0 0).toNatClampNeg) 0 (fun _ => 0)).bind (fun w_3 => (if p1 < 0 ∨ (S 2 0 0).toNatClampNeg ≤ p1.toNatClampNeg then none else ((lp_X10_shiftBy_83 S p1 p2 x_1 w_3 ((S 0 0 0).toNatClampNeg) 0 0).bind (fun w_5 => (some ((w_5, (up3 (up3 x_1.2 16 0 p1.toNatClampNeg ((x_1.2 16 0 p1.toNatClampNeg) + p2)) 16 0 p1.toNatClampNeg (((up3 x_1.2 16 0 p1.toNatClampNeg ((x_1.2 16 0 p1.toNatClampNeg) + p2)) 16 0 p1.toNatClampNeg) - p2)))))))))) else (some ((0, x_1.2))))
theorem sf_X10_shiftBy {S : (Nat → Nat → Nat → Int32)} {p1 : Int32} {p2 : Int32} {v : Int32 × (Nat → Nat → Nat → Int32)} (h : sp_X10_shiftBy S p1 p2 = some v) : SM S v.2 := by
  unfold sp_X10_shiftBy at h
  obtain ⟨x_1, hx_1, h⟩ := ob1 h
  by_cases q_11 : x_1.1 = 0
  · have h := (if_pos q_11).symm.trans h
    obtain ⟨w_3, hL_24, h⟩ := ob1 h
    by_cases q_12 : p1 < 0 ∨ (S 2 0 0).toNatClampNeg ≤ p1.toNatClampNeg
    · exact nomatch (if_pos q_12).symm.trans h
    have h := (if_neg q_12).symm.trans h
    obtain ⟨w_5, hL_83, h⟩ := ob1 h
    have hz : SM S (up3 (up3 x_1.2 16 0 p1.toNatClampNeg ((x_1.2 16 0 p1.toNatClampNeg) + p2)) 16 0 p1.toNatClampNeg (((up3 x_1.2 16 0 p1.toNatClampNeg ((x_1.2 16 0 p1.toNatClampNeg) + p2)) 16 0 p1.toNatClampNeg) - p2)) := (SM.up rfl (by decide) (SM.up rfl (by decide) (SM.tr (SM.rf S) (sf_X10_isNoDelay hx_1)))); cases h; exact hz
  · have h := (if_neg q_11).symm.trans h
    have hz : SM S x_1.2 := (SM.tr (SM.rf S) (sf_X10_isNoDelay hx_1)); cases h; exact hz

set_option maxHeartbeats 1000000 in
set_option maxRecDepth 100000 in
theorem ct_X10_shiftBy {l : Launch} {D : va_G} {cI cG cJ cO : ClassId} {K0 : Nat → Nat} {A : Nat → Prop} {L : List (Nat × Nat)} {ad : Nat → Nat → Nat} {ce : Nat → Nat → va_E} {cp : Nat → Nat} {S : (Nat → Nat → Nat → Int32)} (hR : MR S L cp) (hI : CI S) (hT : TL 69 L) {p1 : Int32} {p2 : Int32} {v : Int32 × (Nat → Nat → Nat → Int32)} (hE : sp_X10_shiftBy S p1 p2 = some v) (sz : Nat) (hA : ∀ q, sz ≤ q → A q) : Met l yX10_shiftBy bw_X10_shiftBy (rm_X10_shiftBy) (kP D (ktys cI cG cJ cO) K0 A L ad (mK cI cO K0 ad cp ce S) sz [.ref (ad 30 0), .int p1, .int p2]) (kQi D A v.1 L ad (mK cI cO K0 ad cp ce v.2)) 1 8 A := by
  refine Met.ofW (cc := cX10_shiftBy) (maxL := 6) (ret := (some .int)) (by decide) rfl ?_
  intro p e s m args below meth c s₁ B hml hv_
  obtain ⟨hav, hsz, hP, hD, hK, hO⟩ := hv_
  have hx := B.exec
  have hb := B.bytes
  have hr := B.returns
  have hts : ∀ w ∈ BIG, w.before args s = true := fun w h => atoms_spec (ws := bw_X10_shiftBy) B.pre w (List.mem_cons_of_mem _ h)
  have hown : s.vm.findClass RX10 = some m.cls := findClass_of_methodNamed B.named
  have hlocks := B.notSynchronized
  subst hsz
  have hw := wk.start hP hD
  refine k_start (by rfl) hav (Nat.le_of_ble_eq_true rfl) (fun ls hl => ?_)
  have hl : lv_has ls 6 [(0, .ref (ad 30 0)), (1, .int p1), (2, .int p2)] := hl
  unfold sp_X10_shiftBy at hE
  have hn5 := CI.n5 hI
  refine lv_aload_n hx hb dX10_shiftBy_0 rfl (lv_at hl 0 rfl) ?_
  refine lv_iload_n hx hb dX10_shiftBy_1 rfl (lv_at hl 1 rfl) ?_
  refine lv_iload_n hx hb dX10_shiftBy_2 rfl (lv_at hl 2 rfl) ?_
  obtain ⟨x_1, hx_1, hE⟩ := ob1 hE
  refine k_ci0 hw (k_rV (f := 30) (o := 0) (As := [.int p1, .int p2]) (rest := []) ⟨hx, hb, hml, hown, hts⟩ hK hO hw (ct_X10_isNoDelay (MR.sm (SM.rf S) hR) (SM.ci (SM.rf S) hI) hx_1 _ (wk.hA hw hA)) (cwV 2 hts (gB_V w_ml_X10_234 w_im_X10_isNoDelay w_se_X10_isNoDelay w_in_X10 w_co_X10_isNoDelay) rfl rfl rfl (by decide +kernel) ⟨Nat.le_of_ble_eq_true rfl, Nat.le_of_ble_eq_true rfl⟩) (hR.1 30 (by decide) (by decide)) mke_30 rfl rfl hl.1 rfl (Nat.le_of_ble_eq_true rfl) dX10_shiftBy_3 ⟨(Nat.le_of_ble_eq_true rfl), (Nat.le_of_ble_eq_true rfl)⟩) (fun H locs hw => ?_)
  refine lv_if_eq (tgt := 11) hx hb dX10_shiftBy_6 (by decide) (fun c_2 => ?_) (fun c_2 => ?_)
  · have hE := (if_pos c_2).symm.trans hE
    refine lv_aload_n hx hb dX10_shiftBy_11 rfl (lv_at hl 0 rfl) ?_
    refine k_get (C := RX10) (T := TX10) (N := 9) (v := .ref (ad 35 0)) hx hb hts inB_X10 hown hK hw (hR.1 30 (by decide) (by decide)) mke_30 rfl 7 (by decide) (hts _ w_f_X10_32) (fun _ h9 => h9) rfl dX10_shiftBy_12 ?_
    refine k_ci0 hw (k_rV (f := 35) (o := 0) (As := []) (rest := []) ⟨hx, hb, hml, hown, hts⟩ hK hO hw (ct_size_4 (SM.tr (SM.rf S) (sf_X10_isNoDelay hx_1)) hR _ (wk.hA hw hA)) (cwV 0 hts (gB_V w_ml_X10_43 w_im_Jx4a65c_size_8abf5 w_se_Jx4a65c_size_8abf5 w_in_Jx4a65c w_co_Jx4a65c_size_8abf5) rfl rfl rfl (by decide +kernel) ⟨Nat.le_of_ble_eq_true rfl, Nat.le_of_ble_eq_true rfl⟩) (hR.1 35 (by decide) (by decide)) (ce_l4 (SM.tr (SM.rf S) (sf_X10_isNoDelay hx_1))) rfl rfl hl.1 rfl (Nat.le_of_ble_eq_true rfl) dX10_shiftBy_15 ⟨(Nat.le_of_ble_eq_true rfl), (Nat.le_of_ble_eq_true rfl)⟩) (fun H locs hw => ?_)
    refine k_newi hx hb (hts _ w_ac_int) hK hw hA (n := S 0 0 0) (N' := (S 0 0 0).toNatClampNeg) (cn_pos hI.2.2.2.2.1) rfl (by omega) (Nat.le_of_ble_eq_true rfl) (show 0 + (S 0 0 0).toNatClampNeg ≤ 8 from by omega) 69 0 (TL.new hT (by decide) (by decide)) dX10_shiftBy_18 (fun q H hw => ?_)
    refine W.widen (k := 0 + 1) (n := 0 + 8) (Nat.le_refl _) (by omega) ?_
    have hw := hw.tmp (Or.inr (by decide))
    have hRp := hR.push (i := (69, 0))
    show W p l e (headSpec bw_X10_shiftBy (rm_X10_shiftBy)).room s m args below meth c _ _ (0 + 1) (0 + 8) (MQ below (kQi D A v.1 L ad (mK cI cO K0 ad cp ce v.2)) args s 1 8 A) (F0 m 20 ls [.ref q])
    refine lv_astore_n (lv' := [(3, .ref q), (0, .ref (ad 30 0)), (1, .int p1), (2, .int p2)]) hx hb dX10_shiftBy_20 rfl hl (by decide) rfl (fun ls hl => ?_)
    refine lv_iconst (v := 0) hx hb dX10_shiftBy_21 (by decide) ?_
    refine lv_istore (lv' := [(4, .int 0), (3, .ref q), (0, .ref (ad 30 0)), (1, .int p1), (2, .int p2)]) hx hb dX10_shiftBy_22 hl (by decide) rfl (fun ls hl => ?_)
    obtain ⟨w_3, hL_24, hE⟩ := ob1 hE
    have key_24 : ∀ (k i : Nat) (g : (Nat → Int32)) (H : Heap) (locs : List Loc) (ls : Array Slot), i + k = (S 0 0 0).toNatClampNeg → lp_X10_shiftBy_24 S p1 p2 x_1 k i g = some (w_3) → wk D A (L ++ [(69, 0)]) (upa ad 69 0 q) (mK cI cO K0 (upa ad 69 0 q) cp (up2 ce 69 0 (.inl (cI, (S 0 0 0).toNatClampNeg, .inl g))) x_1.2) s.heap H locs → lv_has ls 6 [(0, .ref (ad 30 0)), (1, .int p1), (2, .int p2), (3, .ref q), (4, .int (nI i))] → W p l e (headSpec bw_X10_shiftBy (rm_X10_shiftBy)).room s m args below meth c H locs (0 + 1) (0 + 8) (MQ below (kQi D A v.1 L ad (mK cI cO K0 ad cp ce v.2)) args s 1 8 A) (F0 m 24 ls []) := by
      intro k
      induction k with
      | zero =>
        intro i g H locs ls hk hV hw hl
        have hV := (lz_lp_X10_shiftBy_24 S p1 p2 x_1 i g).symm.trans hV
        obtain rfl := (Option.some.inj hV).symm
        refine lv_iload hx hb dX10_shiftBy_24 (lv_at hl 4 rfl) ?_
        refine lv_aload_n hx hb dX10_shiftBy_26 rfl (lv_at hl 3 rfl) ?_
        refine k_alen hx hb hK hw (List.mem_append_right _ (List.mem_singleton_self _)) 0 ((mK_ou (Or.inr (by decide))).trans up2_eq) rfl dX10_shiftBy_27 ?_
        refine lv_icmp_ge (tgt := 57) hx hb dX10_shiftBy_28 (by decide) (fun _ => ?_) (fun h => absurd (lp_o rfl hk (cn_lt _)) h)
        refine lv_aload_n hx hb dX10_shiftBy_57 rfl (lv_at hl 0 rfl) ?_
        refine k_get (C := RX10) (T := TX10) (N := 9) (v := .ref (ad 33 0)) hx hb hts inB_X10 hown hK hw (hRp.1 30 (by decide) (by decide)) mke_30 rfl 5 (by decide) (hts _ w_f_X10_26) (fun _ h9 => h9) rfl dX10_shiftBy_58 ?_
        refine lv_iload_n hx hb dX10_shiftBy_61 rfl (lv_at hl 1 rfl) ?_
        by_cases c_4 : p1 < 0 ∨ (S 2 0 0).toNatClampNeg ≤ p1.toNatClampNeg
        · exact nomatch (if_pos c_4).symm.trans hE
        have hE := (if_neg c_4).symm.trans hE
        refine k_cr0 (v := (ad 44 p1.toNatClampNeg)) hw (k_rV (f := 33) (o := 0) (As := [.int p1]) (rest := []) ⟨hx, hb, hml, hown, hts⟩ hK hO hw (ct_get_2 (SM.tr (SM.rf S) (sf_X10_isNoDelay hx_1)) hRp (i := p1.toNatClampNeg) (fun z => c_4 (Or.inl z)) rfl (Nat.not_le.mp fun z => c_4 (Or.inr z)) _ (wk.hA hw hA)) (cwV 1 hts (gB_V w_ml_X10_51 w_im_Jx4a65c_get_915e3 w_se_Jx4a65c_get_915e3 w_in_Jx4a65c w_co_Jx4a65c_get_915e3) rfl rfl rfl (by decide +kernel) ⟨Nat.le_of_ble_eq_true rfl, Nat.le_of_ble_eq_true rfl⟩) (hRp.1 33 (by decide) (by decide)) (ce_l2 (SM.tr (SM.rf S) (sf_X10_isNoDelay hx_1))) rfl rfl hl.1 rfl (Nat.le_of_ble_eq_true rfl) dX10_shiftBy_62 ⟨(Nat.le_of_ble_eq_true rfl), (Nat.le_of_ble_eq_true rfl)⟩) (fun H locs hw => ?_)
        refine k_cast (f := 44) (o := p1.toNatClampNeg) hx hb hown (hts _ w_cl_X10_88) hK hw (hRp.2.2.2.2.2.1 _ (Nat.not_le.mp fun z => c_4 (Or.inr z))) mke_44 rfl dX10_shiftBy_65 ?_
        refine lv_dup hx hb dX10_shiftBy_68 rfl ?_
        refine k_get (C := RX7) (T := TX7) (N := 4) (v := .int (x_1.2 16 0 p1.toNatClampNeg)) hx hb hts inB_X7 hown hK hw (hRp.2.2.2.2.2.1 _ (Nat.not_le.mp fun z => c_4 (Or.inr z))) mke_44 rfl 2 (by decide) (hts _ w_f_X10_97) (fun _ h9 => h9) rfl dX10_shiftBy_69 ?_
        refine lv_iload_n hx hb dX10_shiftBy_72 rfl (lv_at hl 2 rfl) ?_
        refine lv_iadd hx hb dX10_shiftBy_73 ?_
        refine k_put (C := RX7) (T := TX7) (N := 4) (v := .int ((x_1.2 16 0 p1.toNatClampNeg) + p2)) (ty := .int) hx hb hts inB_X7 tyX7 tyX7_ok nmX7 hown hK hw (hRp.2.2.2.2.2.1 _ (Nat.not_le.mp fun z => c_4 (Or.inr z))) mke_44 rfl 2 (by decide) (hts _ w_f_X10_97) (fun _ h9 => h9) rfl (by decide +kernel) rfl rfl (Nat.le_of_ble_eq_true rfl) (mK_day (o := p1.toNatClampNeg) (v := ((x_1.2 16 0 p1.toNatClampNeg) + p2)) mcx_day) dX10_shiftBy_74 (fun H locs hw => ?_)
        refine lv_iconst (v := 0) hx hb dX10_shiftBy_77 (by decide) ?_
        refine lv_istore (lv' := [(4, .int 0), (0, .ref (ad 30 0)), (1, .int p1), (2, .int p2), (3, .ref q)]) hx hb dX10_shiftBy_78 hl (by decide) rfl (fun ls hl => ?_)
        refine lv_iconst (v := 0) hx hb dX10_shiftBy_80 (by decide) ?_
        refine lv_istore (lv' := [(5, .int 0), (4, .int 0), (0, .ref (ad 30 0)), (1, .int p1), (2, .int p2), (3, .ref q)]) hx hb dX10_shiftBy_81 hl (by decide) rfl (fun ls hl => ?_)
        obtain ⟨w_5, hL_83, hE⟩ := ob1 hE
        have key_83 : ∀ (k i : Nat) (v4 : Int32) (H : Heap) (locs : List Loc) (ls : Array Slot), i + k = (S 0 0 0).toNatClampNeg → lp_X10_shiftBy_83 S p1 p2 x_1 w_3 k i v4 = some (w_5) → wk D A (L ++ [(69, 0)]) (upa ad 69 0 q) (mK cI cO K0 (upa ad 69 0 q) cp (up2 ce 69 0 (.inl (cI, (S 0 0 0).toNatClampNeg, .inl w_3))) (up3 x_1.2 16 0 p1.toNatClampNeg ((x_1.2 16 0 p1.toNatClampNeg) + p2))) s.heap H locs → lv_has ls 6 [(0, .ref (ad 30 0)), (1, .int p1), (2, .int p2), (3, .ref q), (4, .int v4), (5, .int (nI i))] → W p l e (headSpec bw_X10_shiftBy (rm_X10_shiftBy)).room s m args below meth c H locs (0 + 1) (0 + 8) (MQ below (kQi D A v.1 L ad (mK cI cO K0 ad cp ce v.2)) args s 1 8 A) (F0 m 83 ls []) := by
          intro k
          induction k with
          | zero =>
            intro i v4 H locs ls hk hV hw hl
            have hV := (lz_lp_X10_shiftBy_83 S p1 p2 x_1 w_3 i v4).symm.trans hV
            obtain rfl := (Option.some.inj hV).symm
            refine lv_iload hx hb dX10_shiftBy_83 (lv_at hl 5 rfl) ?_
            refine lv_aload_n hx hb dX10_shiftBy_85 rfl (lv_at hl 3 rfl) ?_
            refine k_alen hx hb hK hw (List.mem_append_right _ (List.mem_singleton_self _)) 0 ((mK_ou (Or.inr (by decide))).trans up2_eq) rfl dX10_shiftBy_86 ?_
            refine lv_icmp_ge (tgt := 150) hx hb dX10_shiftBy_87 (by decide) (fun _ => ?_) (fun h => absurd (lp_o rfl hk (cn_lt _)) h)
            refine lv_aload_n hx hb dX10_shiftBy_150 rfl (lv_at hl 0 rfl) ?_
            refine k_get (C := RX10) (T := TX10) (N := 9) (v := .ref (ad 33 0)) hx hb hts inB_X10 hown hK hw (hRp.1 30 (by decide) (by decide)) mke_30 rfl 5 (by decide) (hts _ w_f_X10_26) (fun _ h9 => h9) rfl dX10_shiftBy_151 ?_
            refine lv_iload_n hx hb dX10_shiftBy_154 rfl (lv_at hl 1 rfl) ?_
            refine k_cr0 (v := (ad 44 p1.toNatClampNeg)) hw (k_rV (f := 33) (o := 0) (As := [.int p1]) (rest := []) ⟨hx, hb, hml, hown, hts⟩ hK hO hw (ct_get_2 (SM.up rfl (by decide) (SM.tr (SM.rf S) (sf_X10_isNoDelay hx_1))) hRp (i := p1.toNatClampNeg) (fun z => c_4 (Or.inl z)) rfl (Nat.not_le.mp fun z => c_4 (Or.inr z)) _ (wk.hA hw hA)) (cwV 1 hts (gB_V w_ml_X10_51 w_im_Jx4a65c_get_915e3 w_se_Jx4a65c_get_915e3 w_in_Jx4a65c w_co_Jx4a65c_get_915e3) rfl rfl rfl (by decide +kernel) ⟨Nat.le_of_ble_eq_true rfl, Nat.le_of_ble_eq_true rfl⟩) (hRp.1 33 (by decide) (by decide)) (ce_l2 (SM.up rfl (by decide) (SM.tr (SM.rf S) (sf_X10_isNoDelay hx_1)))) rfl rfl hl.1 rfl (Nat.le_of_ble_eq_true rfl) dX10_shiftBy_155 ⟨(Nat.le_of_ble_eq_true rfl), (Nat.le_of_ble_eq_true rfl)⟩) (fun H locs hw => ?_)
            refine k_cast (f := 44) (o := p1.toNatClampNeg) hx hb hown (hts _ w_cl_X10_88) hK hw (hRp.2.2.2.2.2.1 _ (Nat.not_le.mp fun z => c_4 (Or.inr z))) mke_44 rfl dX10_shiftBy_158 ?_
            refine lv_dup hx hb dX10_shiftBy_161 rfl ?_
            refine k_get (C := RX7) (T := TX7) (N := 4) (v := .int ((up3 x_1.2 16 0 p1.toNatClampNeg ((x_1.2 16 0 p1.toNatClampNeg) + p2)) 16 0 p1.toNatClampNeg)) hx hb hts inB_X7 hown hK hw (hRp.2.2.2.2.2.1 _ (Nat.not_le.mp fun z => c_4 (Or.inr z))) mke_44 rfl 2 (by decide) (hts _ w_f_X10_97) (fun _ h9 => h9) rfl dX10_shiftBy_162 ?_
            refine lv_iload_n hx hb dX10_shiftBy_165 rfl (lv_at hl 2 rfl) ?_
            refine lv_isub hx hb dX10_shiftBy_166 ?_
            refine k_put (C := RX7) (T := TX7) (N := 4) (v := .int (((up3 x_1.2 16 0 p1.toNatClampNeg ((x_1.2 16 0 p1.toNatClampNeg) + p2)) 16 0 p1.toNatClampNeg) - p2)) (ty := .int) hx hb hts inB_X7 tyX7 tyX7_ok nmX7 hown hK hw (hRp.2.2.2.2.2.1 _ (Nat.not_le.mp fun z => c_4 (Or.inr z))) mke_44 rfl 2 (by decide) (hts _ w_f_X10_97) (fun _ h9 => h9) rfl (by decide +kernel) rfl rfl (Nat.le_of_ble_eq_true rfl) (mK_day (o := p1.toNatClampNeg) (v := (((up3 x_1.2 16 0 p1.toNatClampNeg ((x_1.2 16 0 p1.toNatClampNeg) + p2)) 16 0 p1.toNatClampNeg) - p2)) mcx_day) dX10_shiftBy_167 (fun H locs hw => ?_)
            refine lv_iload hx hb dX10_shiftBy_170 (lv_at hl 4 rfl) ?_
            have hw := hw.untmp (Or.inr (by decide)) (TL.new hT (by decide) (by decide))
            exact m_iretE hx hb hr hlocks rfl hw hE (Nat.le_of_ble_eq_true rfl) (Nat.le_of_ble_eq_true rfl) dX10_shiftBy_172
          | succ k ih =>
            intro i v4 H locs ls hk hV hw hl
            have hV := (ls_lp_X10_shiftBy_83 S p1 p2 x_1 w_3 k i v4).symm.trans hV
            have hE := hV
            refine lv_iload hx hb dX10_shiftBy_83 (lv_at hl 5 rfl) ?_
            refine lv_aload_n hx hb dX10_shiftBy_85 rfl (lv_at hl 3 rfl) ?_
            refine k_alen hx hb hK hw (List.mem_append_right _ (List.mem_singleton_self _)) 0 ((mK_ou (Or.inr (by decide))).trans up2_eq) rfl dX10_shiftBy_86 ?_
            refine lv_icmp_ge (tgt := 150) hx hb dX10_shiftBy_87 (by decide) (fun h => absurd h (lp_i rfl hk (cn_lt _))) (fun _ => ?_)
            refine lv_aload_n hx hb dX10_shiftBy_90 rfl (lv_at hl 3 rfl) ?_
            refine lv_iload hx hb dX10_shiftBy_91 (lv_at hl 5 rfl) ?_
            refine k_aldi hx hb hK hw (List.mem_append_right _ (List.mem_singleton_self _)) 0 ((mK_ou (Or.inr (by decide))).trans up2_eq) rfl (nI_nlt (a := i) (b := 0) (Nat.zero_le _) (Nat.lt_trans (show i < (S 0 0 0).toNatClampNeg from (lp_l hk)) (cn_lt _))) (nI_clamp (Nat.lt_trans (show i < (S 0 0 0).toNatClampNeg from (lp_l hk)) (cn_lt _))) (show i < (S 0 0 0).toNatClampNeg from (lp_l hk)) (v := (w_3) i) rfl dX10_shiftBy_93 ?_
            refine lv_iconst (v := (-1)) hx hb dX10_shiftBy_94 (by decide) ?_
            refine lv_icmp_eq (tgt := 144) hx hb dX10_shiftBy_95 (by decide) (fun c_6 => ?_) (fun c_6 => ?_)
            · have hE := (if_pos c_6).symm.trans hE
              refine lv_iinc (v := (nI (i + 1))) (lv' := [(5, .int (nI (i + 1))), (0, .ref (ad 30 0)), (1, .int p1), (2, .int p2), (3, .ref q), (4, .int v4)]) hx hb dX10_shiftBy_144 hl (k := 5) rfl (nI_1 _) (by decide) rfl (fun ls hl => ?_)
              refine lv_goto (tgt := 83) hx hb dX10_shiftBy_147 (by decide) ?_
              exact ih (i + 1) v4 _ _ _ (lp_s hk) hE hw (lv_sub hl [1, 2, 3, 4, 5, 0] rfl)
            · have hE := (if_neg c_6).symm.trans hE
              refine lv_aload_n hx hb dX10_shiftBy_98 rfl (lv_at hl 0 rfl) ?_
              refine lv_aload_n hx hb dX10_shiftBy_99 rfl (lv_at hl 0 rfl) ?_
              refine k_get (C := RX10) (T := TX10) (N := 9) (v := .ref (ad 35 0)) hx hb hts inB_X10 hown hK hw (hRp.1 30 (by decide) (by decide)) mke_30 rfl 7 (by decide) (hts _ w_f_X10_32) (fun _ h9 => h9) rfl dX10_shiftBy_100 ?_
              refine lv_iload hx hb dX10_shiftBy_103 (lv_at hl 5 rfl) ?_
              refine k_cr0 (v := (ad 46 i)) hw (k_rV (f := 35) (o := 0) (As := [.int (nI i)]) (rest := [.ref (ad 30 0)]) ⟨hx, hb, hml, hown, hts⟩ hK hO hw (ct_get_4 (SM.up rfl (by decide) (SM.tr (SM.rf S) (sf_X10_isNoDelay hx_1))) hRp (i := i) (nI_nlt (a := i) (b := 0) (Nat.zero_le _) (Nat.lt_trans (show i < (S 0 0 0).toNatClampNeg from (lp_l hk)) (cn_lt _))) (nI_clamp (Nat.lt_trans (show i < (S 0 0 0).toNatClampNeg from (lp_l hk)) (cn_lt _))) (show i < (S 0 0 0).toNatClampNeg from (lp_l hk)) _ (wk.hA hw hA)) (cwV 1 hts (gB_V w_ml_X10_51 w_im_Jx4a65c_get_915e3 w_se_Jx4a65c_get_915e3 w_in_Jx4a65c w_co_Jx4a65c_get_915e3) rfl rfl rfl (by decide +kernel) ⟨Nat.le_of_ble_eq_true rfl, Nat.le_of_ble_eq_true rfl⟩) (hRp.1 35 (by decide) (by decide)) (ce_l4 (SM.up rfl (by decide) (SM.tr (SM.rf S) (sf_X10_isNoDelay hx_1)))) rfl rfl hl.1 rfl (Nat.le_of_ble_eq_true rfl) dX10_shiftBy_105 ⟨(Nat.le_of_ble_eq_true rfl), (Nat.le_of_ble_eq_true rfl)⟩) (fun H locs hw => ?_)
              refine k_cast (f := 46) (o := i) hx hb hown (hts _ w_cl_X10_64) hK hw (hRp.2.2.2.2.2.2.2 46 _ (by decide) (by decide) (show i < (S 0 0 0).toNatClampNeg from (lp_l hk))) mke_46 rfl dX10_shiftBy_108 ?_
              obtain ⟨x_7, hx_7, hE⟩ := ob1 hE
              refine k_ci0 hw (k_rV (f := 30) (o := 0) (As := [.ref (ad 46 i)]) (rest := []) ⟨hx, hb, hml, hown, hts⟩ hK hO hw (ct_X10_endOf (MR.sm (SM.up rfl (by decide) (SM.tr (SM.rf S) (sf_X10_isNoDelay hx_1))) hRp) (SM.ci (SM.up rfl (by decide) (SM.tr (SM.rf S) (sf_X10_isNoDelay hx_1))) hI) (by rw [SM.c4 (SM.up rfl (by decide) (SM.tr (SM.rf S) (sf_X10_isNoDelay hx_1)))]; exact (show i < (S 0 0 0).toNatClampNeg from (lp_l hk))) hx_7 _ (wk.hA hw hA)) (cwV 1 hts (gB_V w_ml_X10_276 w_im_X10_endOf w_se_X10_endOf w_in_X10 w_co_X10_endOf) rfl rfl rfl (by decide +kernel) ⟨Nat.le_of_ble_eq_true rfl, Nat.le_of_ble_eq_true rfl⟩) (hRp.1 30 (by decide) (by decide)) mke_30 rfl rfl hl.1 rfl (Nat.le_of_ble_eq_true rfl) dX10_shiftBy_111 ⟨(Nat.le_of_ble_eq_true rfl), (Nat.le_of_ble_eq_true rfl)⟩) (fun H locs hw => ?_)
              refine lv_iconst (v := (-1)) hx hb dX10_shiftBy_114 (by decide) ?_
              refine lv_icmp_eq (tgt := 144) hx hb dX10_shiftBy_115 (by decide) (fun c_8 => ?_) (fun c_8 => ?_)
              · have hE := (if_pos c_8).symm.trans hE
                refine lv_iinc (v := (nI (i + 1))) (lv' := [(5, .int (nI (i + 1))), (0, .ref (ad 30 0)), (1, .int p1), (2, .int p2), (3, .ref q), (4, .int v4)]) hx hb dX10_shiftBy_144 hl (k := 5) rfl (nI_1 _) (by decide) rfl (fun ls hl => ?_)
                refine lv_goto (tgt := 83) hx hb dX10_shiftBy_147 (by decide) ?_
                exact ih (i + 1) v4 _ _ _ (lp_s hk) hE hw (lv_sub hl [1, 2, 3, 4, 5, 0] rfl)
              · have hE := (if_neg c_8).symm.trans hE
                refine lv_iload hx hb dX10_shiftBy_118 (lv_at hl 4 rfl) ?_
                refine lv_aload_n hx hb dX10_shiftBy_120 rfl (lv_at hl 0 rfl) ?_
                refine lv_aload_n hx hb dX10_shiftBy_121 rfl (lv_at hl 0 rfl) ?_
                refine k_get (C := RX10) (T := TX10) (N := 9) (v := .ref (ad 35 0)) hx hb hts inB_X10 hown hK hw (hRp.1 30 (by decide) (by decide)) mke_30 rfl 7 (by decide) (hts _ w_f_X10_32) (fun _ h9 => h9) rfl dX10_shiftBy_122 ?_
                refine lv_iload hx hb dX10_shiftBy_125 (lv_at hl 5 rfl) ?_
                refine k_cr0 (v := (ad 46 i)) hw (k_rV (f := 35) (o := 0) (As := [.int (nI i)]) (rest := [.ref (ad 30 0), .int v4]) ⟨hx, hb, hml, hown, hts⟩ hK hO hw (ct_get_4 (SM.up rfl (by decide) (SM.tr (SM.rf S) (sf_X10_isNoDelay hx_1))) hRp (i := i) (nI_nlt (a := i) (b := 0) (Nat.zero_le _) (Nat.lt_trans (show i < (S 0 0 0).toNatClampNeg from (lp_l hk)) (cn_lt _))) (nI_clamp (Nat.lt_trans (show i < (S 0 0 0).toNatClampNeg from (lp_l hk)) (cn_lt _))) (show i < (S 0 0 0).toNatClampNeg from (lp_l hk)) _ (wk.hA hw hA)) (cwV 1 hts (gB_V w_ml_X10_51 w_im_Jx4a65c_get_915e3 w_se_Jx4a65c_get_915e3 w_in_Jx4a65c w_co_Jx4a65c_get_915e3) rfl rfl rfl (by decide +kernel) ⟨Nat.le_of_ble_eq_true rfl, Nat.le_of_ble_eq_true rfl⟩) (hRp.1 35 (by decide) (by decide)) (ce_l4 (SM.up rfl (by decide) (SM.tr (SM.rf S) (sf_X10_isNoDelay hx_1)))) rfl rfl hl.1 rfl (Nat.le_of_ble_eq_true rfl) dX10_shiftBy_127 ⟨(Nat.le_of_ble_eq_true rfl), (Nat.le_of_ble_eq_true rfl)⟩) (fun H locs hw => ?_)
                refine k_cast (f := 46) (o := i) hx hb hown (hts _ w_cl_X10_64) hK hw (hRp.2.2.2.2.2.2.2 46 _ (by decide) (by decide) (show i < (S 0 0 0).toNatClampNeg from (lp_l hk))) mke_46 rfl dX10_shiftBy_130 ?_
                obtain ⟨x_9, hx_9, hE⟩ := ob1 hE
                refine k_ci0 hw (k_rV (f := 30) (o := 0) (As := [.ref (ad 46 i)]) (rest := [.int v4]) ⟨hx, hb, hml, hown, hts⟩ hK hO hw (ct_X10_endOf (MR.sm (SM.up rfl (by decide) (SM.tr (SM.rf S) (sf_X10_isNoDelay hx_1))) hRp) (SM.ci (SM.up rfl (by decide) (SM.tr (SM.rf S) (sf_X10_isNoDelay hx_1))) hI) (by rw [SM.c4 (SM.up rfl (by decide) (SM.tr (SM.rf S) (sf_X10_isNoDelay hx_1)))]; exact (show i < (S 0 0 0).toNatClampNeg from (lp_l hk))) hx_9 _ (wk.hA hw hA)) (cwV 1 hts (gB_V w_ml_X10_276 w_im_X10_endOf w_se_X10_endOf w_in_X10 w_co_X10_endOf) rfl rfl rfl (by decide +kernel) ⟨Nat.le_of_ble_eq_true rfl, Nat.le_of_ble_eq_true rfl⟩) (hRp.1 30 (by decide) (by decide)) mke_30 rfl rfl hl.1 rfl (Nat.le_of_ble_eq_true rfl) dX10_shiftBy_133 ⟨(Nat.le_of_ble_eq_true rfl), (Nat.le_of_ble_eq_true rfl)⟩) (fun H locs hw => ?_)
                refine lv_aload_n hx hb dX10_shiftBy_136 rfl (lv_at hl 3 rfl) ?_
                refine lv_iload hx hb dX10_shiftBy_137 (lv_at hl 5 rfl) ?_
                refine k_aldi hx hb hK hw (List.mem_append_right _ (List.mem_singleton_self _)) 0 ((mK_ou (Or.inr (by decide))).trans up2_eq) rfl (nI_nlt (a := i) (b := 0) (Nat.zero_le _) (Nat.lt_trans (show i < (S 0 0 0).toNatClampNeg from (lp_l hk)) (cn_lt _))) (nI_clamp (Nat.lt_trans (show i < (S 0 0 0).toNatClampNeg from (lp_l hk)) (cn_lt _))) (show i < (S 0 0 0).toNatClampNeg from (lp_l hk)) (v := (w_3) i) rfl dX10_shiftBy_139 ?_
                refine lv_isub hx hb dX10_shiftBy_140 ?_
                refine lv_iadd hx hb dX10_shiftBy_141 ?_
                refine lv_istore (lv' := [(4, .int (v4 + (x_9 - ((w_3) i)))), (0, .ref (ad 30 0)), (1, .int p1), (2, .int p2), (3, .ref q), (5, .int (nI i))]) hx hb dX10_shiftBy_142 hl (by decide) rfl (fun ls hl => ?_)
                refine lv_iinc (v := (nI (i + 1))) (lv' := [(5, .int (nI (i + 1))), (4, .int (v4 + (x_9 - ((w_3) i)))), (0, .ref (ad 30 0)), (1, .int p1), (2, .int p2), (3, .ref q)]) hx hb dX10_shiftBy_144 hl (k := 5) rfl (nI_1 _) (by decide) rfl (fun ls hl => ?_)
                refine lv_goto (tgt := 83) hx hb dX10_shiftBy_147 (by decide) ?_
                exact ih (i + 1) (v4 + (x_9 - ((w_3) i))) _ _ _ (lp_s hk) hE hw (lv_sub hl [2, 3, 4, 5, 1, 0] rfl)
        exact key_83 ((S 0 0 0).toNatClampNeg) 0 0 _ _ _ (Nat.zero_add _) hL_83 hw (lv_sub hl [2, 3, 4, 5, 1, 0] rfl)
      | succ k ih =>
        intro i g H locs ls hk hV hw hl
        have hV := (ls_lp_X10_shiftBy_24 S p1 p2 x_1 k i g).symm.trans hV
        have hE := hV
        refine lv_iload hx hb dX10_shiftBy_24 (lv_at hl 4 rfl) ?_
        refine lv_aload_n hx hb dX10_shiftBy_26 rfl (lv_at hl 3 rfl) ?_
        refine k_alen hx hb hK hw (List.mem_append_right _ (List.mem_singleton_self _)) 0 ((mK_ou (Or.inr (by decide))).trans up2_eq) rfl dX10_shiftBy_27 ?_
        refine lv_icmp_ge (tgt := 57) hx hb dX10_shiftBy_28 (by decide) (fun h => absurd h (lp_i rfl hk (cn_lt _))) (fun _ => ?_)
        refine lv_aload_n hx hb dX10_shiftBy_31 rfl (lv_at hl 3 rfl) ?_
        refine lv_iload hx hb dX10_shiftBy_32 (lv_at hl 4 rfl) ?_
        refine lv_aload_n hx hb dX10_shiftBy_34 rfl (lv_at hl 0 rfl) ?_
        refine lv_aload_n hx hb dX10_shiftBy_35 rfl (lv_at hl 0 rfl) ?_
        refine k_get (C := RX10) (T := TX10) (N := 9) (v := .ref (ad 35 0)) hx hb hts inB_X10 hown hK hw (hRp.1 30 (by decide) (by decide)) mke_30 rfl 7 (by decide) (hts _ w_f_X10_32) (fun _ h9 => h9) rfl dX10_shiftBy_36 ?_
        refine lv_iload hx hb dX10_shiftBy_39 (lv_at hl 4 rfl) ?_
        refine k_cr0 (v := (ad 46 i)) hw (k_rV (f := 35) (o := 0) (As := [.int (nI i)]) (rest := [.ref (ad 30 0), .int (nI i), .ref q]) ⟨hx, hb, hml, hown, hts⟩ hK hO hw (ct_get_4 (SM.tr (SM.rf S) (sf_X10_isNoDelay hx_1)) hRp (i := i) (nI_nlt (a := i) (b := 0) (Nat.zero_le _) (Nat.lt_trans (show i < (S 0 0 0).toNatClampNeg from (lp_l hk)) (cn_lt _))) (nI_clamp (Nat.lt_trans (show i < (S 0 0 0).toNatClampNeg from (lp_l hk)) (cn_lt _))) (show i < (S 0 0 0).toNatClampNeg from (lp_l hk)) _ (wk.hA hw hA)) (cwV 1 hts (gB_V w_ml_X10_51 w_im_Jx4a65c_get_915e3 w_se_Jx4a65c_get_915e3 w_in_Jx4a65c w_co_Jx4a65c_get_915e3) rfl rfl rfl (by decide +kernel) ⟨Nat.le_of_ble_eq_true rfl, Nat.le_of_ble_eq_true rfl⟩) (hRp.1 35 (by decide) (by decide)) (ce_l4 (SM.tr (SM.rf S) (sf_X10_isNoDelay hx_1))) rfl rfl hl.1 rfl (Nat.le_of_ble_eq_true rfl) dX10_shiftBy_41 ⟨(Nat.le_of_ble_eq_true rfl), (Nat.le_of_ble_eq_true rfl)⟩) (fun H locs hw => ?_)
        refine k_cast (f := 46) (o := i) hx hb hown (hts _ w_cl_X10_64) hK hw (hRp.2.2.2.2.2.2.2 46 _ (by decide) (by decide) (show i < (S 0 0 0).toNatClampNeg from (lp_l hk))) mke_46 rfl dX10_shiftBy_44 ?_
        obtain ⟨x_10, hx_10, hE⟩ := ob1 hE
        refine k_ci0 hw (k_rV (f := 30) (o := 0) (As := [.ref (ad 46 i)]) (rest := [.int (nI i), .ref q]) ⟨hx, hb, hml, hown, hts⟩ hK hO hw (ct_X10_endOf (MR.sm (SM.tr (SM.rf S) (sf_X10_isNoDelay hx_1)) hRp) (SM.ci (SM.tr (SM.rf S) (sf_X10_isNoDelay hx_1)) hI) (by rw [SM.c4 (SM.tr (SM.rf S) (sf_X10_isNoDelay hx_1))]; exact (show i < (S 0 0 0).toNatClampNeg from (lp_l hk))) hx_10 _ (wk.hA hw hA)) (cwV 1 hts (gB_V w_ml_X10_276 w_im_X10_endOf w_se_X10_endOf w_in_X10 w_co_X10_endOf) rfl rfl rfl (by decide +kernel) ⟨Nat.le_of_ble_eq_true rfl, Nat.le_of_ble_eq_true rfl⟩) (hRp.1 30 (by decide) (by decide)) mke_30 rfl rfl hl.1 rfl (Nat.le_of_ble_eq_true rfl) dX10_shiftBy_47 ⟨(Nat.le_of_ble_eq_true rfl), (Nat.le_of_ble_eq_true rfl)⟩) (fun H locs hw => ?_)
        refine k_asti hx hb hK hw (List.mem_append_right _ (List.mem_singleton_self _)) 0 ((mK_ou (Or.inr (by decide))).trans up2_eq) rfl (nI_nlt (a := i) (b := 0) (Nat.zero_le _) (Nat.lt_trans (show i < (S 0 0 0).toNatClampNeg from (lp_l hk)) (cn_lt _))) (nI_clamp (Nat.lt_trans (show i < (S 0 0 0).toNatClampNeg from (lp_l hk)) (cn_lt _))) (show i < (S 0 0 0).toNatClampNeg from (lp_l hk)) (mK_itp (Or.inr (by decide))) dX10_shiftBy_50 (fun H locs hw => ?_)
        refine lv_iinc (v := (nI (i + 1))) (lv' := [(4, .int (nI (i + 1))), (0, .ref (ad 30 0)), (1, .int p1), (2, .int p2), (3, .ref q)]) hx hb dX10_shiftBy_51 hl (k := 4) rfl (nI_1 _) (by decide) rfl (fun ls hl => ?_)
        refine lv_goto (tgt := 24) hx hb dX10_shiftBy_54 (by decide) ?_
        exact ih (i + 1) (upd g i x_10) _ _ _ (lp_s hk) hE hw (lv_sub hl [1, 2, 3, 4, 0] rfl)
    exact key_24 ((S 0 0 0).toNatClampNeg) 0 (fun _ => 0) _ _ _ (Nat.zero_add _) hL_24 hw (lv_sub hl [2, 3, 4, 1, 0] rfl)
  · have hE := (if_neg c_2).symm.trans hE
    refine lv_iconst (v := 0) hx hb dX10_shiftBy_9 (by decide) ?_
    exact m_iretE hx hb hr hlocks rfl hw hE (Nat.le_of_ble_eq_true rfl) (Nat.le_of_ble_eq_true rfl) dX10_shiftBy_10
