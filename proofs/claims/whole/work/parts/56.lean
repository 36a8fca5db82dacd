abbrev bw_X10_expected : List Cond := .code yX10_expected cX10_expected 7 (some .int) :: BIG
abbrev bw_X10_end : List Cond := .code yX10_end cX10_end 4 (some .int) :: BIG
abbrev rm_X10_expected (n : Nat) : Room := { frames := 2 * n + 12, cells := 0, slots := 0, locals := 120 * n + 600 }
abbrev rm_X10_end (n : Nat) : Room := { frames := 2 * n + 13, cells := 0, slots := 0, locals := 120 * n + 660 }
noncomputable def lp_X10_expected_46 (S : (Nat → Nat → Nat → Int32)) (E : Nat → Int32 → Option Int32) (j : Nat) (p2 : Int32) : Nat → Nat → Int32 → Option (Int32)
  | 0, i, v4 => if S 7 0 p2.toNatClampNeg = 2 then (if S 27 j p2.toNatClampNeg = (-1) then (if S 7 0 p2.toNatClampNeg = 1 then (if S 10 0 p2.toNatClampNeg < 0 ∨ 4 ≤ (S 10 0 p2.toNatClampNeg).toNatClampNeg then none else (if S 13 0 ((S 10 0 p2.toNatClampNeg).toNatClampNeg) = 0 then ((sp_X10_comes S (S 10 0 p2.toNatClampNeg)).bind fun x_15 => (if x_15 = (-1) then (some ((-1))) else (some ((if v4 < x_15 then x_15 else v4))))) else (some (v4)))) else (some (v4))) else (if S 27 j p2.toNatClampNeg < 0 ∨ (S 3 0 0).toNatClampNeg ≤ (S 27 j p2.toNatClampNeg).toNatClampNeg then none else (if S 7 0 p2.toNatClampNeg = 1 then (if S 10 0 p2.toNatClampNeg < 0 ∨ 4 ≤ (S 10 0 p2.toNatClampNeg).toNatClampNeg then none else (if S 13 0 ((S 10 0 p2.toNatClampNeg).toNatClampNeg) = 0 then ((sp_X10_comes S (S 10 0 p2.toNatClampNeg)).bind fun x_21 => (if x_21 = (-1) then (some ((-1))) else (some ((if (if v4 < S 18 0 ((S 27 j p2.toNatClampNeg).toNatClampNeg) then S 18 0 ((S 27 j p2.toNatClampNeg).toNatClampNeg) else v4) < x_21 then x_21 else (if v4 < S 18 0 ((S 27 j p2.toNatClampNeg).toNatClampNeg) then S 18 0 ((S 27 j p2.toNatClampNeg).toNatClampNeg) else v4)))))) else (some ((if v4 < S 18 0 ((S 27 j p2.toNatClampNeg).toNatClampNeg) then S 18 0 ((S 27 j p2.toNatClampNeg).toNatClampNeg) else v4))))) else (some ((if v4 < S 18 0 ((S 27 j p2.toNatClampNeg).toNatClampNeg) then S 18 0 ((S 27 j p2.toNatClampNeg).toNatClampNeg) else v4)))))) else (if S 7 0 p2.toNatClampNeg = 1 then (if S 10 0 p2.toNatClampNeg < 0 ∨ 4 ≤ (S 10 0 p2.toNatClampNeg).toNatClampNeg then none else (if S 13 0 ((S 10 0 p2.toNatClampNeg).toNatClampNeg) = 0 then ((sp_X10_comes S (S 10 0 p2.toNatClampNeg)).bind fun x_9 => (if x_9 = (-1) then (some ((-1))) else (some ((if v4 < x_9 then x_9 else v4))))) else (some (v4)))) else (some (v4)))
  | k + 1, i, v4 => if (sp_X10_isIn ((S 9 0 p2.toNatClampNeg) &&& (S 6 j 0)) (nI i)) = 0 then (lp_X10_expected_46 S E j p2 k (i + 1) v4) else ((E j (nI i)).bind fun x_24 => (if x_24 = (-1) then (some ((-1))) else (lp_X10_expected_46 S E j p2 k (i + 1) (if v4 < x_24 + 1 then x_24 + 1 else v4))))
theorem lz_lp_X10_expected_46 (S : (Nat → Nat → Nat → Int32)) (E : Nat → Int32 → Option Int32) (j : Nat) (p2 : Int32) (i : Nat) (v4 : Int32) : lp_X10_expected_46 S E j p2 0 i v4 = if S 7 0 p2.toNatClampNeg = 2 then (if S 27 j p2.toNatClampNeg = (-1) then (if S 7 0 p2.toNatClampNeg = 1 then (if S 10 0 p2.toNatClampNeg < 0 ∨ 4 ≤ (S 10 0 p2.toNatClampNeg).toNatClampNeg then none else (if S 13 0 ((S 10 0 p2.toNatClampNeg).toNatClampNeg) = 0 then ((sp_X10_comes S (S 10 0 p2.toNatClampNeg)).bind fun x_15 => (if x_15 = (-1) then (some ((-1))) else (some ((if v4 < x_15 then x_15 else v4))))) else (some (v4)))) else (some (v4))) else (if S 27 j p2.toNatClampNeg < 0 ∨ (S 3 0 0).toNatClampNeg ≤ (S 27 j p2.toNatClampNeg).toNatClampNeg then none else (if S 7 0 p2.toNatClampNeg = 1 then (if S 10 0 p2.toNatClampNeg < 0 ∨ 4 ≤ (S 10 0 p2.toNatClampNeg).toNatClampNeg then none else (if S 13 0 ((S 10 0 p2.toNatClampNeg).toNatClampNeg) = 0 then ((sp_X10_comes S (S 10 0 p2.toNatClampNeg)).bind fun x_21 => (if x_21 = (-1) then (some ((-1))) else (some ((if (if v4 < S 18 0 ((S 27 j p2.toNatClampNeg).toNatClampNeg) then S 18 0 ((S 27 j p2.toNatClampNeg).toNatClampNeg) else v4) < x_21 then x_21 else (if v4 < S 18 0 ((S 27 j p2.toNatClampNeg).toNatClampNeg) then S 18 0 ((S 27 j p2.toNatClampNeg).toNatClampNeg) else v4)))))) else (some ((if v4 < S 18 0 ((S 27 j p2.toNatClampNeg).toNatClampNeg) then S 18 0 ((S 27 j p2.toNatClampNeg).toNatClampNeg) else v4))))) else (some ((if v4 < S 18 0 ((S 27 j p2.toNatClampNeg).toNatClampNeg) then S 18 0 ((S 27 j p2.toNatClampNeg).toNatClampNeg) else v4)))))) else (if S 7 0 p2.toNatClampNeg = 1 then (if S 10 0 p2.toNatClampNeg < 0 ∨ 4 ≤ (S 10 0 p2.toNatClampNeg).toNatClampNeg then none else (if S 13 0 ((S 10 0 p2.toNatClampNeg).toNatClampNeg) = 0 then ((sp_X10_comes S (S 10 0 p2.toNatClampNeg)).bind fun x_9 => (if x_9 = (-1) then (some ((-1))) else (some ((if v4 < x_9 then x_9 else v4))))) else (some (v4)))) else (some (v4))) := rfl
theorem ls_lp_X10_expected_46 (S : (Nat → Nat → Nat → Int32)) (E : Nat → Int32 → Option Int32) (j : Nat) (p2 : Int32) (k i : Nat) (v4 : Int32) : lp_X10_expected_46 S E j p2 (k + 1) i v4 = if (sp_X10_isIn ((S 9 0 p2.toNatClampNeg) &&& (S 6 j 0)) (nI i)) = 0 then (lp_X10_expected_46 S E j p2 k (i + 1) v4) else ((E j (nI i)).bind fun x_24 => (if x_24 = (-1) then (some ((-1))) else (lp_X10_expected_46 S E j p2 k (i + 1) (if v4 < x_24 + 1 then x_24 + 1 else v4)))) := rfl
noncomputable def sp_X10_expected (S : (Nat → Nat → Nat → Int32)) (E : Nat → Int32 → Option Int32) (j : Nat) (p2 : Int32) : Option (Int32) := if p2 < 0 ∨ 12 ≤ p2.toNatClampNeg then none else (if S 24 j p2.toNatClampNeg = 0 then (if p2 < 0 ∨ (S 1 0 0).toNatClampNeg ≤ p2.toNatClampNeg then none else (lp_X10_expected_46 S E j p2 p2.toNatClampNeg 0 (if (S 0 0 1) + 1 < S 6 j 1 then S 6 j 1 else (S 0 0 1) + 1))) else (some (S 25 j p2.toNatClampNeg)))
set_option maxHeartbeats 1000000 in
set_option maxRecDepth 100000 in
theorem ct_X10_expected {l : Launch} {D : va_G} {cI cG cJ cO : ClassId} {K0 : Nat → Nat} {A : Nat → Prop} {L : List (Nat × Nat)} {ad : Nat → Nat → Nat} {ce : Nat → Nat → va_E} {cp : Nat → Nat} {S : (Nat → Nat → Nat → Int32)} (hR : MR S L cp) (hI : CI S) {E : Nat → Int32 → Option Int32} {j : Nat} {p2 : Int32} (hj : j < (S 0 0 0).toNatClampNeg) {n : Nat} (hIH : ∀ (x v : Int32), E j x = some v → ∀ (sz : Nat), (∀ q, sz ≤ q → A q) → Met l yX10_end bw_X10_end (rm_X10_end n) (kP D (ktys cI cG cJ cO) K0 A L ad (mK cI cO K0 ad cp ce S) sz [.ref (ad 30 0), .ref (ad 46 j), .int x]) (kQi D A v L ad (mK cI cO K0 ad cp ce S)) 0 0 A) {v : Int32} (hE : sp_X10_expected S E j p2 = some v) (sz : Nat) (hA : ∀ q, sz ≤ q → A q) : Met l yX10_expected bw_X10_expected (rm_X10_expected (n + 1)) (kP D (ktys cI cG cJ cO) K0 A L ad (mK cI cO K0 ad cp ce S) sz [.ref (ad 30 0), .ref (ad 46 j), .int p2]) (kQi D A v L ad (mK cI cO K0 ad cp ce S)) 0 0 A := by
  refine Met.ofW (cc := cX10_expected) (maxL := 7) (ret := (some .int)) (by decide) rfl ?_
  intro p e s m args below meth c s₁ B hml hv_
  obtain ⟨hav, hsz, hP, hD, hK, hO⟩ := hv_
  have hx := B.exec
  have hb := B.bytes
  have hr := B.returns
  have hts : ∀ w ∈ BIG, w.before args s = true := fun w h => atoms_spec (ws := bw_X10_expected) B.pre w (List.mem_cons_of_mem _ h)
  have hown : s.vm.findClass RX10 = some m.cls := findClass_of_methodNamed B.named
  have hlocks := B.notSynchronized
  subst hsz
  have hw := wk.start hP hD
  refine k_start (by rfl) hav (Nat.le_of_ble_eq_true rfl) (fun ls hl => ?_)
  have hl : lv_has ls 7 [(0, .ref (ad 30 0)), (1, .ref (ad 46 j)), (2, .int p2)] := hl
  unfold sp_X10_expected at hE
  refine lv_aload_n hx hb dX10_expected_0 rfl (lv_at hl 1 rfl) ?_
  refine k_get (C := RX6) (T := TX6) (N := 8) (v := .ref (ad 47 j)) hx hb hts inB_X6 hown hK hw (hR.2.2.2.2.2.2.2 46 _ (by decide) (by decide) hj) mke_46 rfl 2 (by decide) (hts _ w_f_X10_75) (fun _ h9 => h9) rfl dX10_expected_1 ?_
  refine lv_iload_n hx hb dX10_expected_4 rfl (lv_at hl 2 rfl) ?_
  by_cases c_1 : p2 < 0 ∨ 12 ≤ p2.toNatClampNeg
  · exact nomatch (if_pos c_1).symm.trans hE
  have hE := (if_neg c_1).symm.trans hE
  refine k_aldi hx hb hK hw (hR.2.2.2.2.2.2.2 47 _ (by decide) (by decide) hj) 0 mke_47 rfl (fun z => c_1 (Or.inl z)) rfl (Nat.not_le.mp fun z => c_1 (Or.inr z)) (v := S 24 j p2.toNatClampNeg) rfl dX10_expected_5 ?_
  refine lv_if_eq (tgt := 16) hx hb dX10_expected_6 (by decide) (fun c_2 => ?_) (fun c_2 => ?_)
  · have hE := (if_pos c_2).symm.trans hE
    refine lv_aload_n hx hb dX10_expected_16 rfl (lv_at hl 0 rfl) ?_
    refine k_get (C := RX10) (T := TX10) (N := 9) (v := .ref (ad 31 0)) hx hb hts inB_X10 hown hK hw (hR.1 30 (by decide) (by decide)) mke_30 rfl 1 (by decide) (hts _ w_f_X10_10) (fun _ h9 => h9) rfl dX10_expected_17 ?_
    refine lv_iload_n hx hb dX10_expected_20 rfl (lv_at hl 2 rfl) ?_
    by_cases c_3 : p2 < 0 ∨ (S 1 0 0).toNatClampNeg ≤ p2.toNatClampNeg
    · exact nomatch (if_pos c_3).symm.trans hE
    have hE := (if_neg c_3).symm.trans hE
    refine k_cr0 (v := (ad 43 p2.toNatClampNeg)) hw (k_rV (f := 31) (o := 0) (As := [.int p2]) (rest := []) ⟨hx, hb, hml, hown, hts⟩ hK hO hw (ct_get_0 (SM.rf S) hR (i := p2.toNatClampNeg) (fun z => c_3 (Or.inl z)) rfl (Nat.not_le.mp fun z => c_3 (Or.inr z)) _ (wk.hA hw hA)) (cwV 1 hts (gB_V w_ml_X10_51 w_im_Jx4a65c_get_915e3 w_se_Jx4a65c_get_915e3 w_in_Jx4a65c w_co_Jx4a65c_get_915e3) rfl rfl rfl (by decide +kernel) ⟨show 2 + 1 ≤ 2 * (n + 1) + 12 from by omega, show 8 + (2 + 11) + 43 ≤ 120 * (n + 1) + 600 from by omega⟩) (hR.1 31 (by decide) (by decide)) (ce_l0 (SM.rf S)) rfl rfl hl.1 rfl (Nat.le_of_ble_eq_true rfl) dX10_expected_21 ⟨(Nat.le_of_ble_eq_true rfl), (Nat.le_of_ble_eq_true rfl)⟩) (fun H locs hw => ?_)
    refine k_cast (f := 43) (o := p2.toNatClampNeg) hx hb hown (hts _ w_cl_X10_55) hK hw (hR.2.2.2.1 _ (Nat.not_le.mp fun z => c_3 (Or.inr z))) mke_43 rfl dX10_expected_24 ?_
    refine lv_astore_n (lv' := [(3, .ref (ad 43 p2.toNatClampNeg)), (0, .ref (ad 30 0)), (1, .ref (ad 46 j)), (2, .int p2)]) hx hb dX10_expected_27 rfl hl (by decide) rfl (fun ls hl => ?_)
    refine lv_aload_n hx hb dX10_expected_28 rfl (lv_at hl 1 rfl) ?_
    refine k_get (C := RX10) (T := TX10) (N := 9) (v := .int (S 0 0 1)) hx hb hts inB_X10 hown hK hw (hR.1 30 (by decide) (by decide)) mke_30 rfl 8 (by decide) (hts _ w_f_X10_103) (fun _ h9 => h9) rfl dX10_expected_29 ?_
    refine lv_iconst (v := 1) hx hb dX10_expected_32 (by decide) ?_
    refine lv_iadd hx hb dX10_expected_33 ?_
    refine lv_aload_n hx hb dX10_expected_34 rfl (lv_at hl 2 rfl) ?_
    refine k_get (C := RX6) (T := TX6) (N := 8) (v := .int (S 6 j 1)) hx hb hts inB_X6 hown hK hw (hR.2.2.2.2.2.2.2 46 _ (by decide) (by decide) hj) mke_46 rfl 1 (by decide) (hts _ w_f_X10_106) (fun _ h9 => h9) rfl dX10_expected_35 ?_
    refine va_mmax hx hb (hml.trans hl.1.symm) hown (hts _ w_ml_X10_109) (hts _ w_st_max) (hts _ w_in_J9) (hts _ w_co_max) (show 1 ≤ 2 * (n + 1) + 12 from by omega) (Nat.le_trans (m := 100) (Nat.le_of_ble_eq_true rfl) (show 100 ≤ 120 * (n + 1) + 600 from by omega)) (Nat.le_of_ble_eq_true rfl) (Nat.le_of_ble_eq_true rfl) dX10_expected_38 ?_
    refine lv_istore (lv' := [(4, .int (if (S 0 0 1) + 1 < S 6 j 1 then S 6 j 1 else (S 0 0 1) + 1)), (3, .ref (ad 43 p2.toNatClampNeg)), (0, .ref (ad 30 0)), (1, .ref (ad 46 j)), (2, .int p2)]) hx hb dX10_expected_41 hl (by decide) rfl (fun ls hl => ?_)
    refine lv_iconst (v := 0) hx hb dX10_expected_43 (by decide) ?_
    refine lv_istore (lv' := [(5, .int 0), (4, .int (if (S 0 0 1) + 1 < S 6 j 1 then S 6 j 1 else (S 0 0 1) + 1)), (3, .ref (ad 43 p2.toNatClampNeg)), (0, .ref (ad 30 0)), (1, .ref (ad 46 j)), (2, .int p2)]) hx hb dX10_expected_44 hl (by decide) rfl (fun ls hl => ?_)
    have key_46 : ∀ (k i : Nat) (v4 : Int32) (H : Heap) (locs : List Loc) (ls : Array Slot), i + k = p2.toNatClampNeg → lp_X10_expected_46 S E j p2 k i v4 = some v → wk D A (L) ad (mK cI cO K0 ad cp ce S) s.heap H locs → lv_has ls 7 [(0, .ref (ad 30 0)), (1, .ref (ad 46 j)), (2, .int p2), (3, .ref (ad 43 p2.toNatClampNeg)), (4, .int v4), (5, .int (nI i))] → W p l e (headSpec bw_X10_expected (rm_X10_expected (n + 1))).room s m args below meth c H locs 0 0 (MQ below (kQi D A v L ad (mK cI cO K0 ad cp ce S)) args s 0 0 A) (F0 m 46 ls []) := by
      intro k
      induction k with
      | zero =>
        intro i v4 H locs ls hk hE hw hl
        have hE := (lz_lp_X10_expected_46 S E j p2 i v4).symm.trans hE
        refine lv_iload hx hb dX10_expected_46 (lv_at hl 5 rfl) ?_
        refine lv_iload_n hx hb dX10_expected_48 rfl (lv_at hl 2 rfl) ?_
        refine lv_icmp_ge (tgt := 106) hx hb dX10_expected_49 (by decide) (fun _ => ?_) (fun h => absurd (lp_o (cn_nn (fun z => c_1 (Or.inl z))) hk (cn_lt _)) h)
        refine lv_aload_n hx hb dX10_expected_106 rfl (lv_at hl 3 rfl) ?_
        refine k_get (C := RX9) (T := TX9) (N := 4) (v := .int (S 7 0 p2.toNatClampNeg)) hx hb hts inB_X9 hown hK hw (hR.2.2.2.1 _ (Nat.not_le.mp fun z => c_3 (Or.inr z))) mke_43 rfl 0 (by decide) (hts _ w_f_X10_60) (fun _ h9 => h9) rfl dX10_expected_107 ?_
        refine lv_iconst (v := 2) hx hb dX10_expected_110 (by decide) ?_
        refine lv_icmp_ne (tgt := 150) hx hb dX10_expected_111 (by decide) (fun c_5 => ?_) (fun c_5 => ?_)
        · have hE := (if_neg c_5).symm.trans hE
          refine lv_aload_n hx hb dX10_expected_150 rfl (lv_at hl 3 rfl) ?_
          refine k_get (C := RX9) (T := TX9) (N := 4) (v := .int (S 7 0 p2.toNatClampNeg)) hx hb hts inB_X9 hown hK hw (hR.2.2.2.1 _ (Nat.not_le.mp fun z => c_3 (Or.inr z))) mke_43 rfl 0 (by decide) (hts _ w_f_X10_60) (fun _ h9 => h9) rfl dX10_expected_151 ?_
          refine lv_iconst (v := 1) hx hb dX10_expected_154 (by decide) ?_
          refine lv_icmp_ne (tgt := 197) hx hb dX10_expected_155 (by decide) (fun c_6 => ?_) (fun c_6 => ?_)
          · have hE := (if_neg c_6).symm.trans hE
            refine lv_iload hx hb dX10_expected_197 (lv_at hl 4 rfl) ?_
            exact m_iret hx hb hr hlocks rfl hw hE (Nat.le_of_ble_eq_true rfl) (Nat.le_of_ble_eq_true rfl) dX10_expected_199
          · have hE := (if_pos c_6).symm.trans hE
            refine lv_aload_n hx hb dX10_expected_158 rfl (lv_at hl 0 rfl) ?_
            refine k_get (C := RX10) (T := TX10) (N := 9) (v := .ref (ad 37 0)) hx hb hts inB_X10 hown hK hw (hR.1 30 (by decide) (by decide)) mke_30 rfl 4 (by decide) (hts _ w_f_X10_23) (fun _ h9 => h9) rfl dX10_expected_159 ?_
            refine lv_aload_n hx hb dX10_expected_162 rfl (lv_at hl 3 rfl) ?_
            refine k_get (C := RX9) (T := TX9) (N := 4) (v := .int (S 10 0 p2.toNatClampNeg)) hx hb hts inB_X9 hown hK hw (hR.2.2.2.1 _ (Nat.not_le.mp fun z => c_3 (Or.inr z))) mke_43 rfl 3 (by decide) (hts _ w_f_X10_57) (fun _ h9 => h9) rfl dX10_expected_163 ?_
            by_cases c_7 : S 10 0 p2.toNatClampNeg < 0 ∨ 4 ≤ (S 10 0 p2.toNatClampNeg).toNatClampNeg
            · exact nomatch (if_pos c_7).symm.trans hE
            have hE := (if_neg c_7).symm.trans hE
            refine k_aldi hx hb hK hw (hR.1 37 (by decide) (by decide)) 0 mke_37 rfl (fun z => c_7 (Or.inl z)) rfl (Nat.not_le.mp fun z => c_7 (Or.inr z)) (v := S 13 0 ((S 10 0 p2.toNatClampNeg).toNatClampNeg)) rfl dX10_expected_166 ?_
            refine lv_if_ne (tgt := 197) hx hb dX10_expected_167 (by decide) (fun c_8 => ?_) (fun c_8 => ?_)
            · have hE := (if_neg c_8).symm.trans hE
              refine lv_iload hx hb dX10_expected_197 (lv_at hl 4 rfl) ?_
              exact m_iret hx hb hr hlocks rfl hw hE (Nat.le_of_ble_eq_true rfl) (Nat.le_of_ble_eq_true rfl) dX10_expected_199
            · have hE := (if_pos c_8).symm.trans hE
              refine lv_aload_n hx hb dX10_expected_170 rfl (lv_at hl 0 rfl) ?_
              refine lv_aload_n hx hb dX10_expected_171 rfl (lv_at hl 3 rfl) ?_
              refine k_get (C := RX9) (T := TX9) (N := 4) (v := .int (S 10 0 p2.toNatClampNeg)) hx hb hts inB_X9 hown hK hw (hR.2.2.2.1 _ (Nat.not_le.mp fun z => c_3 (Or.inr z))) mke_43 rfl 3 (by decide) (hts _ w_f_X10_57) (fun _ h9 => h9) rfl dX10_expected_172 ?_
              obtain ⟨x_9, hx_9, hE⟩ := ob1 hE
              refine k_ci0 hw (k_rV (f := 30) (o := 0) (As := [.int (S 10 0 p2.toNatClampNeg)]) (rest := []) ⟨hx, hb, hml, hown, hts⟩ hK hO hw (ct_X10_comes (MR.sm (SM.rf S) hR) (SM.ci (SM.rf S) hI) hx_9 _ (wk.hA hw hA)) (cwV 1 hts (gB_V w_ml_X10_132 w_im_X10_comes w_se_X10_comes w_in_X10 w_co_X10_comes) rfl rfl rfl (by decide +kernel) ⟨show 3 + 1 ≤ 2 * (n + 1) + 12 from by omega, show 8 + (5 + 11) + 64 ≤ 120 * (n + 1) + 600 from by omega⟩) (hR.1 30 (by decide) (by decide)) mke_30 rfl rfl hl.1 rfl (Nat.le_of_ble_eq_true rfl) dX10_expected_175 ⟨(Nat.le_of_ble_eq_true rfl), (Nat.le_of_ble_eq_true rfl)⟩) (fun H locs hw => ?_)
              refine lv_istore (lv' := [(5, .int x_9), (0, .ref (ad 30 0)), (1, .ref (ad 46 j)), (2, .int p2), (3, .ref (ad 43 p2.toNatClampNeg)), (4, .int v4)]) hx hb dX10_expected_178 hl (by decide) rfl (fun ls hl => ?_)
              refine lv_iload hx hb dX10_expected_180 (lv_at hl 0 rfl) ?_
              refine lv_iconst (v := (-1)) hx hb dX10_expected_182 (by decide) ?_
              refine lv_icmp_ne (tgt := 188) hx hb dX10_expected_183 (by decide) (fun c_10 => ?_) (fun c_10 => ?_)
              · have hE := (if_neg c_10).symm.trans hE
                refine lv_iload hx hb dX10_expected_188 (lv_at hl 5 rfl) ?_
                refine lv_iload hx hb dX10_expected_190 (lv_at hl 0 rfl) ?_
                refine va_mmax hx hb (hml.trans hl.1.symm) hown (hts _ w_ml_X10_109) (hts _ w_st_max) (hts _ w_in_J9) (hts _ w_co_max) (show 1 ≤ 2 * (n + 1) + 12 from by omega) (Nat.le_trans (m := 100) (Nat.le_of_ble_eq_true rfl) (show 100 ≤ 120 * (n + 1) + 600 from by omega)) (Nat.le_of_ble_eq_true rfl) (Nat.le_of_ble_eq_true rfl) dX10_expected_192 ?_
                refine lv_istore (lv' := [(4, .int (if v4 < x_9 then x_9 else v4)), (5, .int x_9), (0, .ref (ad 30 0)), (1, .ref (ad 46 j)), (2, .int p2), (3, .ref (ad 43 p2.toNatClampNeg))]) hx hb dX10_expected_195 hl (by decide) rfl (fun ls hl => ?_)
                refine lv_iload hx hb dX10_expected_197 (lv_at hl 0 rfl) ?_
                exact m_iret hx hb hr hlocks rfl hw hE (Nat.le_of_ble_eq_true rfl) (Nat.le_of_ble_eq_true rfl) dX10_expected_199
              · have hE := (if_pos c_10).symm.trans hE
                refine lv_iconst (v := (-1)) hx hb dX10_expected_186 (by decide) ?_
                exact m_iret hx hb hr hlocks rfl hw hE (Nat.le_of_ble_eq_true rfl) (Nat.le_of_ble_eq_true rfl) dX10_expected_187
        · have hE := (if_pos c_5).symm.trans hE
          refine lv_aload_n hx hb dX10_expected_114 rfl (lv_at hl 1 rfl) ?_
          refine k_get (C := RX6) (T := TX6) (N := 8) (v := .ref (ad 50 j)) hx hb hts inB_X6 hown hK hw (hR.2.2.2.2.2.2.2 46 _ (by decide) (by decide) hj) mke_46 rfl 5 (by decide) (hts _ w_f_X10_126) (fun _ h9 => h9) rfl dX10_expected_115 ?_
          refine lv_iload_n hx hb dX10_expected_118 rfl (lv_at hl 2 rfl) ?_
          refine k_aldi hx hb hK hw (hR.2.2.2.2.2.2.2 50 _ (by decide) (by decide) hj) 0 mke_50 rfl (fun z => c_1 (Or.inl z)) rfl (Nat.not_le.mp fun z => c_1 (Or.inr z)) (v := S 27 j p2.toNatClampNeg) rfl dX10_expected_119 ?_
          refine lv_iconst (v := (-1)) hx hb dX10_expected_120 (by decide) ?_
          refine lv_icmp_eq (tgt := 150) hx hb dX10_expected_121 (by decide) (fun c_11 => ?_) (fun c_11 => ?_)
          · have hE := (if_pos c_11).symm.trans hE
            refine lv_aload_n hx hb dX10_expected_150 rfl (lv_at hl 3 rfl) ?_
            refine k_get (C := RX9) (T := TX9) (N := 4) (v := .int (S 7 0 p2.toNatClampNeg)) hx hb hts inB_X9 hown hK hw (hR.2.2.2.1 _ (Nat.not_le.mp fun z => c_3 (Or.inr z))) mke_43 rfl 0 (by decide) (hts _ w_f_X10_60) (fun _ h9 => h9) rfl dX10_expected_151 ?_
            refine lv_iconst (v := 1) hx hb dX10_expected_154 (by decide) ?_
            refine lv_icmp_ne (tgt := 197) hx hb dX10_expected_155 (by decide) (fun c_12 => ?_) (fun c_12 => ?_)
            · have hE := (if_neg c_12).symm.trans hE
              refine lv_iload hx hb dX10_expected_197 (lv_at hl 4 rfl) ?_
              exact m_iret hx hb hr hlocks rfl hw hE (Nat.le_of_ble_eq_true rfl) (Nat.le_of_ble_eq_true rfl) dX10_expected_199
            · have hE := (if_pos c_12).symm.trans hE
              refine lv_aload_n hx hb dX10_expected_158 rfl (lv_at hl 0 rfl) ?_
              refine k_get (C := RX10) (T := TX10) (N := 9) (v := .ref (ad 37 0)) hx hb hts inB_X10 hown hK hw (hR.1 30 (by decide) (by decide)) mke_30 rfl 4 (by decide) (hts _ w_f_X10_23) (fun _ h9 => h9) rfl dX10_expected_159 ?_
              refine lv_aload_n hx hb dX10_expected_162 rfl (lv_at hl 3 rfl) ?_
              refine k_get (C := RX9) (T := TX9) (N := 4) (v := .int (S 10 0 p2.toNatClampNeg)) hx hb hts inB_X9 hown hK hw (hR.2.2.2.1 _ (Nat.not_le.mp fun z => c_3 (Or.inr z))) mke_43 rfl 3 (by decide) (hts _ w_f_X10_57) (fun _ h9 => h9) rfl dX10_expected_163 ?_
              by_cases c_13 : S 10 0 p2.toNatClampNeg < 0 ∨ 4 ≤ (S 10 0 p2.toNatClampNeg).toNatClampNeg
              · exact nomatch (if_pos c_13).symm.trans hE
              have hE := (if_neg c_13).symm.trans hE
              refine k_aldi hx hb hK hw (hR.1 37 (by decide) (by decide)) 0 mke_37 rfl (fun z => c_13 (Or.inl z)) rfl (Nat.not_le.mp fun z => c_13 (Or.inr z)) (v := S 13 0 ((S 10 0 p2.toNatClampNeg).toNatClampNeg)) rfl dX10_expected_166 ?_
              refine lv_if_ne (tgt := 197) hx hb dX10_expected_167 (by decide) (fun c_14 => ?_) (fun c_14 => ?_)
              · have hE := (if_neg c_14).symm.trans hE
                refine lv_iload hx hb dX10_expected_197 (lv_at hl 4 rfl) ?_
                exact m_iret hx hb hr hlocks rfl hw hE (Nat.le_of_ble_eq_true rfl) (Nat.le_of_ble_eq_true rfl) dX10_expected_199
              · have hE := (if_pos c_14).symm.trans hE
                refine lv_aload_n hx hb dX10_expected_170 rfl (lv_at hl 0 rfl) ?_
                refine lv_aload_n hx hb dX10_expected_171 rfl (lv_at hl 3 rfl) ?_
                refine k_get (C := RX9) (T := TX9) (N := 4) (v := .int (S 10 0 p2.toNatClampNeg)) hx hb hts inB_X9 hown hK hw (hR.2.2.2.1 _ (Nat.not_le.mp fun z => c_3 (Or.inr z))) mke_43 rfl 3 (by decide) (hts _ w_f_X10_57) (fun _ h9 => h9) rfl dX10_expected_172 ?_
                obtain ⟨x_15, hx_15, hE⟩ := ob1 hE
                refine k_ci0 hw (k_rV (f := 30) (o := 0) (As := [.int (S 10 0 p2.toNatClampNeg)]) (rest := []) ⟨hx, hb, hml, hown, hts⟩ hK hO hw (ct_X10_comes (MR.sm (SM.rf S) hR) (SM.ci (SM.rf S) hI) hx_15 _ (wk.hA hw hA)) (cwV 1 hts (gB_V w_ml_X10_132 w_im_X10_comes w_se_X10_comes w_in_X10 w_co_X10_comes) rfl rfl rfl (by decide +kernel) ⟨show 3 + 1 ≤ 2 * (n + 1) + 12 from by omega, show 8 + (5 + 11) + 64 ≤ 120 * (n + 1) + 600 from by omega⟩) (hR.1 30 (by decide) (by decide)) mke_30 rfl rfl hl.1 rfl (Nat.le_of_ble_eq_true rfl) dX10_expected_175 ⟨(Nat.le_of_ble_eq_true rfl), (Nat.le_of_ble_eq_true rfl)⟩) (fun H locs hw => ?_)
                refine lv_istore (lv' := [(5, .int x_15), (0, .ref (ad 30 0)), (1, .ref (ad 46 j)), (2, .int p2), (3, .ref (ad 43 p2.toNatClampNeg)), (4, .int v4)]) hx hb dX10_expected_178 hl (by decide) rfl (fun ls hl => ?_)
                refine lv_iload hx hb dX10_expected_180 (lv_at hl 0 rfl) ?_
                refine lv_iconst (v := (-1)) hx hb dX10_expected_182 (by decide) ?_
                refine lv_icmp_ne (tgt := 188) hx hb dX10_expected_183 (by decide) (fun c_16 => ?_) (fun c_16 => ?_)
                · have hE := (if_neg c_16).symm.trans hE
                  refine lv_iload hx hb dX10_expected_188 (lv_at hl 5 rfl) ?_
                  refine lv_iload hx hb dX10_expected_190 (lv_at hl 0 rfl) ?_
                  refine va_mmax hx hb (hml.trans hl.1.symm) hown (hts _ w_ml_X10_109) (hts _ w_st_max) (hts _ w_in_J9) (hts _ w_co_max) (show 1 ≤ 2 * (n + 1) + 12 from by omega) (Nat.le_trans (m := 100) (Nat.le_of_ble_eq_true rfl) (show 100 ≤ 120 * (n + 1) + 600 from by omega)) (Nat.le_of_ble_eq_true rfl) (Nat.le_of_ble_eq_true rfl) dX10_expected_192 ?_
                  refine lv_istore (lv' := [(4, .int (if v4 < x_15 then x_15 else v4)), (5, .int x_15), (0, .ref (ad 30 0)), (1, .ref (ad 46 j)), (2, .int p2), (3, .ref (ad 43 p2.toNatClampNeg))]) hx hb dX10_expected_195 hl (by decide) rfl (fun ls hl => ?_)
                  refine lv_iload hx hb dX10_expected_197 (lv_at hl 0 rfl) ?_
                  exact m_iret hx hb hr hlocks rfl hw hE (Nat.le_of_ble_eq_true rfl) (Nat.le_of_ble_eq_true rfl) dX10_expected_199
                · have hE := (if_pos c_16).symm.trans hE
                  refine lv_iconst (v := (-1)) hx hb dX10_expected_186 (by decide) ?_
                  exact m_iret hx hb hr hlocks rfl hw hE (Nat.le_of_ble_eq_true rfl) (Nat.le_of_ble_eq_true rfl) dX10_expected_187
          · have hE := (if_neg c_11).symm.trans hE
            refine lv_iload hx hb dX10_expected_124 (lv_at hl 4 rfl) ?_
            refine lv_aload_n hx hb dX10_expected_126 rfl (lv_at hl 0 rfl) ?_
            refine k_get (C := RX10) (T := TX10) (N := 9) (v := .ref (ad 34 0)) hx hb hts inB_X10 hown hK hw (hR.1 30 (by decide) (by decide)) mke_30 rfl 6 (by decide) (hts _ w_f_X10_29) (fun _ h9 => h9) rfl dX10_expected_127 ?_
            refine lv_aload_n hx hb dX10_expected_130 rfl (lv_at hl 1 rfl) ?_
            refine k_get (C := RX6) (T := TX6) (N := 8) (v := .ref (ad 50 j)) hx hb hts inB_X6 hown hK hw (hR.2.2.2.2.2.2.2 46 _ (by decide) (by decide) hj) mke_46 rfl 5 (by decide) (hts _ w_f_X10_126) (fun _ h9 => h9) rfl dX10_expected_131 ?_
            refine lv_iload_n hx hb dX10_expected_134 rfl (lv_at hl 2 rfl) ?_
            refine k_aldi hx hb hK hw (hR.2.2.2.2.2.2.2 50 _ (by decide) (by decide) hj) 0 mke_50 rfl (fun z => c_1 (Or.inl z)) rfl (Nat.not_le.mp fun z => c_1 (Or.inr z)) (v := S 27 j p2.toNatClampNeg) rfl dX10_expected_135 ?_
            by_cases c_17 : S 27 j p2.toNatClampNeg < 0 ∨ (S 3 0 0).toNatClampNeg ≤ (S 27 j p2.toNatClampNeg).toNatClampNeg
            · exact nomatch (if_pos c_17).symm.trans hE
            have hE := (if_neg c_17).symm.trans hE
            refine k_cr0 (v := (ad 45 ((S 27 j p2.toNatClampNeg).toNatClampNeg))) hw (k_rV (f := 34) (o := 0) (As := [.int (S 27 j p2.toNatClampNeg)]) (rest := [.int v4]) ⟨hx, hb, hml, hown, hts⟩ hK hO hw (ct_get_3 (SM.rf S) hR (i := ((S 27 j p2.toNatClampNeg).toNatClampNeg)) (fun z => c_17 (Or.inl z)) rfl (Nat.not_le.mp fun z => c_17 (Or.inr z)) _ (wk.hA hw hA)) (cwV 1 hts (gB_V w_ml_X10_51 w_im_Jx4a65c_get_915e3 w_se_Jx4a65c_get_915e3 w_in_Jx4a65c w_co_Jx4a65c_get_915e3) rfl rfl rfl (by decide +kernel) ⟨show 2 + 1 ≤ 2 * (n + 1) + 12 from by omega, show 8 + (2 + 11) + 43 ≤ 120 * (n + 1) + 600 from by omega⟩) (hR.1 34 (by decide) (by decide)) (ce_l3 (SM.rf S)) rfl rfl hl.1 rfl (Nat.le_of_ble_eq_true rfl) dX10_expected_136 ⟨(Nat.le_of_ble_eq_true rfl), (Nat.le_of_ble_eq_true rfl)⟩) (fun H locs hw => ?_)
            refine k_cast (f := 45) (o := ((S 27 j p2.toNatClampNeg).toNatClampNeg)) hx hb hown (hts _ w_cl_X10_129) hK hw (hR.2.2.2.2.2.2.1 _ (Nat.not_le.mp fun z => c_17 (Or.inr z))) mke_45 rfl dX10_expected_139 ?_
            refine k_get (C := RX8) (T := TX8) (N := 3) (v := .int (S 18 0 ((S 27 j p2.toNatClampNeg).toNatClampNeg))) hx hb hts inB_X8 hown hK hw (hR.2.2.2.2.2.2.1 _ (Nat.not_le.mp fun z => c_17 (Or.inr z))) mke_45 rfl 1 (by decide) (hts _ w_f_X10_131) (fun _ h9 => h9) rfl dX10_expected_142 ?_
            refine va_mmax hx hb (hml.trans hl.1.symm) hown (hts _ w_ml_X10_109) (hts _ w_st_max) (hts _ w_in_J9) (hts _ w_co_max) (show 1 ≤ 2 * (n + 1) + 12 from by omega) (Nat.le_trans (m := 100) (Nat.le_of_ble_eq_true rfl) (show 100 ≤ 120 * (n + 1) + 600 from by omega)) (Nat.le_of_ble_eq_true rfl) (Nat.le_of_ble_eq_true rfl) dX10_expected_145 ?_
            refine lv_istore (lv' := [(4, .int (if v4 < S 18 0 ((S 27 j p2.toNatClampNeg).toNatClampNeg) then S 18 0 ((S 27 j p2.toNatClampNeg).toNatClampNeg) else v4)), (0, .ref (ad 30 0)), (1, .ref (ad 46 j)), (2, .int p2), (3, .ref (ad 43 p2.toNatClampNeg)), (5, .int (nI i))]) hx hb dX10_expected_148 hl (by decide) rfl (fun ls hl => ?_)
            refine lv_aload_n hx hb dX10_expected_150 rfl (lv_at hl 4 rfl) ?_
            refine k_get (C := RX9) (T := TX9) (N := 4) (v := .int (S 7 0 p2.toNatClampNeg)) hx hb hts inB_X9 hown hK hw (hR.2.2.2.1 _ (Nat.not_le.mp fun z => c_3 (Or.inr z))) mke_43 rfl 0 (by decide) (hts _ w_f_X10_60) (fun _ h9 => h9) rfl dX10_expected_151 ?_
            refine lv_iconst (v := 1) hx hb dX10_expected_154 (by decide) ?_
            refine lv_icmp_ne (tgt := 197) hx hb dX10_expected_155 (by decide) (fun c_18 => ?_) (fun c_18 => ?_)
            · have hE := (if_neg c_18).symm.trans hE
              refine lv_iload hx hb dX10_expected_197 (lv_at hl 0 rfl) ?_
              exact m_iret hx hb hr hlocks rfl hw hE (Nat.le_of_ble_eq_true rfl) (Nat.le_of_ble_eq_true rfl) dX10_expected_199
            · have hE := (if_pos c_18).symm.trans hE
              refine lv_aload_n hx hb dX10_expected_158 rfl (lv_at hl 1 rfl) ?_
              refine k_get (C := RX10) (T := TX10) (N := 9) (v := .ref (ad 37 0)) hx hb hts inB_X10 hown hK hw (hR.1 30 (by decide) (by decide)) mke_30 rfl 4 (by decide) (hts _ w_f_X10_23) (fun _ h9 => h9) rfl dX10_expected_159 ?_
              refine lv_aload_n hx hb dX10_expected_162 rfl (lv_at hl 4 rfl) ?_
              refine k_get (C := RX9) (T := TX9) (N := 4) (v := .int (S 10 0 p2.toNatClampNeg)) hx hb hts inB_X9 hown hK hw (hR.2.2.2.1 _ (Nat.not_le.mp fun z => c_3 (Or.inr z))) mke_43 rfl 3 (by decide) (hts _ w_f_X10_57) (fun _ h9 => h9) rfl dX10_expected_163 ?_
              by_cases c_19 : S 10 0 p2.toNatClampNeg < 0 ∨ 4 ≤ (S 10 0 p2.toNatClampNeg).toNatClampNeg
              · exact nomatch (if_pos c_19).symm.trans hE
              have hE := (if_neg c_19).symm.trans hE
              refine k_aldi hx hb hK hw (hR.1 37 (by decide) (by decide)) 0 mke_37 rfl (fun z => c_19 (Or.inl z)) rfl (Nat.not_le.mp fun z => c_19 (Or.inr z)) (v := S 13 0 ((S 10 0 p2.toNatClampNeg).toNatClampNeg)) rfl dX10_expected_166 ?_
              refine lv_if_ne (tgt := 197) hx hb dX10_expected_167 (by decide) (fun c_20 => ?_) (fun c_20 => ?_)
              · have hE := (if_neg c_20).symm.trans hE
                refine lv_iload hx hb dX10_expected_197 (lv_at hl 0 rfl) ?_
                exact m_iret hx hb hr hlocks rfl hw hE (Nat.le_of_ble_eq_true rfl) (Nat.le_of_ble_eq_true rfl) dX10_expected_199
              · have hE := (if_pos c_20).symm.trans hE
                refine lv_aload_n hx hb dX10_expected_170 rfl (lv_at hl 1 rfl) ?_
                refine lv_aload_n hx hb dX10_expected_171 rfl (lv_at hl 4 rfl) ?_
                refine k_get (C := RX9) (T := TX9) (N := 4) (v := .int (S 10 0 p2.toNatClampNeg)) hx hb hts inB_X9 hown hK hw (hR.2.2.2.1 _ (Nat.not_le.mp fun z => c_3 (Or.inr z))) mke_43 rfl 3 (by decide) (hts _ w_f_X10_57) (fun _ h9 => h9) rfl dX10_expected_172 ?_
                obtain ⟨x_21, hx_21, hE⟩ := ob1 hE
                refine k_ci0 hw (k_rV (f := 30) (o := 0) (As := [.int (S 10 0 p2.toNatClampNeg)]) (rest := []) ⟨hx, hb, hml, hown, hts⟩ hK hO hw (ct_X10_comes (MR.sm (SM.rf S) hR) (SM.ci (SM.rf S) hI) hx_21 _ (wk.hA hw hA)) (cwV 1 hts (gB_V w_ml_X10_132 w_im_X10_comes w_se_X10_comes w_in_X10 w_co_X10_comes) rfl rfl rfl (by decide +kernel) ⟨show 3 + 1 ≤ 2 * (n + 1) + 12 from by omega, show 8 + (5 + 11) + 64 ≤ 120 * (n + 1) + 600 from by omega⟩) (hR.1 30 (by decide) (by decide)) mke_30 rfl rfl hl.1 rfl (Nat.le_of_ble_eq_true rfl) dX10_expected_175 ⟨(Nat.le_of_ble_eq_true rfl), (Nat.le_of_ble_eq_true rfl)⟩) (fun H locs hw => ?_)
                refine lv_istore (lv' := [(5, .int x_21), (4, .int (if v4 < S 18 0 ((S 27 j p2.toNatClampNeg).toNatClampNeg) then S 18 0 ((S 27 j p2.toNatClampNeg).toNatClampNeg) else v4)), (0, .ref (ad 30 0)), (1, .ref (ad 46 j)), (2, .int p2), (3, .ref (ad 43 p2.toNatClampNeg))]) hx hb dX10_expected_178 hl (by decide) rfl (fun ls hl => ?_)
                refine lv_iload hx hb dX10_expected_180 (lv_at hl 0 rfl) ?_
                refine lv_iconst (v := (-1)) hx hb dX10_expected_182 (by decide) ?_
                refine lv_icmp_ne (tgt := 188) hx hb dX10_expected_183 (by decide) (fun c_22 => ?_) (fun c_22 => ?_)
                · have hE := (if_neg c_22).symm.trans hE
                  refine lv_iload hx hb dX10_expected_188 (lv_at hl 1 rfl) ?_
                  refine lv_iload hx hb dX10_expected_190 (lv_at hl 0 rfl) ?_
                  refine va_mmax hx hb (hml.trans hl.1.symm) hown (hts _ w_ml_X10_109) (hts _ w_st_max) (hts _ w_in_J9) (hts _ w_co_max) (show 1 ≤ 2 * (n + 1) + 12 from by omega) (Nat.le_trans (m := 100) (Nat.le_of_ble_eq_true rfl) (show 100 ≤ 120 * (n + 1) + 600 from by omega)) (Nat.le_of_ble_eq_true rfl) (Nat.le_of_ble_eq_true rfl) dX10_expected_192 ?_
                  refine lv_istore (lv' := [(4, .int (if (if v4 < S 18 0 ((S 27 j p2.toNatClampNeg).toNatClampNeg) then S 18 0 ((S 27 j p2.toNatClampNeg).toNatClampNeg) else v4) < x_21 then x_21 else (if v4 < S 18 0 ((S 27 j p2.toNatClampNeg).toNatClampNeg) then S 18 0 ((S 27 j p2.toNatClampNeg).toNatClampNeg) else v4))), (5, .int x_21), (0, .ref (ad 30 0)), (1, .ref (ad 46 j)), (2, .int p2), (3, .ref (ad 43 p2.toNatClampNeg))]) hx hb dX10_expected_195 hl (by decide) rfl (fun ls hl => ?_)
                  refine lv_iload hx hb dX10_expected_197 (lv_at hl 0 rfl) ?_
                  exact m_iret hx hb hr hlocks rfl hw hE (Nat.le_of_ble_eq_true rfl) (Nat.le_of_ble_eq_true rfl) dX10_expected_199
                · have hE := (if_pos c_22).symm.trans hE
                  refine lv_iconst (v := (-1)) hx hb dX10_expected_186 (by decide) ?_
                  exact m_iret hx hb hr hlocks rfl hw hE (Nat.le_of_ble_eq_true rfl) (Nat.le_of_ble_eq_true rfl) dX10_expected_187
      | succ k ih =>
        intro i v4 H locs ls hk hE hw hl
        have hE := (ls_lp_X10_expected_46 S E j p2 k i v4).symm.trans hE
        refine lv_iload hx hb dX10_expected_46 (lv_at hl 5 rfl) ?_
        refine lv_iload_n hx hb dX10_expected_48 rfl (lv_at hl 2 rfl) ?_
        refine lv_icmp_ge (tgt := 106) hx hb dX10_expected_49 (by decide) (fun h => absurd h (lp_i (cn_nn (fun z => c_1 (Or.inl z))) hk (cn_lt _))) (fun _ => ?_)
        refine lv_aload_n hx hb dX10_expected_52 rfl (lv_at hl 3 rfl) ?_
        refine k_get (C := RX9) (T := TX9) (N := 4) (v := .int (S 9 0 p2.toNatClampNeg)) hx hb hts inB_X9 hown hK hw (hR.2.2.2.1 _ (Nat.not_le.mp fun z => c_3 (Or.inr z))) mke_43 rfl 2 (by decide) (hts _ w_f_X10_115) (fun _ h9 => h9) rfl dX10_expected_53 ?_
        refine lv_aload_n hx hb dX10_expected_56 rfl (lv_at hl 1 rfl) ?_
        refine k_get (C := RX6) (T := TX6) (N := 8) (v := .int (S 6 j 0)) hx hb hts inB_X6 hown hK hw (hR.2.2.2.2.2.2.2 46 _ (by decide) (by decide) hj) mke_46 rfl 0 (by decide) (hts _ w_f_X10_118) (fun _ h9 => h9) rfl dX10_expected_57 ?_
        refine lv_iand hx hb dX10_expected_60 ?_
        refine lv_iload hx hb dX10_expected_61 (lv_at hl 5 rfl) ?_
        refine k_ci0 hw (k_rS (As := [.int ((S 9 0 p2.toNatClampNeg) &&& (S 6 j 0)), .int (nI i)]) (rest := []) ⟨hx, hb, hml, hown, hts⟩ hK hO hw (ct_X10_isIn ((S 9 0 p2.toNatClampNeg) &&& (S 6 j 0)) (nI i) _ (wk.hA hw hA)) (va_cwS 2 hts (gB_S w_ml_X10_120 w_st_X10_isIn w_in_X10 w_co_X10_isIn) rfl rfl rfl (by decide +kernel) ⟨show 0 + 1 ≤ 2 * (n + 1) + 12 from by omega, show 8 + (2 + 11) + 0 ≤ 120 * (n + 1) + 600 from by omega⟩) rfl hl.1 rfl (Nat.le_of_ble_eq_true rfl) dX10_expected_63 ⟨(Nat.le_of_ble_eq_true rfl), (Nat.le_of_ble_eq_true rfl)⟩) (fun H locs hw => ?_)
        refine lv_if_ne (tgt := 72) hx hb dX10_expected_66 (by decide) (fun c_23 => ?_) (fun c_23 => ?_)
        · have hE := (if_neg c_23).symm.trans hE
          refine lv_aload_n hx hb dX10_expected_72 rfl (lv_at hl 0 rfl) ?_
          refine lv_aload_n hx hb dX10_expected_73 rfl (lv_at hl 1 rfl) ?_
          refine lv_iload hx hb dX10_expected_74 (lv_at hl 5 rfl) ?_
          obtain ⟨x_24, hx_24, hE⟩ := ob1 hE
          refine k_ci0 hw (k_rV (f := 30) (o := 0) (As := [.ref (ad 46 j), .int (nI i)]) (rest := []) ⟨hx, hb, hml, hown, hts⟩ hK hO hw (hIH _ _ hx_24 _ (wk.hA hw hA)) (cwV 2 hts (gB_V w_ml_X10_123 w_im_X10_end w_se_X10_end w_in_X10 w_co_X10_end) rfl rfl rfl (by decide +kernel) ⟨show (2 * n + 13) + 1 ≤ 2 * (n + 1) + 12 from by omega, show 8 + (4 + 11) + (120 * n + 660) ≤ 120 * (n + 1) + 600 from by omega⟩) (hR.1 30 (by decide) (by decide)) mke_30 rfl rfl hl.1 rfl (Nat.le_of_ble_eq_true rfl) dX10_expected_76 ⟨(Nat.le_of_ble_eq_true rfl), (Nat.le_of_ble_eq_true rfl)⟩) (fun H locs hw => ?_)
          refine lv_istore (lv' := [(6, .int x_24), (0, .ref (ad 30 0)), (1, .ref (ad 46 j)), (2, .int p2), (3, .ref (ad 43 p2.toNatClampNeg)), (4, .int v4), (5, .int (nI i))]) hx hb dX10_expected_79 hl (by decide) rfl (fun ls hl => ?_)
          refine lv_iload hx hb dX10_expected_81 (lv_at hl 0 rfl) ?_
          refine lv_iconst (v := (-1)) hx hb dX10_expected_83 (by decide) ?_
          refine lv_icmp_ne (tgt := 89) hx hb dX10_expected_84 (by decide) (fun c_25 => ?_) (fun c_25 => ?_)
          · have hE := (if_neg c_25).symm.trans hE
            refine lv_iload hx hb dX10_expected_89 (lv_at hl 5 rfl) ?_
            refine lv_iload hx hb dX10_expected_91 (lv_at hl 0 rfl) ?_
            refine lv_iconst (v := 1) hx hb dX10_expected_93 (by decide) ?_
            refine lv_iadd hx hb dX10_expected_94 ?_
            refine va_mmax hx hb (hml.trans hl.1.symm) hown (hts _ w_ml_X10_109) (hts _ w_st_max) (hts _ w_in_J9) (hts _ w_co_max) (show 1 ≤ 2 * (n + 1) + 12 from by omega) (Nat.le_trans (m := 100) (Nat.le_of_ble_eq_true rfl) (show 100 ≤ 120 * (n + 1) + 600 from by omega)) (Nat.le_of_ble_eq_true rfl) (Nat.le_of_ble_eq_true rfl) dX10_expected_95 ?_
            refine lv_istore (lv' := [(4, .int (if v4 < x_24 + 1 then x_24 + 1 else v4)), (6, .int x_24), (0, .ref (ad 30 0)), (1, .ref (ad 46 j)), (2, .int p2), (3, .ref (ad 43 p2.toNatClampNeg)), (5, .int (nI i))]) hx hb dX10_expected_98 hl (by decide) rfl (fun ls hl => ?_)
            refine lv_iinc (v := (nI (i + 1))) (lv' := [(5, .int (nI (i + 1))), (4, .int (if v4 < x_24 + 1 then x_24 + 1 else v4)), (6, .int x_24), (0, .ref (ad 30 0)), (1, .ref (ad 46 j)), (2, .int p2), (3, .ref (ad 43 p2.toNatClampNeg))]) hx hb dX10_expected_100 hl (k := 6) rfl (nI_1 _) (by decide) rfl (fun ls hl => ?_)
            refine lv_goto (tgt := 46) hx hb dX10_expected_103 (by decide) ?_
            exact ih (i + 1) (if v4 < x_24 + 1 then x_24 + 1 else v4) _ _ _ (lp_s hk) hE hw (lv_sub hl [3, 4, 5, 6, 1, 0] rfl)
          · have hE := (if_pos c_25).symm.trans hE
            refine lv_iconst (v := (-1)) hx hb dX10_expected_87 (by decide) ?_
            exact m_iret hx hb hr hlocks rfl hw hE (Nat.le_of_ble_eq_true rfl) (Nat.le_of_ble_eq_true rfl) dX10_expected_88
        · have hE := (if_pos c_23).symm.trans hE
          refine lv_goto (tgt := 100) hx hb dX10_expected_69 (by decide) ?_
          refine lv_iinc (v := (nI (i + 1))) (lv' := [(5, .int (nI (i + 1))), (0, .ref (ad 30 0)), (1, .ref (ad 46 j)), (2, .int p2), (3, .ref (ad 43 p2.toNatClampNeg)), (4, .int v4)]) hx hb dX10_expected_100 hl (k := 5) rfl (nI_1 _) (by decide) rfl (fun ls hl => ?_)
          refine lv_goto (tgt := 46) hx hb dX10_expected_103 (by decide) ?_
          exact ih (i + 1) v4 _ _ _ (lp_s hk) hE hw (lv_sub hl [1, 2, 3, 4, 5, 0] rfl)
    exact key_46 p2.toNatClampNeg 0 (if (S 0 0 1) + 1 < S 6 j 1 then S 6 j 1 else (S 0 0 1) + 1) _ _ _ (Nat.zero_add _) hE hw (lv_sub hl [3, 4, 5, 2, 1, 0] rfl)
  · have hE := (if_neg c_2).symm.trans hE
    refine lv_aload_n hx hb dX10_expected_9 rfl (lv_at hl 1 rfl) ?_
    refine k_get (C := RX6) (T := TX6) (N := 8) (v := .ref (ad 48 j)) hx hb hts inB_X6 hown hK hw (hR.2.2.2.2.2.2.2 46 _ (by decide) (by decide) hj) mke_46 rfl 3 (by decide) (hts _ w_f_X10_100) (fun _ h9 => h9) rfl dX10_expected_10 ?_
    refine lv_iload_n hx hb dX10_expected_13 rfl (lv_at hl 2 rfl) ?_
    refine k_aldi hx hb hK hw (hR.2.2.2.2.2.2.2 48 _ (by decide) (by decide) hj) 0 mke_48 rfl (fun z => c_1 (Or.inl z)) rfl (Nat.not_le.mp fun z => c_1 (Or.inr z)) (v := S 25 j p2.toNatClampNeg) rfl dX10_expected_14 ?_
    exact m_iret hx hb hr hlocks rfl hw hE (Nat.le_of_ble_eq_true rfl) (Nat.le_of_ble_eq_true rfl) dX10_expected_15

noncomputable def sp_X10_end (S : (Nat → Nat → Nat → Int32)) (E : Nat → Int32 → Option Int32) (j : Nat) (p2 : Int32) : Option (Int32) := (E j p2).bind fun x_1 => (if x_1 = (-1) then (some ((-1))) else ((sp_X10_length S j p2).bind fun x_3 => (some ((x_1 + x_3) - 1))))
set_option maxHeartbeats 1000000 in
set_option maxRecDepth 100000 in
theorem ct_X10_end {l : Launch} {D : va_G} {cI cG cJ cO : ClassId} {K0 : Nat → Nat} {A : Nat → Prop} {L : List (Nat × Nat)} {ad : Nat → Nat → Nat} {ce : Nat → Nat → va_E} {cp : Nat → Nat} {S : (Nat → Nat → Nat → Int32)} (hR : MR S L cp) (hI : CI S) {E : Nat → Int32 → Option Int32} {j : Nat} {p2 : Int32} (hj : j < (S 0 0 0).toNatClampNeg) {n : Nat} (hIH : ∀ (x v : Int32), E j x = some v → ∀ (sz : Nat), (∀ q, sz ≤ q → A q) → Met l yX10_expected bw_X10_expected (rm_X10_expected n) (kP D (ktys cI cG cJ cO) K0 A L ad (mK cI cO K0 ad cp ce S) sz [.ref (ad 30 0), .ref (ad 46 j), .int x]) (kQi D A v L ad (mK cI cO K0 ad cp ce S)) 0 0 A) {v : Int32} (hE : sp_X10_end S E j p2 = some v) (sz : Nat) (hA : ∀ q, sz ≤ q → A q) : Met l yX10_end bw_X10_end (rm_X10_end n) (kP D (ktys cI cG cJ cO) K0 A L ad (mK cI cO K0 ad cp ce S) sz [.ref (ad 30 0), .ref (ad 46 j), .int p2]) (kQi D A v L ad (mK cI cO K0 ad cp ce S)) 0 0 A := by
  refine Met.ofW (cc := cX10_end) (maxL := 4) (ret := (some .int)) (by decide) rfl ?_
  intro p e s m args below meth c s₁ B hml hv_
  obtain ⟨hav, hsz, hP, hD, hK, hO⟩ := hv_
  have hx := B.exec
  have hb := B.bytes
  have hr := B.returns
  have hts : ∀ w ∈ BIG, w.before args s = true := fun w h => atoms_spec (ws := bw_X10_end) B.pre w (List.mem_cons_of_mem _ h)
  have hown : s.vm.findClass RX10 = some m.cls := findClass_of_methodNamed B.named
  have hlocks := B.notSynchronized
  subst hsz
  have hw := wk.start hP hD
  refine k_start (by rfl) hav (Nat.le_of_ble_eq_true rfl) (fun ls hl => ?_)
  have hl : lv_has ls 4 [(0, .ref (ad 30 0)), (1, .ref (ad 46 j)), (2, .int p2)] := hl
  unfold sp_X10_end at hE
  refine lv_aload_n hx hb dX10_end_0 rfl (lv_at hl 0 rfl) ?_
  refine lv_aload_n hx hb dX10_end_1 rfl (lv_at hl 1 rfl) ?_
  refine lv_iload_n hx hb dX10_end_2 rfl (lv_at hl 2 rfl) ?_
  obtain ⟨x_1, hx_1, hE⟩ := ob1 hE
  refine k_ci0 hw (k_rV (f := 30) (o := 0) (As := [.ref (ad 46 j), .int p2]) (rest := []) ⟨hx, hb, hml, hown, hts⟩ hK hO hw (hIH _ _ hx_1 _ (wk.hA hw hA)) (cwV 2 hts (gB_V w_ml_X10_135 w_im_X10_expected w_se_X10_expected w_in_X10 w_co_X10_expected) rfl rfl rfl (by decide +kernel) ⟨show (2 * n + 12) + 1 ≤ 2 * n + 13 from by omega, show 8 + (7 + 11) + (120 * n + 600) ≤ 120 * n + 660 from by omega⟩) (hR.1 30 (by decide) (by decide)) mke_30 rfl rfl hl.1 rfl (Nat.le_of_ble_eq_true rfl) dX10_end_3 ⟨(Nat.le_of_ble_eq_true rfl), (Nat.le_of_ble_eq_true rfl)⟩) (fun H locs hw => ?_)
  refine lv_istore_n (lv' := [(3, .int x_1), (0, .ref (ad 30 0)), (1, .ref (ad 46 j)), (2, .int p2)]) hx hb dX10_end_6 rfl hl (by decide) rfl (fun ls hl => ?_)
  refine lv_iload_n hx hb dX10_end_7 rfl (lv_at hl 0 rfl) ?_
  refine lv_iconst (v := (-1)) hx hb dX10_end_8 (by decide) ?_
  refine lv_icmp_ne (tgt := 16) hx hb dX10_end_9 (by decide) (fun c_2 => ?_) (fun c_2 => ?_)
  · have hE := (if_neg c_2).symm.trans hE
    refine lv_iload_n hx hb dX10_end_16 rfl (lv_at hl 0 rfl) ?_
    refine lv_aload_n hx hb dX10_end_17 rfl (lv_at hl 1 rfl) ?_
    refine lv_aload_n hx hb dX10_end_18 rfl (lv_at hl 2 rfl) ?_
    refine lv_iload_n hx hb dX10_end_19 rfl (lv_at hl 3 rfl) ?_
    obtain ⟨x_3, hx_3, hE⟩ := ob1 hE
    refine k_ci0 hw (k_rV (f := 30) (o := 0) (As := [.ref (ad 46 j), .int p2]) (rest := [.int x_1]) ⟨hx, hb, hml, hown, hts⟩ hK hO hw (ct_X10_length (MR.sm (SM.rf S) hR) (SM.ci (SM.rf S) hI) (by rw [SM.c4 (SM.rf S)]; exact hj) hx_3 _ (wk.hA hw hA)) (cwV 2 hts (gB_V w_ml_X10_138 w_im_X10_length w_se_X10_length w_in_X10 w_co_X10_length) rfl rfl rfl (by decide +kernel) ⟨show 4 + 1 ≤ 2 * n + 13 from by omega, show 8 + (4 + 11) + 88 ≤ 120 * n + 660 from by omega⟩) (hR.1 30 (by decide) (by decide)) mke_30 rfl rfl hl.1 rfl (Nat.le_of_ble_eq_true rfl) dX10_end_20 ⟨(Nat.le_of_ble_eq_true rfl), (Nat.le_of_ble_eq_true rfl)⟩) (fun H locs hw => ?_)
    refine lv_iadd hx hb dX10_end_23 ?_
    refine lv_iconst (v := 1) hx hb dX10_end_24 (by decide) ?_
    refine lv_isub hx hb dX10_end_25 ?_
    exact m_iret hx hb hr hlocks rfl hw hE (Nat.le_of_ble_eq_true rfl) (Nat.le_of_ble_eq_true rfl) dX10_end_26
  · have hE := (if_pos c_2).symm.trans hE
    refine lv_iconst (v := (-1)) hx hb dX10_end_12 (by decide) ?_
    refine lv_goto (tgt := 26) hx hb dX10_end_13 (by decide) ?_
    exact m_iret hx hb hr hlocks rfl hw hE (Nat.le_of_ble_eq_true rfl) (Nat.le_of_ble_eq_true rfl) dX10_end_26

noncomputable def ex (S : (Nat → Nat → Nat → Int32)) : Nat → Nat → Int32 → Option Int32
  | 0 => fun _ _ => none
  | n + 1 => fun j p => sp_X10_expected S (fun j p => sp_X10_end S (ex S n) j p) j p
noncomputable def sp_X10_expd (S : (Nat → Nat → Nat → Int32)) (j : Nat) (p2 : Int32) : Option Int32 := ex S 12 j p2
noncomputable def sp_X10_endd (S : (Nat → Nat → Nat → Int32)) (j : Nat) (p2 : Int32) : Option Int32 := sp_X10_end S (ex S 12) j p2
theorem ct_ex {l : Launch} {D : va_G} {cI cG cJ cO : ClassId} {K0 : Nat → Nat} {A : Nat → Prop} {L : List (Nat × Nat)} {ad : Nat → Nat → Nat} {ce : Nat → Nat → va_E} {cp : Nat → Nat} {S : (Nat → Nat → Nat → Int32)} (hR : MR S L cp) (hI : CI S) {j : Nat} (hj : j < (S 0 0 0).toNatClampNeg) : ∀ (n : Nat) (x v : Int32), ex S n j x = some v → ∀ (sz : Nat), (∀ q, sz ≤ q → A q) → Met l yX10_expected bw_X10_expected (rm_X10_expected n) (kP D (ktys cI cG cJ cO) K0 A L ad (mK cI cO K0 ad cp ce S) sz [.ref (ad 30 0), .ref (ad 46 j), .int x]) (kQi D A v L ad (mK cI cO K0 ad cp ce S)) 0 0 A := by
  intro n
  induction n with
  | zero =>
    intro x v h
    have h : none = some v := h
    exact nomatch h
  | succ n ih =>
    intro x v h sz hA
    exact ct_X10_expected hR hI (E := fun j p => sp_X10_end S (ex S n) j p) hj (fun x v h sz hA => ct_X10_end hR hI (E := ex S n) hj ih h sz hA) h sz hA
theorem ct_X10_expd {l : Launch} {D : va_G} {cI cG cJ cO : ClassId} {K0 : Nat → Nat} {A : Nat → Prop} {L : List (Nat × Nat)} {ad : Nat → Nat → Nat} {ce : Nat → Nat → va_E} {cp : Nat → Nat} {S : (Nat → Nat → Nat → Int32)} (hR : MR S L cp) (hI : CI S) {j : Nat} {p2 : Int32} (hj : j < (S 0 0 0).toNatClampNeg) {v : Int32} (hE : sp_X10_expd S j p2 = some v) (sz : Nat) (hA : ∀ q, sz ≤ q → A q) : Met l yX10_expected bw_X10_expected (rm_X10_expected 12) (kP D (ktys cI cG cJ cO) K0 A L ad (mK cI cO K0 ad cp ce S) sz [.ref (ad 30 0), .ref (ad 46 j), .int p2]) (kQi D A v L ad (mK cI cO K0 ad cp ce S)) 0 0 A := ct_ex hR hI hj 12 _ _ hE sz hA
theorem ct_X10_endd {l : Launch} {D : va_G} {cI cG cJ cO : ClassId} {K0 : Nat → Nat} {A : Nat → Prop} {L : List (Nat × Nat)} {ad : Nat → Nat → Nat} {ce : Nat → Nat → va_E} {cp : Nat → Nat} {S : (Nat → Nat → Nat → Int32)} (hR : MR S L cp) (hI : CI S) {j : Nat} {p2 : Int32} (hj : j < (S 0 0 0).toNatClampNeg) {v : Int32} (hE : sp_X10_endd S j p2 = some v) (sz : Nat) (hA : ∀ q, sz ≤ q → A q) : Met l yX10_end bw_X10_end (rm_X10_end 12) (kP D (ktys cI cG cJ cO) K0 A L ad (mK cI cO K0 ad cp ce S) sz [.ref (ad 30 0), .ref (ad 46 j), .int p2]) (kQi D A v L ad (mK cI cO K0 ad cp ce S)) 0 0 A := ct_X10_end hR hI (E := ex S 12) hj (fun x v h sz hA => ct_ex hR hI hj 12 _ _ h sz hA) hE sz hA
