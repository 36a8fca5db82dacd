/-- how many of the first n sessions are of the step p -/
noncomputable def cntS (S : (Nat → Nat → Nat → Int32)) (p : Int32) : Nat → Nat
  | 0 => 0
  | n + 1 => cntS S p n + (if S 17 0 n = p then 1 else 0)
theorem cntS_le (S : (Nat → Nat → Nat → Int32)) (p : Int32) (n : Nat) : cntS S p n ≤ cntS S p (n + 1) := Nat.le_add_right _ _
theorem cntS_in {S : (Nat → Nat → Nat → Int32)} {p : Int32} {n : Nat} (h : S 17 0 n = p) : cntS S p (n + 1) = cntS S p n + 1 := by
  show cntS S p n + (if S 17 0 n = p then 1 else 0) = _
  rw [if_pos h]
theorem cntS_mono (S : (Nat → Nat → Nat → Int32)) (p : Int32) {n k : Nat} (h : n ≤ k) : cntS S p n ≤ cntS S p k := by
  induction h with
  | refl => exact Nat.le_refl _
  | step _ ih => exact Nat.le_trans ih (cntS_le _ _ _)
theorem cntS_sm {S T : (Nat → Nat → Nat → Int32)} (h : SM S T) (p : Int32) (n : Nat) : cntS T p n = cntS S p n := by
  induction n with
  | zero => rfl
  | succ n ih =>
    show cntS T p n + (if T 17 0 n = p then 1 else 0) = cntS S p n + (if S 17 0 n = p then 1 else 0)
    rw [ih, h.2 17 rfl]
/-- .. of the steps before k -/
noncomputable def preS (S : (Nat → Nat → Nat → Int32)) (m : Nat) : Nat → Nat
  | 0 => 0
  | k + 1 => preS S m k + cntS S (nI k) m
theorem preS_s (S : (Nat → Nat → Nat → Int32)) (m k : Nat) : preS S m (k + 1) = preS S m k + cntS S (nI k) m := rfl
theorem preS_m (S : (Nat → Nat → Nat → Int32)) (m : Nat) : ∀ k, k ≤ 100 → preS S (m + 1) k ≤ preS S m k + 1 ∧ ((∀ q, q < k → ¬ S 17 0 m = nI q) → preS S (m + 1) k = preS S m k) := by
  intro k
  induction k with
  | zero => intro _; exact ⟨Nat.le_succ _, fun _ => rfl⟩
  | succ k ih =>
    intro hk
    obtain ⟨h1, h2⟩ := ih (by omega)
    have e1 := preS_s S (m + 1) k
    have e2 := preS_s S m k
    have e3 : cntS S (nI k) (m + 1) = cntS S (nI k) m + (if S 17 0 m = nI k then 1 else 0) := rfl
    by_cases c : S 17 0 m = nI k
    · rw [if_pos c] at e3
      have h3 := h2 (fun q hq z => nI_neq hq (by omega) (z.symm.trans c))
      exact ⟨by omega, fun h => absurd c (h k (Nat.lt_succ_self _))⟩
    · rw [if_neg c] at e3
      exact ⟨by omega, fun h => by have := h2 (fun q hq => h q (by omega)); omega⟩
theorem preS_le (S : (Nat → Nat → Nat → Int32)) (m : Nat) {k : Nat} (hk : k ≤ 100) : preS S m k ≤ m := by
  induction m with
  | zero =>
    have : ∀ k, preS S 0 k = 0 := fun k => by
      induction k with
      | zero => rfl
      | succ k ih => rw [preS_s, ih]; rfl
    rw [this]
    exact Nat.le_refl _
  | succ m ih =>
    have := (preS_m S m k hk).1
    omega

abbrev rm_X10_sessionFor (cm : Nat) : Room := { frames := 40, cells := cm, slots := 4 * cm, locals := 2200 }
abbrev bw_X10_sessionFor : List Cond := .code yX10_sessionFor cX10_sessionFor 7 (some .int) :: BIG
noncomputable def lp_X10_sessionFor_13 (S : (Nat → Nat → Nat → Int32)) (j : Nat) (p2 : Int32) (x_1 : Int32) : Nat → Nat → Int32 → Option (Int32)
  | 0, i, v4 => some (v4)
  | k + 1, i, v4 => if x_1 = (-1) then (some (v4)) else (if S 17 0 i = p2 then (if S 18 0 i < x_1 then (lp_X10_sessionFor_13 S j p2 x_1 k (i + 1) v4) else ((sp_X10_seatsTaken S (nI i)).bind fun x_6 => (if x_6 < S 19 0 i then (if v4 = (-1) then (lp_X10_sessionFor_13 S j p2 x_1 k (i + 1) (nI i)) else (if v4 < 0 ∨ (S 3 0 0).toNatClampNeg ≤ v4.toNatClampNeg then none else (if S 18 0 v4.toNatClampNeg ≤ S 18 0 i then (lp_X10_sessionFor_13 S j p2 x_1 k (i + 1) v4) else (lp_X10_sessionFor_13 S j p2 x_1 k (i + 1) (nI i))))) else (lp_X10_sessionFor_13 S j p2 x_1 k (i + 1) v4)))) else (lp_X10_sessionFor_13 S j p2 x_1 k (i + 1) v4))
theorem lz_lp_X10_sessionFor_13 (S : (Nat → Nat → Nat → Int32)) (j : Nat) (p2 : Int32) (x_1 : Int32) (i : Nat) (v4 : Int32) : lp_X10_sessionFor_13 S j p2 x_1 0 i v4 = some (v4) := rfl
theorem ls_lp_X10_sessionFor_13 (S : (Nat → Nat → Nat → Int32)) (j : Nat) (p2 : Int32) (x_1 : Int32) (k i : Nat) (v4 : Int32) : lp_X10_sessionFor_13 S j p2 x_1 (k + 1) i v4 = if x_1 = (-1) then (some (v4)) else (if S 17 0 i = p2 then (if S 18 0 i < x_1 then (lp_X10_sessionFor_13 S j p2 x_1 k (i + 1) v4) else ((sp_X10_seatsTaken S (nI i)).bind fun x_6 => (if x_6 < S 19 0 i then (if v4 = (-1) then (lp_X10_sessionFor_13 S j p2 x_1 k (i + 1) (nI i)) else (if v4 < 0 ∨ (S 3 0 0).toNatClampNeg ≤ v4.toNatClampNeg then none else (if S 18 0 v4.toNatClampNeg ≤ S 18 0 i then (lp_X10_sessionFor_13 S j p2 x_1 k (i + 1) v4) else (lp_X10_sessionFor_13 S j p2 x_1 k (i + 1) (nI i))))) else (lp_X10_sessionFor_13 S j p2 x_1 k (i + 1) v4)))) else (lp_X10_sessionFor_13 S j p2 x_1 k (i + 1) v4)) := rfl
noncomputable def sp_X10_sessionFor (S : (Nat → Nat → Nat → Int32)) (j : Nat) (p2 : Int32) : Option (Int32) := (sp_X10_expd S j p2).bind fun x_1 => (lp_X10_sessionFor_13 S j p2 x_1 ((S 3 0 0).toNatClampNeg) 0 (-1))
set_option maxHeartbeats 1000000 in
set_option maxRecDepth 100000 in
theorem ct_X10_sessionFor {l : Launch} {D : va_G} {cI cG cJ cO : ClassId} {K0 : Nat → Nat} {A : Nat → Prop} {L : List (Nat × Nat)} {ad : Nat → Nat → Nat} {ce : Nat → Nat → va_E} {cp : Nat → Nat} {S : (Nat → Nat → Nat → Int32)} (hR : MR S L cp) (hI : CI S) (hT : TL 60 L) {j : Nat} {p2 : Int32} (hj : j < (S 0 0 0).toNatClampNeg) {cm : Nat} (hcm : cntS S p2 (S 3 0 0).toNatClampNeg ≤ cm) {v : Int32} (hE : sp_X10_sessionFor S j p2 = some v) (sz : Nat) (hA : ∀ q, sz ≤ q → A q) : Met l yX10_sessionFor bw_X10_sessionFor (rm_X10_sessionFor cm) (kP D (ktys cI cG cJ cO) K0 A L ad (mK cI cO K0 ad cp ce S) sz [.ref (ad 30 0), .ref (ad 46 j), .int p2]) (kQi D A v L ad (mK cI cO K0 ad cp ce S)) cm (4 * cm) A := by
  refine Met.ofW (cc := cX10_sessionFor) (maxL := 7) (ret := (some .int)) (by decide) rfl ?_
  intro p e s m args below meth c s₁ B hml hv_
  obtain ⟨hav, hsz, hP, hD, hK, hO⟩ := hv_
  have hx := B.exec
  have hb := B.bytes
  have hr := B.returns
  have hts : ∀ w ∈ BIG, w.before args s = true := fun w h => atoms_spec (ws := bw_X10_sessionFor) B.pre w (List.mem_cons_of_mem _ h)
  have hown : s.vm.findClass RX10 = some m.cls := findClass_of_methodNamed B.named
  have hlocks := B.notSynchronized
  subst hsz
  have hw := wk.start hP hD
  refine k_start (by rfl) hav (Nat.le_of_ble_eq_true rfl) (fun ls hl => ?_)
  have hl : lv_has ls 7 [(0, .ref (ad 30 0)), (1, .ref (ad 46 j)), (2, .int p2)] := hl
  unfold sp_X10_sessionFor at hE
  refine lv_aload_n hx hb dX10_sessionFor_0 rfl (lv_at hl 0 rfl) ?_
  refine lv_aload_n hx hb dX10_sessionFor_1 rfl (lv_at hl 1 rfl) ?_
  refine lv_iload_n hx hb dX10_sessionFor_2 rfl (lv_at hl 2 rfl) ?_
  obtain ⟨x_1, hx_1, hE⟩ := ob1 hE
  refine k_ci0 hw (k_rV (f := 30) (o := 0) (As := [.ref (ad 46 j), .int p2]) (rest := []) ⟨hx, hb, hml, hown, hts⟩ hK hO hw (ct_X10_expd (MR.sm (SM.rf S) hR) (SM.ci (SM.rf S) hI) (by rw [SM.c4 (SM.rf S)]; exact hj) hx_1 _ (wk.hA hw hA)) (cwV 2 hts (gB_V w_ml_X10_135 w_im_X10_expected w_se_X10_expected w_in_X10 w_co_X10_expected) rfl rfl rfl (by decide +kernel) ⟨show 36 + 1 ≤ 40 from by omega, show 8 + (7 + 11) + 2040 ≤ 2200 from by omega⟩) (hR.1 30 (by decide) (by decide)) mke_30 rfl rfl hl.1 rfl (Nat.le_of_ble_eq_true rfl) dX10_sessionFor_3 ⟨(show 0 + 0 ≤ cm from by omega), (show 0 + 0 ≤ 4 * cm from by omega)⟩) (fun H locs hw => ?_)
  refine lv_istore_n (lv' := [(3, .int x_1), (0, .ref (ad 30 0)), (1, .ref (ad 46 j)), (2, .int p2)]) hx hb dX10_sessionFor_6 rfl hl (by decide) rfl (fun ls hl => ?_)
  refine lv_iconst (v := (-1)) hx hb dX10_sessionFor_7 (by decide) ?_
  refine lv_istore (lv' := [(4, .int (-1)), (3, .int x_1), (0, .ref (ad 30 0)), (1, .ref (ad 46 j)), (2, .int p2)]) hx hb dX10_sessionFor_8 hl (by decide) rfl (fun ls hl => ?_)
  refine lv_iconst (v := 0) hx hb dX10_sessionFor_10 (by decide) ?_
  refine lv_istore (lv' := [(5, .int 0), (4, .int (-1)), (3, .int x_1), (0, .ref (ad 30 0)), (1, .ref (ad 46 j)), (2, .int p2)]) hx hb dX10_sessionFor_11 hl (by decide) rfl (fun ls hl => ?_)
  have key_13 : ∀ (k i : Nat) (v4 : Int32) (H : Heap) (locs : List Loc) (ls : Array Slot), i + k = (S 3 0 0).toNatClampNeg → lp_X10_sessionFor_13 S j p2 x_1 k i v4 = some v → wk D A (L) ad (mK cI cO K0 ad cp ce S) s.heap H locs → lv_has ls 7 [(0, .ref (ad 30 0)), (2, .int p2), (3, .int x_1), (4, .int v4), (5, .int (nI i))] → W p l e (headSpec bw_X10_sessionFor (rm_X10_sessionFor cm)).room s m args below meth c H locs (0 + cntS S p2 i) (0 + 4 * cntS S p2 i) (MQ below (kQi D A v L ad (mK cI cO K0 ad cp ce S)) args s cm (4 * cm) A) (F0 m 13 ls []) := by
    intro k
    induction k with
    | zero =>
      intro i v4 H locs ls hk hE hw hl
      have hE := (lz_lp_X10_sessionFor_13 S j p2 x_1 i v4).symm.trans hE
      have h9 : cntS S p2 i ≤ cm := by rw [show i = (S 3 0 0).toNatClampNeg from hk]; exact hcm
      refine W.widen (k := 0 + cm) (n := 0 + 4 * cm) (by omega) (by omega) ?_
      refine lv_iload hx hb dX10_sessionFor_13 (lv_at hl 4 rfl) ?_
      refine lv_aload_n hx hb dX10_sessionFor_15 rfl (lv_at hl 0 rfl) ?_
      refine k_get (C := RX10) (T := TX10) (N := 9) (v := .ref (ad 34 0)) hx hb hts inB_X10 hown hK hw (hR.1 30 (by decide) (by decide)) mke_30 rfl 6 (by decide) (hts _ w_f_X10_29) (fun _ h9 => h9) rfl dX10_sessionFor_16 ?_
      refine k_ci0 hw (k_rV (f := 34) (o := 0) (As := []) (rest := [.int (nI i)]) ⟨hx, hb, hml, hown, hts⟩ hK hO hw (ct_size_3 (SM.rf S) hR _ (wk.hA hw hA)) (cwV 0 hts (gB_V w_ml_X10_43 w_im_Jx4a65c_size_8abf5 w_se_Jx4a65c_size_8abf5 w_in_Jx4a65c w_co_Jx4a65c_size_8abf5) rfl rfl rfl (by decide +kernel) ⟨show 0 + 1 ≤ 40 from by omega, show 8 + (1 + 11) + 0 ≤ 2200 from by omega⟩) (hR.1 34 (by decide) (by decide)) (ce_l3 (SM.rf S)) rfl rfl hl.1 rfl (Nat.le_of_ble_eq_true rfl) dX10_sessionFor_19 ⟨(show 0 + cm + 0 ≤ cm from by omega), (show 0 + 4 * cm + 0 ≤ 4 * cm from by omega)⟩) (fun H locs hw => ?_)
      refine lv_icmp_ge (tgt := 118) hx hb dX10_sessionFor_22 (by decide) (fun _ => ?_) (fun h => absurd (lp_o (cn_eq hI.2.2.2.1.1) hk (cn_lt _)) h)
      refine lv_iload hx hb dX10_sessionFor_118 (lv_at hl 3 rfl) ?_
      exact m_iret hx hb hr hlocks rfl hw hE (show 0 + cm ≤ cm from by omega) (show 0 + 4 * cm ≤ 4 * cm from by omega) dX10_sessionFor_120
    | succ k ih =>
      intro i v4 H locs ls hk hE hw hl
      have h8 := cntS_le S p2 i
      have h7 : cntS S p2 (i + 1) ≤ cm := Nat.le_trans (cntS_mono S p2 (show i + 1 ≤ (S 3 0 0).toNatClampNeg from by omega)) hcm
      have hE := (ls_lp_X10_sessionFor_13 S j p2 x_1 k i v4).symm.trans hE
      refine lv_iload hx hb dX10_sessionFor_13 (lv_at hl 4 rfl) ?_
      refine lv_aload_n hx hb dX10_sessionFor_15 rfl (lv_at hl 0 rfl) ?_
      refine k_get (C := RX10) (T := TX10) (N := 9) (v := .ref (ad 34 0)) hx hb hts inB_X10 hown hK hw (hR.1 30 (by decide) (by decide)) mke_30 rfl 6 (by decide) (hts _ w_f_X10_29) (fun _ h9 => h9) rfl dX10_sessionFor_16 ?_
      refine k_ci0 hw (k_rV (f := 34) (o := 0) (As := []) (rest := [.int (nI i)]) ⟨hx, hb, hml, hown, hts⟩ hK hO hw (ct_size_3 (SM.rf S) hR _ (wk.hA hw hA)) (cwV 0 hts (gB_V w_ml_X10_43 w_im_Jx4a65c_size_8abf5 w_se_Jx4a65c_size_8abf5 w_in_Jx4a65c w_co_Jx4a65c_size_8abf5) rfl rfl rfl (by decide +kernel) ⟨show 0 + 1 ≤ 40 from by omega, show 8 + (1 + 11) + 0 ≤ 2200 from by omega⟩) (hR.1 34 (by decide) (by decide)) (ce_l3 (SM.rf S)) rfl rfl hl.1 rfl (Nat.le_of_ble_eq_true rfl) dX10_sessionFor_19 ⟨(show 0 + cntS S p2 i + 0 ≤ cm from by omega), (show 0 + 4 * cntS S p2 i + 0 ≤ 4 * cm from by omega)⟩) (fun H locs hw => ?_)
      refine lv_icmp_ge (tgt := 118) hx hb dX10_sessionFor_22 (by decide) (fun h => absurd h (lp_i (cn_eq hI.2.2.2.1.1) hk (cn_lt _))) (fun _ => ?_)
      refine lv_iload_n hx hb dX10_sessionFor_25 rfl (lv_at hl 2 rfl) ?_
      refine lv_iconst (v := (-1)) hx hb dX10_sessionFor_26 (by decide) ?_
      refine lv_icmp_eq (tgt := 118) hx hb dX10_sessionFor_27 (by decide) (fun c_3 => ?_) (fun c_3 => ?_)
      · have hE := (if_pos c_3).symm.trans hE
        refine lv_iload hx hb dX10_sessionFor_118 (lv_at hl 3 rfl) ?_
        exact m_iret hx hb hr hlocks rfl hw hE (show 0 + cntS S p2 i ≤ cm from by omega) (show 0 + 4 * cntS S p2 i ≤ 4 * cm from by omega) dX10_sessionFor_120
      · have hE := (if_neg c_3).symm.trans hE
        refine lv_aload_n hx hb dX10_sessionFor_30 rfl (lv_at hl 0 rfl) ?_
        refine k_get (C := RX10) (T := TX10) (N := 9) (v := .ref (ad 34 0)) hx hb hts inB_X10 hown hK hw (hR.1 30 (by decide) (by decide)) mke_30 rfl 6 (by decide) (hts _ w_f_X10_29) (fun _ h9 => h9) rfl dX10_sessionFor_31 ?_
        refine lv_iload hx hb dX10_sessionFor_34 (lv_at hl 4 rfl) ?_
        refine k_cr0 (v := (ad 45 i)) hw (k_rV (f := 34) (o := 0) (As := [.int (nI i)]) (rest := []) ⟨hx, hb, hml, hown, hts⟩ hK hO hw (ct_get_3 (SM.rf S) hR (i := i) (nI_nlt (a := i) (b := 0) (Nat.zero_le _) (Nat.lt_trans (show i < (S 3 0 0).toNatClampNeg from (lp_l hk)) (cn_lt _))) (nI_clamp (Nat.lt_trans (show i < (S 3 0 0).toNatClampNeg from (lp_l hk)) (cn_lt _))) (show i < (S 3 0 0).toNatClampNeg from (lp_l hk)) _ (wk.hA hw hA)) (cwV 1 hts (gB_V w_ml_X10_51 w_im_Jx4a65c_get_915e3 w_se_Jx4a65c_get_915e3 w_in_Jx4a65c w_co_Jx4a65c_get_915e3) rfl rfl rfl (by decide +kernel) ⟨show 2 + 1 ≤ 40 from by omega, show 8 + (2 + 11) + 43 ≤ 2200 from by omega⟩) (hR.1 34 (by decide) (by decide)) (ce_l3 (SM.rf S)) rfl rfl hl.1 rfl (Nat.le_of_ble_eq_true rfl) dX10_sessionFor_36 ⟨(show 0 + cntS S p2 i + 0 ≤ cm from by omega), (show 0 + 4 * cntS S p2 i + 0 ≤ 4 * cm from by omega)⟩) (fun H locs hw => ?_)
        refine k_cast (f := 45) (o := i) hx hb hown (hts _ w_cl_X10_129) hK hw (hR.2.2.2.2.2.2.1 _ (show i < (S 3 0 0).toNatClampNeg from (lp_l hk))) mke_45 rfl dX10_sessionFor_39 ?_
        refine lv_astore (lv' := [(6, .ref (ad 45 i)), (0, .ref (ad 30 0)), (2, .int p2), (3, .int x_1), (4, .int v4), (5, .int (nI i))]) hx hb dX10_sessionFor_42 hl (by decide) rfl (fun ls hl => ?_)
        refine lv_aload hx hb dX10_sessionFor_44 (lv_at hl 0 rfl) ?_
        refine k_get (C := RX8) (T := TX8) (N := 3) (v := .int (S 17 0 i)) hx hb hts inB_X8 hown hK hw (hR.2.2.2.2.2.2.1 _ (show i < (S 3 0 0).toNatClampNeg from (lp_l hk))) mke_45 rfl 0 (by decide) (hts _ w_f_X10_160) (fun _ h9 => h9) rfl dX10_sessionFor_46 ?_
        refine lv_iload_n hx hb dX10_sessionFor_49 rfl (lv_at hl 2 rfl) ?_
        refine lv_icmp_ne (tgt := 112) hx hb dX10_sessionFor_50 (by decide) (fun c_4 => ?_) (fun c_4 => ?_)
        · have hE := (if_neg c_4).symm.trans hE
          refine lv_iinc (v := (nI (i + 1))) (lv' := [(5, .int (nI (i + 1))), (6, .ref (ad 45 i)), (0, .ref (ad 30 0)), (2, .int p2), (3, .int x_1), (4, .int v4)]) hx hb dX10_sessionFor_112 hl (k := 5) rfl (nI_1 _) (by decide) rfl (fun ls hl => ?_)
          refine lv_goto (tgt := 13) hx hb dX10_sessionFor_115 (by decide) ?_
          refine W.widen (k := 0 + cntS S p2 (i + 1)) (n := 0 + 4 * cntS S p2 (i + 1)) (by omega) (by omega) ?_
          exact ih (i + 1) v4 _ _ _ (lp_s hk) hE hw (lv_sub hl [2, 3, 4, 5, 0] rfl)
        · have hE := (if_pos c_4).symm.trans hE
          refine lv_aload hx hb dX10_sessionFor_53 (lv_at hl 0 rfl) ?_
          refine k_get (C := RX8) (T := TX8) (N := 3) (v := .int (S 18 0 i)) hx hb hts inB_X8 hown hK hw (hR.2.2.2.2.2.2.1 _ (show i < (S 3 0 0).toNatClampNeg from (lp_l hk))) mke_45 rfl 1 (by decide) (hts _ w_f_X10_131) (fun _ h9 => h9) rfl dX10_sessionFor_55 ?_
          refine lv_iload_n hx hb dX10_sessionFor_58 rfl (lv_at hl 3 rfl) ?_
          refine lv_icmp_lt (tgt := 112) hx hb dX10_sessionFor_59 (by decide) (fun c_5 => ?_) (fun c_5 => ?_)
          · have hE := (if_pos c_5).symm.trans hE
            refine lv_iinc (v := (nI (i + 1))) (lv' := [(5, .int (nI (i + 1))), (6, .ref (ad 45 i)), (0, .ref (ad 30 0)), (2, .int p2), (3, .int x_1), (4, .int v4)]) hx hb dX10_sessionFor_112 hl (k := 5) rfl (nI_1 _) (by decide) rfl (fun ls hl => ?_)
            refine lv_goto (tgt := 13) hx hb dX10_sessionFor_115 (by decide) ?_
            refine W.widen (k := 0 + cntS S p2 (i + 1)) (n := 0 + 4 * cntS S p2 (i + 1)) (by have h9 := cntS_in c_4; omega) (by have h9 := cntS_in c_4; omega) ?_
            exact ih (i + 1) v4 _ _ _ (lp_s hk) hE hw (lv_sub hl [2, 3, 4, 5, 0] rfl)
          · have hE := (if_neg c_5).symm.trans hE
            refine lv_aload_n hx hb dX10_sessionFor_62 rfl (lv_at hl 1 rfl) ?_
            refine lv_iload hx hb dX10_sessionFor_63 (lv_at hl 5 rfl) ?_
            obtain ⟨x_6, hx_6, hE⟩ := ob1 hE
            refine k_ci hw (k_rV (f := 30) (o := 0) (As := [.int (nI i)]) (rest := []) ⟨hx, hb, hml, hown, hts⟩ hK hO hw (ct_X10_seatsTaken (MR.sm (SM.rf S) hR) (SM.ci (SM.rf S) hI) (TL.le hT (by decide)) hx_6 _ (wk.hA hw hA)) (cwV 1 hts (gB_V w_ml_X10_163 w_im_X10_seatsTaken w_se_X10_seatsTaken w_in_X10 w_co_X10_seatsTaken) rfl rfl rfl (by decide +kernel) ⟨show 3 + 1 ≤ 40 from by omega, show 8 + (6 + 11) + 53 ≤ 2200 from by omega⟩) (hR.1 30 (by decide) (by decide)) mke_30 rfl rfl hl.1 rfl (Nat.le_of_ble_eq_true rfl) dX10_sessionFor_65 ⟨(show 0 + cntS S p2 i + 1 ≤ cm from by have h9 := cntS_in c_4; omega), (show 0 + 4 * cntS S p2 i + 4 ≤ 4 * cm from by have h9 := cntS_in c_4; omega)⟩) (fun H locs hw => ?_)
            refine lv_aload hx hb dX10_sessionFor_68 (lv_at hl 0 rfl) ?_
            refine k_get (C := RX8) (T := TX8) (N := 3) (v := .int (S 19 0 i)) hx hb hts inB_X8 hown hK hw (hR.2.2.2.2.2.2.1 _ (show i < (S 3 0 0).toNatClampNeg from (lp_l hk))) mke_45 rfl 2 (by decide) (hts _ w_f_X10_166) (fun _ h9 => h9) rfl dX10_sessionFor_70 ?_
            refine lv_icmp_lt (tgt := 79) hx hb dX10_sessionFor_73 (by decide) (fun c_7 => ?_) (fun c_7 => ?_)
            · have hE := (if_pos c_7).symm.trans hE
              refine lv_iload hx hb dX10_sessionFor_79 (lv_at hl 4 rfl) ?_
              refine lv_iconst (v := (-1)) hx hb dX10_sessionFor_81 (by decide) ?_
              refine lv_icmp_eq (tgt := 108) hx hb dX10_sessionFor_82 (by decide) (fun c_8 => ?_) (fun c_8 => ?_)
              · have hE := (if_pos c_8).symm.trans hE
                refine lv_iload hx hb dX10_sessionFor_108 (lv_at hl 5 rfl) ?_
                refine lv_istore (lv' := [(4, .int (nI i)), (6, .ref (ad 45 i)), (0, .ref (ad 30 0)), (2, .int p2), (3, .int x_1), (5, .int (nI i))]) hx hb dX10_sessionFor_110 hl (by decide) rfl (fun ls hl => ?_)
                refine lv_iinc (v := (nI (i + 1))) (lv' := [(5, .int (nI (i + 1))), (4, .int (nI i)), (6, .ref (ad 45 i)), (0, .ref (ad 30 0)), (2, .int p2), (3, .int x_1)]) hx hb dX10_sessionFor_112 hl (k := 5) rfl (nI_1 _) (by decide) rfl (fun ls hl => ?_)
                refine lv_goto (tgt := 13) hx hb dX10_sessionFor_115 (by decide) ?_
                refine W.widen (k := 0 + cntS S p2 (i + 1)) (n := 0 + 4 * cntS S p2 (i + 1)) (by have h9 := cntS_in c_4; omega) (by have h9 := cntS_in c_4; omega) ?_
                exact ih (i + 1) (nI i) _ _ _ (lp_s hk) hE hw (lv_sub hl [3, 4, 5, 1, 0] rfl)
              · have hE := (if_neg c_8).symm.trans hE
                refine lv_aload hx hb dX10_sessionFor_85 (lv_at hl 0 rfl) ?_
                refine k_get (C := RX8) (T := TX8) (N := 3) (v := .int (S 18 0 i)) hx hb hts inB_X8 hown hK hw (hR.2.2.2.2.2.2.1 _ (show i < (S 3 0 0).toNatClampNeg from (lp_l hk))) mke_45 rfl 1 (by decide) (hts _ w_f_X10_131) (fun _ h9 => h9) rfl dX10_sessionFor_87 ?_
                refine lv_aload_n hx hb dX10_sessionFor_90 rfl (lv_at hl 1 rfl) ?_
                refine k_get (C := RX10) (T := TX10) (N := 9) (v := .ref (ad 34 0)) hx hb hts inB_X10 hown hK hw (hR.1 30 (by decide) (by decide)) mke_30 rfl 6 (by decide) (hts _ w_f_X10_29) (fun _ h9 => h9) rfl dX10_sessionFor_91 ?_
                refine lv_iload hx hb dX10_sessionFor_94 (lv_at hl 4 rfl) ?_
                by_cases c_9 : v4 < 0 ∨ (S 3 0 0).toNatClampNeg ≤ v4.toNatClampNeg
                · exact nomatch (if_pos c_9).symm.trans hE
                have hE := (if_neg c_9).symm.trans hE
                refine k_cr0 (v := (ad 45 v4.toNatClampNeg)) hw (k_rV (f := 34) (o := 0) (As := [.int v4]) (rest := [.int (S 18 0 i)]) ⟨hx, hb, hml, hown, hts⟩ hK hO hw (ct_get_3 (SM.rf S) hR (i := v4.toNatClampNeg) (fun z => c_9 (Or.inl z)) rfl (Nat.not_le.mp fun z => c_9 (Or.inr z)) _ (wk.hA hw hA)) (cwV 1 hts (gB_V w_ml_X10_51 w_im_Jx4a65c_get_915e3 w_se_Jx4a65c_get_915e3 w_in_Jx4a65c w_co_Jx4a65c_get_915e3) rfl rfl rfl (by decide +kernel) ⟨show 2 + 1 ≤ 40 from by omega, show 8 + (2 + 11) + 43 ≤ 2200 from by omega⟩) (hR.1 34 (by decide) (by decide)) (ce_l3 (SM.rf S)) rfl rfl hl.1 rfl (Nat.le_of_ble_eq_true rfl) dX10_sessionFor_96 ⟨(show 0 + cntS S p2 i + 1 + 0 ≤ cm from by have h9 := cntS_in c_4; omega), (show 0 + 4 * cntS S p2 i + 4 + 0 ≤ 4 * cm from by have h9 := cntS_in c_4; omega)⟩) (fun H locs hw => ?_)
                refine k_cast (f := 45) (o := v4.toNatClampNeg) hx hb hown (hts _ w_cl_X10_129) hK hw (hR.2.2.2.2.2.2.1 _ (Nat.not_le.mp fun z => c_9 (Or.inr z))) mke_45 rfl dX10_sessionFor_99 ?_
                refine k_get (C := RX8) (T := TX8) (N := 3) (v := .int (S 18 0 v4.toNatClampNeg)) hx hb hts inB_X8 hown hK hw (hR.2.2.2.2.2.2.1 _ (Nat.not_le.mp fun z => c_9 (Or.inr z))) mke_45 rfl 1 (by decide) (hts _ w_f_X10_131) (fun _ h9 => h9) rfl dX10_sessionFor_102 ?_
                refine lv_icmp_ge (tgt := 112) hx hb dX10_sessionFor_105 (by decide) (fun c_10 => ?_) (fun c_10 => ?_)
                · have hE := (if_pos c_10).symm.trans hE
                  refine lv_iinc (v := (nI (i + 1))) (lv' := [(5, .int (nI (i + 1))), (6, .ref (ad 45 i)), (0, .ref (ad 30 0)), (2, .int p2), (3, .int x_1), (4, .int v4)]) hx hb dX10_sessionFor_112 hl (k := 5) rfl (nI_1 _) (by decide) rfl (fun ls hl => ?_)
                  refine lv_goto (tgt := 13) hx hb dX10_sessionFor_115 (by decide) ?_
                  refine W.widen (k := 0 + cntS S p2 (i + 1)) (n := 0 + 4 * cntS S p2 (i + 1)) (by have h9 := cntS_in c_4; omega) (by have h9 := cntS_in c_4; omega) ?_
                  exact ih (i + 1) v4 _ _ _ (lp_s hk) hE hw (lv_sub hl [2, 3, 4, 5, 0] rfl)
                · have hE := (if_neg c_10).symm.trans hE
                  refine lv_iload hx hb dX10_sessionFor_108 (lv_at hl 5 rfl) ?_
                  refine lv_istore (lv' := [(4, .int (nI i)), (6, .ref (ad 45 i)), (0, .ref (ad 30 0)), (2, .int p2), (3, .int x_1), (5, .int (nI i))]) hx hb dX10_sessionFor_110 hl (by decide) rfl (fun ls hl => ?_)
                  refine lv_iinc (v := (nI (i + 1))) (lv' := [(5, .int (nI (i + 1))), (4, .int (nI i)), (6, .ref (ad 45 i)), (0, .ref (ad 30 0)), (2, .int p2), (3, .int x_1)]) hx hb dX10_sessionFor_112 hl (k := 5) rfl (nI_1 _) (by decide) rfl (fun ls hl => ?_)
                  refine lv_goto (tgt := 13) hx hb dX10_sessionFor_115 (by decide) ?_
                  refine W.widen (k := 0 + cntS S p2 (i + 1)) (n := 0 + 4 * cntS S p2 (i + 1)) (by have h9 := cntS_in c_4; omega) (by have h9 := cntS_in c_4; omega) ?_
                  exact ih (i + 1) (nI i) _ _ _ (lp_s hk) hE hw (lv_sub hl [3, 4, 5, 1, 0] rfl)
            · have hE := (if_neg c_7).symm.trans hE
              refine lv_goto (tgt := 112) hx hb dX10_sessionFor_76 (by decide) ?_
              refine lv_iinc (v := (nI (i + 1))) (lv' := [(5, .int (nI (i + 1))), (6, .ref (ad 45 i)), (0, .ref (ad 30 0)), (2, .int p2), (3, .int x_1), (4, .int v4)]) hx hb dX10_sessionFor_112 hl (k := 5) rfl (nI_1 _) (by decide) rfl (fun ls hl => ?_)
              refine lv_goto (tgt := 13) hx hb dX10_sessionFor_115 (by decide) ?_
              refine W.widen (k := 0 + cntS S p2 (i + 1)) (n := 0 + 4 * cntS S p2 (i + 1)) (by have h9 := cntS_in c_4; omega) (by have h9 := cntS_in c_4; omega) ?_
              exact ih (i + 1) v4 _ _ _ (lp_s hk) hE hw (lv_sub hl [2, 3, 4, 5, 0] rfl)
  exact key_13 ((S 3 0 0).toNatClampNeg) 0 (-1) _ _ _ (Nat.zero_add _) hE hw (lv_sub hl [3, 5, 2, 1, 0] rfl)
