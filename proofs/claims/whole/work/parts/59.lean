abbrev bw_X10_bookAll : List Cond := .code yX10_bookAll cX10_bookAll 4 none :: BIG
abbrev rm_X10_bookAll : Room := { frames := 41, cells := 161, slots := 644, locals := 2226 }
noncomputable def lp_X10_bookAll_29 (S : (Nat → Nat → Nat → Int32)) (k : Nat) (i : Nat) (Sx : (Nat → Nat → Nat → Int32)) : Nat → Nat → (Nat → Nat → Nat → Int32) → Option ((Nat → Nat → Nat → Int32))
  | 0, ib, Sxb => some (Sxb)
  | kb + 1, ib, Sxb => if Sxb 6 i 2 = 0 then ((sp_X6_is Sxb i (nI ib) 0).bind fun x_4 => (if x_4 = 0 then (lp_X10_bookAll_29 S k i Sx kb (ib + 1) Sxb) else (if Sxb 7 0 ib = 2 then (if Sxb 27 i ib = (-1) then ((sp_X10_sessionFor Sxb i (nI ib)).bind fun x_8 => (lp_X10_bookAll_29 S k i Sx kb (ib + 1) (up3 Sxb 27 i ib x_8))) else (lp_X10_bookAll_29 S k i Sx kb (ib + 1) Sxb)) else (lp_X10_bookAll_29 S k i Sx kb (ib + 1) Sxb)))) else (lp_X10_bookAll_29 S k i Sx kb (ib + 1) Sxb)
theorem lz_lp_X10_bookAll_29 (S : (Nat → Nat → Nat → Int32)) (k : Nat) (i : Nat) (Sx : (Nat → Nat → Nat → Int32)) (ib : Nat) (Sxb : (Nat → Nat → Nat → Int32)) : lp_X10_bookAll_29 S k i Sx 0 ib Sxb = some (Sxb) := rfl
theorem ls_lp_X10_bookAll_29 (S : (Nat → Nat → Nat → Int32)) (k : Nat) (i : Nat) (Sx : (Nat → Nat → Nat → Int32)) (kb ib : Nat) (Sxb : (Nat → Nat → Nat → Int32)) : lp_X10_bookAll_29 S k i Sx (kb + 1) ib Sxb = if Sxb 6 i 2 = 0 then ((sp_X6_is Sxb i (nI ib) 0).bind fun x_4 => (if x_4 = 0 then (lp_X10_bookAll_29 S k i Sx kb (ib + 1) Sxb) else (if Sxb 7 0 ib = 2 then (if Sxb 27 i ib = (-1) then ((sp_X10_sessionFor Sxb i (nI ib)).bind fun x_8 => (lp_X10_bookAll_29 S k i Sx kb (ib + 1) (up3 Sxb 27 i ib x_8))) else (lp_X10_bookAll_29 S k i Sx kb (ib + 1) Sxb)) else (lp_X10_bookAll_29 S k i Sx kb (ib + 1) Sxb)))) else (lp_X10_bookAll_29 S k i Sx kb (ib + 1) Sxb) := rfl
theorem sfl_lp_X10_bookAll_29 {S : (Nat → Nat → Nat → Int32)} {k : Nat} {i : Nat} {Sx : (Nat → Nat → Nat → Int32)} {T0 : (Nat → Nat → Nat → Int32)} : ∀ (kb ib : Nat) (Sxb : (Nat → Nat → Nat → Int32)) (r : (Nat → Nat → Nat → Int32)), lp_X10_bookAll_29 S k i Sx kb ib Sxb = some r → SM T0 Sxb → SM T0 r := by
  intro kb
  induction kb with
  | zero => 
    intro ib Sxb r h hsmb
    have h := (lz_lp_X10_bookAll_29 S k i Sx ib Sxb).symm.trans h
    cases h
    exact hsmb
  | succ kb ih => 
    intro ib Sxb r h hsmb
    have h := (ls_lp_X10_bookAll_29 S k i Sx kb ib Sxb).symm.trans h
    by_cases q_9 : Sxb 6 i 2 = 0
    · have h := (if_pos q_9).symm.trans h
      obtain ⟨x_4, hx_4, h⟩ := ob1 h
      by_cases q_10 : x_4 = 0
      · have h := (if_pos q_10).symm.trans h
        exact ih _ _ _ h hsmb
      · have h := (if_neg q_10).symm.trans h
        by_cases q_11 : Sxb 7 0 ib = 2
        · have h := (if_pos q_11).symm.trans h
          by_cases q_12 : Sxb 27 i ib = (-1)
          · have h := (if_pos q_12).symm.trans h
            obtain ⟨x_8, hx_8, h⟩ := ob1 h
            exact ih _ _ _ h (SM.up rfl (by decide) hsmb)
          · have h := (if_neg q_12).symm.trans h
            exact ih _ _ _ h hsmb
        · have h := (if_neg q_11).symm.trans h
          exact ih _ _ _ h hsmb
    · have h := (if_neg q_9).symm.trans h
      exact ih _ _ _ h hsmb

noncomputable def lp_X10_bookAll_8 (S : (Nat → Nat → Nat → Int32)) : Nat → Nat → (Nat → Nat → Nat → Int32) → Option ((Nat → Nat → Nat → Int32))
  | 0, i, Sx => some (Sx)
  | k + 1, i, Sx => (lp_X10_bookAll_29 S k i Sx ((S 1 0 0).toNatClampNeg) 0 Sx).bind (fun Z_2 => (lp_X10_bookAll_8 S k (i + 1) Z_2))
theorem lz_lp_X10_bookAll_8 (S : (Nat → Nat → Nat → Int32)) (i : Nat) (Sx : (Nat → Nat → Nat → Int32)) : lp_X10_bookAll_8 S 0 i Sx = some (Sx) := rfl
theorem ls_lp_X10_bookAll_8 (S : (Nat → Nat → Nat → Int32)) (k i : Nat) (Sx : (Nat → Nat → Nat → Int32)) : lp_X10_bookAll_8 S (k + 1) i Sx = (lp_X10_bookAll_29 S k i Sx ((S 1 0 0).toNatClampNeg) 0 Sx).bind (fun Z_2 => (lp_X10_bookAll_8 S k (i + 1) Z_2)) := rfl
theorem sfl_lp_X10_bookAll_8 {S : (Nat → Nat → Nat → Int32)} {T0 : (Nat → Nat → Nat → Int32)} : ∀ (k i : Nat) (Sx : (Nat → Nat → Nat → Int32)) (r : (Nat → Nat → Nat → Int32)), lp_X10_bookAll_8 S k i Sx = some r → SM T0 Sx → SM T0 r := by
  intro k
  induction k with
  | zero => 
    intro i Sx r h hsm
    have h := (lz_lp_X10_bookAll_8 S i Sx).symm.trans h
    cases h
    exact hsm
  | succ k ih => 
    intro i Sx r h hsm
    have h := (ls_lp_X10_bookAll_8 S k i Sx).symm.trans h
    obtain ⟨Z_2, hL_29, h⟩ := ob1 h
    exact ih _ _ _ h (sfl_lp_X10_bookAll_29 _ _ _ _ hL_29 hsm)

noncomputable def sp_X10_bookAll (S : (Nat → Nat → Nat → Int32)) : Option ((Nat → Nat → Nat → Int32)) := (lp_X10_bookAll_8 S ((S 0 0 0).toNatClampNeg) 0 S).bind (fun Z_1 => (some (Z_1)))
theorem sf_X10_bookAll {S : (Nat → Nat → Nat → Int32)} {v : (Nat → Nat → Nat → Int32)} (h : sp_X10_bookAll S = some v) : SM S v := by
  unfold sp_X10_bookAll at h
  obtain ⟨Z_1, hL_8, h⟩ := ob1 h
  have hz : SM S Z_1 := (sfl_lp_X10_bookAll_8 _ _ _ _ hL_8 (SM.rf S)); cases h; exact hz

set_option maxHeartbeats 1000000 in
set_option maxRecDepth 100000 in
theorem ct_X10_bookAll {l : Launch} {D : va_G} {cI cG cJ cO : ClassId} {K0 : Nat → Nat} {A : Nat → Prop} {L : List (Nat × Nat)} {ad : Nat → Nat → Nat} {ce : Nat → Nat → va_E} {cp : Nat → Nat} {S : (Nat → Nat → Nat → Int32)} (hR : MR S L cp) (hI : CI S) (hT : TL 61 L) {v : (Nat → Nat → Nat → Int32)} (hE : sp_X10_bookAll S = some v) (sz : Nat) (hA : ∀ q, sz ≤ q → A q) : Met l yX10_bookAll bw_X10_bookAll (rm_X10_bookAll) (kP D (ktys cI cG cJ cO) K0 A L ad (mK cI cO K0 ad cp ce S) sz [.ref (ad 30 0)]) (kQv D A L ad (mK cI cO K0 ad cp ce v)) 161 644 A := by
  refine Met.ofW (cc := cX10_bookAll) (maxL := 4) (ret := none) (by decide) rfl ?_
  intro p e s m args below meth c s₁ B hml hv_
  obtain ⟨hav, hsz, hP, hD, hK, hO⟩ := hv_
  have hx := B.exec
  have hb := B.bytes
  have hr := B.returns
  have hts : ∀ w ∈ BIG, w.before args s = true := fun w h => atoms_spec (ws := bw_X10_bookAll) B.pre w (List.mem_cons_of_mem _ h)
  have hown : s.vm.findClass RX10 = some m.cls := findClass_of_methodNamed B.named
  have hlocks := B.notSynchronized
  subst hsz
  have hw := wk.start hP hD
  refine k_start (by rfl) hav (Nat.le_of_ble_eq_true rfl) (fun ls hl => ?_)
  have hl : lv_has ls 4 [(0, .ref (ad 30 0))] := hl
  unfold sp_X10_bookAll at hE
  refine lv_aload_n hx hb dX10_bookAll_0 rfl (lv_at hl 0 rfl) ?_
  refine k_get (C := RX10) (T := TX10) (N := 9) (v := .ref (ad 35 0)) hx hb hts inB_X10 hown hK hw (hR.1 30 (by decide) (by decide)) mke_30 rfl 7 (by decide) (hts _ w_f_X10_32) (fun _ h9 => h9) rfl dX10_bookAll_1 ?_
  refine k_crn hw (k_rV (f := 35) (o := 0) (As := []) (rest := []) ⟨hx, hb, hml, hown, hts⟩ hK hO hw (ct_iter_4 (SM.rf S) hR (it := 61) (Or.inr (by decide)) (TL.new hT (by decide) (by decide)) _ (wk.hA hw hA)) (cwV 0 hts (gB_V w_ml_X10_146 w_im_Jx4a65c_iterator_32c93 w_se_Jx4a65c_iterator_32c93 w_in_Jx4a65c w_co_Jx4a65c_iterator_32c93) rfl rfl rfl (by decide +kernel) ⟨Nat.le_of_ble_eq_true rfl, Nat.le_of_ble_eq_true rfl⟩) (hR.1 35 (by decide) (by decide)) (ce_l4 (SM.rf S)) rfl rfl hl.1 rfl (Nat.le_of_ble_eq_true rfl) dX10_bookAll_4 ⟨(Nat.le_of_ble_eq_true rfl), (Nat.le_of_ble_eq_true rfl)⟩) (fun q H locs hw => ?_)
  have hw := hw.tmp (Or.inr (by decide))
  have hRp := hR.push (i := (61, 0))
  refine lv_astore_n (lv' := [(1, .ref q), (0, .ref (ad 30 0))]) hx hb dX10_bookAll_7 rfl hl (by decide) rfl (fun ls hl => ?_)
  obtain ⟨Z_1, hL_8, hE⟩ := ob1 hE
  have key_8 : ∀ (k i : Nat) (Sx : (Nat → Nat → Nat → Int32)) (H : Heap) (locs : List Loc) (ls : Array Slot), i + k = (S 0 0 0).toNatClampNeg → SM S Sx → lp_X10_bookAll_8 S k i Sx = some (Z_1) → wk D A (L ++ [(61, 0)]) (upa ad 61 0 q) (mK cI cO K0 (upa ad 61 0 q) cp (up2 ce 61 0 (itc i (S 42 4 0) (ad 35 0))) Sx) s.heap H locs → lv_has ls 4 [(0, .ref (ad 30 0)), (1, .ref q)] → W p l e (headSpec bw_X10_bookAll (rm_X10_bookAll)).room s m args below meth c H locs (0 + 1 + 20 * i) (0 + 4 + 80 * i) (MQ below (kQv D A L ad (mK cI cO K0 ad cp ce v)) args s 161 644 A) (F0 m 8 ls []) := by
    intro k
    induction k with
    | zero =>
      intro i Sx H locs ls hk hsm hV hw hl
      have hV := (lz_lp_X10_bookAll_8 S i Sx).symm.trans hV
      obtain rfl := (Option.some.inj hV).symm
      have hmx : i ≤ 8 := by have h9 := CI.n5 hI; omega
      refine W.widen (k := 0 + 1 + 160) (n := 0 + 4 + 640) (by omega) (by omega) ?_
      refine lv_aload_n hx hb dX10_bookAll_8 rfl (lv_at hl 1 rfl) ?_
      refine k_cFi hw (k_rF (f := 61) (o := 0) (As := []) (rest := []) ⟨hx, hb, hml, hown, hts⟩ hK hO hw (ct_hn_4 hsm hRp (it := 61) (i := i) (Or.inr (by decide)) (List.mem_append_right _ (List.mem_singleton_self _)) _ (wk.hA hw hA)) (va_cwF 0 hts (gB_F w_ml_X10_150 w_se_it_hasNext w_im_Jx35411_hasNext_aae02 w_in_Jx35411 w_co_Jx35411_hasNext_aae02) rfl rfl rfl hO.2.2.2.1.1 (by decide +kernel) ⟨by decide, by decide⟩) (List.mem_append_right _ (List.mem_singleton_self _)) ((mK_ou (Or.inr (by decide))).trans up2_eq) rfl rfl hl.1 rfl (Nat.le_of_ble_eq_true rfl) dX10_bookAll_9 ⟨(Nat.le_of_ble_eq_true rfl), (Nat.le_of_ble_eq_true rfl)⟩) (fun H locs hw => ?_)
      rw [if_pos (it_z (cn_eq hI.2.2.2.2.1) hk)]
      refine lv_if_eq (tgt := 105) hx hb dX10_bookAll_14 (by decide) (fun _ => ?_) (fun h => absurd (by decide) h)
      have hw := hw.untmp (Or.inr (by decide)) (TL.new hT (by decide) (by decide))
      exact m_vretE hx hb hr hlocks hw hE (Nat.le_of_ble_eq_true rfl) (Nat.le_of_ble_eq_true rfl) dX10_bookAll_105
    | succ k ih =>
      intro i Sx H locs ls hk hsm hV hw hl
      have hmy : i < 8 := by have h9 := CI.n5 hI; omega
      have hV := (ls_lp_X10_bookAll_8 S k i Sx).symm.trans hV
      have hE := hV
      refine lv_aload_n hx hb dX10_bookAll_8 rfl (lv_at hl 1 rfl) ?_
      refine k_cFi hw (k_rF (f := 61) (o := 0) (As := []) (rest := []) ⟨hx, hb, hml, hown, hts⟩ hK hO hw (ct_hn_4 hsm hRp (it := 61) (i := i) (Or.inr (by decide)) (List.mem_append_right _ (List.mem_singleton_self _)) _ (wk.hA hw hA)) (va_cwF 0 hts (gB_F w_ml_X10_150 w_se_it_hasNext w_im_Jx35411_hasNext_aae02 w_in_Jx35411 w_co_Jx35411_hasNext_aae02) rfl rfl rfl hO.2.2.2.1.1 (by decide +kernel) ⟨by decide, by decide⟩) (List.mem_append_right _ (List.mem_singleton_self _)) ((mK_ou (Or.inr (by decide))).trans up2_eq) rfl rfl hl.1 rfl (Nat.le_of_ble_eq_true rfl) dX10_bookAll_9 ⟨(show 0 + 1 + 20 * i + 0 ≤ 161 from by omega), (show 0 + 4 + 80 * i + 0 ≤ 644 from by omega)⟩) (fun H locs hw => ?_)
      rw [if_neg (it_s (cn_eq hI.2.2.2.2.1) hk (cn_lt _))]
      refine lv_if_eq (tgt := 105) hx hb dX10_bookAll_14 (by decide) (fun h => absurd h (by decide)) (fun _ => ?_)
      refine lv_aload_n hx hb dX10_bookAll_17 rfl (lv_at hl 1 rfl) ?_
      refine k_cFr (v := (ad 46 i)) hw (k_rF (f := 61) (o := 0) (As := []) (rest := []) ⟨hx, hb, hml, hown, hts⟩ hK hO hw (ct_nx_4 hsm hRp hI (it := 61) (i := i) (Or.inr (by decide)) (List.mem_append_right _ (List.mem_singleton_self _)) (lp_l hk) _ (wk.hA hw hA)) (va_cwF 0 hts (gB_F w_ml_X10_156 w_se_it_next w_im_Jx35411_next_0502b w_in_Jx35411 w_co_Jx35411_next_0502b) rfl rfl rfl hO.2.2.2.1.2.1 (by decide +kernel) ⟨by decide, by decide⟩) (List.mem_append_right _ (List.mem_singleton_self _)) ((mK_ou (Or.inr (by decide))).trans up2_eq) rfl rfl hl.1 rfl (Nat.le_of_ble_eq_true rfl) dX10_bookAll_18 ⟨(show 0 + 1 + 20 * i + 0 ≤ 161 from by omega), (show 0 + 4 + 80 * i + 0 ≤ 644 from by omega)⟩) (fun H locs hw => ?_)
      refine k_cast (f := 46) (o := i) hx hb hown (hts _ w_cl_X10_64) hK hw (hRp.2.2.2.2.2.2.2 46 _ (by decide) (by decide) (lp_l hk)) mke_46 rfl dX10_bookAll_23 ?_
      refine lv_astore_n (lv' := [(2, .ref (ad 46 i)), (0, .ref (ad 30 0)), (1, .ref q)]) hx hb dX10_bookAll_26 rfl hl (by decide) rfl (fun ls hl => ?_)
      refine lv_iconst (v := 0) hx hb dX10_bookAll_27 (by decide) ?_
      refine lv_istore_n (lv' := [(3, .int 0), (2, .ref (ad 46 i)), (0, .ref (ad 30 0)), (1, .ref q)]) hx hb dX10_bookAll_28 rfl hl (by decide) rfl (fun ls hl => ?_)
      obtain ⟨Z_2, hL_29, hE⟩ := ob1 hE
      have key_29 : ∀ (kb ib : Nat) (Sxb : (Nat → Nat → Nat → Int32)) (H : Heap) (locs : List Loc) (ls : Array Slot), ib + kb = (S 1 0 0).toNatClampNeg → SM S Sxb → lp_X10_bookAll_29 S k i Sx kb ib Sxb = some (Z_2) → wk D A (L ++ [(61, 0)]) (upa ad 61 0 q) (mK cI cO K0 (upa ad 61 0 q) cp (up2 ce 61 0 (itc (i + 1) (S 42 4 0) (ad 35 0))) Sxb) s.heap H locs → lv_has ls 4 [(0, .ref (ad 30 0)), (1, .ref q), (2, .ref (ad 46 i)), (3, .int (nI ib))] → W p l e (headSpec bw_X10_bookAll (rm_X10_bookAll)).room s m args below meth c H locs (0 + 1 + 20 * i + preS S (S 3 0 0).toNatClampNeg ib) (0 + 4 + 80 * i + 4 * preS S (S 3 0 0).toNatClampNeg ib) (MQ below (kQv D A L ad (mK cI cO K0 ad cp ce v)) args s 161 644 A) (F0 m 29 ls []) := by
        intro kb
        induction kb with
        | zero =>
          intro ib Sxb H locs ls hkb hsmb hVb hw hl
          have hVb := (lz_lp_X10_bookAll_29 S k i Sx ib Sxb).symm.trans hVb
          obtain rfl := (Option.some.inj hVb).symm
          have h6 : preS S (S 3 0 0).toNatClampNeg ib ≤ 20 := Nat.le_trans (preS_le S _ (by have h9 := CI.n1 hI; omega)) (CI.n4 hI)
          refine W.widen (k := 0 + 1 + 20 * i + 20) (n := 0 + 4 + 80 * i + 80) (by omega) (by omega) ?_
          refine lv_iload_n hx hb dX10_bookAll_29 rfl (lv_at hl 3 rfl) ?_
          refine lv_aload_n hx hb dX10_bookAll_30 rfl (lv_at hl 0 rfl) ?_
          refine k_get (C := RX10) (T := TX10) (N := 9) (v := .ref (ad 31 0)) hx hb hts inB_X10 hown hK hw (hRp.1 30 (by decide) (by decide)) mke_30 rfl 1 (by decide) (hts _ w_f_X10_10) (fun _ h9 => h9) rfl dX10_bookAll_31 ?_
          refine k_ci0 hw (k_rV (f := 31) (o := 0) (As := []) (rest := [.int (nI ib)]) ⟨hx, hb, hml, hown, hts⟩ hK hO hw (ct_size_0 hsmb hRp _ (wk.hA hw hA)) (cwV 0 hts (gB_V w_ml_X10_43 w_im_Jx4a65c_size_8abf5 w_se_Jx4a65c_size_8abf5 w_in_Jx4a65c w_co_Jx4a65c_size_8abf5) rfl rfl rfl (by decide +kernel) ⟨Nat.le_of_ble_eq_true rfl, Nat.le_of_ble_eq_true rfl⟩) (hRp.1 31 (by decide) (by decide)) (ce_l0 hsmb) rfl rfl hl.1 rfl (Nat.le_of_ble_eq_true rfl) dX10_bookAll_34 ⟨(show 0 + 1 + 20 * i + 20 + 0 ≤ 161 from by omega), (show 0 + 4 + 80 * i + 80 + 0 ≤ 644 from by omega)⟩) (fun H locs hw => ?_)
          refine lv_icmp_ge (tgt := 102) hx hb dX10_bookAll_37 (by decide) (fun _ => ?_) (fun h => absurd (lp_o (cn_eq hI.1.1) hkb (cn_lt _)) h)
          refine lv_goto (tgt := 8) hx hb dX10_bookAll_102 (by decide) ?_
          refine W.widen (k := 0 + 1 + 20 * (i + 1)) (n := 0 + 4 + 80 * (i + 1)) (by omega) (by omega) ?_
          exact ih (i + 1) Z_2 _ _ _ (lp_s hk) hsmb hE hw (lv_sub hl [0, 1] rfl)
        | succ kb ihb =>
          intro ib Sxb H locs ls hkb hsmb hVb hw hl
          have h5 := preS_s S (S 3 0 0).toNatClampNeg ib
          have h6 : preS S (S 3 0 0).toNatClampNeg (ib + 1) ≤ 20 := Nat.le_trans (preS_le S _ (by have h9 := CI.n1 hI; omega)) (CI.n4 hI)
          have hVb := (ls_lp_X10_bookAll_29 S k i Sx kb ib Sxb).symm.trans hVb
          have hE := hVb
          refine lv_iload_n hx hb dX10_bookAll_29 rfl (lv_at hl 3 rfl) ?_
          refine lv_aload_n hx hb dX10_bookAll_30 rfl (lv_at hl 0 rfl) ?_
          refine k_get (C := RX10) (T := TX10) (N := 9) (v := .ref (ad 31 0)) hx hb hts inB_X10 hown hK hw (hRp.1 30 (by decide) (by decide)) mke_30 rfl 1 (by decide) (hts _ w_f_X10_10) (fun _ h9 => h9) rfl dX10_bookAll_31 ?_
          refine k_ci0 hw (k_rV (f := 31) (o := 0) (As := []) (rest := [.int (nI ib)]) ⟨hx, hb, hml, hown, hts⟩ hK hO hw (ct_size_0 hsmb hRp _ (wk.hA hw hA)) (cwV 0 hts (gB_V w_ml_X10_43 w_im_Jx4a65c_size_8abf5 w_se_Jx4a65c_size_8abf5 w_in_Jx4a65c w_co_Jx4a65c_size_8abf5) rfl rfl rfl (by decide +kernel) ⟨Nat.le_of_ble_eq_true rfl, Nat.le_of_ble_eq_true rfl⟩) (hRp.1 31 (by decide) (by decide)) (ce_l0 hsmb) rfl rfl hl.1 rfl (Nat.le_of_ble_eq_true rfl) dX10_bookAll_34 ⟨(show 0 + 1 + 20 * i + preS S (S 3 0 0).toNatClampNeg ib + 0 ≤ 161 from by omega), (show 0 + 4 + 80 * i + 4 * preS S (S 3 0 0).toNatClampNeg ib + 0 ≤ 644 from by omega)⟩) (fun H locs hw => ?_)
          refine lv_icmp_ge (tgt := 102) hx hb dX10_bookAll_37 (by decide) (fun h => absurd h (lp_i (cn_eq hI.1.1) hkb (cn_lt _))) (fun _ => ?_)
          refine lv_aload_n hx hb dX10_bookAll_40 rfl (lv_at hl 2 rfl) ?_
          refine k_get (C := RX6) (T := TX6) (N := 8) (v := .int (Sxb 6 i 2)) hx hb hts inB_X6 hown hK hw (hRp.2.2.2.2.2.2.2 46 _ (by decide) (by decide) (lp_l hk)) mke_46 rfl 7 (by decide) (hts _ w_f_X10_140) (fun _ h9 => h9) rfl dX10_bookAll_41 ?_
          refine lv_if_ne (tgt := 96) hx hb dX10_bookAll_44 (by decide) (fun c_3 => ?_) (fun c_3 => ?_)
          · have hE := (if_neg c_3).symm.trans hE
            refine lv_iinc (v := (nI (ib + 1))) (lv' := [(3, .int (nI (ib + 1))), (0, .ref (ad 30 0)), (1, .ref q), (2, .ref (ad 46 i))]) hx hb dX10_bookAll_96 hl (k := 3) rfl (nI_1 _) (by decide) rfl (fun ls hl => ?_)
            refine lv_goto (tgt := 29) hx hb dX10_bookAll_99 (by decide) ?_
            refine W.widen (k := 0 + 1 + 20 * i + preS S (S 3 0 0).toNatClampNeg (ib + 1)) (n := 0 + 4 + 80 * i + 4 * preS S (S 3 0 0).toNatClampNeg (ib + 1)) (by omega) (by omega) ?_
            exact ihb (ib + 1) Sxb _ _ _ (lp_s hkb) hsmb hE hw (lv_sub hl [1, 2, 3, 0] rfl)
          · have hE := (if_pos c_3).symm.trans hE
            refine lv_aload_n hx hb dX10_bookAll_47 rfl (lv_at hl 2 rfl) ?_
            refine lv_iload_n hx hb dX10_bookAll_48 rfl (lv_at hl 3 rfl) ?_
            refine lv_iconst (v := 0) hx hb dX10_bookAll_49 (by decide) ?_
            obtain ⟨x_4, hx_4, hE⟩ := ob1 hE
            refine k_ci0 hw (k_rV (f := 46) (o := i) (As := [.int (nI ib), .int 0]) (rest := []) ⟨hx, hb, hml, hown, hts⟩ hK hO hw (ct_X6_is (MR.sm hsmb hRp) (SM.ci hsmb hI) (by rw [SM.c4 hsmb]; exact (lp_l hk)) hx_4 _ (wk.hA hw hA)) (cwV 2 hts (gB_V w_ml_X10_63 w_im_X6_is w_se_X6_is w_in_X6 w_co_X6_is) rfl rfl rfl (by decide +kernel) ⟨Nat.le_of_ble_eq_true rfl, Nat.le_of_ble_eq_true rfl⟩) (hRp.2.2.2.2.2.2.2 46 _ (by decide) (by decide) (lp_l hk)) mke_46 rfl rfl hl.1 rfl (Nat.le_of_ble_eq_true rfl) dX10_bookAll_50 ⟨(show 0 + 1 + 20 * i + preS S (S 3 0 0).toNatClampNeg ib + 0 ≤ 161 from by omega), (show 0 + 4 + 80 * i + 4 * preS S (S 3 0 0).toNatClampNeg ib + 0 ≤ 644 from by omega)⟩) (fun H locs hw => ?_)
            refine lv_if_eq (tgt := 96) hx hb dX10_bookAll_53 (by decide) (fun c_5 => ?_) (fun c_5 => ?_)
            · have hE := (if_pos c_5).symm.trans hE
              refine lv_iinc (v := (nI (ib + 1))) (lv' := [(3, .int (nI (ib + 1))), (0, .ref (ad 30 0)), (1, .ref q), (2, .ref (ad 46 i))]) hx hb dX10_bookAll_96 hl (k := 3) rfl (nI_1 _) (by decide) rfl (fun ls hl => ?_)
              refine lv_goto (tgt := 29) hx hb dX10_bookAll_99 (by decide) ?_
              refine W.widen (k := 0 + 1 + 20 * i + preS S (S 3 0 0).toNatClampNeg (ib + 1)) (n := 0 + 4 + 80 * i + 4 * preS S (S 3 0 0).toNatClampNeg (ib + 1)) (by omega) (by omega) ?_
              exact ihb (ib + 1) Sxb _ _ _ (lp_s hkb) hsmb hE hw (lv_sub hl [1, 2, 3, 0] rfl)
            · have hE := (if_neg c_5).symm.trans hE
              refine lv_aload_n hx hb dX10_bookAll_56 rfl (lv_at hl 0 rfl) ?_
              refine k_get (C := RX10) (T := TX10) (N := 9) (v := .ref (ad 31 0)) hx hb hts inB_X10 hown hK hw (hRp.1 30 (by decide) (by decide)) mke_30 rfl 1 (by decide) (hts _ w_f_X10_10) (fun _ h9 => h9) rfl dX10_bookAll_57 ?_
              refine lv_iload_n hx hb dX10_bookAll_60 rfl (lv_at hl 3 rfl) ?_
              refine k_cr0 (v := (ad 43 ib)) hw (k_rV (f := 31) (o := 0) (As := [.int (nI ib)]) (rest := []) ⟨hx, hb, hml, hown, hts⟩ hK hO hw (ct_get_0 hsmb hRp (i := ib) (nI_nlt (a := ib) (b := 0) (Nat.zero_le _) (Nat.lt_trans (show ib < (S 1 0 0).toNatClampNeg from (lp_l hkb)) (cn_lt _))) (nI_clamp (Nat.lt_trans (show ib < (S 1 0 0).toNatClampNeg from (lp_l hkb)) (cn_lt _))) (show ib < (S 1 0 0).toNatClampNeg from (lp_l hkb)) _ (wk.hA hw hA)) (cwV 1 hts (gB_V w_ml_X10_51 w_im_Jx4a65c_get_915e3 w_se_Jx4a65c_get_915e3 w_in_Jx4a65c w_co_Jx4a65c_get_915e3) rfl rfl rfl (by decide +kernel) ⟨Nat.le_of_ble_eq_true rfl, Nat.le_of_ble_eq_true rfl⟩) (hRp.1 31 (by decide) (by decide)) (ce_l0 hsmb) rfl rfl hl.1 rfl (Nat.le_of_ble_eq_true rfl) dX10_bookAll_61 ⟨(show 0 + 1 + 20 * i + preS S (S 3 0 0).toNatClampNeg ib + 0 ≤ 161 from by omega), (show 0 + 4 + 80 * i + 4 * preS S (S 3 0 0).toNatClampNeg ib + 0 ≤ 644 from by omega)⟩) (fun H locs hw => ?_)
              refine k_cast (f := 43) (o := ib) hx hb hown (hts _ w_cl_X10_55) hK hw (hRp.2.2.2.1 _ (show ib < (S 1 0 0).toNatClampNeg from (lp_l hkb))) mke_43 rfl dX10_bookAll_64 ?_
              refine k_get (C := RX9) (T := TX9) (N := 4) (v := .int (Sxb 7 0 ib)) hx hb hts inB_X9 hown hK hw (hRp.2.2.2.1 _ (show ib < (S 1 0 0).toNatClampNeg from (lp_l hkb))) mke_43 rfl 0 (by decide) (hts _ w_f_X10_60) (fun _ h9 => h9) rfl dX10_bookAll_67 ?_
              refine lv_iconst (v := 2) hx hb dX10_bookAll_70 (by decide) ?_
              refine lv_icmp_ne (tgt := 96) hx hb dX10_bookAll_71 (by decide) (fun c_6 => ?_) (fun c_6 => ?_)
              · have hE := (if_neg c_6).symm.trans hE
                refine lv_iinc (v := (nI (ib + 1))) (lv' := [(3, .int (nI (ib + 1))), (0, .ref (ad 30 0)), (1, .ref q), (2, .ref (ad 46 i))]) hx hb dX10_bookAll_96 hl (k := 3) rfl (nI_1 _) (by decide) rfl (fun ls hl => ?_)
                refine lv_goto (tgt := 29) hx hb dX10_bookAll_99 (by decide) ?_
                refine W.widen (k := 0 + 1 + 20 * i + preS S (S 3 0 0).toNatClampNeg (ib + 1)) (n := 0 + 4 + 80 * i + 4 * preS S (S 3 0 0).toNatClampNeg (ib + 1)) (by omega) (by omega) ?_
                exact ihb (ib + 1) Sxb _ _ _ (lp_s hkb) hsmb hE hw (lv_sub hl [1, 2, 3, 0] rfl)
              · have hE := (if_pos c_6).symm.trans hE
                refine lv_aload_n hx hb dX10_bookAll_74 rfl (lv_at hl 2 rfl) ?_
                refine k_get (C := RX6) (T := TX6) (N := 8) (v := .ref (ad 50 i)) hx hb hts inB_X6 hown hK hw (hRp.2.2.2.2.2.2.2 46 _ (by decide) (by decide) (lp_l hk)) mke_46 rfl 5 (by decide) (hts _ w_f_X10_126) (fun _ h9 => h9) rfl dX10_bookAll_75 ?_
                refine lv_iload_n hx hb dX10_bookAll_78 rfl (lv_at hl 3 rfl) ?_
                refine k_aldi hx hb hK hw (hRp.2.2.2.2.2.2.2 50 _ (by decide) (by decide) (lp_l hk)) 0 mke_50 rfl (nI_nlt (a := ib) (b := 0) (Nat.zero_le _) (Nat.lt_trans (show ib < 12 from (Nat.lt_of_lt_of_le (lp_l hkb) (Nat.le_trans (CI.n1 hI) (by decide)))) (by decide))) (nI_clamp (Nat.lt_trans (show ib < 12 from (Nat.lt_of_lt_of_le (lp_l hkb) (Nat.le_trans (CI.n1 hI) (by decide)))) (by decide))) (show ib < 12 from (Nat.lt_of_lt_of_le (lp_l hkb) (Nat.le_trans (CI.n1 hI) (by decide)))) (v := Sxb 27 i ib) rfl dX10_bookAll_79 ?_
                refine lv_iconst (v := (-1)) hx hb dX10_bookAll_80 (by decide) ?_
                refine lv_icmp_ne (tgt := 96) hx hb dX10_bookAll_81 (by decide) (fun c_7 => ?_) (fun c_7 => ?_)
                · have hE := (if_neg c_7).symm.trans hE
                  refine lv_iinc (v := (nI (ib + 1))) (lv' := [(3, .int (nI (ib + 1))), (0, .ref (ad 30 0)), (1, .ref q), (2, .ref (ad 46 i))]) hx hb dX10_bookAll_96 hl (k := 3) rfl (nI_1 _) (by decide) rfl (fun ls hl => ?_)
                  refine lv_goto (tgt := 29) hx hb dX10_bookAll_99 (by decide) ?_
                  refine W.widen (k := 0 + 1 + 20 * i + preS S (S 3 0 0).toNatClampNeg (ib + 1)) (n := 0 + 4 + 80 * i + 4 * preS S (S 3 0 0).toNatClampNeg (ib + 1)) (by omega) (by omega) ?_
                  exact ihb (ib + 1) Sxb _ _ _ (lp_s hkb) hsmb hE hw (lv_sub hl [1, 2, 3, 0] rfl)
                · have hE := (if_pos c_7).symm.trans hE
                  refine lv_aload_n hx hb dX10_bookAll_84 rfl (lv_at hl 2 rfl) ?_
                  refine k_get (C := RX6) (T := TX6) (N := 8) (v := .ref (ad 50 i)) hx hb hts inB_X6 hown hK hw (hRp.2.2.2.2.2.2.2 46 _ (by decide) (by decide) (lp_l hk)) mke_46 rfl 5 (by decide) (hts _ w_f_X10_126) (fun _ h9 => h9) rfl dX10_bookAll_85 ?_
                  refine lv_iload_n hx hb dX10_bookAll_88 rfl (lv_at hl 3 rfl) ?_
                  refine lv_aload_n hx hb dX10_bookAll_89 rfl (lv_at hl 0 rfl) ?_
                  refine lv_aload_n hx hb dX10_bookAll_90 rfl (lv_at hl 2 rfl) ?_
                  refine lv_iload_n hx hb dX10_bookAll_91 rfl (lv_at hl 3 rfl) ?_
                  obtain ⟨x_8, hx_8, hE⟩ := ob1 hE
                  refine k_ci hw (k_rV (f := 30) (o := 0) (As := [.ref (ad 46 i), .int (nI ib)]) (rest := [.int (nI ib), .ref (ad 50 i)]) ⟨hx, hb, hml, hown, hts⟩ hK hO hw (ct_X10_sessionFor (MR.sm hsmb hRp) (SM.ci hsmb hI) (TL.push hT (by decide) (by decide)) (by rw [SM.c4 hsmb]; exact (lp_l hk)) (cm := cntS S (nI ib) (S 3 0 0).toNatClampNeg) (by rw [cntS_sm hsmb, SM.c3 hsmb]; exact Nat.le_refl _) hx_8 _ (wk.hA hw hA)) (cwV 2 hts (gB_V w_ml_X10_169 w_im_X10_sessionFor w_se_X10_sessionFor w_in_X10 w_co_X10_sessionFor) rfl rfl rfl (by decide +kernel) ⟨Nat.le_of_ble_eq_true rfl, Nat.le_of_ble_eq_true rfl⟩) (hRp.1 30 (by decide) (by decide)) mke_30 rfl rfl hl.1 rfl (Nat.le_of_ble_eq_true rfl) dX10_bookAll_92 ⟨(show 0 + 1 + 20 * i + preS S (S 3 0 0).toNatClampNeg ib + (cntS S (nI ib) (S 3 0 0).toNatClampNeg) ≤ 161 from by omega), (show 0 + 4 + 80 * i + 4 * preS S (S 3 0 0).toNatClampNeg ib + (4 * cntS S (nI ib) (S 3 0 0).toNatClampNeg) ≤ 644 from by omega)⟩) (fun H locs hw => ?_)
                  refine k_asti hx hb hK hw (hRp.2.2.2.2.2.2.2 50 _ (by decide) (by decide) (lp_l hk)) 0 mke_50 rfl (nI_nlt (a := ib) (b := 0) (Nat.zero_le _) (Nat.lt_trans (show ib < 12 from (Nat.lt_of_lt_of_le (lp_l hkb) (Nat.le_trans (CI.n1 hI) (by decide)))) (by decide))) (nI_clamp (Nat.lt_trans (show ib < 12 from (Nat.lt_of_lt_of_le (lp_l hkb) (Nat.le_trans (CI.n1 hI) (by decide)))) (by decide))) (show ib < 12 from (Nat.lt_of_lt_of_le (lp_l hkb) (Nat.le_trans (CI.n1 hI) (by decide)))) (mK_a50 (i := ib) (v := x_8) mcx_a50) dX10_bookAll_95 (fun H locs hw => ?_)
                  refine lv_iinc (v := (nI (ib + 1))) (lv' := [(3, .int (nI (ib + 1))), (0, .ref (ad 30 0)), (1, .ref q), (2, .ref (ad 46 i))]) hx hb dX10_bookAll_96 hl (k := 3) rfl (nI_1 _) (by decide) rfl (fun ls hl => ?_)
                  refine lv_goto (tgt := 29) hx hb dX10_bookAll_99 (by decide) ?_
                  refine W.widen (k := 0 + 1 + 20 * i + preS S (S 3 0 0).toNatClampNeg (ib + 1)) (n := 0 + 4 + 80 * i + 4 * preS S (S 3 0 0).toNatClampNeg (ib + 1)) (by omega) (by omega) ?_
                  exact ihb (ib + 1) (up3 Sxb 27 i ib x_8) _ _ _ (lp_s hkb) (SM.up rfl (by decide) hsmb) hE hw (lv_sub hl [1, 2, 3, 0] rfl)
      exact key_29 ((S 1 0 0).toNatClampNeg) 0 Sx _ _ _ (Nat.zero_add _) hsm hL_29 hw (lv_sub hl [2, 3, 1, 0] rfl)
  exact key_8 ((S 0 0 0).toNatClampNeg) 0 S _ _ _ (Nat.zero_add _) (SM.rf S) hL_8 hw (lv_sub hl [1, 0] rfl)
