set_option maxHeartbeats 1000000 in
theorem law_digest {p : Program} {l : Launch} {e : Env} {R : Room} {s : State} {m : MethodId} {args : Array Value} {below : List Frame} {meth : Method} {c : Code} {H : Heap} {locs : List Loc} {cells slots : Nat} {Q : State → Prop} {ls : Array Slot} {D : va_G} {cI cG cJ cO : ClassId} {K0 : Nat → Nat} {A : Nat → Prop} {L : List (Nat × Nat)} {ad : Nat → Nat → Nat} {ce : Nat → Nat → va_E} {cp : Nat → Nat} {M S : (Nat → Nat → Nat → Int32)} {g : Nat → Int64} {b N r : Nat} {xs : Nat → Int32} (F : CallFix p m c cL_law 9 s args BIG RL) (hO : OW A K0 s) (hK : va_K D vwCl (ktys cI cG cJ cO) s) (hA : ∀ q, s.heap.size ≤ q → A q) (hst : l.stackTraces = false) (hfr : 200 ≤ R.frames) (hlo : 8000 ≤ R.locals) (hc : cells + 602 ≤ R.cells) (hs : slots + 2712 ≤ R.slots) (hX : va_X b N xs s s.heap) (hbl : b < s.heap.size) (hbA : ¬ A b) (hr5 : 5 * r + 5 ≤ N) (hN : N ≤ 2560) (hL : ∀ f o, cid f o = true → (f, o) ∈ L) (hLc : ∀ f o, (f, o) ∈ L → f < 30 → cid f o = true) (hI : CI S) (hR : MR M L cp) (hF : MF M L cp) (hIM : CI M) (hT : TL 70 L) (h59 : (59, 0) ∉ L) (hm : (90, 0) ∈ L) (hw : wk D A L ad (LWc cI cG cJ cO K0 ad cp ce g M S) s.heap H locs) (hl : lv_has ls 9 [(4, .int (nI (5 * r))), (3, .ref (ad 90 0)), (2, .ref (ad 30 0)), (1, .ref (ad 0 0)), (0, .ref b)]) {v : Int64 × (Nat → Nat → Nat → Int32)} (hE : sp_X10_digest M = some v) (h1 : (sp_X5_digest S).1 = v.1) (kk : ∀ (L2 : List (Nat × Nat)) (u2 : Nat → Nat → Nat) (cp2 : Nat → Nat) (g2 : Nat → Int64) (H1 : Heap) (locs1 : List Loc) (ls1 : Array Slot), GRW L ad v.2 (L2, u2, cp2) → wk D A L2 u2 (LWc cI cG cJ cO K0 u2 cp2 ce g2 v.2 ((sp_X5_digest S).2)) s.heap H1 locs1 → lv_has ls1 9 [(4, .int (nI (5 * r))), (3, .ref (u2 90 0)), (2, .ref (u2 30 0)), (1, .ref (u2 0 0)), (0, .ref b)] → W p l e R s m args below meth c H1 locs1 (cells + 602) (slots + 2712) Q (F0 m 1471 ls1 [])) : W p l e R s m args below meth c H locs cells slots Q (F0 m 1457 ls []) := by
  obtain ⟨hx, hb, hml, hown, hts⟩ := id F
  refine lv_aload_n hx hb dL_law_1457 rfl (lv_at hl 3 rfl) ?_
  refine k_cl0 hw (k_rV (f := 0) (o := 0) (As := []) (rest := []) ⟨hx, hb, hml, hown, hts⟩ hK hO hw (ct_X5_digest hL S hI _ (wk.hA hw hA)) (cwV 0 hts (gB_V w_ml_L_153 w_im_X5_digest w_se_X5_digest w_in_X5 w_co_X5_digest) rfl rfl rfl (by decide +kernel) ⟨Nat.le_trans (Nat.le_of_ble_eq_true rfl) hfr, Nat.le_trans (Nat.le_of_ble_eq_true rfl) hlo⟩) (hL 0 0 rfl) cke_0 rfl rfl hl.1 rfl (Nat.le_of_ble_eq_true rfl) dL_law_1458 ⟨by omega, by omega⟩) (fun H locs hw => ?_)
  rw [cK_mK] at hw
  refine lv_aload_n hx hb dL_law_1461 rfl (lv_at hl 2 rfl) ?_
  refine k_cl hw (k_rV (f := 30) (o := 0) (As := []) (rest := [.long (sp_X5_digest S).1]) ⟨hx, hb, hml, hown, hts⟩ hK hO hw (ct_X10_digest hR hIM hT hE _ (wk.hA hw hA)) (cwV 0 hts (gB_V w_ml_L_157 w_im_X10_digest w_se_X10_digest w_in_X10 w_co_X10_digest) rfl rfl rfl (by decide +kernel) ⟨Nat.le_trans (Nat.le_of_ble_eq_true rfl) hfr, Nat.le_trans (Nat.le_of_ble_eq_true rfl) hlo⟩) (hR.1 30 (by decide) (by decide)) mke_30 rfl rfl hl.1 rfl (Nat.le_of_ble_eq_true rfl) dL_law_1462 ⟨by omega, by omega⟩) (fun H locs hw => ?_)
  refine W.lcmp hx hb dL_law_1465 ?_
  rw [h1, lg_same]
  refine lv_if_eq (tgt := 1471) hx hb dL_law_1466 (by decide) (fun _ => ?_) (fun h => absurd rfl h)
  refine W.widen (k := cells + 602) (n := slots + 2712) (by omega) (by omega) ?_
  refine kk L ad cp g H locs _ (GRW.same (MR.sm (sf_X10_digest hE) hR) (MF.sm (sf_X10_digest hE) hF)) ?_ hl
  rw [← cK_mK] at hw
  exact hw

section NANS
theorem nan_dec {x : UInt64} (h : isNaN64 x = true) : FP.dcmp x x = none := by
  have h : x &&& 0x7fffffffffffffff > 0x7ff0000000000000 := of_decide_eq_true h
  have h2 : (0x7ff0000000000000 : UInt64).toNat < (x &&& 0x7fffffffffffffff).toNat := h
  rw [UInt64.toNat_and] at h2
  have e1 : (0x7ff0000000000000 : UInt64).toNat = 2047 * 2 ^ 52 := by decide
  have e2 : (0x7fffffffffffffff : UInt64).toNat = 2 ^ 63 - 1 := by decide
  rw [e1, e2, Nat.and_two_pow_sub_one_eq_mod] at h2
  have hd : FP.Core.decode FP.Core.b64 x.toNat = .nan := by
    unfold FP.Core.decode
    have hE : FP.Core.fieldE FP.Core.b64 x.toNat = FP.Core.b64.exps - 1 := by
      show x.toNat / 2 ^ 52 % 2 ^ 11 = 2 ^ 11 - 1
      omega
    have hT : ¬ FP.Core.fieldT FP.Core.b64 x.toNat = 0 := by
      show ¬ x.toNat % 2 ^ 52 = 0
      omega
    rw [if_pos hE, if_neg hT]
  show FP.Core.order (FP.Core.decode FP.Core.b64 x.toNat) (FP.Core.decode FP.Core.b64 x.toNat) = none
  rw [hd]
  rfl
/-- doubles that are alike: equal, or neither is equal to itself -/
theorem dc_alike {x a b : UInt64} (ha : alike64 a x = true) (hb : alike64 b x = true) (h : ¬ Op.cmpValue (FP.dcmp a b) .l = 0) : ¬ Op.cmpValue (FP.dcmp a a) .l = 0 ∧ ¬ Op.cmpValue (FP.dcmp b b) .l = 0 := by
  unfold alike64 at ha hb
  simp only [Bool.or_eq_true, decide_eq_true_eq, Bool.and_eq_true] at ha hb
  rcases ha with rfl | ⟨ha, hx⟩
  · rcases hb with rfl | ⟨hb, hx⟩
    · exact ⟨h, h⟩
    · rw [nan_dec hx, nan_dec hb]; exact ⟨by decide, by decide⟩
  · rcases hb with rfl | ⟨hb, -⟩
    · rw [nan_dec ha, nan_dec hx]; exact ⟨by decide, by decide⟩
    · rw [nan_dec ha, nan_dec hb]; exact ⟨by decide, by decide⟩
end NANS

set_option maxHeartbeats 1000000 in
theorem law_meanDays {p : Program} {l : Launch} {e : Env} {R : Room} {s : State} {m : MethodId} {args : Array Value} {below : List Frame} {meth : Method} {c : Code} {H : Heap} {locs : List Loc} {cells slots : Nat} {Q : State → Prop} {ls : Array Slot} {D : va_G} {cI cG cJ cO : ClassId} {K0 : Nat → Nat} {A : Nat → Prop} {L : List (Nat × Nat)} {ad : Nat → Nat → Nat} {ce : Nat → Nat → va_E} {cp : Nat → Nat} {M S : (Nat → Nat → Nat → Int32)} {g : Nat → Int64} {b N r : Nat} {xs : Nat → Int32} (F : CallFix p m c cL_law 9 s args BIG RL) (hO : ∀ d, OW A K0 (s.setDrawn d)) (hK : ∀ d, va_K D vwCl (ktys cI cG cJ cO) (s.setDrawn d)) {d0 : Drawn} (hd0 : s.drawn.sameBut d0 lw_cs) (hA : ∀ q, s.heap.size ≤ q → A q) (hst : l.stackTraces = false) (hfr : 200 ≤ R.frames) (hlo : 8000 ≤ R.locals) (hc : cells + 602 ≤ R.cells) (hs : slots + 2712 ≤ R.slots) (hX : va_X b N xs s s.heap) (hbl : b < s.heap.size) (hbA : ¬ A b) (hr5 : 5 * r + 5 ≤ N) (hN : N ≤ 2560) (hL : ∀ f o, cid f o = true → (f, o) ∈ L) (hLc : ∀ f o, (f, o) ∈ L → f < 30 → cid f o = true) (hI : CI S) (hR : MR M L cp) (hF : MF M L cp) (hIM : CI M) (hT : TL 70 L) (h59 : (59, 0) ∉ L) (hm : (90, 0) ∈ L) (hw : wk D A L ad (LWc cI cG cJ cO K0 ad cp ce g M S) s.heap H locs) (hl : lv_has ls 9 [(4, .int (nI (5 * r))), (3, .ref (ad 90 0)), (2, .ref (ad 30 0)), (1, .ref (ad 0 0)), (0, .ref b)]) {v : UInt64 × (Nat → Nat → Nat → Int32)} (hE : sp_X10_meanDays M = some v) (h1 : (sp_X5_meanDays S).1 = v.1) (kk : ∀ (L2 : List (Nat × Nat)) (u2 : Nat → Nat → Nat) (cp2 : Nat → Nat) (g2 : Nat → Int64) (H1 : Heap) (locs1 : List Loc) (ls1 : Array Slot) (d1 : Drawn), s.drawn.sameBut d1 lw_cs → GRW L ad v.2 (L2, u2, cp2) → wk D A L2 u2 (LWc cI cG cJ cO K0 u2 cp2 ce g2 v.2 ((sp_X5_meanDays S).2)) s.heap H1 locs1 → lv_has ls1 9 [(4, .int (nI (5 * r))), (3, .ref (u2 90 0)), (2, .ref (u2 30 0)), (1, .ref (u2 0 0)), (0, .ref b)] → W p l e R (s.setDrawn d1) m args below meth c H1 locs1 (cells + 602) (slots + 2712) Q (F0 m 1471 ls1 [])) : W p l e R (s.setDrawn d0) m args below meth c H locs cells slots Q (F0 m 1156 ls []) := by
  obtain ⟨hx, hb, hml, hown, hts⟩ := id F
  refine lv_aload_n hx hb dL_law_1156 rfl (lv_at hl 3 rfl) ?_
  have hw0 : wk D A L ad (LWc cI cG cJ cO K0 ad cp ce g M S) (s.setDrawn d0).heap H locs := hw
  refine va_calldD hd0 (va_runV_D (As := []) (rest := []) ⟨hx, hb, hml, hown, dr_words hts _⟩ (ct_X5_meanDays (cI := cI) (cG := cG) (cJ := cJ) (cO := cO) (K0 := K0) (D := D) (ad := ad) (ce := mK cI cO K0 ad cp (up2 ce 90 0 (.inl (cG, 1, .inr (.inl g)))) M) hL S hI H.size (wk.hA hw hA)) (cwV 0 (dr_words hts _) (gB_V w_ml_L_136 w_im_X5_meanDays w_se_X5_meanDays w_in_X5 w_co_X5_meanDays) rfl rfl rfl (by decide +kernel) ⟨Nat.le_trans (Nat.le_of_ble_eq_true rfl) hfr, Nat.le_trans (Nat.le_of_ble_eq_true rfl) hlo⟩) ⟨WS.blind, wk.recv (hK _) hw0 (hL 0 0 rfl) cke_0 rfl, WS.at (hK _) (hO _) hw0 _⟩ rfl rfl hl.1 rfl (Nat.le_of_ble_eq_true rfl) dL_law_1157 ⟨by omega, by omega⟩) hw.2.2 (fun _ _ h => h) (fun _ h => h) (fun r1 _ t H locs ht _ hp hB _ _ hS d1 hd1 => ?_)
  have hw : wk D A L ad (cK cI cJ ad (mK cI cO K0 ad cp (up2 ce 90 0 (.inl (cG, 1, .inr (.inl g)))) M) (sp_X5_meanDays S).2) s.heap H locs := ⟨by rw [← ht]; exact hB.1, hB.2, hS⟩
  rw [cK_mK] at hw
  refine lv_dstore (lv' := [(5, .double r1), (4, .int (nI (5 * r))), (3, .ref (ad 90 0)), (2, .ref (ad 30 0)), (1, .ref (ad 0 0)), (0, .ref b)]) hx hb dL_law_1160 hl (by decide) rfl (fun ls hl => ?_)
  refine lv_aload_n hx hb dL_law_1162 rfl (lv_at hl 3 rfl) ?_
  have hw1 : wk D A L ad (mK cI cO K0 ad cp (cK cI cJ ad (up2 ce 90 0 (.inl (cG, 1, .inr (.inl g)))) (sp_X5_meanDays S).2) M) (s.setDrawn d1).heap H locs := hw
  refine va_calldD hd1 (va_runV_D (As := []) (rest := []) ⟨hx, hb, hml, hown, dr_words hts _⟩ (ct_X10_meanDays (cI := cI) (cG := cG) (cJ := cJ) (cO := cO) (K0 := K0) (D := D) (ad := ad) (ce := cK cI cJ ad (up2 ce 90 0 (.inl (cG, 1, .inr (.inl g)))) (sp_X5_meanDays S).2) hR hIM (TL.le hT (by decide)) hE H.size (wk.hA hw hA)) (cwV 0 (dr_words hts _) (gB_V w_ml_L_140 w_im_X10_meanDays w_se_X10_meanDays w_in_X10 w_co_X10_meanDays) rfl rfl rfl (by decide +kernel) ⟨Nat.le_trans (Nat.le_of_ble_eq_true rfl) hfr, Nat.le_trans (Nat.le_of_ble_eq_true rfl) hlo⟩) ⟨WS.blind, wk.recv (hK _) hw1 (hR.1 30 (by decide) (by decide)) mke_30 rfl, WS.at (hK _) (hO _) hw1 _⟩ rfl rfl hl.1 rfl (Nat.le_of_ble_eq_true rfl) dL_law_1163 ⟨by omega, by omega⟩) hw.2.2 (fun _ _ h => h) (fun _ h => h) (fun r2 _ t H locs ht _ hp2 hB _ _ hS d2 hd2 => ?_)
  have hw : wk D A L ad (mK cI cO K0 ad cp (cK cI cJ ad (up2 ce 90 0 (.inl (cG, 1, .inr (.inl g)))) (sp_X5_meanDays S).2) v.2) s.heap H locs := ⟨by rw [← ht]; exact hB.1, hB.2, hS⟩
  refine lv_dstore (lv' := [(7, .double r2), (5, .double r1), (4, .int (nI (5 * r))), (3, .ref (ad 90 0)), (2, .ref (ad 30 0)), (1, .ref (ad 0 0)), (0, .ref b)]) hx hb dL_law_1166 hl (by decide) rfl (fun ls hl => ?_)
  have fin : ∀ ls, lv_has ls 9 [(4, .int (nI (5 * r))), (3, .ref (ad 90 0)), (2, .ref (ad 30 0)), (1, .ref (ad 0 0)), (0, .ref b)] → W p l e R (s.setDrawn d2) m args below meth c H locs (cells + 602) (slots + 2712) Q (F0 m 1471 ls []) := fun ls hl => by
    refine kk L ad cp g H locs ls d2 hd2 (GRW.same (MR.sm (sf_X10_meanDays hE) hR) (MF.sm (sf_X10_meanDays hE) hF)) ?_ hl
    rw [← cK_mK] at hw
    exact hw
  have hpa : alike64 r1 v.1 = true := h1 ▸ hp
  refine lv_dload hx hb dL_law_1168 (lv_at hl 1 rfl) ?_
  refine lv_dload hx hb dL_law_1170 (lv_at hl 0 rfl) ?_
  refine lv_dcmp hx hb dL_law_1172 ?_
  refine lv_if_eq (tgt := 1194) hx hb dL_law_1173 (by decide) (fun _ => ?_) (fun hne => ?_)
  · refine lv_goto (tgt := 1471) hx hb dL_law_1194 (by decide) ?_
    refine W.widen (k := cells + 602) (n := slots + 2712) (by omega) (by omega) ?_
    exact fin _ (lv_sub hl [2, 3, 4, 5, 6] rfl)
  · obtain ⟨n1, n2⟩ := dc_alike hpa hp2 hne
    refine lv_dload hx hb dL_law_1176 (lv_at hl 1 rfl) ?_
    refine lv_dload hx hb dL_law_1178 (lv_at hl 1 rfl) ?_
    refine lv_dcmp hx hb dL_law_1180 ?_
    refine lv_if_eq (tgt := 1192) hx hb dL_law_1181 (by decide) (fun h => absurd h n1) (fun _ => ?_)
    refine lv_dload hx hb dL_law_1184 (lv_at hl 0 rfl) ?_
    refine lv_dload hx hb dL_law_1186 (lv_at hl 0 rfl) ?_
    refine lv_dcmp hx hb dL_law_1188 ?_
    refine lv_if_ne (tgt := 1194) hx hb dL_law_1189 (by decide) (fun _ => ?_) (fun h => absurd h n2)
    refine lv_goto (tgt := 1471) hx hb dL_law_1194 (by decide) ?_
    refine W.widen (k := cells + 602) (n := slots + 2712) (by omega) (by omega) ?_
    exact fin _ (lv_sub hl [2, 3, 4, 5, 6] rfl)
