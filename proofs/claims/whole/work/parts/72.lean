set_option maxHeartbeats 1000000 in
theorem law_step {p : Program} {l : Launch} {e : Env} {R : Room} {s : State} {m : MethodId} {args : Array Value} {below : List Frame} {meth : Method} {c : Code} {H : Heap} {locs : List Loc} {cells slots : Nat} {Q : State → Prop} {ls : Array Slot} {D : va_G} {cI cG cJ cO : ClassId} {K0 : Nat → Nat} {A : Nat → Prop} {L : List (Nat × Nat)} {ad : Nat → Nat → Nat} {ce : Nat → Nat → va_E} {cp : Nat → Nat} {M S : (Nat → Nat → Nat → Int32)} {g : Nat → Int64} {b N r : Nat} {xs : Nat → Int32} (F : CallFix p m c cL_law 9 s args BIG RL) (hO : OW A K0 s) (hK : va_K D vwCl (ktys cI cG cJ cO) s) (hA : ∀ q, s.heap.size ≤ q → A q) (hst : l.stackTraces = false) (hfr : 200 ≤ R.frames) (hlo : 8000 ≤ R.locals) (hc : cells + 602 ≤ R.cells) (hs : slots + 2712 ≤ R.slots) (hX : va_X b N xs s s.heap) (hbl : b < s.heap.size) (hbA : ¬ A b) (hr5 : 5 * r + 5 ≤ N) (hN : N ≤ 2560) (hL : ∀ f o, cid f o = true → (f, o) ∈ L) (hLc : ∀ f o, (f, o) ∈ L → f < 30 → cid f o = true) (hI : CI S) (hR : MR M L cp) (hF : MF M L cp) (hIM : CI M) (hT : TL 70 L) (h59 : (59, 0) ∉ L) (hm : (90, 0) ∈ L) (hw : wk D A L ad (LWc cI cG cJ cO K0 ad cp ce g M S) s.heap H locs) (hl : lv_has ls 9 [(4, .int (nI (5 * r))), (3, .ref (ad 90 0)), (2, .ref (ad 30 0)), (1, .ref (ad 0 0)), (0, .ref b)]) {v : Int32 × (Nat → Nat → Nat → Int32)} (hE : sp_X10_step M (xs (5 * r + 1)) (xs (5 * r + 2)) (xs (5 * r + 3)) (xs (5 * r + 4)) = some v) (hIv : CI v.2) (h1 : v.2 40 0 0 = wc_step (sp_X5_step S (xs (5 * r + 1)) (xs (5 * r + 2)) (xs (5 * r + 3)) (xs (5 * r + 4))).1) (h2 : wc_step (sp_X5_step S (xs (5 * r + 1)) (xs (5 * r + 2)) (xs (5 * r + 3)) (xs (5 * r + 4))).1 = 0 → (sp_X5_step S (xs (5 * r + 1)) (xs (5 * r + 2)) (xs (5 * r + 3)) (xs (5 * r + 4))).1 = 0 ∧ (sp_X5_step S (xs (5 * r + 1)) (xs (5 * r + 2)) (xs (5 * r + 3)) (xs (5 * r + 4))).2.1 = v.1) (kk : ∀ (L2 : List (Nat × Nat)) (u2 : Nat → Nat → Nat) (cp2 : Nat → Nat) (g2 : Nat → Int64) (H1 : Heap) (locs1 : List Loc) (ls1 : Array Slot), GRW L ad v.2 (L2, u2, cp2) → wk D A L2 u2 (LWc cI cG cJ cO K0 u2 cp2 ce g2 v.2 (wS (sp_X5_step S (xs (5 * r + 1)) (xs (5 * r + 2)) (xs (5 * r + 3)) (xs (5 * r + 4))).1 S (sp_X5_step S (xs (5 * r + 1)) (xs (5 * r + 2)) (xs (5 * r + 3)) (xs (5 * r + 4))).2.2)) s.heap H1 locs1 → lv_has ls1 9 [(4, .int (nI (5 * r))), (3, .ref (u2 90 0)), (2, .ref (u2 30 0)), (1, .ref (u2 0 0)), (0, .ref b)] → W p l e R s m args below meth c H1 locs1 (cells + 602) (slots + 2712) Q (F0 m 1471 ls1 [])) : W p l e R s m args below meth c H locs cells slots Q (F0 m 136 ls []) := by
  obtain ⟨hx, hb, hml, hown, hts⟩ := id F
  refine lv_aload_n hx hb dL_law_136 rfl (lv_at hl 3 rfl) ?_
  refine lv_aload_n hx hb dL_law_137 rfl (lv_at hl 4 rfl) ?_
  refine lv_iload hx hb dL_law_138 (lv_at hl 0 rfl) ?_
  refine lv_iconst (v := 1) hx hb dL_law_140 (by decide) ?_
  refine lv_iadd hx hb dL_law_141 ?_
  rw [show nI (5 * r) + 1 = nI (5 * r + 1) from nI_add _ 1]
  refine k_scr hx hb hX hbl hbA hw (n := 5 * r + 1) (by omega) hN dL_law_142 ?_
  refine lv_aload_n hx hb dL_law_143 rfl (lv_at hl 4 rfl) ?_
  refine lv_iload hx hb dL_law_144 (lv_at hl 0 rfl) ?_
  refine lv_iconst (v := 2) hx hb dL_law_146 (by decide) ?_
  refine lv_iadd hx hb dL_law_147 ?_
  rw [show nI (5 * r) + 2 = nI (5 * r + 2) from nI_add _ 2]
  refine k_scr hx hb hX hbl hbA hw (n := 5 * r + 2) (by omega) hN dL_law_148 ?_
  refine lv_aload_n hx hb dL_law_149 rfl (lv_at hl 4 rfl) ?_
  refine lv_iload hx hb dL_law_150 (lv_at hl 0 rfl) ?_
  refine lv_iconst (v := 3) hx hb dL_law_152 (by decide) ?_
  refine lv_iadd hx hb dL_law_153 ?_
  rw [show nI (5 * r) + 3 = nI (5 * r + 3) from nI_add _ 3]
  refine k_scr hx hb hX hbl hbA hw (n := 5 * r + 3) (by omega) hN dL_law_154 ?_
  refine lv_aload_n hx hb dL_law_155 rfl (lv_at hl 4 rfl) ?_
  refine lv_iload hx hb dL_law_156 (lv_at hl 0 rfl) ?_
  refine lv_iconst (v := 4) hx hb dL_law_158 (by decide) ?_
  refine lv_iadd hx hb dL_law_159 ?_
  rw [show nI (5 * r) + 4 = nI (5 * r + 4) from nI_add _ 4]
  refine k_scr hx hb hX hbl hbA hw (n := 5 * r + 4) (by omega) hN dL_law_160 ?_
  refine lv_aload_n hx hb dL_law_161 rfl (lv_at hl 1 rfl) ?_
  refine k_ci hw (k_rSW (As := [.ref (ad 0 0), .int (xs (5 * r + 1)), .int (xs (5 * r + 2)), .int (xs (5 * r + 3)), .int (xs (5 * r + 4)), .ref (ad 90 0)]) (rest := []) ⟨hx, hb, hml, hown, hts⟩ hK hO hw (ct_L_step hL S hI (xs (5 * r + 1)) (xs (5 * r + 2)) (xs (5 * r + 3)) (xs (5 * r + 4)) hst hm ((mK_ou (Or.inr (by decide))).trans up2_eq) _ (wk.hA hw hA)) (vx_cwSW 6 hts (gB_SH w_ml_L_81 w_st_L_step w_in_L w_co_L_step) rfl rfl rfl (by decide +kernel) ⟨Nat.le_trans (Nat.le_of_ble_eq_true rfl) hfr, Nat.le_trans (Nat.le_of_ble_eq_true rfl) hlo⟩) rfl hl.1 rfl (Nat.le_of_ble_eq_true rfl) dL_law_162 ⟨by omega, by omega⟩) (fun H locs hw => ?_)
  rw [mK_itp (Or.inr (by decide)), cK_mK] at hw
  refine lv_istore (lv' := [(5, .int (wc_step (sp_X5_step S (xs (5 * r + 1)) (xs (5 * r + 2)) (xs (5 * r + 3)) (xs (5 * r + 4))).1)), (4, .int (nI (5 * r))), (3, .ref (ad 90 0)), (2, .ref (ad 30 0)), (1, .ref (ad 0 0)), (0, .ref b)]) hx hb dL_law_165 hl (by decide) rfl (fun ls hl => ?_)
  refine lv_aload_n hx hb dL_law_167 rfl (lv_at hl 3 rfl) ?_
  refine lv_aload_n hx hb dL_law_168 rfl (lv_at hl 5 rfl) ?_
  refine lv_iload hx hb dL_law_169 (lv_at hl 1 rfl) ?_
  refine lv_iconst (v := 1) hx hb dL_law_171 (by decide) ?_
  refine lv_iadd hx hb dL_law_172 ?_
  rw [show nI (5 * r) + 1 = nI (5 * r + 1) from nI_add _ 1]
  refine k_scr hx hb hX hbl hbA hw (n := 5 * r + 1) (by omega) hN dL_law_173 ?_
  refine lv_aload_n hx hb dL_law_174 rfl (lv_at hl 5 rfl) ?_
  refine lv_iload hx hb dL_law_175 (lv_at hl 1 rfl) ?_
  refine lv_iconst (v := 2) hx hb dL_law_177 (by decide) ?_
  refine lv_iadd hx hb dL_law_178 ?_
  rw [show nI (5 * r) + 2 = nI (5 * r + 2) from nI_add _ 2]
  refine k_scr hx hb hX hbl hbA hw (n := 5 * r + 2) (by omega) hN dL_law_179 ?_
  refine lv_aload_n hx hb dL_law_180 rfl (lv_at hl 5 rfl) ?_
  refine lv_iload hx hb dL_law_181 (lv_at hl 1 rfl) ?_
  refine lv_iconst (v := 3) hx hb dL_law_183 (by decide) ?_
  refine lv_iadd hx hb dL_law_184 ?_
  rw [show nI (5 * r) + 3 = nI (5 * r + 3) from nI_add _ 3]
  refine k_scr hx hb hX hbl hbA hw (n := 5 * r + 3) (by omega) hN dL_law_185 ?_
  refine lv_aload_n hx hb dL_law_186 rfl (lv_at hl 5 rfl) ?_
  refine lv_iload hx hb dL_law_187 (lv_at hl 1 rfl) ?_
  refine lv_iconst (v := 4) hx hb dL_law_189 (by decide) ?_
  refine lv_iadd hx hb dL_law_190 ?_
  rw [show nI (5 * r) + 4 = nI (5 * r + 4) from nI_add _ 4]
  refine k_scr hx hb hX hbl hbA hw (n := 5 * r + 4) (by omega) hN dL_law_191 ?_
  refine k_cig hw (k_rV (f := 30) (o := 0) (As := [.int (xs (5 * r + 1)), .int (xs (5 * r + 2)), .int (xs (5 * r + 3)), .int (xs (5 * r + 4))]) (rest := []) ⟨hx, hb, hml, hown, hts⟩ hK hO hw (ct_X10_step hR hIM hF h59 hE _ (wk.hA hw hA)) (cwV 4 hts (gB_V w_ml_L_86 w_im_X10_step w_se_X10_step w_in_X10 w_co_X10_step) rfl rfl rfl (by decide +kernel) ⟨Nat.le_trans (Nat.le_of_ble_eq_true rfl) hfr, Nat.le_trans (Nat.le_of_ble_eq_true rfl) hlo⟩) (hR.1 30 (by decide) (by decide)) mke_30 rfl rfl hl.1 rfl (Nat.le_of_ble_eq_true rfl) dL_law_192 ⟨by omega, by omega⟩) (fun L2 u2 cp2 H locs hG hw => ?_)
  have e0 : u2 0 0 = ad 0 0 := hG.2.2.2 0 0 (hL 0 0 rfl) (Or.inl (by decide))
  have e30 : u2 30 0 = ad 30 0 := hG.2.2.2 30 0 (hR.1 30 (by decide) (by decide)) (Or.inl (by decide))
  have e90 : u2 90 0 = ad 90 0 := hG.2.2.2 90 0 hm (Or.inr (by decide))
  rw [← e0, ← e30, ← e90] at hl
  have hR2 := hG.1.1
  have hm2 := hG.2.1 _ hm
  refine lv_istore (lv' := [(6, .int v.1), (5, .int (wc_step (sp_X5_step S (xs (5 * r + 1)) (xs (5 * r + 2)) (xs (5 * r + 3)) (xs (5 * r + 4))).1)), (4, .int (nI (5 * r))), (3, .ref (u2 90 0)), (2, .ref (u2 30 0)), (1, .ref (u2 0 0)), (0, .ref b)]) hx hb dL_law_195 hl (by decide) rfl (fun ls hl => ?_)
  refine lv_aload_n hx hb dL_law_197 rfl (lv_at hl 4 rfl) ?_
  refine k_ci0 hw (k_rV (f := 30) (o := 0) (As := []) (rest := []) ⟨hx, hb, hml, hown, hts⟩ hK hO hw (ct_X10_thrown hR2 hIv (v := v.2 40 0 0) (by unfold sp_X10_thrown; rfl) _ (wk.hA hw hA)) (cwV 0 hts (gB_V w_ml_L_87 w_im_X10_thrown w_se_X10_thrown w_in_X10 w_co_X10_thrown) rfl rfl rfl (by decide +kernel) ⟨Nat.le_trans (Nat.le_of_ble_eq_true rfl) hfr, Nat.le_trans (Nat.le_of_ble_eq_true rfl) hlo⟩) (hR2.1 30 (by decide) (by decide)) mke_30 rfl rfl hl.1 rfl (Nat.le_of_ble_eq_true rfl) dL_law_198 ⟨by omega, by omega⟩) (fun H locs hw => ?_)
  refine lv_iload hx hb dL_law_201 (lv_at hl 1 rfl) ?_
  refine lv_icmp_eq (tgt := 208) hx hb dL_law_203 (by decide) (fun _ => ?_) (fun h => absurd h1 h)
  refine lv_iload hx hb dL_law_208 (lv_at hl 1 rfl) ?_
  have fin : ∀ ls, lv_has ls 9 [(4, .int (nI (5 * r))), (3, .ref (u2 90 0)), (2, .ref (u2 30 0)), (1, .ref (u2 0 0)), (0, .ref b)] → W p l e R s m args below meth c H locs (cells + 602) (slots + 2712) Q (F0 m 1471 ls []) := fun ls hl => by
    refine kk L2 u2 cp2 (wg (sp_X5_step S (xs (5 * r + 1)) (xs (5 * r + 2)) (xs (5 * r + 3)) (xs (5 * r + 4))).1 (sp_X5_step S (xs (5 * r + 1)) (xs (5 * r + 2)) (xs (5 * r + 3)) (xs (5 * r + 4))).2.1 g) H locs ls hG ?_ hl
    exact wk.ad2 (L0 := L) (fun f o h hf => hG.2.2.2 f o h (Or.inl hf)) hL (fun f o h hf => (hG.2.2.1 _ h).elim (fun y => hLc f o y hf) (fun y => absurd y.1 (by show ¬ 38 ≤ f; omega))) hw
  refine lv_if_ne (tgt := 225) hx hb dL_law_210 (by decide) (fun _ => ?_) (fun h => ?_)
  · refine lv_goto (tgt := 1471) hx hb dL_law_225 (by decide) ?_
    refine W.widen (k := cells + 602) (n := slots + 2712) (by omega) (by omega) ?_
    exact fin _ (lv_sub hl [2, 3, 4, 5, 6] rfl)
  · obtain ⟨h3, h4⟩ := h2 h
    refine lv_aload_n hx hb dL_law_213 rfl (lv_at hl 3 rfl) ?_
    refine lv_iconst (v := 0) hx hb dL_law_214 (by decide) ?_
    refine k_lald hx hb hK hw hm2 1 ((mK_ou (Or.inr (by decide))).trans ((cK_ou (by decide)).trans up2_eq)) rfl (vp_in_nI (n := 0) (N := 1) (by decide) (by decide)) (v := v.1.toInt64) (by rw [h3, ← h4]; rfl) dL_law_215 ?_
    refine lv_iload hx hb dL_law_216 (lv_at hl 0 rfl) ?_
    refine lv_i2l (v := v.1.toInt64) hx hb dL_law_218 rfl ?_
    refine W.lcmp hx hb dL_law_219 ?_
    rw [lg_same]
    refine lv_if_eq (tgt := 225) hx hb dL_law_220 (by decide) (fun _ => ?_) (fun h => absurd rfl h)
    refine lv_goto (tgt := 1471) hx hb dL_law_225 (by decide) ?_
    refine W.widen (k := cells + 602) (n := slots + 2712) (by omega) (by omega) ?_
    exact fin _ (lv_sub hl [2, 3, 4, 5, 6] rfl)

set_option maxHeartbeats 1000000 in
theorem law_role {p : Program} {l : Launch} {e : Env} {R : Room} {s : State} {m : MethodId} {args : Array Value} {below : List Frame} {meth : Method} {c : Code} {H : Heap} {locs : List Loc} {cells slots : Nat} {Q : State → Prop} {ls : Array Slot} {D : va_G} {cI cG cJ cO : ClassId} {K0 : Nat → Nat} {A : Nat → Prop} {L : List (Nat × Nat)} {ad : Nat → Nat → Nat} {ce : Nat → Nat → va_E} {cp : Nat → Nat} {M S : (Nat → Nat → Nat → Int32)} {g : Nat → Int64} {b N r : Nat} {xs : Nat → Int32} (F : CallFix p m c cL_law 9 s args BIG RL) (hO : OW A K0 s) (hK : va_K D vwCl (ktys cI cG cJ cO) s) (hA : ∀ q, s.heap.size ≤ q → A q) (hst : l.stackTraces = false) (hfr : 200 ≤ R.frames) (hlo : 8000 ≤ R.locals) (hc : cells + 602 ≤ R.cells) (hs : slots + 2712 ≤ R.slots) (hX : va_X b N xs s s.heap) (hbl : b < s.heap.size) (hbA : ¬ A b) (hr5 : 5 * r + 5 ≤ N) (hN : N ≤ 2560) (hL : ∀ f o, cid f o = true → (f, o) ∈ L) (hLc : ∀ f o, (f, o) ∈ L → f < 30 → cid f o = true) (hI : CI S) (hR : MR M L cp) (hF : MF M L cp) (hIM : CI M) (hT : TL 70 L) (h59 : (59, 0) ∉ L) (hm : (90, 0) ∈ L) (hw : wk D A L ad (LWc cI cG cJ cO K0 ad cp ce g M S) s.heap H locs) (hl : lv_has ls 9 [(4, .int (nI (5 * r))), (3, .ref (ad 90 0)), (2, .ref (ad 30 0)), (1, .ref (ad 0 0)), (0, .ref b)]) {v : Int32 × (Nat → Nat → Nat → Int32)} (hE : sp_X10_role M (xs (5 * r + 1)) (xs (5 * r + 2)) = some v) (hIv : CI v.2) (h1 : v.2 40 0 0 = wc_role (sp_X5_role S (xs (5 * r + 1)) (xs (5 * r + 2))).1) (h2 : wc_role (sp_X5_role S (xs (5 * r + 1)) (xs (5 * r + 2))).1 = 0 → (sp_X5_role S (xs (5 * r + 1)) (xs (5 * r + 2))).1 = 0 ∧ (sp_X5_role S (xs (5 * r + 1)) (xs (5 * r + 2))).2.1 = v.1) (kk : ∀ (L2 : List (Nat × Nat)) (u2 : Nat → Nat → Nat) (cp2 : Nat → Nat) (g2 : Nat → Int64) (H1 : Heap) (locs1 : List Loc) (ls1 : Array Slot), GRW L ad v.2 (L2, u2, cp2) → wk D A L2 u2 (LWc cI cG cJ cO K0 u2 cp2 ce g2 v.2 (wS (sp_X5_role S (xs (5 * r + 1)) (xs (5 * r + 2))).1 S (sp_X5_role S (xs (5 * r + 1)) (xs (5 * r + 2))).2.2)) s.heap H1 locs1 → lv_has ls1 9 [(4, .int (nI (5 * r))), (3, .ref (u2 90 0)), (2, .ref (u2 30 0)), (1, .ref (u2 0 0)), (0, .ref b)] → W p l e R s m args below meth c H1 locs1 (cells + 602) (slots + 2712) Q (F0 m 1471 ls1 [])) : W p l e R s m args below meth c H locs cells slots Q (F0 m 228 ls []) := by
  obtain ⟨hx, hb, hml, hown, hts⟩ := id F
  refine lv_aload_n hx hb dL_law_228 rfl (lv_at hl 3 rfl) ?_
  refine lv_aload_n hx hb dL_law_229 rfl (lv_at hl 4 rfl) ?_
  refine lv_iload hx hb dL_law_230 (lv_at hl 0 rfl) ?_
  refine lv_iconst (v := 1) hx hb dL_law_232 (by decide) ?_
  refine lv_iadd hx hb dL_law_233 ?_
  rw [show nI (5 * r) + 1 = nI (5 * r + 1) from nI_add _ 1]
  refine k_scr hx hb hX hbl hbA hw (n := 5 * r + 1) (by omega) hN dL_law_234 ?_
  refine lv_aload_n hx hb dL_law_235 rfl (lv_at hl 4 rfl) ?_
  refine lv_iload hx hb dL_law_236 (lv_at hl 0 rfl) ?_
  refine lv_iconst (v := 2) hx hb dL_law_238 (by decide) ?_
  refine lv_iadd hx hb dL_law_239 ?_
  rw [show nI (5 * r) + 2 = nI (5 * r + 2) from nI_add _ 2]
  refine k_scr hx hb hX hbl hbA hw (n := 5 * r + 2) (by omega) hN dL_law_240 ?_
  refine lv_aload_n hx hb dL_law_241 rfl (lv_at hl 1 rfl) ?_
  refine k_ci hw (k_rSW (As := [.ref (ad 0 0), .int (xs (5 * r + 1)), .int (xs (5 * r + 2)), .ref (ad 90 0)]) (rest := []) ⟨hx, hb, hml, hown, hts⟩ hK hO hw (ct_L_role hL S hI (xs (5 * r + 1)) (xs (5 * r + 2)) hst hm ((mK_ou (Or.inr (by decide))).trans up2_eq) _ (wk.hA hw hA)) (vx_cwSW 4 hts (gB_SH w_ml_L_90 w_st_L_role w_in_L w_co_L_role) rfl rfl rfl (by decide +kernel) ⟨Nat.le_trans (Nat.le_of_ble_eq_true rfl) hfr, Nat.le_trans (Nat.le_of_ble_eq_true rfl) hlo⟩) rfl hl.1 rfl (Nat.le_of_ble_eq_true rfl) dL_law_242 ⟨by omega, by omega⟩) (fun H locs hw => ?_)
  rw [mK_itp (Or.inr (by decide)), cK_mK] at hw
  refine lv_istore (lv' := [(5, .int (wc_role (sp_X5_role S (xs (5 * r + 1)) (xs (5 * r + 2))).1)), (4, .int (nI (5 * r))), (3, .ref (ad 90 0)), (2, .ref (ad 30 0)), (1, .ref (ad 0 0)), (0, .ref b)]) hx hb dL_law_245 hl (by decide) rfl (fun ls hl => ?_)
  refine lv_aload_n hx hb dL_law_247 rfl (lv_at hl 3 rfl) ?_
  refine lv_aload_n hx hb dL_law_248 rfl (lv_at hl 5 rfl) ?_
  refine lv_iload hx hb dL_law_249 (lv_at hl 1 rfl) ?_
  refine lv_iconst (v := 1) hx hb dL_law_251 (by decide) ?_
  refine lv_iadd hx hb dL_law_252 ?_
  rw [show nI (5 * r) + 1 = nI (5 * r + 1) from nI_add _ 1]
  refine k_scr hx hb hX hbl hbA hw (n := 5 * r + 1) (by omega) hN dL_law_253 ?_
  refine lv_aload_n hx hb dL_law_254 rfl (lv_at hl 5 rfl) ?_
  refine lv_iload hx hb dL_law_255 (lv_at hl 1 rfl) ?_
  refine lv_iconst (v := 2) hx hb dL_law_257 (by decide) ?_
  refine lv_iadd hx hb dL_law_258 ?_
  rw [show nI (5 * r) + 2 = nI (5 * r + 2) from nI_add _ 2]
  refine k_scr hx hb hX hbl hbA hw (n := 5 * r + 2) (by omega) hN dL_law_259 ?_
  refine k_ci0 hw (k_rV (f := 30) (o := 0) (As := [.int (xs (5 * r + 1)), .int (xs (5 * r + 2))]) (rest := []) ⟨hx, hb, hml, hown, hts⟩ hK hO hw (ct_X10_role hR hIM hE _ (wk.hA hw hA)) (cwV 2 hts (gB_V w_ml_L_93 w_im_X10_role w_se_X10_role w_in_X10 w_co_X10_role) rfl rfl rfl (by decide +kernel) ⟨Nat.le_trans (Nat.le_of_ble_eq_true rfl) hfr, Nat.le_trans (Nat.le_of_ble_eq_true rfl) hlo⟩) (hR.1 30 (by decide) (by decide)) mke_30 rfl rfl hl.1 rfl (Nat.le_of_ble_eq_true rfl) dL_law_260 ⟨by omega, by omega⟩) (fun H locs hw => ?_)
  have hR2 := MR.sm (sf_X10_role hE) hR
  have hm2 := hm
  refine lv_istore (lv' := [(6, .int v.1), (5, .int (wc_role (sp_X5_role S (xs (5 * r + 1)) (xs (5 * r + 2))).1)), (4, .int (nI (5 * r))), (3, .ref (ad 90 0)), (2, .ref (ad 30 0)), (1, .ref (ad 0 0)), (0, .ref b)]) hx hb dL_law_263 hl (by decide) rfl (fun ls hl => ?_)
  refine lv_aload_n hx hb dL_law_265 rfl (lv_at hl 4 rfl) ?_
  refine k_ci0 hw (k_rV (f := 30) (o := 0) (As := []) (rest := []) ⟨hx, hb, hml, hown, hts⟩ hK hO hw (ct_X10_thrown hR2 hIv (v := v.2 40 0 0) (by unfold sp_X10_thrown; rfl) _ (wk.hA hw hA)) (cwV 0 hts (gB_V w_ml_L_87 w_im_X10_thrown w_se_X10_thrown w_in_X10 w_co_X10_thrown) rfl rfl rfl (by decide +kernel) ⟨Nat.le_trans (Nat.le_of_ble_eq_true rfl) hfr, Nat.le_trans (Nat.le_of_ble_eq_true rfl) hlo⟩) (hR2.1 30 (by decide) (by decide)) mke_30 rfl rfl hl.1 rfl (Nat.le_of_ble_eq_true rfl) dL_law_266 ⟨by omega, by omega⟩) (fun H locs hw => ?_)
  refine lv_iload hx hb dL_law_269 (lv_at hl 1 rfl) ?_
  refine lv_icmp_eq (tgt := 276) hx hb dL_law_271 (by decide) (fun _ => ?_) (fun h => absurd h1 h)
  refine lv_iload hx hb dL_law_276 (lv_at hl 1 rfl) ?_
  have fin : ∀ ls, lv_has ls 9 [(4, .int (nI (5 * r))), (3, .ref (ad 90 0)), (2, .ref (ad 30 0)), (1, .ref (ad 0 0)), (0, .ref b)] → W p l e R s m args below meth c H locs (cells + 602) (slots + 2712) Q (F0 m 1471 ls []) := fun ls hl => by
    refine kk L ad cp (wg (sp_X5_role S (xs (5 * r + 1)) (xs (5 * r + 2))).1 (sp_X5_role S (xs (5 * r + 1)) (xs (5 * r + 2))).2.1 g) H locs ls (GRW.same hR2 (MF.sm (sf_X10_role hE) hF)) ?_ hl
    rw [← cK_mK] at hw
    exact hw
  refine lv_if_ne (tgt := 293) hx hb dL_law_278 (by decide) (fun _ => ?_) (fun h => ?_)
  · refine lv_goto (tgt := 1471) hx hb dL_law_293 (by decide) ?_
    refine W.widen (k := cells + 602) (n := slots + 2712) (by omega) (by omega) ?_
    exact fin _ (lv_sub hl [2, 3, 4, 5, 6] rfl)
  · obtain ⟨h3, h4⟩ := h2 h
    refine lv_aload_n hx hb dL_law_281 rfl (lv_at hl 3 rfl) ?_
    refine lv_iconst (v := 0) hx hb dL_law_282 (by decide) ?_
    refine k_lald hx hb hK hw hm2 1 ((mK_ou (Or.inr (by decide))).trans ((cK_ou (by decide)).trans up2_eq)) rfl (vp_in_nI (n := 0) (N := 1) (by decide) (by decide)) (v := v.1.toInt64) (by rw [h3, ← h4]; rfl) dL_law_283 ?_
    refine lv_iload hx hb dL_law_284 (lv_at hl 0 rfl) ?_
    refine lv_i2l (v := v.1.toInt64) hx hb dL_law_286 rfl ?_
    refine W.lcmp hx hb dL_law_287 ?_
    rw [lg_same]
    refine lv_if_eq (tgt := 293) hx hb dL_law_288 (by decide) (fun _ => ?_) (fun h => absurd rfl h)
    refine lv_goto (tgt := 1471) hx hb dL_law_293 (by decide) ?_
    refine W.widen (k := cells + 602) (n := slots + 2712) (by omega) (by omega) ?_
    exact fin _ (lv_sub hl [2, 3, 4, 5, 6] rfl)

set_option maxHeartbeats 1000000 in
theorem law_right {p : Program} {l : Launch} {e : Env} {R : Room} {s : State} {m : MethodId} {args : Array Value} {below : List Frame} {meth : Method} {c : Code} {H : Heap} {locs : List Loc} {cells slots : Nat} {Q : State → Prop} {ls : Array Slot} {D : va_G} {cI cG cJ cO : ClassId} {K0 : Nat → Nat} {A : Nat → Prop} {L : List (Nat × Nat)} {ad : Nat → Nat → Nat} {ce : Nat → Nat → va_E} {cp : Nat → Nat} {M S : (Nat → Nat → Nat → Int32)} {g : Nat → Int64} {b N r : Nat} {xs : Nat → Int32} (F : CallFix p m c cL_law 9 s args BIG RL) (hO : OW A K0 s) (hK : va_K D vwCl (ktys cI cG cJ cO) s) (hA : ∀ q, s.heap.size ≤ q → A q) (hst : l.stackTraces = false) (hfr : 200 ≤ R.frames) (hlo : 8000 ≤ R.locals) (hc : cells + 602 ≤ R.cells) (hs : slots + 2712 ≤ R.slots) (hX : va_X b N xs s s.heap) (hbl : b < s.heap.size) (hbA : ¬ A b) (hr5 : 5 * r + 5 ≤ N) (hN : N ≤ 2560) (hL : ∀ f o, cid f o = true → (f, o) ∈ L) (hLc : ∀ f o, (f, o) ∈ L → f < 30 → cid f o = true) (hI : CI S) (hR : MR M L cp) (hF : MF M L cp) (hIM : CI M) (hT : TL 70 L) (h59 : (59, 0) ∉ L) (hm : (90, 0) ∈ L) (hw : wk D A L ad (LWc cI cG cJ cO K0 ad cp ce g M S) s.heap H locs) (hl : lv_has ls 9 [(4, .int (nI (5 * r))), (3, .ref (ad 90 0)), (2, .ref (ad 30 0)), (1, .ref (ad 0 0)), (0, .ref b)]) {v : Int32 × (Nat → Nat → Nat → Int32)} (hE : sp_X10_right M (xs (5 * r + 1)) = some v) (hIv : CI v.2) (h1 : v.2 40 0 0 = wc_right (sp_X5_right S (xs (5 * r + 1))).1) (h2 : wc_right (sp_X5_right S (xs (5 * r + 1))).1 = 0 → (sp_X5_right S (xs (5 * r + 1))).1 = 0 ∧ (sp_X5_right S (xs (5 * r + 1))).2.1 = v.1) (kk : ∀ (L2 : List (Nat × Nat)) (u2 : Nat → Nat → Nat) (cp2 : Nat → Nat) (g2 : Nat → Int64) (H1 : Heap) (locs1 : List Loc) (ls1 : Array Slot), GRW L ad v.2 (L2, u2, cp2) → wk D A L2 u2 (LWc cI cG cJ cO K0 u2 cp2 ce g2 v.2 (wS (sp_X5_right S (xs (5 * r + 1))).1 S (sp_X5_right S (xs (5 * r + 1))).2.2)) s.heap H1 locs1 → lv_has ls1 9 [(4, .int (nI (5 * r))), (3, .ref (u2 90 0)), (2, .ref (u2 30 0)), (1, .ref (u2 0 0)), (0, .ref b)] → W p l e R s m args below meth c H1 locs1 (cells + 602) (slots + 2712) Q (F0 m 1471 ls1 [])) : W p l e R s m args below meth c H locs cells slots Q (F0 m 296 ls []) := by
  obtain ⟨hx, hb, hml, hown, hts⟩ := id F
  refine lv_aload_n hx hb dL_law_296 rfl (lv_at hl 3 rfl) ?_
  refine lv_aload_n hx hb dL_law_297 rfl (lv_at hl 4 rfl) ?_
  refine lv_iload hx hb dL_law_298 (lv_at hl 0 rfl) ?_
  refine lv_iconst (v := 1) hx hb dL_law_300 (by decide) ?_
  refine lv_iadd hx hb dL_law_301 ?_
  rw [show nI (5 * r) + 1 = nI (5 * r + 1) from nI_add _ 1]
  refine k_scr hx hb hX hbl hbA hw (n := 5 * r + 1) (by omega) hN dL_law_302 ?_
  refine lv_aload_n hx hb dL_law_303 rfl (lv_at hl 1 rfl) ?_
  refine k_ci hw (k_rSW (As := [.ref (ad 0 0), .int (xs (5 * r + 1)), .ref (ad 90 0)]) (rest := []) ⟨hx, hb, hml, hown, hts⟩ hK hO hw (ct_L_right hL S hI (xs (5 * r + 1)) hst hm ((mK_ou (Or.inr (by decide))).trans up2_eq) _ (wk.hA hw hA)) (vx_cwSW 3 hts (gB_SH w_ml_L_94 w_st_L_right w_in_L w_co_L_right) rfl rfl rfl (by decide +kernel) ⟨Nat.le_trans (Nat.le_of_ble_eq_true rfl) hfr, Nat.le_trans (Nat.le_of_ble_eq_true rfl) hlo⟩) rfl hl.1 rfl (Nat.le_of_ble_eq_true rfl) dL_law_304 ⟨by omega, by omega⟩) (fun H locs hw => ?_)
  rw [mK_itp (Or.inr (by decide)), cK_mK] at hw
  refine lv_istore (lv' := [(5, .int (wc_right (sp_X5_right S (xs (5 * r + 1))).1)), (4, .int (nI (5 * r))), (3, .ref (ad 90 0)), (2, .ref (ad 30 0)), (1, .ref (ad 0 0)), (0, .ref b)]) hx hb dL_law_307 hl (by decide) rfl (fun ls hl => ?_)
  refine lv_aload_n hx hb dL_law_309 rfl (lv_at hl 3 rfl) ?_
  refine lv_aload_n hx hb dL_law_310 rfl (lv_at hl 5 rfl) ?_
  refine lv_iload hx hb dL_law_311 (lv_at hl 1 rfl) ?_
  refine lv_iconst (v := 1) hx hb dL_law_313 (by decide) ?_
  refine lv_iadd hx hb dL_law_314 ?_
  rw [show nI (5 * r) + 1 = nI (5 * r + 1) from nI_add _ 1]
  refine k_scr hx hb hX hbl hbA hw (n := 5 * r + 1) (by omega) hN dL_law_315 ?_
  refine k_cig hw (k_rV (f := 30) (o := 0) (As := [.int (xs (5 * r + 1))]) (rest := []) ⟨hx, hb, hml, hown, hts⟩ hK hO hw (ct_X10_right hR hIM hF h59 hE _ (wk.hA hw hA)) (cwV 1 hts (gB_V w_ml_L_97 w_im_X10_right w_se_X10_right w_in_X10 w_co_X10_right) rfl rfl rfl (by decide +kernel) ⟨Nat.le_trans (Nat.le_of_ble_eq_true rfl) hfr, Nat.le_trans (Nat.le_of_ble_eq_true rfl) hlo⟩) (hR.1 30 (by decide) (by decide)) mke_30 rfl rfl hl.1 rfl (Nat.le_of_ble_eq_true rfl) dL_law_316 ⟨by omega, by omega⟩) (fun L2 u2 cp2 H locs hG hw => ?_)
  have e0 : u2 0 0 = ad 0 0 := hG.2.2.2 0 0 (hL 0 0 rfl) (Or.inl (by decide))
  have e30 : u2 30 0 = ad 30 0 := hG.2.2.2 30 0 (hR.1 30 (by decide) (by decide)) (Or.inl (by decide))
  have e90 : u2 90 0 = ad 90 0 := hG.2.2.2 90 0 hm (Or.inr (by decide))
  rw [← e0, ← e30, ← e90] at hl
  have hR2 := hG.1.1
  have hm2 := hG.2.1 _ hm
  refine lv_istore (lv' := [(6, .int v.1), (5, .int (wc_right (sp_X5_right S (xs (5 * r + 1))).1)), (4, .int (nI (5 * r))), (3, .ref (u2 90 0)), (2, .ref (u2 30 0)), (1, .ref (u2 0 0)), (0, .ref b)]) hx hb dL_law_319 hl (by decide) rfl (fun ls hl => ?_)
  refine lv_aload_n hx hb dL_law_321 rfl (lv_at hl 4 rfl) ?_
  refine k_ci0 hw (k_rV (f := 30) (o := 0) (As := []) (rest := []) ⟨hx, hb, hml, hown, hts⟩ hK hO hw (ct_X10_thrown hR2 hIv (v := v.2 40 0 0) (by unfold sp_X10_thrown; rfl) _ (wk.hA hw hA)) (cwV 0 hts (gB_V w_ml_L_87 w_im_X10_thrown w_se_X10_thrown w_in_X10 w_co_X10_thrown) rfl rfl rfl (by decide +kernel) ⟨Nat.le_trans (Nat.le_of_ble_eq_true rfl) hfr, Nat.le_trans (Nat.le_of_ble_eq_true rfl) hlo⟩) (hR2.1 30 (by decide) (by decide)) mke_30 rfl rfl hl.1 rfl (Nat.le_of_ble_eq_true rfl) dL_law_322 ⟨by omega, by omega⟩) (fun H locs hw => ?_)
  refine lv_iload hx hb dL_law_325 (lv_at hl 1 rfl) ?_
  refine lv_icmp_eq (tgt := 332) hx hb dL_law_327 (by decide) (fun _ => ?_) (fun h => absurd h1 h)
  refine lv_iload hx hb dL_law_332 (lv_at hl 1 rfl) ?_
  have fin : ∀ ls, lv_has ls 9 [(4, .int (nI (5 * r))), (3, .ref (u2 90 0)), (2, .ref (u2 30 0)), (1, .ref (u2 0 0)), (0, .ref b)] → W p l e R s m args below meth c H locs (cells + 602) (slots + 2712) Q (F0 m 1471 ls []) := fun ls hl => by
    refine kk L2 u2 cp2 (wg (sp_X5_right S (xs (5 * r + 1))).1 (sp_X5_right S (xs (5 * r + 1))).2.1 g) H locs ls hG ?_ hl
    exact wk.ad2 (L0 := L) (fun f o h hf => hG.2.2.2 f o h (Or.inl hf)) hL (fun f o h hf => (hG.2.2.1 _ h).elim (fun y => hLc f o y hf) (fun y => absurd y.1 (by show ¬ 38 ≤ f; omega))) hw
  refine lv_if_ne (tgt := 349) hx hb dL_law_334 (by decide) (fun _ => ?_) (fun h => ?_)
  · refine lv_goto (tgt := 1471) hx hb dL_law_349 (by decide) ?_
    refine W.widen (k := cells + 602) (n := slots + 2712) (by omega) (by omega) ?_
    exact fin _ (lv_sub hl [2, 3, 4, 5, 6] rfl)
  · obtain ⟨h3, h4⟩ := h2 h
    refine lv_aload_n hx hb dL_law_337 rfl (lv_at hl 3 rfl) ?_
    refine lv_iconst (v := 0) hx hb dL_law_338 (by decide) ?_
    refine k_lald hx hb hK hw hm2 1 ((mK_ou (Or.inr (by decide))).trans ((cK_ou (by decide)).trans up2_eq)) rfl (vp_in_nI (n := 0) (N := 1) (by decide) (by decide)) (v := v.1.toInt64) (by rw [h3, ← h4]; rfl) dL_law_339 ?_
    refine lv_iload hx hb dL_law_340 (lv_at hl 0 rfl) ?_
    refine lv_i2l (v := v.1.toInt64) hx hb dL_law_342 rfl ?_
    refine W.lcmp hx hb dL_law_343 ?_
    rw [lg_same]
    refine lv_if_eq (tgt := 349) hx hb dL_law_344 (by decide) (fun _ => ?_) (fun h => absurd rfl h)
    refine lv_goto (tgt := 1471) hx hb dL_law_349 (by decide) ?_
    refine W.widen (k := cells + 602) (n := slots + 2712) (by omega) (by omega) ?_
    exact fin _ (lv_sub hl [2, 3, 4, 5, 6] rfl)

set_option maxHeartbeats 1000000 in
theorem law_stock {p : Program} {l : Launch} {e : Env} {R : Room} {s : State} {m : MethodId} {args : Array Value} {below : List Frame} {meth : Method} {c : Code} {H : Heap} {locs : List Loc} {cells slots : Nat} {Q : State → Prop} {ls : Array Slot} {D : va_G} {cI cG cJ cO : ClassId} {K0 : Nat → Nat} {A : Nat → Prop} {L : List (Nat × Nat)} {ad : Nat → Nat → Nat} {ce : Nat → Nat → va_E} {cp : Nat → Nat} {M S : (Nat → Nat → Nat → Int32)} {g : Nat → Int64} {b N r : Nat} {xs : Nat → Int32} (F : CallFix p m c cL_law 9 s args BIG RL) (hO : OW A K0 s) (hK : va_K D vwCl (ktys cI cG cJ cO) s) (hA : ∀ q, s.heap.size ≤ q → A q) (hst : l.stackTraces = false) (hfr : 200 ≤ R.frames) (hlo : 8000 ≤ R.locals) (hc : cells + 602 ≤ R.cells) (hs : slots + 2712 ≤ R.slots) (hX : va_X b N xs s s.heap) (hbl : b < s.heap.size) (hbA : ¬ A b) (hr5 : 5 * r + 5 ≤ N) (hN : N ≤ 2560) (hL : ∀ f o, cid f o = true → (f, o) ∈ L) (hLc : ∀ f o, (f, o) ∈ L → f < 30 → cid f o = true) (hI : CI S) (hR : MR M L cp) (hF : MF M L cp) (hIM : CI M) (hT : TL 70 L) (h59 : (59, 0) ∉ L) (hm : (90, 0) ∈ L) (hw : wk D A L ad (LWc cI cG cJ cO K0 ad cp ce g M S) s.heap H locs) (hl : lv_has ls 9 [(4, .int (nI (5 * r))), (3, .ref (ad 90 0)), (2, .ref (ad 30 0)), (1, .ref (ad 0 0)), (0, .ref b)]) {v : Int32 × (Nat → Nat → Nat → Int32)} (hE : sp_X10_stock M (xs (5 * r + 1)) (xs (5 * r + 2)) = some v) (hIv : CI v.2) (h1 : v.2 40 0 0 = wc_stock (sp_X5_stock S (xs (5 * r + 1)) (xs (5 * r + 2))).1) (h2 : wc_stock (sp_X5_stock S (xs (5 * r + 1)) (xs (5 * r + 2))).1 = 0 → (sp_X5_stock S (xs (5 * r + 1)) (xs (5 * r + 2))).1 = 0 ∧ (sp_X5_stock S (xs (5 * r + 1)) (xs (5 * r + 2))).2.1 = v.1) (kk : ∀ (L2 : List (Nat × Nat)) (u2 : Nat → Nat → Nat) (cp2 : Nat → Nat) (g2 : Nat → Int64) (H1 : Heap) (locs1 : List Loc) (ls1 : Array Slot), GRW L ad v.2 (L2, u2, cp2) → wk D A L2 u2 (LWc cI cG cJ cO K0 u2 cp2 ce g2 v.2 (wS (sp_X5_stock S (xs (5 * r + 1)) (xs (5 * r + 2))).1 S (sp_X5_stock S (xs (5 * r + 1)) (xs (5 * r + 2))).2.2)) s.heap H1 locs1 → lv_has ls1 9 [(4, .int (nI (5 * r))), (3, .ref (u2 90 0)), (2, .ref (u2 30 0)), (1, .ref (u2 0 0)), (0, .ref b)] → W p l e R s m args below meth c H1 locs1 (cells + 602) (slots + 2712) Q (F0 m 1471 ls1 [])) : W p l e R s m args below meth c H locs cells slots Q (F0 m 352 ls []) := by
  obtain ⟨hx, hb, hml, hown, hts⟩ := id F
  refine lv_aload_n hx hb dL_law_352 rfl (lv_at hl 3 rfl) ?_
  refine lv_aload_n hx hb dL_law_353 rfl (lv_at hl 4 rfl) ?_
  refine lv_iload hx hb dL_law_354 (lv_at hl 0 rfl) ?_
  refine lv_iconst (v := 1) hx hb dL_law_356 (by decide) ?_
  refine lv_iadd hx hb dL_law_357 ?_
  rw [show nI (5 * r) + 1 = nI (5 * r + 1) from nI_add _ 1]
  refine k_scr hx hb hX hbl hbA hw (n := 5 * r + 1) (by omega) hN dL_law_358 ?_
  refine lv_aload_n hx hb dL_law_359 rfl (lv_at hl 4 rfl) ?_
  refine lv_iload hx hb dL_law_360 (lv_at hl 0 rfl) ?_
  refine lv_iconst (v := 2) hx hb dL_law_362 (by decide) ?_
  refine lv_iadd hx hb dL_law_363 ?_
  rw [show nI (5 * r) + 2 = nI (5 * r + 2) from nI_add _ 2]
  refine k_scr hx hb hX hbl hbA hw (n := 5 * r + 2) (by omega) hN dL_law_364 ?_
  refine lv_aload_n hx hb dL_law_365 rfl (lv_at hl 1 rfl) ?_
  refine k_ci hw (k_rSW (As := [.ref (ad 0 0), .int (xs (5 * r + 1)), .int (xs (5 * r + 2)), .ref (ad 90 0)]) (rest := []) ⟨hx, hb, hml, hown, hts⟩ hK hO hw (ct_L_stock hL S hI (xs (5 * r + 1)) (xs (5 * r + 2)) hst hm ((mK_ou (Or.inr (by decide))).trans up2_eq) _ (wk.hA hw hA)) (vx_cwSW 4 hts (gB_SH w_ml_L_98 w_st_L_stock w_in_L w_co_L_stock) rfl rfl rfl (by decide +kernel) ⟨Nat.le_trans (Nat.le_of_ble_eq_true rfl) hfr, Nat.le_trans (Nat.le_of_ble_eq_true rfl) hlo⟩) rfl hl.1 rfl (Nat.le_of_ble_eq_true rfl) dL_law_366 ⟨by omega, by omega⟩) (fun H locs hw => ?_)
  rw [mK_itp (Or.inr (by decide)), cK_mK] at hw
  refine lv_istore (lv' := [(5, .int (wc_stock (sp_X5_stock S (xs (5 * r + 1)) (xs (5 * r + 2))).1)), (4, .int (nI (5 * r))), (3, .ref (ad 90 0)), (2, .ref (ad 30 0)), (1, .ref (ad 0 0)), (0, .ref b)]) hx hb dL_law_369 hl (by decide) rfl (fun ls hl => ?_)
  refine lv_aload_n hx hb dL_law_371 rfl (lv_at hl 3 rfl) ?_
  refine lv_aload_n hx hb dL_law_372 rfl (lv_at hl 5 rfl) ?_
  refine lv_iload hx hb dL_law_373 (lv_at hl 1 rfl) ?_
  refine lv_iconst (v := 1) hx hb dL_law_375 (by decide) ?_
  refine lv_iadd hx hb dL_law_376 ?_
  rw [show nI (5 * r) + 1 = nI (5 * r + 1) from nI_add _ 1]
  refine k_scr hx hb hX hbl hbA hw (n := 5 * r + 1) (by omega) hN dL_law_377 ?_
  refine lv_aload_n hx hb dL_law_378 rfl (lv_at hl 5 rfl) ?_
  refine lv_iload hx hb dL_law_379 (lv_at hl 1 rfl) ?_
  refine lv_iconst (v := 2) hx hb dL_law_381 (by decide) ?_
  refine lv_iadd hx hb dL_law_382 ?_
  rw [show nI (5 * r) + 2 = nI (5 * r + 2) from nI_add _ 2]
  refine k_scr hx hb hX hbl hbA hw (n := 5 * r + 2) (by omega) hN dL_law_383 ?_
  refine k_ci0 hw (k_rV (f := 30) (o := 0) (As := [.int (xs (5 * r + 1)), .int (xs (5 * r + 2))]) (rest := []) ⟨hx, hb, hml, hown, hts⟩ hK hO hw (ct_X10_stock hR hIM hE _ (wk.hA hw hA)) (cwV 2 hts (gB_V w_ml_L_100 w_im_X10_stock w_se_X10_stock w_in_X10 w_co_X10_stock) rfl rfl rfl (by decide +kernel) ⟨Nat.le_trans (Nat.le_of_ble_eq_true rfl) hfr, Nat.le_trans (Nat.le_of_ble_eq_true rfl) hlo⟩) (hR.1 30 (by decide) (by decide)) mke_30 rfl rfl hl.1 rfl (Nat.le_of_ble_eq_true rfl) dL_law_384 ⟨by omega, by omega⟩) (fun H locs hw => ?_)
  have hR2 := MR.sm (sf_X10_stock hE) hR
  have hm2 := hm
  refine lv_istore (lv' := [(6, .int v.1), (5, .int (wc_stock (sp_X5_stock S (xs (5 * r + 1)) (xs (5 * r + 2))).1)), (4, .int (nI (5 * r))), (3, .ref (ad 90 0)), (2, .ref (ad 30 0)), (1, .ref (ad 0 0)), (0, .ref b)]) hx hb dL_law_387 hl (by decide) rfl (fun ls hl => ?_)
  refine lv_aload_n hx hb dL_law_389 rfl (lv_at hl 4 rfl) ?_
  refine k_ci0 hw (k_rV (f := 30) (o := 0) (As := []) (rest := []) ⟨hx, hb, hml, hown, hts⟩ hK hO hw (ct_X10_thrown hR2 hIv (v := v.2 40 0 0) (by unfold sp_X10_thrown; rfl) _ (wk.hA hw hA)) (cwV 0 hts (gB_V w_ml_L_87 w_im_X10_thrown w_se_X10_thrown w_in_X10 w_co_X10_thrown) rfl rfl rfl (by decide +kernel) ⟨Nat.le_trans (Nat.le_of_ble_eq_true rfl) hfr, Nat.le_trans (Nat.le_of_ble_eq_true rfl) hlo⟩) (hR2.1 30 (by decide) (by decide)) mke_30 rfl rfl hl.1 rfl (Nat.le_of_ble_eq_true rfl) dL_law_390 ⟨by omega, by omega⟩) (fun H locs hw => ?_)
  refine lv_iload hx hb dL_law_393 (lv_at hl 1 rfl) ?_
  refine lv_icmp_eq (tgt := 400) hx hb dL_law_395 (by decide) (fun _ => ?_) (fun h => absurd h1 h)
  refine lv_iload hx hb dL_law_400 (lv_at hl 1 rfl) ?_
  have fin : ∀ ls, lv_has ls 9 [(4, .int (nI (5 * r))), (3, .ref (ad 90 0)), (2, .ref (ad 30 0)), (1, .ref (ad 0 0)), (0, .ref b)] → W p l e R s m args below meth c H locs (cells + 602) (slots + 2712) Q (F0 m 1471 ls []) := fun ls hl => by
    refine kk L ad cp (wg (sp_X5_stock S (xs (5 * r + 1)) (xs (5 * r + 2))).1 (sp_X5_stock S (xs (5 * r + 1)) (xs (5 * r + 2))).2.1 g) H locs ls (GRW.same hR2 (MF.sm (sf_X10_stock hE) hF)) ?_ hl
    rw [← cK_mK] at hw
    exact hw
  refine lv_if_ne (tgt := 417) hx hb dL_law_402 (by decide) (fun _ => ?_) (fun h => ?_)
  · refine lv_goto (tgt := 1471) hx hb dL_law_417 (by decide) ?_
    refine W.widen (k := cells + 602) (n := slots + 2712) (by omega) (by omega) ?_
    exact fin _ (lv_sub hl [2, 3, 4, 5, 6] rfl)
  · obtain ⟨h3, h4⟩ := h2 h
    refine lv_aload_n hx hb dL_law_405 rfl (lv_at hl 3 rfl) ?_
    refine lv_iconst (v := 0) hx hb dL_law_406 (by decide) ?_
    refine k_lald hx hb hK hw hm2 1 ((mK_ou (Or.inr (by decide))).trans ((cK_ou (by decide)).trans up2_eq)) rfl (vp_in_nI (n := 0) (N := 1) (by decide) (by decide)) (v := v.1.toInt64) (by rw [h3, ← h4]; rfl) dL_law_407 ?_
    refine lv_iload hx hb dL_law_408 (lv_at hl 0 rfl) ?_
    refine lv_i2l (v := v.1.toInt64) hx hb dL_law_410 rfl ?_
    refine W.lcmp hx hb dL_law_411 ?_
    rw [lg_same]
    refine lv_if_eq (tgt := 417) hx hb dL_law_412 (by decide) (fun _ => ?_) (fun h => absurd rfl h)
    refine lv_goto (tgt := 1471) hx hb dL_law_417 (by decide) ?_
    refine W.widen (k := cells + 602) (n := slots + 2712) (by omega) (by omega) ?_
    exact fin _ (lv_sub hl [2, 3, 4, 5, 6] rfl)

set_option maxHeartbeats 1000000 in
theorem law_order {p : Program} {l : Launch} {e : Env} {R : Room} {s : State} {m : MethodId} {args : Array Value} {below : List Frame} {meth : Method} {c : Code} {H : Heap} {locs : List Loc} {cells slots : Nat} {Q : State → Prop} {ls : Array Slot} {D : va_G} {cI cG cJ cO : ClassId} {K0 : Nat → Nat} {A : Nat → Prop} {L : List (Nat × Nat)} {ad : Nat → Nat → Nat} {ce : Nat → Nat → va_E} {cp : Nat → Nat} {M S : (Nat → Nat → Nat → Int32)} {g : Nat → Int64} {b N r : Nat} {xs : Nat → Int32} (F : CallFix p m c cL_law 9 s args BIG RL) (hO : OW A K0 s) (hK : va_K D vwCl (ktys cI cG cJ cO) s) (hA : ∀ q, s.heap.size ≤ q → A q) (hst : l.stackTraces = false) (hfr : 200 ≤ R.frames) (hlo : 8000 ≤ R.locals) (hc : cells + 602 ≤ R.cells) (hs : slots + 2712 ≤ R.slots) (hX : va_X b N xs s s.heap) (hbl : b < s.heap.size) (hbA : ¬ A b) (hr5 : 5 * r + 5 ≤ N) (hN : N ≤ 2560) (hL : ∀ f o, cid f o = true → (f, o) ∈ L) (hLc : ∀ f o, (f, o) ∈ L → f < 30 → cid f o = true) (hI : CI S) (hR : MR M L cp) (hF : MF M L cp) (hIM : CI M) (hT : TL 70 L) (h59 : (59, 0) ∉ L) (hm : (90, 0) ∈ L) (hw : wk D A L ad (LWc cI cG cJ cO K0 ad cp ce g M S) s.heap H locs) (hl : lv_has ls 9 [(4, .int (nI (5 * r))), (3, .ref (ad 90 0)), (2, .ref (ad 30 0)), (1, .ref (ad 0 0)), (0, .ref b)]) {v : Int32 × (Nat → Nat → Nat → Int32)} (hE : sp_X10_order M (xs (5 * r + 1)) (xs (5 * r + 2)) (xs (5 * r + 3)) = some v) (hIv : CI v.2) (h1 : v.2 40 0 0 = wc_order (sp_X5_order S (xs (5 * r + 1)) (xs (5 * r + 2)) (xs (5 * r + 3))).1) (h2 : wc_order (sp_X5_order S (xs (5 * r + 1)) (xs (5 * r + 2)) (xs (5 * r + 3))).1 = 0 → (sp_X5_order S (xs (5 * r + 1)) (xs (5 * r + 2)) (xs (5 * r + 3))).1 = 0 ∧ (sp_X5_order S (xs (5 * r + 1)) (xs (5 * r + 2)) (xs (5 * r + 3))).2.1 = v.1) (kk : ∀ (L2 : List (Nat × Nat)) (u2 : Nat → Nat → Nat) (cp2 : Nat → Nat) (g2 : Nat → Int64) (H1 : Heap) (locs1 : List Loc) (ls1 : Array Slot), GRW L ad v.2 (L2, u2, cp2) → wk D A L2 u2 (LWc cI cG cJ cO K0 u2 cp2 ce g2 v.2 (wS (sp_X5_order S (xs (5 * r + 1)) (xs (5 * r + 2)) (xs (5 * r + 3))).1 S (sp_X5_order S (xs (5 * r + 1)) (xs (5 * r + 2)) (xs (5 * r + 3))).2.2)) s.heap H1 locs1 → lv_has ls1 9 [(4, .int (nI (5 * r))), (3, .ref (u2 90 0)), (2, .ref (u2 30 0)), (1, .ref (u2 0 0)), (0, .ref b)] → W p l e R s m args below meth c H1 locs1 (cells + 602) (slots + 2712) Q (F0 m 1471 ls1 [])) : W p l e R s m args below meth c H locs cells slots Q (F0 m 420 ls []) := by
  obtain ⟨hx, hb, hml, hown, hts⟩ := id F
  refine lv_aload_n hx hb dL_law_420 rfl (lv_at hl 3 rfl) ?_
  refine lv_aload_n hx hb dL_law_421 rfl (lv_at hl 4 rfl) ?_
  refine lv_iload hx hb dL_law_422 (lv_at hl 0 rfl) ?_
  refine lv_iconst (v := 1) hx hb dL_law_424 (by decide) ?_
  refine lv_iadd hx hb dL_law_425 ?_
  rw [show nI (5 * r) + 1 = nI (5 * r + 1) from nI_add _ 1]
  refine k_scr hx hb hX hbl hbA hw (n := 5 * r + 1) (by omega) hN dL_law_426 ?_
  refine lv_aload_n hx hb dL_law_427 rfl (lv_at hl 4 rfl) ?_
  refine lv_iload hx hb dL_law_428 (lv_at hl 0 rfl) ?_
  refine lv_iconst (v := 2) hx hb dL_law_430 (by decide) ?_
  refine lv_iadd hx hb dL_law_431 ?_
  rw [show nI (5 * r) + 2 = nI (5 * r + 2) from nI_add _ 2]
  refine k_scr hx hb hX hbl hbA hw (n := 5 * r + 2) (by omega) hN dL_law_432 ?_
  refine lv_aload_n hx hb dL_law_433 rfl (lv_at hl 4 rfl) ?_
  refine lv_iload hx hb dL_law_434 (lv_at hl 0 rfl) ?_
  refine lv_iconst (v := 3) hx hb dL_law_436 (by decide) ?_
  refine lv_iadd hx hb dL_law_437 ?_
  rw [show nI (5 * r) + 3 = nI (5 * r + 3) from nI_add _ 3]
  refine k_scr hx hb hX hbl hbA hw (n := 5 * r + 3) (by omega) hN dL_law_438 ?_
  refine lv_aload_n hx hb dL_law_439 rfl (lv_at hl 1 rfl) ?_
  refine k_ci hw (k_rSW (As := [.ref (ad 0 0), .int (xs (5 * r + 1)), .int (xs (5 * r + 2)), .int (xs (5 * r + 3)), .ref (ad 90 0)]) (rest := []) ⟨hx, hb, hml, hown, hts⟩ hK hO hw (ct_L_order hL S hI (xs (5 * r + 1)) (xs (5 * r + 2)) (xs (5 * r + 3)) hst hm ((mK_ou (Or.inr (by decide))).trans up2_eq) _ (wk.hA hw hA)) (vx_cwSW 5 hts (gB_SH w_ml_L_101 w_st_L_order w_in_L w_co_L_order) rfl rfl rfl (by decide +kernel) ⟨Nat.le_trans (Nat.le_of_ble_eq_true rfl) hfr, Nat.le_trans (Nat.le_of_ble_eq_true rfl) hlo⟩) rfl hl.1 rfl (Nat.le_of_ble_eq_true rfl) dL_law_440 ⟨by omega, by omega⟩) (fun H locs hw => ?_)
  rw [mK_itp (Or.inr (by decide)), cK_mK] at hw
  refine lv_istore (lv' := [(5, .int (wc_order (sp_X5_order S (xs (5 * r + 1)) (xs (5 * r + 2)) (xs (5 * r + 3))).1)), (4, .int (nI (5 * r))), (3, .ref (ad 90 0)), (2, .ref (ad 30 0)), (1, .ref (ad 0 0)), (0, .ref b)]) hx hb dL_law_443 hl (by decide) rfl (fun ls hl => ?_)
  refine lv_aload_n hx hb dL_law_445 rfl (lv_at hl 3 rfl) ?_
  refine lv_aload_n hx hb dL_law_446 rfl (lv_at hl 5 rfl) ?_
  refine lv_iload hx hb dL_law_447 (lv_at hl 1 rfl) ?_
  refine lv_iconst (v := 1) hx hb dL_law_449 (by decide) ?_
  refine lv_iadd hx hb dL_law_450 ?_
  rw [show nI (5 * r) + 1 = nI (5 * r + 1) from nI_add _ 1]
  refine k_scr hx hb hX hbl hbA hw (n := 5 * r + 1) (by omega) hN dL_law_451 ?_
  refine lv_aload_n hx hb dL_law_452 rfl (lv_at hl 5 rfl) ?_
  refine lv_iload hx hb dL_law_453 (lv_at hl 1 rfl) ?_
  refine lv_iconst (v := 2) hx hb dL_law_455 (by decide) ?_
  refine lv_iadd hx hb dL_law_456 ?_
  rw [show nI (5 * r) + 2 = nI (5 * r + 2) from nI_add _ 2]
  refine k_scr hx hb hX hbl hbA hw (n := 5 * r + 2) (by omega) hN dL_law_457 ?_
  refine lv_aload_n hx hb dL_law_458 rfl (lv_at hl 5 rfl) ?_
  refine lv_iload hx hb dL_law_459 (lv_at hl 1 rfl) ?_
  refine lv_iconst (v := 3) hx hb dL_law_461 (by decide) ?_
  refine lv_iadd hx hb dL_law_462 ?_
  rw [show nI (5 * r) + 3 = nI (5 * r + 3) from nI_add _ 3]
  refine k_scr hx hb hX hbl hbA hw (n := 5 * r + 3) (by omega) hN dL_law_463 ?_
  refine k_cig hw (k_rV (f := 30) (o := 0) (As := [.int (xs (5 * r + 1)), .int (xs (5 * r + 2)), .int (xs (5 * r + 3))]) (rest := []) ⟨hx, hb, hml, hown, hts⟩ hK hO hw (ct_X10_order hR hIM hF h59 hE _ (wk.hA hw hA)) (cwV 3 hts (gB_V w_ml_L_104 w_im_X10_order w_se_X10_order w_in_X10 w_co_X10_order) rfl rfl rfl (by decide +kernel) ⟨Nat.le_trans (Nat.le_of_ble_eq_true rfl) hfr, Nat.le_trans (Nat.le_of_ble_eq_true rfl) hlo⟩) (hR.1 30 (by decide) (by decide)) mke_30 rfl rfl hl.1 rfl (Nat.le_of_ble_eq_true rfl) dL_law_464 ⟨by omega, by omega⟩) (fun L2 u2 cp2 H locs hG hw => ?_)
  have e0 : u2 0 0 = ad 0 0 := hG.2.2.2 0 0 (hL 0 0 rfl) (Or.inl (by decide))
  have e30 : u2 30 0 = ad 30 0 := hG.2.2.2 30 0 (hR.1 30 (by decide) (by decide)) (Or.inl (by decide))
  have e90 : u2 90 0 = ad 90 0 := hG.2.2.2 90 0 hm (Or.inr (by decide))
  rw [← e0, ← e30, ← e90] at hl
  have hR2 := hG.1.1
  have hm2 := hG.2.1 _ hm
  refine lv_istore (lv' := [(6, .int v.1), (5, .int (wc_order (sp_X5_order S (xs (5 * r + 1)) (xs (5 * r + 2)) (xs (5 * r + 3))).1)), (4, .int (nI (5 * r))), (3, .ref (u2 90 0)), (2, .ref (u2 30 0)), (1, .ref (u2 0 0)), (0, .ref b)]) hx hb dL_law_467 hl (by decide) rfl (fun ls hl => ?_)
  refine lv_aload_n hx hb dL_law_469 rfl (lv_at hl 4 rfl) ?_
  refine k_ci0 hw (k_rV (f := 30) (o := 0) (As := []) (rest := []) ⟨hx, hb, hml, hown, hts⟩ hK hO hw (ct_X10_thrown hR2 hIv (v := v.2 40 0 0) (by unfold sp_X10_thrown; rfl) _ (wk.hA hw hA)) (cwV 0 hts (gB_V w_ml_L_87 w_im_X10_thrown w_se_X10_thrown w_in_X10 w_co_X10_thrown) rfl rfl rfl (by decide +kernel) ⟨Nat.le_trans (Nat.le_of_ble_eq_true rfl) hfr, Nat.le_trans (Nat.le_of_ble_eq_true rfl) hlo⟩) (hR2.1 30 (by decide) (by decide)) mke_30 rfl rfl hl.1 rfl (Nat.le_of_ble_eq_true rfl) dL_law_470 ⟨by omega, by omega⟩) (fun H locs hw => ?_)
  refine lv_iload hx hb dL_law_473 (lv_at hl 1 rfl) ?_
  refine lv_icmp_eq (tgt := 480) hx hb dL_law_475 (by decide) (fun _ => ?_) (fun h => absurd h1 h)
  refine lv_iload hx hb dL_law_480 (lv_at hl 1 rfl) ?_
  have fin : ∀ ls, lv_has ls 9 [(4, .int (nI (5 * r))), (3, .ref (u2 90 0)), (2, .ref (u2 30 0)), (1, .ref (u2 0 0)), (0, .ref b)] → W p l e R s m args below meth c H locs (cells + 602) (slots + 2712) Q (F0 m 1471 ls []) := fun ls hl => by
    refine kk L2 u2 cp2 (wg (sp_X5_order S (xs (5 * r + 1)) (xs (5 * r + 2)) (xs (5 * r + 3))).1 (sp_X5_order S (xs (5 * r + 1)) (xs (5 * r + 2)) (xs (5 * r + 3))).2.1 g) H locs ls hG ?_ hl
    exact wk.ad2 (L0 := L) (fun f o h hf => hG.2.2.2 f o h (Or.inl hf)) hL (fun f o h hf => (hG.2.2.1 _ h).elim (fun y => hLc f o y hf) (fun y => absurd y.1 (by show ¬ 38 ≤ f; omega))) hw
  refine lv_if_ne (tgt := 497) hx hb dL_law_482 (by decide) (fun _ => ?_) (fun h => ?_)
  · refine lv_goto (tgt := 1471) hx hb dL_law_497 (by decide) ?_
    refine W.widen (k := cells + 602) (n := slots + 2712) (by omega) (by omega) ?_
    exact fin _ (lv_sub hl [2, 3, 4, 5, 6] rfl)
  · obtain ⟨h3, h4⟩ := h2 h
    refine lv_aload_n hx hb dL_law_485 rfl (lv_at hl 3 rfl) ?_
    refine lv_iconst (v := 0) hx hb dL_law_486 (by decide) ?_
    refine k_lald hx hb hK hw hm2 1 ((mK_ou (Or.inr (by decide))).trans ((cK_ou (by decide)).trans up2_eq)) rfl (vp_in_nI (n := 0) (N := 1) (by decide) (by decide)) (v := v.1.toInt64) (by rw [h3, ← h4]; rfl) dL_law_487 ?_
    refine lv_iload hx hb dL_law_488 (lv_at hl 0 rfl) ?_
    refine lv_i2l (v := v.1.toInt64) hx hb dL_law_490 rfl ?_
    refine W.lcmp hx hb dL_law_491 ?_
    rw [lg_same]
    refine lv_if_eq (tgt := 497) hx hb dL_law_492 (by decide) (fun _ => ?_) (fun h => absurd rfl h)
    refine lv_goto (tgt := 1471) hx hb dL_law_497 (by decide) ?_
    refine W.widen (k := cells + 602) (n := slots + 2712) (by omega) (by omega) ?_
    exact fin _ (lv_sub hl [2, 3, 4, 5, 6] rfl)

set_option maxHeartbeats 1000000 in
theorem law_late {p : Program} {l : Launch} {e : Env} {R : Room} {s : State} {m : MethodId} {args : Array Value} {below : List Frame} {meth : Method} {c : Code} {H : Heap} {locs : List Loc} {cells slots : Nat} {Q : State → Prop} {ls : Array Slot} {D : va_G} {cI cG cJ cO : ClassId} {K0 : Nat → Nat} {A : Nat → Prop} {L : List (Nat × Nat)} {ad : Nat → Nat → Nat} {ce : Nat → Nat → va_E} {cp : Nat → Nat} {M S : (Nat → Nat → Nat → Int32)} {g : Nat → Int64} {b N r : Nat} {xs : Nat → Int32} (F : CallFix p m c cL_law 9 s args BIG RL) (hO : OW A K0 s) (hK : va_K D vwCl (ktys cI cG cJ cO) s) (hA : ∀ q, s.heap.size ≤ q → A q) (hst : l.stackTraces = false) (hfr : 200 ≤ R.frames) (hlo : 8000 ≤ R.locals) (hc : cells + 602 ≤ R.cells) (hs : slots + 2712 ≤ R.slots) (hX : va_X b N xs s s.heap) (hbl : b < s.heap.size) (hbA : ¬ A b) (hr5 : 5 * r + 5 ≤ N) (hN : N ≤ 2560) (hL : ∀ f o, cid f o = true → (f, o) ∈ L) (hLc : ∀ f o, (f, o) ∈ L → f < 30 → cid f o = true) (hI : CI S) (hR : MR M L cp) (hF : MF M L cp) (hIM : CI M) (hT : TL 70 L) (h59 : (59, 0) ∉ L) (hm : (90, 0) ∈ L) (hw : wk D A L ad (LWc cI cG cJ cO K0 ad cp ce g M S) s.heap H locs) (hl : lv_has ls 9 [(4, .int (nI (5 * r))), (3, .ref (ad 90 0)), (2, .ref (ad 30 0)), (1, .ref (ad 0 0)), (0, .ref b)]) {v : Int32 × (Nat → Nat → Nat → Int32)} (hE : sp_X10_late M (xs (5 * r + 1)) (xs (5 * r + 2)) = some v) (hIv : CI v.2) (h1 : v.2 40 0 0 = wc_late (sp_X5_late S (xs (5 * r + 1)) (xs (5 * r + 2))).1) (h2 : wc_late (sp_X5_late S (xs (5 * r + 1)) (xs (5 * r + 2))).1 = 0 → (sp_X5_late S (xs (5 * r + 1)) (xs (5 * r + 2))).1 = 0 ∧ (sp_X5_late S (xs (5 * r + 1)) (xs (5 * r + 2))).2.1 = v.1) (kk : ∀ (L2 : List (Nat × Nat)) (u2 : Nat → Nat → Nat) (cp2 : Nat → Nat) (g2 : Nat → Int64) (H1 : Heap) (locs1 : List Loc) (ls1 : Array Slot), GRW L ad v.2 (L2, u2, cp2) → wk D A L2 u2 (LWc cI cG cJ cO K0 u2 cp2 ce g2 v.2 (wS (sp_X5_late S (xs (5 * r + 1)) (xs (5 * r + 2))).1 S (sp_X5_late S (xs (5 * r + 1)) (xs (5 * r + 2))).2.2)) s.heap H1 locs1 → lv_has ls1 9 [(4, .int (nI (5 * r))), (3, .ref (u2 90 0)), (2, .ref (u2 30 0)), (1, .ref (u2 0 0)), (0, .ref b)] → W p l e R s m args below meth c H1 locs1 (cells + 602) (slots + 2712) Q (F0 m 1471 ls1 [])) : W p l e R s m args below meth c H locs cells slots Q (F0 m 500 ls []) := by
  obtain ⟨hx, hb, hml, hown, hts⟩ := id F
  refine lv_aload_n hx hb dL_law_500 rfl (lv_at hl 3 rfl) ?_
  refine lv_aload_n hx hb dL_law_501 rfl (lv_at hl 4 rfl) ?_
  refine lv_iload hx hb dL_law_502 (lv_at hl 0 rfl) ?_
  refine lv_iconst (v := 1) hx hb dL_law_504 (by decide) ?_
  refine lv_iadd hx hb dL_law_505 ?_
  rw [show nI (5 * r) + 1 = nI (5 * r + 1) from nI_add _ 1]
  refine k_scr hx hb hX hbl hbA hw (n := 5 * r + 1) (by omega) hN dL_law_506 ?_
  refine lv_aload_n hx hb dL_law_507 rfl (lv_at hl 4 rfl) ?_
  refine lv_iload hx hb dL_law_508 (lv_at hl 0 rfl) ?_
  refine lv_iconst (v := 2) hx hb dL_law_510 (by decide) ?_
  refine lv_iadd hx hb dL_law_511 ?_
  rw [show nI (5 * r) + 2 = nI (5 * r + 2) from nI_add _ 2]
  refine k_scr hx hb hX hbl hbA hw (n := 5 * r + 2) (by omega) hN dL_law_512 ?_
  refine lv_aload_n hx hb dL_law_513 rfl (lv_at hl 1 rfl) ?_
  refine k_ci hw (k_rSW (As := [.ref (ad 0 0), .int (xs (5 * r + 1)), .int (xs (5 * r + 2)), .ref (ad 90 0)]) (rest := []) ⟨hx, hb, hml, hown, hts⟩ hK hO hw (ct_L_late hL S hI (xs (5 * r + 1)) (xs (5 * r + 2)) hst hm ((mK_ou (Or.inr (by decide))).trans up2_eq) _ (wk.hA hw hA)) (vx_cwSW 4 hts (gB_SH w_ml_L_105 w_st_L_late w_in_L w_co_L_late) rfl rfl rfl (by decide +kernel) ⟨Nat.le_trans (Nat.le_of_ble_eq_true rfl) hfr, Nat.le_trans (Nat.le_of_ble_eq_true rfl) hlo⟩) rfl hl.1 rfl (Nat.le_of_ble_eq_true rfl) dL_law_514 ⟨by omega, by omega⟩) (fun H locs hw => ?_)
  rw [mK_itp (Or.inr (by decide)), cK_mK] at hw
  refine lv_istore (lv' := [(5, .int (wc_late (sp_X5_late S (xs (5 * r + 1)) (xs (5 * r + 2))).1)), (4, .int (nI (5 * r))), (3, .ref (ad 90 0)), (2, .ref (ad 30 0)), (1, .ref (ad 0 0)), (0, .ref b)]) hx hb dL_law_517 hl (by decide) rfl (fun ls hl => ?_)
  refine lv_aload_n hx hb dL_law_519 rfl (lv_at hl 3 rfl) ?_
  refine lv_aload_n hx hb dL_law_520 rfl (lv_at hl 5 rfl) ?_
  refine lv_iload hx hb dL_law_521 (lv_at hl 1 rfl) ?_
  refine lv_iconst (v := 1) hx hb dL_law_523 (by decide) ?_
  refine lv_iadd hx hb dL_law_524 ?_
  rw [show nI (5 * r) + 1 = nI (5 * r + 1) from nI_add _ 1]
  refine k_scr hx hb hX hbl hbA hw (n := 5 * r + 1) (by omega) hN dL_law_525 ?_
  refine lv_aload_n hx hb dL_law_526 rfl (lv_at hl 5 rfl) ?_
  refine lv_iload hx hb dL_law_527 (lv_at hl 1 rfl) ?_
  refine lv_iconst (v := 2) hx hb dL_law_529 (by decide) ?_
  refine lv_iadd hx hb dL_law_530 ?_
  rw [show nI (5 * r) + 2 = nI (5 * r + 2) from nI_add _ 2]
  refine k_scr hx hb hX hbl hbA hw (n := 5 * r + 2) (by omega) hN dL_law_531 ?_
  refine k_ci0 hw (k_rV (f := 30) (o := 0) (As := [.int (xs (5 * r + 1)), .int (xs (5 * r + 2))]) (rest := []) ⟨hx, hb, hml, hown, hts⟩ hK hO hw (ct_X10_late hR hIM hE _ (wk.hA hw hA)) (cwV 2 hts (gB_V w_ml_L_107 w_im_X10_late w_se_X10_late w_in_X10 w_co_X10_late) rfl rfl rfl (by decide +kernel) ⟨Nat.le_trans (Nat.le_of_ble_eq_true rfl) hfr, Nat.le_trans (Nat.le_of_ble_eq_true rfl) hlo⟩) (hR.1 30 (by decide) (by decide)) mke_30 rfl rfl hl.1 rfl (Nat.le_of_ble_eq_true rfl) dL_law_532 ⟨by omega, by omega⟩) (fun H locs hw => ?_)
  have hR2 := MR.sm (sf_X10_late hE) hR
  have hm2 := hm
  refine lv_istore (lv' := [(6, .int v.1), (5, .int (wc_late (sp_X5_late S (xs (5 * r + 1)) (xs (5 * r + 2))).1)), (4, .int (nI (5 * r))), (3, .ref (ad 90 0)), (2, .ref (ad 30 0)), (1, .ref (ad 0 0)), (0, .ref b)]) hx hb dL_law_535 hl (by decide) rfl (fun ls hl => ?_)
  refine lv_aload_n hx hb dL_law_537 rfl (lv_at hl 4 rfl) ?_
  refine k_ci0 hw (k_rV (f := 30) (o := 0) (As := []) (rest := []) ⟨hx, hb, hml, hown, hts⟩ hK hO hw (ct_X10_thrown hR2 hIv (v := v.2 40 0 0) (by unfold sp_X10_thrown; rfl) _ (wk.hA hw hA)) (cwV 0 hts (gB_V w_ml_L_87 w_im_X10_thrown w_se_X10_thrown w_in_X10 w_co_X10_thrown) rfl rfl rfl (by decide +kernel) ⟨Nat.le_trans (Nat.le_of_ble_eq_true rfl) hfr, Nat.le_trans (Nat.le_of_ble_eq_true rfl) hlo⟩) (hR2.1 30 (by decide) (by decide)) mke_30 rfl rfl hl.1 rfl (Nat.le_of_ble_eq_true rfl) dL_law_538 ⟨by omega, by omega⟩) (fun H locs hw => ?_)
  refine lv_iload hx hb dL_law_541 (lv_at hl 1 rfl) ?_
  refine lv_icmp_eq (tgt := 548) hx hb dL_law_543 (by decide) (fun _ => ?_) (fun h => absurd h1 h)
  refine lv_iload hx hb dL_law_548 (lv_at hl 1 rfl) ?_
  have fin : ∀ ls, lv_has ls 9 [(4, .int (nI (5 * r))), (3, .ref (ad 90 0)), (2, .ref (ad 30 0)), (1, .ref (ad 0 0)), (0, .ref b)] → W p l e R s m args below meth c H locs (cells + 602) (slots + 2712) Q (F0 m 1471 ls []) := fun ls hl => by
    refine kk L ad cp (wg (sp_X5_late S (xs (5 * r + 1)) (xs (5 * r + 2))).1 (sp_X5_late S (xs (5 * r + 1)) (xs (5 * r + 2))).2.1 g) H locs ls (GRW.same hR2 (MF.sm (sf_X10_late hE) hF)) ?_ hl
    rw [← cK_mK] at hw
    exact hw
  refine lv_if_ne (tgt := 565) hx hb dL_law_550 (by decide) (fun _ => ?_) (fun h => ?_)
  · refine lv_goto (tgt := 1471) hx hb dL_law_565 (by decide) ?_
    refine W.widen (k := cells + 602) (n := slots + 2712) (by omega) (by omega) ?_
    exact fin _ (lv_sub hl [2, 3, 4, 5, 6] rfl)
  · obtain ⟨h3, h4⟩ := h2 h
    refine lv_aload_n hx hb dL_law_553 rfl (lv_at hl 3 rfl) ?_
    refine lv_iconst (v := 0) hx hb dL_law_554 (by decide) ?_
    refine k_lald hx hb hK hw hm2 1 ((mK_ou (Or.inr (by decide))).trans ((cK_ou (by decide)).trans up2_eq)) rfl (vp_in_nI (n := 0) (N := 1) (by decide) (by decide)) (v := v.1.toInt64) (by rw [h3, ← h4]; rfl) dL_law_555 ?_
    refine lv_iload hx hb dL_law_556 (lv_at hl 0 rfl) ?_
    refine lv_i2l (v := v.1.toInt64) hx hb dL_law_558 rfl ?_
    refine W.lcmp hx hb dL_law_559 ?_
    rw [lg_same]
    refine lv_if_eq (tgt := 565) hx hb dL_law_560 (by decide) (fun _ => ?_) (fun h => absurd rfl h)
    refine lv_goto (tgt := 1471) hx hb dL_law_565 (by decide) ?_
    refine W.widen (k := cells + 602) (n := slots + 2712) (by omega) (by omega) ?_
    exact fin _ (lv_sub hl [2, 3, 4, 5, 6] rfl)

set_option maxHeartbeats 1000000 in
theorem law_session {p : Program} {l : Launch} {e : Env} {R : Room} {s : State} {m : MethodId} {args : Array Value} {below : List Frame} {meth : Method} {c : Code} {H : Heap} {locs : List Loc} {cells slots : Nat} {Q : State → Prop} {ls : Array Slot} {D : va_G} {cI cG cJ cO : ClassId} {K0 : Nat → Nat} {A : Nat → Prop} {L : List (Nat × Nat)} {ad : Nat → Nat → Nat} {ce : Nat → Nat → va_E} {cp : Nat → Nat} {M S : (Nat → Nat → Nat → Int32)} {g : Nat → Int64} {b N r : Nat} {xs : Nat → Int32} (F : CallFix p m c cL_law 9 s args BIG RL) (hO : OW A K0 s) (hK : va_K D vwCl (ktys cI cG cJ cO) s) (hA : ∀ q, s.heap.size ≤ q → A q) (hst : l.stackTraces = false) (hfr : 200 ≤ R.frames) (hlo : 8000 ≤ R.locals) (hc : cells + 602 ≤ R.cells) (hs : slots + 2712 ≤ R.slots) (hX : va_X b N xs s s.heap) (hbl : b < s.heap.size) (hbA : ¬ A b) (hr5 : 5 * r + 5 ≤ N) (hN : N ≤ 2560) (hL : ∀ f o, cid f o = true → (f, o) ∈ L) (hLc : ∀ f o, (f, o) ∈ L → f < 30 → cid f o = true) (hI : CI S) (hR : MR M L cp) (hF : MF M L cp) (hIM : CI M) (hT : TL 70 L) (h59 : (59, 0) ∉ L) (hm : (90, 0) ∈ L) (hw : wk D A L ad (LWc cI cG cJ cO K0 ad cp ce g M S) s.heap H locs) (hl : lv_has ls 9 [(4, .int (nI (5 * r))), (3, .ref (ad 90 0)), (2, .ref (ad 30 0)), (1, .ref (ad 0 0)), (0, .ref b)]) {v : Int32 × (Nat → Nat → Nat → Int32)} (hE : sp_X10_session M (xs (5 * r + 1)) (xs (5 * r + 2)) (xs (5 * r + 3)) = some v) (hIv : CI v.2) (h1 : v.2 40 0 0 = wc_session (sp_X5_session S (xs (5 * r + 1)) (xs (5 * r + 2)) (xs (5 * r + 3))).1) (h2 : wc_session (sp_X5_session S (xs (5 * r + 1)) (xs (5 * r + 2)) (xs (5 * r + 3))).1 = 0 → (sp_X5_session S (xs (5 * r + 1)) (xs (5 * r + 2)) (xs (5 * r + 3))).1 = 0 ∧ (sp_X5_session S (xs (5 * r + 1)) (xs (5 * r + 2)) (xs (5 * r + 3))).2.1 = v.1) (kk : ∀ (L2 : List (Nat × Nat)) (u2 : Nat → Nat → Nat) (cp2 : Nat → Nat) (g2 : Nat → Int64) (H1 : Heap) (locs1 : List Loc) (ls1 : Array Slot), GRW L ad v.2 (L2, u2, cp2) → wk D A L2 u2 (LWc cI cG cJ cO K0 u2 cp2 ce g2 v.2 (wS (sp_X5_session S (xs (5 * r + 1)) (xs (5 * r + 2)) (xs (5 * r + 3))).1 S (sp_X5_session S (xs (5 * r + 1)) (xs (5 * r + 2)) (xs (5 * r + 3))).2.2)) s.heap H1 locs1 → lv_has ls1 9 [(4, .int (nI (5 * r))), (3, .ref (u2 90 0)), (2, .ref (u2 30 0)), (1, .ref (u2 0 0)), (0, .ref b)] → W p l e R s m args below meth c H1 locs1 (cells + 602) (slots + 2712) Q (F0 m 1471 ls1 [])) : W p l e R s m args below meth c H locs cells slots Q (F0 m 568 ls []) := by
  obtain ⟨hx, hb, hml, hown, hts⟩ := id F
  refine lv_aload_n hx hb dL_law_568 rfl (lv_at hl 3 rfl) ?_
  refine lv_aload_n hx hb dL_law_569 rfl (lv_at hl 4 rfl) ?_
  refine lv_iload hx hb dL_law_570 (lv_at hl 0 rfl) ?_
  refine lv_iconst (v := 1) hx hb dL_law_572 (by decide) ?_
  refine lv_iadd hx hb dL_law_573 ?_
  rw [show nI (5 * r) + 1 = nI (5 * r + 1) from nI_add _ 1]
  refine k_scr hx hb hX hbl hbA hw (n := 5 * r + 1) (by omega) hN dL_law_574 ?_
  refine lv_aload_n hx hb dL_law_575 rfl (lv_at hl 4 rfl) ?_
  refine lv_iload hx hb dL_law_576 (lv_at hl 0 rfl) ?_
  refine lv_iconst (v := 2) hx hb dL_law_578 (by decide) ?_
  refine lv_iadd hx hb dL_law_579 ?_
  rw [show nI (5 * r) + 2 = nI (5 * r + 2) from nI_add _ 2]
  refine k_scr hx hb hX hbl hbA hw (n := 5 * r + 2) (by omega) hN dL_law_580 ?_
  refine lv_aload_n hx hb dL_law_581 rfl (lv_at hl 4 rfl) ?_
  refine lv_iload hx hb dL_law_582 (lv_at hl 0 rfl) ?_
  refine lv_iconst (v := 3) hx hb dL_law_584 (by decide) ?_
  refine lv_iadd hx hb dL_law_585 ?_
  rw [show nI (5 * r) + 3 = nI (5 * r + 3) from nI_add _ 3]
  refine k_scr hx hb hX hbl hbA hw (n := 5 * r + 3) (by omega) hN dL_law_586 ?_
  refine lv_aload_n hx hb dL_law_587 rfl (lv_at hl 1 rfl) ?_
  refine k_ci hw (k_rSW (As := [.ref (ad 0 0), .int (xs (5 * r + 1)), .int (xs (5 * r + 2)), .int (xs (5 * r + 3)), .ref (ad 90 0)]) (rest := []) ⟨hx, hb, hml, hown, hts⟩ hK hO hw (ct_L_session hL S hI (xs (5 * r + 1)) (xs (5 * r + 2)) (xs (5 * r + 3)) hst hm ((mK_ou (Or.inr (by decide))).trans up2_eq) _ (wk.hA hw hA)) (vx_cwSW 5 hts (gB_SH w_ml_L_108 w_st_L_session w_in_L w_co_L_session) rfl rfl rfl (by decide +kernel) ⟨Nat.le_trans (Nat.le_of_ble_eq_true rfl) hfr, Nat.le_trans (Nat.le_of_ble_eq_true rfl) hlo⟩) rfl hl.1 rfl (Nat.le_of_ble_eq_true rfl) dL_law_588 ⟨by omega, by omega⟩) (fun H locs hw => ?_)
  rw [mK_itp (Or.inr (by decide)), cK_mK] at hw
  refine lv_istore (lv' := [(5, .int (wc_session (sp_X5_session S (xs (5 * r + 1)) (xs (5 * r + 2)) (xs (5 * r + 3))).1)), (4, .int (nI (5 * r))), (3, .ref (ad 90 0)), (2, .ref (ad 30 0)), (1, .ref (ad 0 0)), (0, .ref b)]) hx hb dL_law_591 hl (by decide) rfl (fun ls hl => ?_)
  refine lv_aload_n hx hb dL_law_593 rfl (lv_at hl 3 rfl) ?_
  refine lv_aload_n hx hb dL_law_594 rfl (lv_at hl 5 rfl) ?_
  refine lv_iload hx hb dL_law_595 (lv_at hl 1 rfl) ?_
  refine lv_iconst (v := 1) hx hb dL_law_597 (by decide) ?_
  refine lv_iadd hx hb dL_law_598 ?_
  rw [show nI (5 * r) + 1 = nI (5 * r + 1) from nI_add _ 1]
  refine k_scr hx hb hX hbl hbA hw (n := 5 * r + 1) (by omega) hN dL_law_599 ?_
  refine lv_aload_n hx hb dL_law_600 rfl (lv_at hl 5 rfl) ?_
  refine lv_iload hx hb dL_law_601 (lv_at hl 1 rfl) ?_
  refine lv_iconst (v := 2) hx hb dL_law_603 (by decide) ?_
  refine lv_iadd hx hb dL_law_604 ?_
  rw [show nI (5 * r) + 2 = nI (5 * r + 2) from nI_add _ 2]
  refine k_scr hx hb hX hbl hbA hw (n := 5 * r + 2) (by omega) hN dL_law_605 ?_
  refine lv_aload_n hx hb dL_law_606 rfl (lv_at hl 5 rfl) ?_
  refine lv_iload hx hb dL_law_607 (lv_at hl 1 rfl) ?_
  refine lv_iconst (v := 3) hx hb dL_law_609 (by decide) ?_
  refine lv_iadd hx hb dL_law_610 ?_
  rw [show nI (5 * r) + 3 = nI (5 * r + 3) from nI_add _ 3]
  refine k_scr hx hb hX hbl hbA hw (n := 5 * r + 3) (by omega) hN dL_law_611 ?_
  refine k_cig hw (k_rV (f := 30) (o := 0) (As := [.int (xs (5 * r + 1)), .int (xs (5 * r + 2)), .int (xs (5 * r + 3))]) (rest := []) ⟨hx, hb, hml, hown, hts⟩ hK hO hw (ct_X10_session hR hIM (TL.le hT (by decide)) hF h59 hE _ (wk.hA hw hA)) (cwV 3 hts (gB_V w_ml_L_110 w_im_X10_session w_se_X10_session w_in_X10 w_co_X10_session) rfl rfl rfl (by decide +kernel) ⟨Nat.le_trans (Nat.le_of_ble_eq_true rfl) hfr, Nat.le_trans (Nat.le_of_ble_eq_true rfl) hlo⟩) (hR.1 30 (by decide) (by decide)) mke_30 rfl rfl hl.1 rfl (Nat.le_of_ble_eq_true rfl) dL_law_612 ⟨by omega, by omega⟩) (fun L2 u2 cp2 H locs hG hw => ?_)
  have e0 : u2 0 0 = ad 0 0 := hG.2.2.2 0 0 (hL 0 0 rfl) (Or.inl (by decide))
  have e30 : u2 30 0 = ad 30 0 := hG.2.2.2 30 0 (hR.1 30 (by decide) (by decide)) (Or.inl (by decide))
  have e90 : u2 90 0 = ad 90 0 := hG.2.2.2 90 0 hm (Or.inr (by decide))
  rw [← e0, ← e30, ← e90] at hl
  have hR2 := hG.1.1
  have hm2 := hG.2.1 _ hm
  refine lv_istore (lv' := [(6, .int v.1), (5, .int (wc_session (sp_X5_session S (xs (5 * r + 1)) (xs (5 * r + 2)) (xs (5 * r + 3))).1)), (4, .int (nI (5 * r))), (3, .ref (u2 90 0)), (2, .ref (u2 30 0)), (1, .ref (u2 0 0)), (0, .ref b)]) hx hb dL_law_615 hl (by decide) rfl (fun ls hl => ?_)
  refine lv_aload_n hx hb dL_law_617 rfl (lv_at hl 4 rfl) ?_
  refine k_ci0 hw (k_rV (f := 30) (o := 0) (As := []) (rest := []) ⟨hx, hb, hml, hown, hts⟩ hK hO hw (ct_X10_thrown hR2 hIv (v := v.2 40 0 0) (by unfold sp_X10_thrown; rfl) _ (wk.hA hw hA)) (cwV 0 hts (gB_V w_ml_L_87 w_im_X10_thrown w_se_X10_thrown w_in_X10 w_co_X10_thrown) rfl rfl rfl (by decide +kernel) ⟨Nat.le_trans (Nat.le_of_ble_eq_true rfl) hfr, Nat.le_trans (Nat.le_of_ble_eq_true rfl) hlo⟩) (hR2.1 30 (by decide) (by decide)) mke_30 rfl rfl hl.1 rfl (Nat.le_of_ble_eq_true rfl) dL_law_618 ⟨by omega, by omega⟩) (fun H locs hw => ?_)
  refine lv_iload hx hb dL_law_621 (lv_at hl 1 rfl) ?_
  refine lv_icmp_eq (tgt := 628) hx hb dL_law_623 (by decide) (fun _ => ?_) (fun h => absurd h1 h)
  refine lv_iload hx hb dL_law_628 (lv_at hl 1 rfl) ?_
  have fin : ∀ ls, lv_has ls 9 [(4, .int (nI (5 * r))), (3, .ref (u2 90 0)), (2, .ref (u2 30 0)), (1, .ref (u2 0 0)), (0, .ref b)] → W p l e R s m args below meth c H locs (cells + 602) (slots + 2712) Q (F0 m 1471 ls []) := fun ls hl => by
    refine kk L2 u2 cp2 (wg (sp_X5_session S (xs (5 * r + 1)) (xs (5 * r + 2)) (xs (5 * r + 3))).1 (sp_X5_session S (xs (5 * r + 1)) (xs (5 * r + 2)) (xs (5 * r + 3))).2.1 g) H locs ls hG ?_ hl
    exact wk.ad2 (L0 := L) (fun f o h hf => hG.2.2.2 f o h (Or.inl hf)) hL (fun f o h hf => (hG.2.2.1 _ h).elim (fun y => hLc f o y hf) (fun y => absurd y.1 (by show ¬ 38 ≤ f; omega))) hw
  refine lv_if_ne (tgt := 645) hx hb dL_law_630 (by decide) (fun _ => ?_) (fun h => ?_)
  · refine lv_goto (tgt := 1471) hx hb dL_law_645 (by decide) ?_
    refine W.widen (k := cells + 602) (n := slots + 2712) (by omega) (by omega) ?_
    exact fin _ (lv_sub hl [2, 3, 4, 5, 6] rfl)
  · obtain ⟨h3, h4⟩ := h2 h
    refine lv_aload_n hx hb dL_law_633 rfl (lv_at hl 3 rfl) ?_
    refine lv_iconst (v := 0) hx hb dL_law_634 (by decide) ?_
    refine k_lald hx hb hK hw hm2 1 ((mK_ou (Or.inr (by decide))).trans ((cK_ou (by decide)).trans up2_eq)) rfl (vp_in_nI (n := 0) (N := 1) (by decide) (by decide)) (v := v.1.toInt64) (by rw [h3, ← h4]; rfl) dL_law_635 ?_
    refine lv_iload hx hb dL_law_636 (lv_at hl 0 rfl) ?_
    refine lv_i2l (v := v.1.toInt64) hx hb dL_law_638 rfl ?_
    refine W.lcmp hx hb dL_law_639 ?_
    rw [lg_same]
    refine lv_if_eq (tgt := 645) hx hb dL_law_640 (by decide) (fun _ => ?_) (fun h => absurd rfl h)
    refine lv_goto (tgt := 1471) hx hb dL_law_645 (by decide) ?_
    refine W.widen (k := cells + 602) (n := slots + 2712) (by omega) (by omega) ?_
    exact fin _ (lv_sub hl [2, 3, 4, 5, 6] rfl)

set_option maxHeartbeats 1000000 in
theorem law_ofSession {p : Program} {l : Launch} {e : Env} {R : Room} {s : State} {m : MethodId} {args : Array Value} {below : List Frame} {meth : Method} {c : Code} {H : Heap} {locs : List Loc} {cells slots : Nat} {Q : State → Prop} {ls : Array Slot} {D : va_G} {cI cG cJ cO : ClassId} {K0 : Nat → Nat} {A : Nat → Prop} {L : List (Nat × Nat)} {ad : Nat → Nat → Nat} {ce : Nat → Nat → va_E} {cp : Nat → Nat} {M S : (Nat → Nat → Nat → Int32)} {g : Nat → Int64} {b N r : Nat} {xs : Nat → Int32} (F : CallFix p m c cL_law 9 s args BIG RL) (hO : OW A K0 s) (hK : va_K D vwCl (ktys cI cG cJ cO) s) (hA : ∀ q, s.heap.size ≤ q → A q) (hst : l.stackTraces = false) (hfr : 200 ≤ R.frames) (hlo : 8000 ≤ R.locals) (hc : cells + 602 ≤ R.cells) (hs : slots + 2712 ≤ R.slots) (hX : va_X b N xs s s.heap) (hbl : b < s.heap.size) (hbA : ¬ A b) (hr5 : 5 * r + 5 ≤ N) (hN : N ≤ 2560) (hL : ∀ f o, cid f o = true → (f, o) ∈ L) (hLc : ∀ f o, (f, o) ∈ L → f < 30 → cid f o = true) (hI : CI S) (hR : MR M L cp) (hF : MF M L cp) (hIM : CI M) (hT : TL 70 L) (h59 : (59, 0) ∉ L) (hm : (90, 0) ∈ L) (hw : wk D A L ad (LWc cI cG cJ cO K0 ad cp ce g M S) s.heap H locs) (hl : lv_has ls 9 [(4, .int (nI (5 * r))), (3, .ref (ad 90 0)), (2, .ref (ad 30 0)), (1, .ref (ad 0 0)), (0, .ref b)]) {v : Int32 × (Nat → Nat → Nat → Int32)} (hE : sp_X10_ofSession M (xs (5 * r + 1)) (xs (5 * r + 2)) = some v) (hIv : CI v.2) (h1 : v.2 40 0 0 = wc_ofSession (sp_X5_ofSession S (xs (5 * r + 1)) (xs (5 * r + 2))).1) (h2 : wc_ofSession (sp_X5_ofSession S (xs (5 * r + 1)) (xs (5 * r + 2))).1 = 0 → (sp_X5_ofSession S (xs (5 * r + 1)) (xs (5 * r + 2))).1 = 0 ∧ (sp_X5_ofSession S (xs (5 * r + 1)) (xs (5 * r + 2))).2 = v.1) (kk : ∀ (L2 : List (Nat × Nat)) (u2 : Nat → Nat → Nat) (cp2 : Nat → Nat) (g2 : Nat → Int64) (H1 : Heap) (locs1 : List Loc) (ls1 : Array Slot), GRW L ad v.2 (L2, u2, cp2) → wk D A L2 u2 (LWc cI cG cJ cO K0 u2 cp2 ce g2 v.2 (wS (sp_X5_ofSession S (xs (5 * r + 1)) (xs (5 * r + 2))).1 S S)) s.heap H1 locs1 → lv_has ls1 9 [(4, .int (nI (5 * r))), (3, .ref (u2 90 0)), (2, .ref (u2 30 0)), (1, .ref (u2 0 0)), (0, .ref b)] → W p l e R s m args below meth c H1 locs1 (cells + 602) (slots + 2712) Q (F0 m 1471 ls1 [])) : W p l e R s m args below meth c H locs cells slots Q (F0 m 648 ls []) := by
  obtain ⟨hx, hb, hml, hown, hts⟩ := id F
  refine lv_aload_n hx hb dL_law_648 rfl (lv_at hl 3 rfl) ?_
  refine lv_aload_n hx hb dL_law_649 rfl (lv_at hl 4 rfl) ?_
  refine lv_iload hx hb dL_law_650 (lv_at hl 0 rfl) ?_
  refine lv_iconst (v := 1) hx hb dL_law_652 (by decide) ?_
  refine lv_iadd hx hb dL_law_653 ?_
  rw [show nI (5 * r) + 1 = nI (5 * r + 1) from nI_add _ 1]
  refine k_scr hx hb hX hbl hbA hw (n := 5 * r + 1) (by omega) hN dL_law_654 ?_
  refine lv_aload_n hx hb dL_law_655 rfl (lv_at hl 4 rfl) ?_
  refine lv_iload hx hb dL_law_656 (lv_at hl 0 rfl) ?_
  refine lv_iconst (v := 2) hx hb dL_law_658 (by decide) ?_
  refine lv_iadd hx hb dL_law_659 ?_
  rw [show nI (5 * r) + 2 = nI (5 * r + 2) from nI_add _ 2]
  refine k_scr hx hb hX hbl hbA hw (n := 5 * r + 2) (by omega) hN dL_law_660 ?_
  refine lv_aload_n hx hb dL_law_661 rfl (lv_at hl 1 rfl) ?_
  refine k_ci hw (k_rSW (As := [.ref (ad 0 0), .int (xs (5 * r + 1)), .int (xs (5 * r + 2)), .ref (ad 90 0)]) (rest := []) ⟨hx, hb, hml, hown, hts⟩ hK hO hw (ct_L_ofSession hL S hI (xs (5 * r + 1)) (xs (5 * r + 2)) hst hm ((mK_ou (Or.inr (by decide))).trans up2_eq) _ (wk.hA hw hA)) (vx_cwSW 4 hts (gB_SH w_ml_L_111 w_st_L_ofSession w_in_L w_co_L_ofSession) rfl rfl rfl (by decide +kernel) ⟨Nat.le_trans (Nat.le_of_ble_eq_true rfl) hfr, Nat.le_trans (Nat.le_of_ble_eq_true rfl) hlo⟩) rfl hl.1 rfl (Nat.le_of_ble_eq_true rfl) dL_law_662 ⟨by omega, by omega⟩) (fun H locs hw => ?_)
  rw [mK_itp (Or.inr (by decide)), cK_mK] at hw
  refine lv_istore (lv' := [(5, .int (wc_ofSession (sp_X5_ofSession S (xs (5 * r + 1)) (xs (5 * r + 2))).1)), (4, .int (nI (5 * r))), (3, .ref (ad 90 0)), (2, .ref (ad 30 0)), (1, .ref (ad 0 0)), (0, .ref b)]) hx hb dL_law_665 hl (by decide) rfl (fun ls hl => ?_)
  refine lv_aload_n hx hb dL_law_667 rfl (lv_at hl 3 rfl) ?_
  refine lv_aload_n hx hb dL_law_668 rfl (lv_at hl 5 rfl) ?_
  refine lv_iload hx hb dL_law_669 (lv_at hl 1 rfl) ?_
  refine lv_iconst (v := 1) hx hb dL_law_671 (by decide) ?_
  refine lv_iadd hx hb dL_law_672 ?_
  rw [show nI (5 * r) + 1 = nI (5 * r + 1) from nI_add _ 1]
  refine k_scr hx hb hX hbl hbA hw (n := 5 * r + 1) (by omega) hN dL_law_673 ?_
  refine lv_aload_n hx hb dL_law_674 rfl (lv_at hl 5 rfl) ?_
  refine lv_iload hx hb dL_law_675 (lv_at hl 1 rfl) ?_
  refine lv_iconst (v := 2) hx hb dL_law_677 (by decide) ?_
  refine lv_iadd hx hb dL_law_678 ?_
  rw [show nI (5 * r) + 2 = nI (5 * r + 2) from nI_add _ 2]
  refine k_scr hx hb hX hbl hbA hw (n := 5 * r + 2) (by omega) hN dL_law_679 ?_
  refine k_ci hw (k_rV (f := 30) (o := 0) (As := [.int (xs (5 * r + 1)), .int (xs (5 * r + 2))]) (rest := []) ⟨hx, hb, hml, hown, hts⟩ hK hO hw (ct_X10_ofSession hR hIM (TL.le hT (by decide)) hE _ (wk.hA hw hA)) (cwV 2 hts (gB_V w_ml_L_113 w_im_X10_ofSession w_se_X10_ofSession w_in_X10 w_co_X10_ofSession) rfl rfl rfl (by decide +kernel) ⟨Nat.le_trans (Nat.le_of_ble_eq_true rfl) hfr, Nat.le_trans (Nat.le_of_ble_eq_true rfl) hlo⟩) (hR.1 30 (by decide) (by decide)) mke_30 rfl rfl hl.1 rfl (Nat.le_of_ble_eq_true rfl) dL_law_680 ⟨by omega, by omega⟩) (fun H locs hw => ?_)
  have hR2 := MR.sm (sf_X10_ofSession hE) hR
  have hm2 := hm
  refine lv_istore (lv' := [(6, .int v.1), (5, .int (wc_ofSession (sp_X5_ofSession S (xs (5 * r + 1)) (xs (5 * r + 2))).1)), (4, .int (nI (5 * r))), (3, .ref (ad 90 0)), (2, .ref (ad 30 0)), (1, .ref (ad 0 0)), (0, .ref b)]) hx hb dL_law_683 hl (by decide) rfl (fun ls hl => ?_)
  refine lv_aload_n hx hb dL_law_685 rfl (lv_at hl 4 rfl) ?_
  refine k_ci0 hw (k_rV (f := 30) (o := 0) (As := []) (rest := []) ⟨hx, hb, hml, hown, hts⟩ hK hO hw (ct_X10_thrown hR2 hIv (v := v.2 40 0 0) (by unfold sp_X10_thrown; rfl) _ (wk.hA hw hA)) (cwV 0 hts (gB_V w_ml_L_87 w_im_X10_thrown w_se_X10_thrown w_in_X10 w_co_X10_thrown) rfl rfl rfl (by decide +kernel) ⟨Nat.le_trans (Nat.le_of_ble_eq_true rfl) hfr, Nat.le_trans (Nat.le_of_ble_eq_true rfl) hlo⟩) (hR2.1 30 (by decide) (by decide)) mke_30 rfl rfl hl.1 rfl (Nat.le_of_ble_eq_true rfl) dL_law_686 ⟨by omega, by omega⟩) (fun H locs hw => ?_)
  refine lv_iload hx hb dL_law_689 (lv_at hl 1 rfl) ?_
  refine lv_icmp_eq (tgt := 696) hx hb dL_law_691 (by decide) (fun _ => ?_) (fun h => absurd h1 h)
  refine lv_iload hx hb dL_law_696 (lv_at hl 1 rfl) ?_
  have fin : ∀ ls, lv_has ls 9 [(4, .int (nI (5 * r))), (3, .ref (ad 90 0)), (2, .ref (ad 30 0)), (1, .ref (ad 0 0)), (0, .ref b)] → W p l e R s m args below meth c H locs (cells + 602) (slots + 2712) Q (F0 m 1471 ls []) := fun ls hl => by
    refine kk L ad cp (wg (sp_X5_ofSession S (xs (5 * r + 1)) (xs (5 * r + 2))).1 (sp_X5_ofSession S (xs (5 * r + 1)) (xs (5 * r + 2))).2 g) H locs ls (GRW.same hR2 (MF.sm (sf_X10_ofSession hE) hF)) ?_ hl
    rw [← cK_mK] at hw
    exact hw
  refine lv_if_ne (tgt := 713) hx hb dL_law_698 (by decide) (fun _ => ?_) (fun h => ?_)
  · refine lv_goto (tgt := 1471) hx hb dL_law_713 (by decide) ?_
    refine W.widen (k := cells + 602) (n := slots + 2712) (by omega) (by omega) ?_
    exact fin _ (lv_sub hl [2, 3, 4, 5, 6] rfl)
  · obtain ⟨h3, h4⟩ := h2 h
    refine lv_aload_n hx hb dL_law_701 rfl (lv_at hl 3 rfl) ?_
    refine lv_iconst (v := 0) hx hb dL_law_702 (by decide) ?_
    refine k_lald hx hb hK hw hm2 1 ((mK_ou (Or.inr (by decide))).trans ((cK_ou (by decide)).trans up2_eq)) rfl (vp_in_nI (n := 0) (N := 1) (by decide) (by decide)) (v := v.1.toInt64) (by rw [h3, ← h4]; rfl) dL_law_703 ?_
    refine lv_iload hx hb dL_law_704 (lv_at hl 0 rfl) ?_
    refine lv_i2l (v := v.1.toInt64) hx hb dL_law_706 rfl ?_
    refine W.lcmp hx hb dL_law_707 ?_
    rw [lg_same]
    refine lv_if_eq (tgt := 713) hx hb dL_law_708 (by decide) (fun _ => ?_) (fun h => absurd rfl h)
    refine lv_goto (tgt := 1471) hx hb dL_law_713 (by decide) ?_
    refine W.widen (k := cells + 602) (n := slots + 2712) (by omega) (by omega) ?_
    exact fin _ (lv_sub hl [2, 3, 4, 5, 6] rfl)

set_option maxHeartbeats 1000000 in
theorem law_ofItem {p : Program} {l : Launch} {e : Env} {R : Room} {s : State} {m : MethodId} {args : Array Value} {below : List Frame} {meth : Method} {c : Code} {H : Heap} {locs : List Loc} {cells slots : Nat} {Q : State → Prop} {ls : Array Slot} {D : va_G} {cI cG cJ cO : ClassId} {K0 : Nat → Nat} {A : Nat → Prop} {L : List (Nat × Nat)} {ad : Nat → Nat → Nat} {ce : Nat → Nat → va_E} {cp : Nat → Nat} {M S : (Nat → Nat → Nat → Int32)} {g : Nat → Int64} {b N r : Nat} {xs : Nat → Int32} (F : CallFix p m c cL_law 9 s args BIG RL) (hO : OW A K0 s) (hK : va_K D vwCl (ktys cI cG cJ cO) s) (hA : ∀ q, s.heap.size ≤ q → A q) (hst : l.stackTraces = false) (hfr : 200 ≤ R.frames) (hlo : 8000 ≤ R.locals) (hc : cells + 602 ≤ R.cells) (hs : slots + 2712 ≤ R.slots) (hX : va_X b N xs s s.heap) (hbl : b < s.heap.size) (hbA : ¬ A b) (hr5 : 5 * r + 5 ≤ N) (hN : N ≤ 2560) (hL : ∀ f o, cid f o = true → (f, o) ∈ L) (hLc : ∀ f o, (f, o) ∈ L → f < 30 → cid f o = true) (hI : CI S) (hR : MR M L cp) (hF : MF M L cp) (hIM : CI M) (hT : TL 70 L) (h59 : (59, 0) ∉ L) (hm : (90, 0) ∈ L) (hw : wk D A L ad (LWc cI cG cJ cO K0 ad cp ce g M S) s.heap H locs) (hl : lv_has ls 9 [(4, .int (nI (5 * r))), (3, .ref (ad 90 0)), (2, .ref (ad 30 0)), (1, .ref (ad 0 0)), (0, .ref b)]) {v : Int32 × (Nat → Nat → Nat → Int32)} (hE : sp_X10_ofItem M (xs (5 * r + 1)) (xs (5 * r + 2)) = some v) (hIv : CI v.2) (h1 : v.2 40 0 0 = wc_ofItem (sp_X5_ofItem S (xs (5 * r + 1)) (xs (5 * r + 2))).1) (h2 : wc_ofItem (sp_X5_ofItem S (xs (5 * r + 1)) (xs (5 * r + 2))).1 = 0 → (sp_X5_ofItem S (xs (5 * r + 1)) (xs (5 * r + 2))).1 = 0 ∧ (sp_X5_ofItem S (xs (5 * r + 1)) (xs (5 * r + 2))).2 = v.1) (kk : ∀ (L2 : List (Nat × Nat)) (u2 : Nat → Nat → Nat) (cp2 : Nat → Nat) (g2 : Nat → Int64) (H1 : Heap) (locs1 : List Loc) (ls1 : Array Slot), GRW L ad v.2 (L2, u2, cp2) → wk D A L2 u2 (LWc cI cG cJ cO K0 u2 cp2 ce g2 v.2 (wS (sp_X5_ofItem S (xs (5 * r + 1)) (xs (5 * r + 2))).1 S S)) s.heap H1 locs1 → lv_has ls1 9 [(4, .int (nI (5 * r))), (3, .ref (u2 90 0)), (2, .ref (u2 30 0)), (1, .ref (u2 0 0)), (0, .ref b)] → W p l e R s m args below meth c H1 locs1 (cells + 602) (slots + 2712) Q (F0 m 1471 ls1 [])) : W p l e R s m args below meth c H locs cells slots Q (F0 m 716 ls []) := by
  obtain ⟨hx, hb, hml, hown, hts⟩ := id F
  refine lv_aload_n hx hb dL_law_716 rfl (lv_at hl 3 rfl) ?_
  refine lv_aload_n hx hb dL_law_717 rfl (lv_at hl 4 rfl) ?_
  refine lv_iload hx hb dL_law_718 (lv_at hl 0 rfl) ?_
  refine lv_iconst (v := 1) hx hb dL_law_720 (by decide) ?_
  refine lv_iadd hx hb dL_law_721 ?_
  rw [show nI (5 * r) + 1 = nI (5 * r + 1) from nI_add _ 1]
  refine k_scr hx hb hX hbl hbA hw (n := 5 * r + 1) (by omega) hN dL_law_722 ?_
  refine lv_aload_n hx hb dL_law_723 rfl (lv_at hl 4 rfl) ?_
  refine lv_iload hx hb dL_law_724 (lv_at hl 0 rfl) ?_
  refine lv_iconst (v := 2) hx hb dL_law_726 (by decide) ?_
  refine lv_iadd hx hb dL_law_727 ?_
  rw [show nI (5 * r) + 2 = nI (5 * r + 2) from nI_add _ 2]
  refine k_scr hx hb hX hbl hbA hw (n := 5 * r + 2) (by omega) hN dL_law_728 ?_
  refine lv_aload_n hx hb dL_law_729 rfl (lv_at hl 1 rfl) ?_
  refine k_ci hw (k_rSW (As := [.ref (ad 0 0), .int (xs (5 * r + 1)), .int (xs (5 * r + 2)), .ref (ad 90 0)]) (rest := []) ⟨hx, hb, hml, hown, hts⟩ hK hO hw (ct_L_ofItem hL S hI (xs (5 * r + 1)) (xs (5 * r + 2)) hst hm ((mK_ou (Or.inr (by decide))).trans up2_eq) _ (wk.hA hw hA)) (vx_cwSW 4 hts (gB_SH w_ml_L_114 w_st_L_ofItem w_in_L w_co_L_ofItem) rfl rfl rfl (by decide +kernel) ⟨Nat.le_trans (Nat.le_of_ble_eq_true rfl) hfr, Nat.le_trans (Nat.le_of_ble_eq_true rfl) hlo⟩) rfl hl.1 rfl (Nat.le_of_ble_eq_true rfl) dL_law_730 ⟨by omega, by omega⟩) (fun H locs hw => ?_)
  rw [mK_itp (Or.inr (by decide)), cK_mK] at hw
  refine lv_istore (lv' := [(5, .int (wc_ofItem (sp_X5_ofItem S (xs (5 * r + 1)) (xs (5 * r + 2))).1)), (4, .int (nI (5 * r))), (3, .ref (ad 90 0)), (2, .ref (ad 30 0)), (1, .ref (ad 0 0)), (0, .ref b)]) hx hb dL_law_733 hl (by decide) rfl (fun ls hl => ?_)
  refine lv_aload_n hx hb dL_law_735 rfl (lv_at hl 3 rfl) ?_
  refine lv_aload_n hx hb dL_law_736 rfl (lv_at hl 5 rfl) ?_
  refine lv_iload hx hb dL_law_737 (lv_at hl 1 rfl) ?_
  refine lv_iconst (v := 1) hx hb dL_law_739 (by decide) ?_
  refine lv_iadd hx hb dL_law_740 ?_
  rw [show nI (5 * r) + 1 = nI (5 * r + 1) from nI_add _ 1]
  refine k_scr hx hb hX hbl hbA hw (n := 5 * r + 1) (by omega) hN dL_law_741 ?_
  refine lv_aload_n hx hb dL_law_742 rfl (lv_at hl 5 rfl) ?_
  refine lv_iload hx hb dL_law_743 (lv_at hl 1 rfl) ?_
  refine lv_iconst (v := 2) hx hb dL_law_745 (by decide) ?_
  refine lv_iadd hx hb dL_law_746 ?_
  rw [show nI (5 * r) + 2 = nI (5 * r + 2) from nI_add _ 2]
  refine k_scr hx hb hX hbl hbA hw (n := 5 * r + 2) (by omega) hN dL_law_747 ?_
  refine k_ci hw (k_rV (f := 30) (o := 0) (As := [.int (xs (5 * r + 1)), .int (xs (5 * r + 2))]) (rest := []) ⟨hx, hb, hml, hown, hts⟩ hK hO hw (ct_X10_ofItem hR hIM (TL.le hT (by decide)) hE _ (wk.hA hw hA)) (cwV 2 hts (gB_V w_ml_L_116 w_im_X10_ofItem w_se_X10_ofItem w_in_X10 w_co_X10_ofItem) rfl rfl rfl (by decide +kernel) ⟨Nat.le_trans (Nat.le_of_ble_eq_true rfl) hfr, Nat.le_trans (Nat.le_of_ble_eq_true rfl) hlo⟩) (hR.1 30 (by decide) (by decide)) mke_30 rfl rfl hl.1 rfl (Nat.le_of_ble_eq_true rfl) dL_law_748 ⟨by omega, by omega⟩) (fun H locs hw => ?_)
  have hR2 := MR.sm (sf_X10_ofItem hE) hR
  have hm2 := hm
  refine lv_istore (lv' := [(6, .int v.1), (5, .int (wc_ofItem (sp_X5_ofItem S (xs (5 * r + 1)) (xs (5 * r + 2))).1)), (4, .int (nI (5 * r))), (3, .ref (ad 90 0)), (2, .ref (ad 30 0)), (1, .ref (ad 0 0)), (0, .ref b)]) hx hb dL_law_751 hl (by decide) rfl (fun ls hl => ?_)
  refine lv_aload_n hx hb dL_law_753 rfl (lv_at hl 4 rfl) ?_
  refine k_ci0 hw (k_rV (f := 30) (o := 0) (As := []) (rest := []) ⟨hx, hb, hml, hown, hts⟩ hK hO hw (ct_X10_thrown hR2 hIv (v := v.2 40 0 0) (by unfold sp_X10_thrown; rfl) _ (wk.hA hw hA)) (cwV 0 hts (gB_V w_ml_L_87 w_im_X10_thrown w_se_X10_thrown w_in_X10 w_co_X10_thrown) rfl rfl rfl (by decide +kernel) ⟨Nat.le_trans (Nat.le_of_ble_eq_true rfl) hfr, Nat.le_trans (Nat.le_of_ble_eq_true rfl) hlo⟩) (hR2.1 30 (by decide) (by decide)) mke_30 rfl rfl hl.1 rfl (Nat.le_of_ble_eq_true rfl) dL_law_754 ⟨by omega, by omega⟩) (fun H locs hw => ?_)
  refine lv_iload hx hb dL_law_757 (lv_at hl 1 rfl) ?_
  refine lv_icmp_eq (tgt := 764) hx hb dL_law_759 (by decide) (fun _ => ?_) (fun h => absurd h1 h)
  refine lv_iload hx hb dL_law_764 (lv_at hl 1 rfl) ?_
  have fin : ∀ ls, lv_has ls 9 [(4, .int (nI (5 * r))), (3, .ref (ad 90 0)), (2, .ref (ad 30 0)), (1, .ref (ad 0 0)), (0, .ref b)] → W p l e R s m args below meth c H locs (cells + 602) (slots + 2712) Q (F0 m 1471 ls []) := fun ls hl => by
    refine kk L ad cp (wg (sp_X5_ofItem S (xs (5 * r + 1)) (xs (5 * r + 2))).1 (sp_X5_ofItem S (xs (5 * r + 1)) (xs (5 * r + 2))).2 g) H locs ls (GRW.same hR2 (MF.sm (sf_X10_ofItem hE) hF)) ?_ hl
    rw [← cK_mK] at hw
    exact hw
  refine lv_if_ne (tgt := 781) hx hb dL_law_766 (by decide) (fun _ => ?_) (fun h => ?_)
  · refine lv_goto (tgt := 1471) hx hb dL_law_781 (by decide) ?_
    refine W.widen (k := cells + 602) (n := slots + 2712) (by omega) (by omega) ?_
    exact fin _ (lv_sub hl [2, 3, 4, 5, 6] rfl)
  · obtain ⟨h3, h4⟩ := h2 h
    refine lv_aload_n hx hb dL_law_769 rfl (lv_at hl 3 rfl) ?_
    refine lv_iconst (v := 0) hx hb dL_law_770 (by decide) ?_
    refine k_lald hx hb hK hw hm2 1 ((mK_ou (Or.inr (by decide))).trans ((cK_ou (by decide)).trans up2_eq)) rfl (vp_in_nI (n := 0) (N := 1) (by decide) (by decide)) (v := v.1.toInt64) (by rw [h3, ← h4]; rfl) dL_law_771 ?_
    refine lv_iload hx hb dL_law_772 (lv_at hl 0 rfl) ?_
    refine lv_i2l (v := v.1.toInt64) hx hb dL_law_774 rfl ?_
    refine W.lcmp hx hb dL_law_775 ?_
    rw [lg_same]
    refine lv_if_eq (tgt := 781) hx hb dL_law_776 (by decide) (fun _ => ?_) (fun h => absurd rfl h)
    refine lv_goto (tgt := 1471) hx hb dL_law_781 (by decide) ?_
    refine W.widen (k := cells + 602) (n := slots + 2712) (by omega) (by omega) ?_
    exact fin _ (lv_sub hl [2, 3, 4, 5, 6] rfl)

set_option maxHeartbeats 1000000 in
theorem law_join {p : Program} {l : Launch} {e : Env} {R : Room} {s : State} {m : MethodId} {args : Array Value} {below : List Frame} {meth : Method} {c : Code} {H : Heap} {locs : List Loc} {cells slots : Nat} {Q : State → Prop} {ls : Array Slot} {D : va_G} {cI cG cJ cO : ClassId} {K0 : Nat → Nat} {A : Nat → Prop} {L : List (Nat × Nat)} {ad : Nat → Nat → Nat} {ce : Nat → Nat → va_E} {cp : Nat → Nat} {M S : (Nat → Nat → Nat → Int32)} {g : Nat → Int64} {b N r : Nat} {xs : Nat → Int32} (F : CallFix p m c cL_law 9 s args BIG RL) (hO : OW A K0 s) (hK : va_K D vwCl (ktys cI cG cJ cO) s) (hA : ∀ q, s.heap.size ≤ q → A q) (hst : l.stackTraces = false) (hfr : 200 ≤ R.frames) (hlo : 8000 ≤ R.locals) (hc : cells + 602 ≤ R.cells) (hs : slots + 2712 ≤ R.slots) (hX : va_X b N xs s s.heap) (hbl : b < s.heap.size) (hbA : ¬ A b) (hr5 : 5 * r + 5 ≤ N) (hN : N ≤ 2560) (hL : ∀ f o, cid f o = true → (f, o) ∈ L) (hLc : ∀ f o, (f, o) ∈ L → f < 30 → cid f o = true) (hI : CI S) (hR : MR M L cp) (hF : MF M L cp) (hIM : CI M) (hT : TL 70 L) (h59 : (59, 0) ∉ L) (hm : (90, 0) ∈ L) (hw : wk D A L ad (LWc cI cG cJ cO K0 ad cp ce g M S) s.heap H locs) (hl : lv_has ls 9 [(4, .int (nI (5 * r))), (3, .ref (ad 90 0)), (2, .ref (ad 30 0)), (1, .ref (ad 0 0)), (0, .ref b)]) {v : Int32 × (Nat → Nat → Nat → Int32)} (hE : sp_X10_join M (xs (5 * r + 1)) (xs (5 * r + 2)) = some v) (hIv : CI v.2) (h1 : v.2 40 0 0 = wc_join (sp_X5_join S (xs (5 * r + 1)) (xs (5 * r + 2))).1) (h2 : wc_join (sp_X5_join S (xs (5 * r + 1)) (xs (5 * r + 2))).1 = 0 → (sp_X5_join S (xs (5 * r + 1)) (xs (5 * r + 2))).1 = 0 ∧ (sp_X5_join S (xs (5 * r + 1)) (xs (5 * r + 2))).2.1 = v.1) (kk : ∀ (L2 : List (Nat × Nat)) (u2 : Nat → Nat → Nat) (cp2 : Nat → Nat) (g2 : Nat → Int64) (H1 : Heap) (locs1 : List Loc) (ls1 : Array Slot), GRW L ad v.2 (L2, u2, cp2) → wk D A L2 u2 (LWc cI cG cJ cO K0 u2 cp2 ce g2 v.2 (wS (sp_X5_join S (xs (5 * r + 1)) (xs (5 * r + 2))).1 S (sp_X5_join S (xs (5 * r + 1)) (xs (5 * r + 2))).2.2)) s.heap H1 locs1 → lv_has ls1 9 [(4, .int (nI (5 * r))), (3, .ref (u2 90 0)), (2, .ref (u2 30 0)), (1, .ref (u2 0 0)), (0, .ref b)] → W p l e R s m args below meth c H1 locs1 (cells + 602) (slots + 2712) Q (F0 m 1471 ls1 [])) : W p l e R s m args below meth c H locs cells slots Q (F0 m 784 ls []) := by
  obtain ⟨hx, hb, hml, hown, hts⟩ := id F
  refine lv_aload_n hx hb dL_law_784 rfl (lv_at hl 3 rfl) ?_
  refine lv_aload_n hx hb dL_law_785 rfl (lv_at hl 4 rfl) ?_
  refine lv_iload hx hb dL_law_786 (lv_at hl 0 rfl) ?_
  refine lv_iconst (v := 1) hx hb dL_law_788 (by decide) ?_
  refine lv_iadd hx hb dL_law_789 ?_
  rw [show nI (5 * r) + 1 = nI (5 * r + 1) from nI_add _ 1]
  refine k_scr hx hb hX hbl hbA hw (n := 5 * r + 1) (by omega) hN dL_law_790 ?_
  refine lv_aload_n hx hb dL_law_791 rfl (lv_at hl 4 rfl) ?_
  refine lv_iload hx hb dL_law_792 (lv_at hl 0 rfl) ?_
  refine lv_iconst (v := 2) hx hb dL_law_794 (by decide) ?_
  refine lv_iadd hx hb dL_law_795 ?_
  rw [show nI (5 * r) + 2 = nI (5 * r + 2) from nI_add _ 2]
  refine k_scr hx hb hX hbl hbA hw (n := 5 * r + 2) (by omega) hN dL_law_796 ?_
  refine lv_aload_n hx hb dL_law_797 rfl (lv_at hl 1 rfl) ?_
  refine k_ci hw (k_rSW (As := [.ref (ad 0 0), .int (xs (5 * r + 1)), .int (xs (5 * r + 2)), .ref (ad 90 0)]) (rest := []) ⟨hx, hb, hml, hown, hts⟩ hK hO hw (ct_L_join hL S hI (xs (5 * r + 1)) (xs (5 * r + 2)) hst hm ((mK_ou (Or.inr (by decide))).trans up2_eq) _ (wk.hA hw hA)) (vx_cwSW 4 hts (gB_SH w_ml_L_117 w_st_L_join w_in_L w_co_L_join) rfl rfl rfl (by decide +kernel) ⟨Nat.le_trans (Nat.le_of_ble_eq_true rfl) hfr, Nat.le_trans (Nat.le_of_ble_eq_true rfl) hlo⟩) rfl hl.1 rfl (Nat.le_of_ble_eq_true rfl) dL_law_798 ⟨by omega, by omega⟩) (fun H locs hw => ?_)
  rw [mK_itp (Or.inr (by decide)), cK_mK] at hw
  refine lv_istore (lv' := [(5, .int (wc_join (sp_X5_join S (xs (5 * r + 1)) (xs (5 * r + 2))).1)), (4, .int (nI (5 * r))), (3, .ref (ad 90 0)), (2, .ref (ad 30 0)), (1, .ref (ad 0 0)), (0, .ref b)]) hx hb dL_law_801 hl (by decide) rfl (fun ls hl => ?_)
  refine lv_aload_n hx hb dL_law_803 rfl (lv_at hl 3 rfl) ?_
  refine lv_aload_n hx hb dL_law_804 rfl (lv_at hl 5 rfl) ?_
  refine lv_iload hx hb dL_law_805 (lv_at hl 1 rfl) ?_
  refine lv_iconst (v := 1) hx hb dL_law_807 (by decide) ?_
  refine lv_iadd hx hb dL_law_808 ?_
  rw [show nI (5 * r) + 1 = nI (5 * r + 1) from nI_add _ 1]
  refine k_scr hx hb hX hbl hbA hw (n := 5 * r + 1) (by omega) hN dL_law_809 ?_
  refine lv_aload_n hx hb dL_law_810 rfl (lv_at hl 5 rfl) ?_
  refine lv_iload hx hb dL_law_811 (lv_at hl 1 rfl) ?_
  refine lv_iconst (v := 2) hx hb dL_law_813 (by decide) ?_
  refine lv_iadd hx hb dL_law_814 ?_
  rw [show nI (5 * r) + 2 = nI (5 * r + 2) from nI_add _ 2]
  refine k_scr hx hb hX hbl hbA hw (n := 5 * r + 2) (by omega) hN dL_law_815 ?_
  refine k_cig hw (k_rV (f := 30) (o := 0) (As := [.int (xs (5 * r + 1)), .int (xs (5 * r + 2))]) (rest := []) ⟨hx, hb, hml, hown, hts⟩ hK hO hw (ct_X10_join hR hIM (TL.le hT (by decide)) hF h59 hE _ (wk.hA hw hA)) (cwV 2 hts (gB_V w_ml_L_119 w_im_X10_join w_se_X10_join w_in_X10 w_co_X10_join) rfl rfl rfl (by decide +kernel) ⟨Nat.le_trans (Nat.le_of_ble_eq_true rfl) hfr, Nat.le_trans (Nat.le_of_ble_eq_true rfl) hlo⟩) (hR.1 30 (by decide) (by decide)) mke_30 rfl rfl hl.1 rfl (Nat.le_of_ble_eq_true rfl) dL_law_816 ⟨by omega, by omega⟩) (fun L2 u2 cp2 H locs hG hw => ?_)
  have e0 : u2 0 0 = ad 0 0 := hG.2.2.2 0 0 (hL 0 0 rfl) (Or.inl (by decide))
  have e30 : u2 30 0 = ad 30 0 := hG.2.2.2 30 0 (hR.1 30 (by decide) (by decide)) (Or.inl (by decide))
  have e90 : u2 90 0 = ad 90 0 := hG.2.2.2 90 0 hm (Or.inr (by decide))
  rw [← e0, ← e30, ← e90] at hl
  have hR2 := hG.1.1
  have hm2 := hG.2.1 _ hm
  refine lv_istore (lv' := [(6, .int v.1), (5, .int (wc_join (sp_X5_join S (xs (5 * r + 1)) (xs (5 * r + 2))).1)), (4, .int (nI (5 * r))), (3, .ref (u2 90 0)), (2, .ref (u2 30 0)), (1, .ref (u2 0 0)), (0, .ref b)]) hx hb dL_law_819 hl (by decide) rfl (fun ls hl => ?_)
  refine lv_aload_n hx hb dL_law_821 rfl (lv_at hl 4 rfl) ?_
  refine k_ci0 hw (k_rV (f := 30) (o := 0) (As := []) (rest := []) ⟨hx, hb, hml, hown, hts⟩ hK hO hw (ct_X10_thrown hR2 hIv (v := v.2 40 0 0) (by unfold sp_X10_thrown; rfl) _ (wk.hA hw hA)) (cwV 0 hts (gB_V w_ml_L_87 w_im_X10_thrown w_se_X10_thrown w_in_X10 w_co_X10_thrown) rfl rfl rfl (by decide +kernel) ⟨Nat.le_trans (Nat.le_of_ble_eq_true rfl) hfr, Nat.le_trans (Nat.le_of_ble_eq_true rfl) hlo⟩) (hR2.1 30 (by decide) (by decide)) mke_30 rfl rfl hl.1 rfl (Nat.le_of_ble_eq_true rfl) dL_law_822 ⟨by omega, by omega⟩) (fun H locs hw => ?_)
  refine lv_iload hx hb dL_law_825 (lv_at hl 1 rfl) ?_
  refine lv_icmp_eq (tgt := 832) hx hb dL_law_827 (by decide) (fun _ => ?_) (fun h => absurd h1 h)
  refine lv_iload hx hb dL_law_832 (lv_at hl 1 rfl) ?_
  have fin : ∀ ls, lv_has ls 9 [(4, .int (nI (5 * r))), (3, .ref (u2 90 0)), (2, .ref (u2 30 0)), (1, .ref (u2 0 0)), (0, .ref b)] → W p l e R s m args below meth c H locs (cells + 602) (slots + 2712) Q (F0 m 1471 ls []) := fun ls hl => by
    refine kk L2 u2 cp2 (wg (sp_X5_join S (xs (5 * r + 1)) (xs (5 * r + 2))).1 (sp_X5_join S (xs (5 * r + 1)) (xs (5 * r + 2))).2.1 g) H locs ls hG ?_ hl
    exact wk.ad2 (L0 := L) (fun f o h hf => hG.2.2.2 f o h (Or.inl hf)) hL (fun f o h hf => (hG.2.2.1 _ h).elim (fun y => hLc f o y hf) (fun y => absurd y.1 (by show ¬ 38 ≤ f; omega))) hw
  refine lv_if_ne (tgt := 849) hx hb dL_law_834 (by decide) (fun _ => ?_) (fun h => ?_)
  · refine lv_goto (tgt := 1471) hx hb dL_law_849 (by decide) ?_
    refine W.widen (k := cells + 602) (n := slots + 2712) (by omega) (by omega) ?_
    exact fin _ (lv_sub hl [2, 3, 4, 5, 6] rfl)
  · obtain ⟨h3, h4⟩ := h2 h
    refine lv_aload_n hx hb dL_law_837 rfl (lv_at hl 3 rfl) ?_
    refine lv_iconst (v := 0) hx hb dL_law_838 (by decide) ?_
    refine k_lald hx hb hK hw hm2 1 ((mK_ou (Or.inr (by decide))).trans ((cK_ou (by decide)).trans up2_eq)) rfl (vp_in_nI (n := 0) (N := 1) (by decide) (by decide)) (v := v.1.toInt64) (by rw [h3, ← h4]; rfl) dL_law_839 ?_
    refine lv_iload hx hb dL_law_840 (lv_at hl 0 rfl) ?_
    refine lv_i2l (v := v.1.toInt64) hx hb dL_law_842 rfl ?_
    refine W.lcmp hx hb dL_law_843 ?_
    rw [lg_same]
    refine lv_if_eq (tgt := 849) hx hb dL_law_844 (by decide) (fun _ => ?_) (fun h => absurd rfl h)
    refine lv_goto (tgt := 1471) hx hb dL_law_849 (by decide) ?_
    refine W.widen (k := cells + 602) (n := slots + 2712) (by omega) (by omega) ?_
    exact fin _ (lv_sub hl [2, 3, 4, 5, 6] rfl)

set_option maxHeartbeats 1000000 in
theorem law_leave {p : Program} {l : Launch} {e : Env} {R : Room} {s : State} {m : MethodId} {args : Array Value} {below : List Frame} {meth : Method} {c : Code} {H : Heap} {locs : List Loc} {cells slots : Nat} {Q : State → Prop} {ls : Array Slot} {D : va_G} {cI cG cJ cO : ClassId} {K0 : Nat → Nat} {A : Nat → Prop} {L : List (Nat × Nat)} {ad : Nat → Nat → Nat} {ce : Nat → Nat → va_E} {cp : Nat → Nat} {M S : (Nat → Nat → Nat → Int32)} {g : Nat → Int64} {b N r : Nat} {xs : Nat → Int32} (F : CallFix p m c cL_law 9 s args BIG RL) (hO : OW A K0 s) (hK : va_K D vwCl (ktys cI cG cJ cO) s) (hA : ∀ q, s.heap.size ≤ q → A q) (hst : l.stackTraces = false) (hfr : 200 ≤ R.frames) (hlo : 8000 ≤ R.locals) (hc : cells + 602 ≤ R.cells) (hs : slots + 2712 ≤ R.slots) (hX : va_X b N xs s s.heap) (hbl : b < s.heap.size) (hbA : ¬ A b) (hr5 : 5 * r + 5 ≤ N) (hN : N ≤ 2560) (hL : ∀ f o, cid f o = true → (f, o) ∈ L) (hLc : ∀ f o, (f, o) ∈ L → f < 30 → cid f o = true) (hI : CI S) (hR : MR M L cp) (hF : MF M L cp) (hIM : CI M) (hT : TL 70 L) (h59 : (59, 0) ∉ L) (hm : (90, 0) ∈ L) (hw : wk D A L ad (LWc cI cG cJ cO K0 ad cp ce g M S) s.heap H locs) (hl : lv_has ls 9 [(4, .int (nI (5 * r))), (3, .ref (ad 90 0)), (2, .ref (ad 30 0)), (1, .ref (ad 0 0)), (0, .ref b)]) {v : Int32 × (Nat → Nat → Nat → Int32)} (hE : sp_X10_leave M (xs (5 * r + 1)) = some v) (hIv : CI v.2) (h1 : v.2 40 0 0 = wc_leave (sp_X5_leave S (xs (5 * r + 1))).1) (h2 : wc_leave (sp_X5_leave S (xs (5 * r + 1))).1 = 0 → (sp_X5_leave S (xs (5 * r + 1))).1 = 0 ∧ (sp_X5_leave S (xs (5 * r + 1))).2.1 = v.1) (kk : ∀ (L2 : List (Nat × Nat)) (u2 : Nat → Nat → Nat) (cp2 : Nat → Nat) (g2 : Nat → Int64) (H1 : Heap) (locs1 : List Loc) (ls1 : Array Slot), GRW L ad v.2 (L2, u2, cp2) → wk D A L2 u2 (LWc cI cG cJ cO K0 u2 cp2 ce g2 v.2 (wS (sp_X5_leave S (xs (5 * r + 1))).1 S (sp_X5_leave S (xs (5 * r + 1))).2.2)) s.heap H1 locs1 → lv_has ls1 9 [(4, .int (nI (5 * r))), (3, .ref (u2 90 0)), (2, .ref (u2 30 0)), (1, .ref (u2 0 0)), (0, .ref b)] → W p l e R s m args below meth c H1 locs1 (cells + 602) (slots + 2712) Q (F0 m 1471 ls1 [])) : W p l e R s m args below meth c H locs cells slots Q (F0 m 852 ls []) := by
  obtain ⟨hx, hb, hml, hown, hts⟩ := id F
  refine lv_aload_n hx hb dL_law_852 rfl (lv_at hl 3 rfl) ?_
  refine lv_aload_n hx hb dL_law_853 rfl (lv_at hl 4 rfl) ?_
  refine lv_iload hx hb dL_law_854 (lv_at hl 0 rfl) ?_
  refine lv_iconst (v := 1) hx hb dL_law_856 (by decide) ?_
  refine lv_iadd hx hb dL_law_857 ?_
  rw [show nI (5 * r) + 1 = nI (5 * r + 1) from nI_add _ 1]
  refine k_scr hx hb hX hbl hbA hw (n := 5 * r + 1) (by omega) hN dL_law_858 ?_
  refine lv_aload_n hx hb dL_law_859 rfl (lv_at hl 1 rfl) ?_
  refine k_ci hw (k_rSW (As := [.ref (ad 0 0), .int (xs (5 * r + 1)), .ref (ad 90 0)]) (rest := []) ⟨hx, hb, hml, hown, hts⟩ hK hO hw (ct_L_leave hL S hI (xs (5 * r + 1)) hst hm ((mK_ou (Or.inr (by decide))).trans up2_eq) _ (wk.hA hw hA)) (vx_cwSW 3 hts (gB_SH w_ml_L_120 w_st_L_leave w_in_L w_co_L_leave) rfl rfl rfl (by decide +kernel) ⟨Nat.le_trans (Nat.le_of_ble_eq_true rfl) hfr, Nat.le_trans (Nat.le_of_ble_eq_true rfl) hlo⟩) rfl hl.1 rfl (Nat.le_of_ble_eq_true rfl) dL_law_860 ⟨by omega, by omega⟩) (fun H locs hw => ?_)
  rw [mK_itp (Or.inr (by decide)), cK_mK] at hw
  refine lv_istore (lv' := [(5, .int (wc_leave (sp_X5_leave S (xs (5 * r + 1))).1)), (4, .int (nI (5 * r))), (3, .ref (ad 90 0)), (2, .ref (ad 30 0)), (1, .ref (ad 0 0)), (0, .ref b)]) hx hb dL_law_863 hl (by decide) rfl (fun ls hl => ?_)
  refine lv_aload_n hx hb dL_law_865 rfl (lv_at hl 3 rfl) ?_
  refine lv_aload_n hx hb dL_law_866 rfl (lv_at hl 5 rfl) ?_
  refine lv_iload hx hb dL_law_867 (lv_at hl 1 rfl) ?_
  refine lv_iconst (v := 1) hx hb dL_law_869 (by decide) ?_
  refine lv_iadd hx hb dL_law_870 ?_
  rw [show nI (5 * r) + 1 = nI (5 * r + 1) from nI_add _ 1]
  refine k_scr hx hb hX hbl hbA hw (n := 5 * r + 1) (by omega) hN dL_law_871 ?_
  refine k_ci hw (k_rV (f := 30) (o := 0) (As := [.int (xs (5 * r + 1))]) (rest := []) ⟨hx, hb, hml, hown, hts⟩ hK hO hw (ct_X10_leave hR hIM (TL.le hT (by decide)) hE _ (wk.hA hw hA)) (cwV 1 hts (gB_V w_ml_L_122 w_im_X10_leave w_se_X10_leave w_in_X10 w_co_X10_leave) rfl rfl rfl (by decide +kernel) ⟨Nat.le_trans (Nat.le_of_ble_eq_true rfl) hfr, Nat.le_trans (Nat.le_of_ble_eq_true rfl) hlo⟩) (hR.1 30 (by decide) (by decide)) mke_30 rfl rfl hl.1 rfl (Nat.le_of_ble_eq_true rfl) dL_law_872 ⟨by omega, by omega⟩) (fun H locs hw => ?_)
  have hR2 := MR.sm (sf_X10_leave hE) hR
  have hm2 := hm
  refine lv_istore (lv' := [(6, .int v.1), (5, .int (wc_leave (sp_X5_leave S (xs (5 * r + 1))).1)), (4, .int (nI (5 * r))), (3, .ref (ad 90 0)), (2, .ref (ad 30 0)), (1, .ref (ad 0 0)), (0, .ref b)]) hx hb dL_law_875 hl (by decide) rfl (fun ls hl => ?_)
  refine lv_aload_n hx hb dL_law_877 rfl (lv_at hl 4 rfl) ?_
  refine k_ci0 hw (k_rV (f := 30) (o := 0) (As := []) (rest := []) ⟨hx, hb, hml, hown, hts⟩ hK hO hw (ct_X10_thrown hR2 hIv (v := v.2 40 0 0) (by unfold sp_X10_thrown; rfl) _ (wk.hA hw hA)) (cwV 0 hts (gB_V w_ml_L_87 w_im_X10_thrown w_se_X10_thrown w_in_X10 w_co_X10_thrown) rfl rfl rfl (by decide +kernel) ⟨Nat.le_trans (Nat.le_of_ble_eq_true rfl) hfr, Nat.le_trans (Nat.le_of_ble_eq_true rfl) hlo⟩) (hR2.1 30 (by decide) (by decide)) mke_30 rfl rfl hl.1 rfl (Nat.le_of_ble_eq_true rfl) dL_law_878 ⟨by omega, by omega⟩) (fun H locs hw => ?_)
  refine lv_iload hx hb dL_law_881 (lv_at hl 1 rfl) ?_
  refine lv_icmp_eq (tgt := 888) hx hb dL_law_883 (by decide) (fun _ => ?_) (fun h => absurd h1 h)
  refine lv_iload hx hb dL_law_888 (lv_at hl 1 rfl) ?_
  have fin : ∀ ls, lv_has ls 9 [(4, .int (nI (5 * r))), (3, .ref (ad 90 0)), (2, .ref (ad 30 0)), (1, .ref (ad 0 0)), (0, .ref b)] → W p l e R s m args below meth c H locs (cells + 602) (slots + 2712) Q (F0 m 1471 ls []) := fun ls hl => by
    refine kk L ad cp (wg (sp_X5_leave S (xs (5 * r + 1))).1 (sp_X5_leave S (xs (5 * r + 1))).2.1 g) H locs ls (GRW.same hR2 (MF.sm (sf_X10_leave hE) hF)) ?_ hl
    rw [← cK_mK] at hw
    exact hw
  refine lv_if_ne (tgt := 905) hx hb dL_law_890 (by decide) (fun _ => ?_) (fun h => ?_)
  · refine lv_goto (tgt := 1471) hx hb dL_law_905 (by decide) ?_
    refine W.widen (k := cells + 602) (n := slots + 2712) (by omega) (by omega) ?_
    exact fin _ (lv_sub hl [2, 3, 4, 5, 6] rfl)
  · obtain ⟨h3, h4⟩ := h2 h
    refine lv_aload_n hx hb dL_law_893 rfl (lv_at hl 3 rfl) ?_
    refine lv_iconst (v := 0) hx hb dL_law_894 (by decide) ?_
    refine k_lald hx hb hK hw hm2 1 ((mK_ou (Or.inr (by decide))).trans ((cK_ou (by decide)).trans up2_eq)) rfl (vp_in_nI (n := 0) (N := 1) (by decide) (by decide)) (v := v.1.toInt64) (by rw [h3, ← h4]; rfl) dL_law_895 ?_
    refine lv_iload hx hb dL_law_896 (lv_at hl 0 rfl) ?_
    refine lv_i2l (v := v.1.toInt64) hx hb dL_law_898 rfl ?_
    refine W.lcmp hx hb dL_law_899 ?_
    rw [lg_same]
    refine lv_if_eq (tgt := 905) hx hb dL_law_900 (by decide) (fun _ => ?_) (fun h => absurd rfl h)
    refine lv_goto (tgt := 1471) hx hb dL_law_905 (by decide) ?_
    refine W.widen (k := cells + 602) (n := slots + 2712) (by omega) (by omega) ?_
    exact fin _ (lv_sub hl [2, 3, 4, 5, 6] rfl)

set_option maxHeartbeats 1000000 in
theorem law_day {p : Program} {l : Launch} {e : Env} {R : Room} {s : State} {m : MethodId} {args : Array Value} {below : List Frame} {meth : Method} {c : Code} {H : Heap} {locs : List Loc} {cells slots : Nat} {Q : State → Prop} {ls : Array Slot} {D : va_G} {cI cG cJ cO : ClassId} {K0 : Nat → Nat} {A : Nat → Prop} {L : List (Nat × Nat)} {ad : Nat → Nat → Nat} {ce : Nat → Nat → va_E} {cp : Nat → Nat} {M S : (Nat → Nat → Nat → Int32)} {g : Nat → Int64} {b N r : Nat} {xs : Nat → Int32} (F : CallFix p m c cL_law 9 s args BIG RL) (hO : OW A K0 s) (hK : va_K D vwCl (ktys cI cG cJ cO) s) (hA : ∀ q, s.heap.size ≤ q → A q) (hst : l.stackTraces = false) (hfr : 200 ≤ R.frames) (hlo : 8000 ≤ R.locals) (hc : cells + 602 ≤ R.cells) (hs : slots + 2712 ≤ R.slots) (hX : va_X b N xs s s.heap) (hbl : b < s.heap.size) (hbA : ¬ A b) (hr5 : 5 * r + 5 ≤ N) (hN : N ≤ 2560) (hL : ∀ f o, cid f o = true → (f, o) ∈ L) (hLc : ∀ f o, (f, o) ∈ L → f < 30 → cid f o = true) (hI : CI S) (hR : MR M L cp) (hF : MF M L cp) (hIM : CI M) (hT : TL 70 L) (h59 : (59, 0) ∉ L) (hm : (90, 0) ∈ L) (hw : wk D A L ad (LWc cI cG cJ cO K0 ad cp ce g M S) s.heap H locs) (hl : lv_has ls 9 [(4, .int (nI (5 * r))), (3, .ref (ad 90 0)), (2, .ref (ad 30 0)), (1, .ref (ad 0 0)), (0, .ref b)]) {v : Int32 × (Nat → Nat → Nat → Int32)} (hE : sp_X10_day M = some v) (hIv : CI v.2) (h1 : v.2 40 0 0 = wc_day (sp_X5_day S).1) (h2 : wc_day (sp_X5_day S).1 = 0 → (sp_X5_day S).1 = 0 ∧ (sp_X5_day S).2.1 = v.1) (kk : ∀ (L2 : List (Nat × Nat)) (u2 : Nat → Nat → Nat) (cp2 : Nat → Nat) (g2 : Nat → Int64) (H1 : Heap) (locs1 : List Loc) (ls1 : Array Slot), GRW L ad v.2 (L2, u2, cp2) → wk D A L2 u2 (LWc cI cG cJ cO K0 u2 cp2 ce g2 v.2 (wS (sp_X5_day S).1 S (sp_X5_day S).2.2)) s.heap H1 locs1 → lv_has ls1 9 [(4, .int (nI (5 * r))), (3, .ref (u2 90 0)), (2, .ref (u2 30 0)), (1, .ref (u2 0 0)), (0, .ref b)] → W p l e R s m args below meth c H1 locs1 (cells + 602) (slots + 2712) Q (F0 m 1471 ls1 [])) : W p l e R s m args below meth c H locs cells slots Q (F0 m 908 ls []) := by
  obtain ⟨hx, hb, hml, hown, hts⟩ := id F
  refine lv_aload_n hx hb dL_law_908 rfl (lv_at hl 3 rfl) ?_
  refine lv_aload_n hx hb dL_law_909 rfl (lv_at hl 1 rfl) ?_
  refine k_ci hw (k_rSW (As := [.ref (ad 0 0), .ref (ad 90 0)]) (rest := []) ⟨hx, hb, hml, hown, hts⟩ hK hO hw (ct_L_day hL S hI hst hm ((mK_ou (Or.inr (by decide))).trans up2_eq) _ (wk.hA hw hA)) (vx_cwSW 2 hts (gB_SH w_ml_L_123 w_st_L_day w_in_L w_co_L_day) rfl rfl rfl (by decide +kernel) ⟨Nat.le_trans (Nat.le_of_ble_eq_true rfl) hfr, Nat.le_trans (Nat.le_of_ble_eq_true rfl) hlo⟩) rfl hl.1 rfl (Nat.le_of_ble_eq_true rfl) dL_law_910 ⟨by omega, by omega⟩) (fun H locs hw => ?_)
  rw [mK_itp (Or.inr (by decide)), cK_mK] at hw
  refine lv_istore (lv' := [(5, .int (wc_day (sp_X5_day S).1)), (4, .int (nI (5 * r))), (3, .ref (ad 90 0)), (2, .ref (ad 30 0)), (1, .ref (ad 0 0)), (0, .ref b)]) hx hb dL_law_913 hl (by decide) rfl (fun ls hl => ?_)
  refine lv_aload_n hx hb dL_law_915 rfl (lv_at hl 3 rfl) ?_
  refine k_ci hw (k_rV (f := 30) (o := 0) (As := []) (rest := []) ⟨hx, hb, hml, hown, hts⟩ hK hO hw (ct_X10_day hR hIM (TL.le hT (by decide)) hE _ (wk.hA hw hA)) (cwV 0 hts (gB_V w_ml_L_126 w_im_X10_day w_se_X10_day w_in_X10 w_co_X10_day) rfl rfl rfl (by decide +kernel) ⟨Nat.le_trans (Nat.le_of_ble_eq_true rfl) hfr, Nat.le_trans (Nat.le_of_ble_eq_true rfl) hlo⟩) (hR.1 30 (by decide) (by decide)) mke_30 rfl rfl hl.1 rfl (Nat.le_of_ble_eq_true rfl) dL_law_916 ⟨by omega, by omega⟩) (fun H locs hw => ?_)
  have hR2 := MR.sm (sf_X10_day hE) hR
  have hm2 := hm
  refine lv_istore (lv' := [(6, .int v.1), (5, .int (wc_day (sp_X5_day S).1)), (4, .int (nI (5 * r))), (3, .ref (ad 90 0)), (2, .ref (ad 30 0)), (1, .ref (ad 0 0)), (0, .ref b)]) hx hb dL_law_919 hl (by decide) rfl (fun ls hl => ?_)
  refine lv_aload_n hx hb dL_law_921 rfl (lv_at hl 4 rfl) ?_
  refine k_ci0 hw (k_rV (f := 30) (o := 0) (As := []) (rest := []) ⟨hx, hb, hml, hown, hts⟩ hK hO hw (ct_X10_thrown hR2 hIv (v := v.2 40 0 0) (by unfold sp_X10_thrown; rfl) _ (wk.hA hw hA)) (cwV 0 hts (gB_V w_ml_L_87 w_im_X10_thrown w_se_X10_thrown w_in_X10 w_co_X10_thrown) rfl rfl rfl (by decide +kernel) ⟨Nat.le_trans (Nat.le_of_ble_eq_true rfl) hfr, Nat.le_trans (Nat.le_of_ble_eq_true rfl) hlo⟩) (hR2.1 30 (by decide) (by decide)) mke_30 rfl rfl hl.1 rfl (Nat.le_of_ble_eq_true rfl) dL_law_922 ⟨by omega, by omega⟩) (fun H locs hw => ?_)
  refine lv_iload hx hb dL_law_925 (lv_at hl 1 rfl) ?_
  refine lv_icmp_eq (tgt := 932) hx hb dL_law_927 (by decide) (fun _ => ?_) (fun h => absurd h1 h)
  refine lv_iload hx hb dL_law_932 (lv_at hl 1 rfl) ?_
  have fin : ∀ ls, lv_has ls 9 [(4, .int (nI (5 * r))), (3, .ref (ad 90 0)), (2, .ref (ad 30 0)), (1, .ref (ad 0 0)), (0, .ref b)] → W p l e R s m args below meth c H locs (cells + 602) (slots + 2712) Q (F0 m 1471 ls []) := fun ls hl => by
    refine kk L ad cp (wg (sp_X5_day S).1 (sp_X5_day S).2.1 g) H locs ls (GRW.same hR2 (MF.sm (sf_X10_day hE) hF)) ?_ hl
    rw [← cK_mK] at hw
    exact hw
  refine lv_if_ne (tgt := 949) hx hb dL_law_934 (by decide) (fun _ => ?_) (fun h => ?_)
  · refine lv_goto (tgt := 1471) hx hb dL_law_949 (by decide) ?_
    refine W.widen (k := cells + 602) (n := slots + 2712) (by omega) (by omega) ?_
    exact fin _ (lv_sub hl [2, 3, 4, 5, 6] rfl)
  · obtain ⟨h3, h4⟩ := h2 h
    refine lv_aload_n hx hb dL_law_937 rfl (lv_at hl 3 rfl) ?_
    refine lv_iconst (v := 0) hx hb dL_law_938 (by decide) ?_
    refine k_lald hx hb hK hw hm2 1 ((mK_ou (Or.inr (by decide))).trans ((cK_ou (by decide)).trans up2_eq)) rfl (vp_in_nI (n := 0) (N := 1) (by decide) (by decide)) (v := v.1.toInt64) (by rw [h3, ← h4]; rfl) dL_law_939 ?_
    refine lv_iload hx hb dL_law_940 (lv_at hl 0 rfl) ?_
    refine lv_i2l (v := v.1.toInt64) hx hb dL_law_942 rfl ?_
    refine W.lcmp hx hb dL_law_943 ?_
    rw [lg_same]
    refine lv_if_eq (tgt := 949) hx hb dL_law_944 (by decide) (fun _ => ?_) (fun h => absurd rfl h)
    refine lv_goto (tgt := 1471) hx hb dL_law_949 (by decide) ?_
    refine W.widen (k := cells + 602) (n := slots + 2712) (by omega) (by omega) ?_
    exact fin _ (lv_sub hl [2, 3, 4, 5, 6] rfl)

set_option maxHeartbeats 1000000 in
theorem law_ofStep {p : Program} {l : Launch} {e : Env} {R : Room} {s : State} {m : MethodId} {args : Array Value} {below : List Frame} {meth : Method} {c : Code} {H : Heap} {locs : List Loc} {cells slots : Nat} {Q : State → Prop} {ls : Array Slot} {D : va_G} {cI cG cJ cO : ClassId} {K0 : Nat → Nat} {A : Nat → Prop} {L : List (Nat × Nat)} {ad : Nat → Nat → Nat} {ce : Nat → Nat → va_E} {cp : Nat → Nat} {M S : (Nat → Nat → Nat → Int32)} {g : Nat → Int64} {b N r : Nat} {xs : Nat → Int32} (F : CallFix p m c cL_law 9 s args BIG RL) (hO : OW A K0 s) (hK : va_K D vwCl (ktys cI cG cJ cO) s) (hA : ∀ q, s.heap.size ≤ q → A q) (hst : l.stackTraces = false) (hfr : 200 ≤ R.frames) (hlo : 8000 ≤ R.locals) (hc : cells + 602 ≤ R.cells) (hs : slots + 2712 ≤ R.slots) (hX : va_X b N xs s s.heap) (hbl : b < s.heap.size) (hbA : ¬ A b) (hr5 : 5 * r + 5 ≤ N) (hN : N ≤ 2560) (hL : ∀ f o, cid f o = true → (f, o) ∈ L) (hLc : ∀ f o, (f, o) ∈ L → f < 30 → cid f o = true) (hI : CI S) (hR : MR M L cp) (hF : MF M L cp) (hIM : CI M) (hT : TL 70 L) (h59 : (59, 0) ∉ L) (hm : (90, 0) ∈ L) (hw : wk D A L ad (LWc cI cG cJ cO K0 ad cp ce g M S) s.heap H locs) (hl : lv_has ls 9 [(4, .int (nI (5 * r))), (3, .ref (ad 90 0)), (2, .ref (ad 30 0)), (1, .ref (ad 0 0)), (0, .ref b)]) {v : Int32 × (Nat → Nat → Nat → Int32)} (hE : sp_X10_ofStep M (xs (5 * r + 1)) (xs (5 * r + 2)) (xs (5 * r + 3)) = some v) (hIv : CI v.2) (h1 : v.2 40 0 0 = wc_ofStep (sp_X5_ofStep S (xs (5 * r + 1)) (xs (5 * r + 2)) (xs (5 * r + 3))).1) (h2 : wc_ofStep (sp_X5_ofStep S (xs (5 * r + 1)) (xs (5 * r + 2)) (xs (5 * r + 3))).1 = 0 → (sp_X5_ofStep S (xs (5 * r + 1)) (xs (5 * r + 2)) (xs (5 * r + 3))).1 = 0 ∧ (sp_X5_ofStep S (xs (5 * r + 1)) (xs (5 * r + 2)) (xs (5 * r + 3))).2.1 = v.1) (kk : ∀ (L2 : List (Nat × Nat)) (u2 : Nat → Nat → Nat) (cp2 : Nat → Nat) (g2 : Nat → Int64) (H1 : Heap) (locs1 : List Loc) (ls1 : Array Slot), GRW L ad v.2 (L2, u2, cp2) → wk D A L2 u2 (LWc cI cG cJ cO K0 u2 cp2 ce g2 v.2 (wS (sp_X5_ofStep S (xs (5 * r + 1)) (xs (5 * r + 2)) (xs (5 * r + 3))).1 S (sp_X5_ofStep S (xs (5 * r + 1)) (xs (5 * r + 2)) (xs (5 * r + 3))).2.2)) s.heap H1 locs1 → lv_has ls1 9 [(4, .int (nI (5 * r))), (3, .ref (u2 90 0)), (2, .ref (u2 30 0)), (1, .ref (u2 0 0)), (0, .ref b)] → W p l e R s m args below meth c H1 locs1 (cells + 602) (slots + 2712) Q (F0 m 1471 ls1 [])) : W p l e R s m args below meth c H locs cells slots Q (F0 m 952 ls []) := by
  obtain ⟨hx, hb, hml, hown, hts⟩ := id F
  refine lv_aload_n hx hb dL_law_952 rfl (lv_at hl 3 rfl) ?_
  refine lv_aload_n hx hb dL_law_953 rfl (lv_at hl 4 rfl) ?_
  refine lv_iload hx hb dL_law_954 (lv_at hl 0 rfl) ?_
  refine lv_iconst (v := 1) hx hb dL_law_956 (by decide) ?_
  refine lv_iadd hx hb dL_law_957 ?_
  rw [show nI (5 * r) + 1 = nI (5 * r + 1) from nI_add _ 1]
  refine k_scr hx hb hX hbl hbA hw (n := 5 * r + 1) (by omega) hN dL_law_958 ?_
  refine lv_aload_n hx hb dL_law_959 rfl (lv_at hl 4 rfl) ?_
  refine lv_iload hx hb dL_law_960 (lv_at hl 0 rfl) ?_
  refine lv_iconst (v := 2) hx hb dL_law_962 (by decide) ?_
  refine lv_iadd hx hb dL_law_963 ?_
  rw [show nI (5 * r) + 2 = nI (5 * r + 2) from nI_add _ 2]
  refine k_scr hx hb hX hbl hbA hw (n := 5 * r + 2) (by omega) hN dL_law_964 ?_
  refine lv_aload_n hx hb dL_law_965 rfl (lv_at hl 4 rfl) ?_
  refine lv_iload hx hb dL_law_966 (lv_at hl 0 rfl) ?_
  refine lv_iconst (v := 3) hx hb dL_law_968 (by decide) ?_
  refine lv_iadd hx hb dL_law_969 ?_
  rw [show nI (5 * r) + 3 = nI (5 * r + 3) from nI_add _ 3]
  refine k_scr hx hb hX hbl hbA hw (n := 5 * r + 3) (by omega) hN dL_law_970 ?_
  refine lv_aload_n hx hb dL_law_971 rfl (lv_at hl 1 rfl) ?_
  refine k_ci hw (k_rSW (As := [.ref (ad 0 0), .int (xs (5 * r + 1)), .int (xs (5 * r + 2)), .int (xs (5 * r + 3)), .ref (ad 90 0)]) (rest := []) ⟨hx, hb, hml, hown, hts⟩ hK hO hw (ct_L_ofStep hL S hI (xs (5 * r + 1)) (xs (5 * r + 2)) (xs (5 * r + 3)) hst hm ((mK_ou (Or.inr (by decide))).trans up2_eq) _ (wk.hA hw hA)) (vx_cwSW 5 hts (gB_SH w_ml_L_127 w_st_L_ofStep w_in_L w_co_L_ofStep) rfl rfl rfl (by decide +kernel) ⟨Nat.le_trans (Nat.le_of_ble_eq_true rfl) hfr, Nat.le_trans (Nat.le_of_ble_eq_true rfl) hlo⟩) rfl hl.1 rfl (Nat.le_of_ble_eq_true rfl) dL_law_972 ⟨by omega, by omega⟩) (fun H locs hw => ?_)
  rw [mK_itp (Or.inr (by decide)), cK_mK] at hw
  refine lv_istore (lv' := [(5, .int (wc_ofStep (sp_X5_ofStep S (xs (5 * r + 1)) (xs (5 * r + 2)) (xs (5 * r + 3))).1)), (4, .int (nI (5 * r))), (3, .ref (ad 90 0)), (2, .ref (ad 30 0)), (1, .ref (ad 0 0)), (0, .ref b)]) hx hb dL_law_975 hl (by decide) rfl (fun ls hl => ?_)
  refine lv_aload_n hx hb dL_law_977 rfl (lv_at hl 3 rfl) ?_
  refine lv_aload_n hx hb dL_law_978 rfl (lv_at hl 5 rfl) ?_
  refine lv_iload hx hb dL_law_979 (lv_at hl 1 rfl) ?_
  refine lv_iconst (v := 1) hx hb dL_law_981 (by decide) ?_
  refine lv_iadd hx hb dL_law_982 ?_
  rw [show nI (5 * r) + 1 = nI (5 * r + 1) from nI_add _ 1]
  refine k_scr hx hb hX hbl hbA hw (n := 5 * r + 1) (by omega) hN dL_law_983 ?_
  refine lv_aload_n hx hb dL_law_984 rfl (lv_at hl 5 rfl) ?_
  refine lv_iload hx hb dL_law_985 (lv_at hl 1 rfl) ?_
  refine lv_iconst (v := 2) hx hb dL_law_987 (by decide) ?_
  refine lv_iadd hx hb dL_law_988 ?_
  rw [show nI (5 * r) + 2 = nI (5 * r + 2) from nI_add _ 2]
  refine k_scr hx hb hX hbl hbA hw (n := 5 * r + 2) (by omega) hN dL_law_989 ?_
  refine lv_aload_n hx hb dL_law_990 rfl (lv_at hl 5 rfl) ?_
  refine lv_iload hx hb dL_law_991 (lv_at hl 1 rfl) ?_
  refine lv_iconst (v := 3) hx hb dL_law_993 (by decide) ?_
  refine lv_iadd hx hb dL_law_994 ?_
  rw [show nI (5 * r) + 3 = nI (5 * r + 3) from nI_add _ 3]
  refine k_scr hx hb hX hbl hbA hw (n := 5 * r + 3) (by omega) hN dL_law_995 ?_
  refine k_ci0 hw (k_rV (f := 30) (o := 0) (As := [.int (xs (5 * r + 1)), .int (xs (5 * r + 2)), .int (xs (5 * r + 3))]) (rest := []) ⟨hx, hb, hml, hown, hts⟩ hK hO hw (ct_X10_ofStep hR hIM hE _ (wk.hA hw hA)) (cwV 3 hts (gB_V w_ml_L_129 w_im_X10_ofStep w_se_X10_ofStep w_in_X10 w_co_X10_ofStep) rfl rfl rfl (by decide +kernel) ⟨Nat.le_trans (Nat.le_of_ble_eq_true rfl) hfr, Nat.le_trans (Nat.le_of_ble_eq_true rfl) hlo⟩) (hR.1 30 (by decide) (by decide)) mke_30 rfl rfl hl.1 rfl (Nat.le_of_ble_eq_true rfl) dL_law_996 ⟨by omega, by omega⟩) (fun H locs hw => ?_)
  have hR2 := MR.sm (sf_X10_ofStep hE) hR
  have hm2 := hm
  refine lv_istore (lv' := [(6, .int v.1), (5, .int (wc_ofStep (sp_X5_ofStep S (xs (5 * r + 1)) (xs (5 * r + 2)) (xs (5 * r + 3))).1)), (4, .int (nI (5 * r))), (3, .ref (ad 90 0)), (2, .ref (ad 30 0)), (1, .ref (ad 0 0)), (0, .ref b)]) hx hb dL_law_999 hl (by decide) rfl (fun ls hl => ?_)
  refine lv_aload_n hx hb dL_law_1001 rfl (lv_at hl 4 rfl) ?_
  refine k_ci0 hw (k_rV (f := 30) (o := 0) (As := []) (rest := []) ⟨hx, hb, hml, hown, hts⟩ hK hO hw (ct_X10_thrown hR2 hIv (v := v.2 40 0 0) (by unfold sp_X10_thrown; rfl) _ (wk.hA hw hA)) (cwV 0 hts (gB_V w_ml_L_87 w_im_X10_thrown w_se_X10_thrown w_in_X10 w_co_X10_thrown) rfl rfl rfl (by decide +kernel) ⟨Nat.le_trans (Nat.le_of_ble_eq_true rfl) hfr, Nat.le_trans (Nat.le_of_ble_eq_true rfl) hlo⟩) (hR2.1 30 (by decide) (by decide)) mke_30 rfl rfl hl.1 rfl (Nat.le_of_ble_eq_true rfl) dL_law_1002 ⟨by omega, by omega⟩) (fun H locs hw => ?_)
  refine lv_iload hx hb dL_law_1005 (lv_at hl 1 rfl) ?_
  refine lv_icmp_eq (tgt := 1012) hx hb dL_law_1007 (by decide) (fun _ => ?_) (fun h => absurd h1 h)
  refine lv_iload hx hb dL_law_1012 (lv_at hl 1 rfl) ?_
  have fin : ∀ ls, lv_has ls 9 [(4, .int (nI (5 * r))), (3, .ref (ad 90 0)), (2, .ref (ad 30 0)), (1, .ref (ad 0 0)), (0, .ref b)] → W p l e R s m args below meth c H locs (cells + 602) (slots + 2712) Q (F0 m 1471 ls []) := fun ls hl => by
    refine kk L ad cp (wg (sp_X5_ofStep S (xs (5 * r + 1)) (xs (5 * r + 2)) (xs (5 * r + 3))).1 (sp_X5_ofStep S (xs (5 * r + 1)) (xs (5 * r + 2)) (xs (5 * r + 3))).2.1 g) H locs ls (GRW.same hR2 (MF.sm (sf_X10_ofStep hE) hF)) ?_ hl
    rw [← cK_mK] at hw
    exact hw
  refine lv_if_ne (tgt := 1029) hx hb dL_law_1014 (by decide) (fun _ => ?_) (fun h => ?_)
  · refine lv_goto (tgt := 1471) hx hb dL_law_1029 (by decide) ?_
    refine W.widen (k := cells + 602) (n := slots + 2712) (by omega) (by omega) ?_
    exact fin _ (lv_sub hl [2, 3, 4, 5, 6] rfl)
  · obtain ⟨h3, h4⟩ := h2 h
    refine lv_aload_n hx hb dL_law_1017 rfl (lv_at hl 3 rfl) ?_
    refine lv_iconst (v := 0) hx hb dL_law_1018 (by decide) ?_
    refine k_lald hx hb hK hw hm2 1 ((mK_ou (Or.inr (by decide))).trans ((cK_ou (by decide)).trans up2_eq)) rfl (vp_in_nI (n := 0) (N := 1) (by decide) (by decide)) (v := v.1.toInt64) (by rw [h3, ← h4]; rfl) dL_law_1019 ?_
    refine lv_iload hx hb dL_law_1020 (lv_at hl 0 rfl) ?_
    refine lv_i2l (v := v.1.toInt64) hx hb dL_law_1022 rfl ?_
    refine W.lcmp hx hb dL_law_1023 ?_
    rw [lg_same]
    refine lv_if_eq (tgt := 1029) hx hb dL_law_1024 (by decide) (fun _ => ?_) (fun h => absurd rfl h)
    refine lv_goto (tgt := 1471) hx hb dL_law_1029 (by decide) ?_
    refine W.widen (k := cells + 602) (n := slots + 2712) (by omega) (by omega) ?_
    exact fin _ (lv_sub hl [2, 3, 4, 5, 6] rfl)

set_option maxHeartbeats 1000000 in
theorem law_ofJoiner {p : Program} {l : Launch} {e : Env} {R : Room} {s : State} {m : MethodId} {args : Array Value} {below : List Frame} {meth : Method} {c : Code} {H : Heap} {locs : List Loc} {cells slots : Nat} {Q : State → Prop} {ls : Array Slot} {D : va_G} {cI cG cJ cO : ClassId} {K0 : Nat → Nat} {A : Nat → Prop} {L : List (Nat × Nat)} {ad : Nat → Nat → Nat} {ce : Nat → Nat → va_E} {cp : Nat → Nat} {M S : (Nat → Nat → Nat → Int32)} {g : Nat → Int64} {b N r : Nat} {xs : Nat → Int32} (F : CallFix p m c cL_law 9 s args BIG RL) (hO : OW A K0 s) (hK : va_K D vwCl (ktys cI cG cJ cO) s) (hA : ∀ q, s.heap.size ≤ q → A q) (hst : l.stackTraces = false) (hfr : 200 ≤ R.frames) (hlo : 8000 ≤ R.locals) (hc : cells + 602 ≤ R.cells) (hs : slots + 2712 ≤ R.slots) (hX : va_X b N xs s s.heap) (hbl : b < s.heap.size) (hbA : ¬ A b) (hr5 : 5 * r + 5 ≤ N) (hN : N ≤ 2560) (hL : ∀ f o, cid f o = true → (f, o) ∈ L) (hLc : ∀ f o, (f, o) ∈ L → f < 30 → cid f o = true) (hI : CI S) (hR : MR M L cp) (hF : MF M L cp) (hIM : CI M) (hT : TL 70 L) (h59 : (59, 0) ∉ L) (hm : (90, 0) ∈ L) (hw : wk D A L ad (LWc cI cG cJ cO K0 ad cp ce g M S) s.heap H locs) (hl : lv_has ls 9 [(4, .int (nI (5 * r))), (3, .ref (ad 90 0)), (2, .ref (ad 30 0)), (1, .ref (ad 0 0)), (0, .ref b)]) {v : Int32 × (Nat → Nat → Nat → Int32)} (hE : sp_X10_ofJoiner M (xs (5 * r + 1)) (xs (5 * r + 2)) = some v) (hIv : CI v.2) (h1 : v.2 40 0 0 = wc_ofJoiner (sp_X5_ofJoiner S (xs (5 * r + 1)) (xs (5 * r + 2))).1) (h2 : wc_ofJoiner (sp_X5_ofJoiner S (xs (5 * r + 1)) (xs (5 * r + 2))).1 = 0 → (sp_X5_ofJoiner S (xs (5 * r + 1)) (xs (5 * r + 2))).1 = 0 ∧ (sp_X5_ofJoiner S (xs (5 * r + 1)) (xs (5 * r + 2))).2.1 = v.1) (kk : ∀ (L2 : List (Nat × Nat)) (u2 : Nat → Nat → Nat) (cp2 : Nat → Nat) (g2 : Nat → Int64) (H1 : Heap) (locs1 : List Loc) (ls1 : Array Slot), GRW L ad v.2 (L2, u2, cp2) → wk D A L2 u2 (LWc cI cG cJ cO K0 u2 cp2 ce g2 v.2 (wS (sp_X5_ofJoiner S (xs (5 * r + 1)) (xs (5 * r + 2))).1 S (sp_X5_ofJoiner S (xs (5 * r + 1)) (xs (5 * r + 2))).2.2)) s.heap H1 locs1 → lv_has ls1 9 [(4, .int (nI (5 * r))), (3, .ref (u2 90 0)), (2, .ref (u2 30 0)), (1, .ref (u2 0 0)), (0, .ref b)] → W p l e R s m args below meth c H1 locs1 (cells + 602) (slots + 2712) Q (F0 m 1471 ls1 [])) : W p l e R s m args below meth c H locs cells slots Q (F0 m 1032 ls []) := by
  obtain ⟨hx, hb, hml, hown, hts⟩ := id F
  refine lv_aload_n hx hb dL_law_1032 rfl (lv_at hl 3 rfl) ?_
  refine lv_aload_n hx hb dL_law_1033 rfl (lv_at hl 4 rfl) ?_
  refine lv_iload hx hb dL_law_1034 (lv_at hl 0 rfl) ?_
  refine lv_iconst (v := 1) hx hb dL_law_1036 (by decide) ?_
  refine lv_iadd hx hb dL_law_1037 ?_
  rw [show nI (5 * r) + 1 = nI (5 * r + 1) from nI_add _ 1]
  refine k_scr hx hb hX hbl hbA hw (n := 5 * r + 1) (by omega) hN dL_law_1038 ?_
  refine lv_aload_n hx hb dL_law_1039 rfl (lv_at hl 4 rfl) ?_
  refine lv_iload hx hb dL_law_1040 (lv_at hl 0 rfl) ?_
  refine lv_iconst (v := 2) hx hb dL_law_1042 (by decide) ?_
  refine lv_iadd hx hb dL_law_1043 ?_
  rw [show nI (5 * r) + 2 = nI (5 * r + 2) from nI_add _ 2]
  refine k_scr hx hb hX hbl hbA hw (n := 5 * r + 2) (by omega) hN dL_law_1044 ?_
  refine lv_aload_n hx hb dL_law_1045 rfl (lv_at hl 1 rfl) ?_
  refine k_ci hw (k_rSW (As := [.ref (ad 0 0), .int (xs (5 * r + 1)), .int (xs (5 * r + 2)), .ref (ad 90 0)]) (rest := []) ⟨hx, hb, hml, hown, hts⟩ hK hO hw (ct_L_ofJoiner hL S hI (xs (5 * r + 1)) (xs (5 * r + 2)) hst hm ((mK_ou (Or.inr (by decide))).trans up2_eq) _ (wk.hA hw hA)) (vx_cwSW 4 hts (gB_SH w_ml_L_130 w_st_L_ofJoiner w_in_L w_co_L_ofJoiner) rfl rfl rfl (by decide +kernel) ⟨Nat.le_trans (Nat.le_of_ble_eq_true rfl) hfr, Nat.le_trans (Nat.le_of_ble_eq_true rfl) hlo⟩) rfl hl.1 rfl (Nat.le_of_ble_eq_true rfl) dL_law_1046 ⟨by omega, by omega⟩) (fun H locs hw => ?_)
  rw [mK_itp (Or.inr (by decide)), cK_mK] at hw
  refine lv_istore (lv' := [(5, .int (wc_ofJoiner (sp_X5_ofJoiner S (xs (5 * r + 1)) (xs (5 * r + 2))).1)), (4, .int (nI (5 * r))), (3, .ref (ad 90 0)), (2, .ref (ad 30 0)), (1, .ref (ad 0 0)), (0, .ref b)]) hx hb dL_law_1049 hl (by decide) rfl (fun ls hl => ?_)
  refine lv_aload_n hx hb dL_law_1051 rfl (lv_at hl 3 rfl) ?_
  refine lv_aload_n hx hb dL_law_1052 rfl (lv_at hl 5 rfl) ?_
  refine lv_iload hx hb dL_law_1053 (lv_at hl 1 rfl) ?_
  refine lv_iconst (v := 1) hx hb dL_law_1055 (by decide) ?_
  refine lv_iadd hx hb dL_law_1056 ?_
  rw [show nI (5 * r) + 1 = nI (5 * r + 1) from nI_add _ 1]
  refine k_scr hx hb hX hbl hbA hw (n := 5 * r + 1) (by omega) hN dL_law_1057 ?_
  refine lv_aload_n hx hb dL_law_1058 rfl (lv_at hl 5 rfl) ?_
  refine lv_iload hx hb dL_law_1059 (lv_at hl 1 rfl) ?_
  refine lv_iconst (v := 2) hx hb dL_law_1061 (by decide) ?_
  refine lv_iadd hx hb dL_law_1062 ?_
  rw [show nI (5 * r) + 2 = nI (5 * r + 2) from nI_add _ 2]
  refine k_scr hx hb hX hbl hbA hw (n := 5 * r + 2) (by omega) hN dL_law_1063 ?_
  refine k_ci hw (k_rV (f := 30) (o := 0) (As := [.int (xs (5 * r + 1)), .int (xs (5 * r + 2))]) (rest := []) ⟨hx, hb, hml, hown, hts⟩ hK hO hw (ct_X10_ofJoiner hR hIM (TL.le hT (by decide)) hE _ (wk.hA hw hA)) (cwV 2 hts (gB_V w_ml_L_132 w_im_X10_ofJoiner w_se_X10_ofJoiner w_in_X10 w_co_X10_ofJoiner) rfl rfl rfl (by decide +kernel) ⟨Nat.le_trans (Nat.le_of_ble_eq_true rfl) hfr, Nat.le_trans (Nat.le_of_ble_eq_true rfl) hlo⟩) (hR.1 30 (by decide) (by decide)) mke_30 rfl rfl hl.1 rfl (Nat.le_of_ble_eq_true rfl) dL_law_1064 ⟨by omega, by omega⟩) (fun H locs hw => ?_)
  have hR2 := MR.sm (sf_X10_ofJoiner hE) hR
  have hm2 := hm
  refine lv_istore (lv' := [(6, .int v.1), (5, .int (wc_ofJoiner (sp_X5_ofJoiner S (xs (5 * r + 1)) (xs (5 * r + 2))).1)), (4, .int (nI (5 * r))), (3, .ref (ad 90 0)), (2, .ref (ad 30 0)), (1, .ref (ad 0 0)), (0, .ref b)]) hx hb dL_law_1067 hl (by decide) rfl (fun ls hl => ?_)
  refine lv_aload_n hx hb dL_law_1069 rfl (lv_at hl 4 rfl) ?_
  refine k_ci0 hw (k_rV (f := 30) (o := 0) (As := []) (rest := []) ⟨hx, hb, hml, hown, hts⟩ hK hO hw (ct_X10_thrown hR2 hIv (v := v.2 40 0 0) (by unfold sp_X10_thrown; rfl) _ (wk.hA hw hA)) (cwV 0 hts (gB_V w_ml_L_87 w_im_X10_thrown w_se_X10_thrown w_in_X10 w_co_X10_thrown) rfl rfl rfl (by decide +kernel) ⟨Nat.le_trans (Nat.le_of_ble_eq_true rfl) hfr, Nat.le_trans (Nat.le_of_ble_eq_true rfl) hlo⟩) (hR2.1 30 (by decide) (by decide)) mke_30 rfl rfl hl.1 rfl (Nat.le_of_ble_eq_true rfl) dL_law_1070 ⟨by omega, by omega⟩) (fun H locs hw => ?_)
  refine lv_iload hx hb dL_law_1073 (lv_at hl 1 rfl) ?_
  refine lv_icmp_eq (tgt := 1080) hx hb dL_law_1075 (by decide) (fun _ => ?_) (fun h => absurd h1 h)
  refine lv_iload hx hb dL_law_1080 (lv_at hl 1 rfl) ?_
  have fin : ∀ ls, lv_has ls 9 [(4, .int (nI (5 * r))), (3, .ref (ad 90 0)), (2, .ref (ad 30 0)), (1, .ref (ad 0 0)), (0, .ref b)] → W p l e R s m args below meth c H locs (cells + 602) (slots + 2712) Q (F0 m 1471 ls []) := fun ls hl => by
    refine kk L ad cp (wg (sp_X5_ofJoiner S (xs (5 * r + 1)) (xs (5 * r + 2))).1 (sp_X5_ofJoiner S (xs (5 * r + 1)) (xs (5 * r + 2))).2.1 g) H locs ls (GRW.same hR2 (MF.sm (sf_X10_ofJoiner hE) hF)) ?_ hl
    rw [← cK_mK] at hw
    exact hw
  refine lv_if_ne (tgt := 1097) hx hb dL_law_1082 (by decide) (fun _ => ?_) (fun h => ?_)
  · refine lv_goto (tgt := 1471) hx hb dL_law_1097 (by decide) ?_
    refine W.widen (k := cells + 602) (n := slots + 2712) (by omega) (by omega) ?_
    exact fin _ (lv_sub hl [2, 3, 4, 5, 6] rfl)
  · obtain ⟨h3, h4⟩ := h2 h
    refine lv_aload_n hx hb dL_law_1085 rfl (lv_at hl 3 rfl) ?_
    refine lv_iconst (v := 0) hx hb dL_law_1086 (by decide) ?_
    refine k_lald hx hb hK hw hm2 1 ((mK_ou (Or.inr (by decide))).trans ((cK_ou (by decide)).trans up2_eq)) rfl (vp_in_nI (n := 0) (N := 1) (by decide) (by decide)) (v := v.1.toInt64) (by rw [h3, ← h4]; rfl) dL_law_1087 ?_
    refine lv_iload hx hb dL_law_1088 (lv_at hl 0 rfl) ?_
    refine lv_i2l (v := v.1.toInt64) hx hb dL_law_1090 rfl ?_
    refine W.lcmp hx hb dL_law_1091 ?_
    rw [lg_same]
    refine lv_if_eq (tgt := 1097) hx hb dL_law_1092 (by decide) (fun _ => ?_) (fun h => absurd rfl h)
    refine lv_goto (tgt := 1471) hx hb dL_law_1097 (by decide) ?_
    refine W.widen (k := cells + 602) (n := slots + 2712) (by omega) (by omega) ?_
    exact fin _ (lv_sub hl [2, 3, 4, 5, 6] rfl)

set_option maxHeartbeats 1000000 in
theorem law_many {p : Program} {l : Launch} {e : Env} {R : Room} {s : State} {m : MethodId} {args : Array Value} {below : List Frame} {meth : Method} {c : Code} {H : Heap} {locs : List Loc} {cells slots : Nat} {Q : State → Prop} {ls : Array Slot} {D : va_G} {cI cG cJ cO : ClassId} {K0 : Nat → Nat} {A : Nat → Prop} {L : List (Nat × Nat)} {ad : Nat → Nat → Nat} {ce : Nat → Nat → va_E} {cp : Nat → Nat} {M S : (Nat → Nat → Nat → Int32)} {g : Nat → Int64} {b N r : Nat} {xs : Nat → Int32} (F : CallFix p m c cL_law 9 s args BIG RL) (hO : OW A K0 s) (hK : va_K D vwCl (ktys cI cG cJ cO) s) (hA : ∀ q, s.heap.size ≤ q → A q) (hst : l.stackTraces = false) (hfr : 200 ≤ R.frames) (hlo : 8000 ≤ R.locals) (hc : cells + 602 ≤ R.cells) (hs : slots + 2712 ≤ R.slots) (hX : va_X b N xs s s.heap) (hbl : b < s.heap.size) (hbA : ¬ A b) (hr5 : 5 * r + 5 ≤ N) (hN : N ≤ 2560) (hL : ∀ f o, cid f o = true → (f, o) ∈ L) (hLc : ∀ f o, (f, o) ∈ L → f < 30 → cid f o = true) (hI : CI S) (hR : MR M L cp) (hF : MF M L cp) (hIM : CI M) (hT : TL 70 L) (h59 : (59, 0) ∉ L) (hm : (90, 0) ∈ L) (hw : wk D A L ad (LWc cI cG cJ cO K0 ad cp ce g M S) s.heap H locs) (hl : lv_has ls 9 [(4, .int (nI (5 * r))), (3, .ref (ad 90 0)), (2, .ref (ad 30 0)), (1, .ref (ad 0 0)), (0, .ref b)]) {v : Int32 × (Nat → Nat → Nat → Int32)} (hE : sp_X10_many M (xs (5 * r + 1)) = some v) (hIv : CI v.2) (h1 : v.2 40 0 0 = wc_many (sp_X5_many S (xs (5 * r + 1))).1) (h2 : wc_many (sp_X5_many S (xs (5 * r + 1))).1 = 0 → (sp_X5_many S (xs (5 * r + 1))).1 = 0 ∧ (sp_X5_many S (xs (5 * r + 1))).2 = v.1) (kk : ∀ (L2 : List (Nat × Nat)) (u2 : Nat → Nat → Nat) (cp2 : Nat → Nat) (g2 : Nat → Int64) (H1 : Heap) (locs1 : List Loc) (ls1 : Array Slot), GRW L ad v.2 (L2, u2, cp2) → wk D A L2 u2 (LWc cI cG cJ cO K0 u2 cp2 ce g2 v.2 (wS (sp_X5_many S (xs (5 * r + 1))).1 S S)) s.heap H1 locs1 → lv_has ls1 9 [(4, .int (nI (5 * r))), (3, .ref (u2 90 0)), (2, .ref (u2 30 0)), (1, .ref (u2 0 0)), (0, .ref b)] → W p l e R s m args below meth c H1 locs1 (cells + 602) (slots + 2712) Q (F0 m 1471 ls1 [])) : W p l e R s m args below meth c H locs cells slots Q (F0 m 1100 ls []) := by
  obtain ⟨hx, hb, hml, hown, hts⟩ := id F
  refine lv_aload_n hx hb dL_law_1100 rfl (lv_at hl 3 rfl) ?_
  refine lv_aload_n hx hb dL_law_1101 rfl (lv_at hl 4 rfl) ?_
  refine lv_iload hx hb dL_law_1102 (lv_at hl 0 rfl) ?_
  refine lv_iconst (v := 1) hx hb dL_law_1104 (by decide) ?_
  refine lv_iadd hx hb dL_law_1105 ?_
  rw [show nI (5 * r) + 1 = nI (5 * r + 1) from nI_add _ 1]
  refine k_scr hx hb hX hbl hbA hw (n := 5 * r + 1) (by omega) hN dL_law_1106 ?_
  refine lv_aload_n hx hb dL_law_1107 rfl (lv_at hl 1 rfl) ?_
  refine k_ci hw (k_rSW (As := [.ref (ad 0 0), .int (xs (5 * r + 1)), .ref (ad 90 0)]) (rest := []) ⟨hx, hb, hml, hown, hts⟩ hK hO hw (ct_L_many hL S hI (xs (5 * r + 1)) hst hm ((mK_ou (Or.inr (by decide))).trans up2_eq) _ (wk.hA hw hA)) (vx_cwSW 3 hts (gB_SH w_ml_L_133 w_st_L_many w_in_L w_co_L_many) rfl rfl rfl (by decide +kernel) ⟨Nat.le_trans (Nat.le_of_ble_eq_true rfl) hfr, Nat.le_trans (Nat.le_of_ble_eq_true rfl) hlo⟩) rfl hl.1 rfl (Nat.le_of_ble_eq_true rfl) dL_law_1108 ⟨by omega, by omega⟩) (fun H locs hw => ?_)
  rw [mK_itp (Or.inr (by decide)), cK_mK] at hw
  refine lv_istore (lv' := [(5, .int (wc_many (sp_X5_many S (xs (5 * r + 1))).1)), (4, .int (nI (5 * r))), (3, .ref (ad 90 0)), (2, .ref (ad 30 0)), (1, .ref (ad 0 0)), (0, .ref b)]) hx hb dL_law_1111 hl (by decide) rfl (fun ls hl => ?_)
  refine lv_aload_n hx hb dL_law_1113 rfl (lv_at hl 3 rfl) ?_
  refine lv_aload_n hx hb dL_law_1114 rfl (lv_at hl 5 rfl) ?_
  refine lv_iload hx hb dL_law_1115 (lv_at hl 1 rfl) ?_
  refine lv_iconst (v := 1) hx hb dL_law_1117 (by decide) ?_
  refine lv_iadd hx hb dL_law_1118 ?_
  rw [show nI (5 * r) + 1 = nI (5 * r + 1) from nI_add _ 1]
  refine k_scr hx hb hX hbl hbA hw (n := 5 * r + 1) (by omega) hN dL_law_1119 ?_
  refine k_ci hw (k_rV (f := 30) (o := 0) (As := [.int (xs (5 * r + 1))]) (rest := []) ⟨hx, hb, hml, hown, hts⟩ hK hO hw (ct_X10_many hR hIM (TL.le hT (by decide)) hE _ (wk.hA hw hA)) (cwV 1 hts (gB_V w_ml_L_135 w_im_X10_many w_se_X10_many w_in_X10 w_co_X10_many) rfl rfl rfl (by decide +kernel) ⟨Nat.le_trans (Nat.le_of_ble_eq_true rfl) hfr, Nat.le_trans (Nat.le_of_ble_eq_true rfl) hlo⟩) (hR.1 30 (by decide) (by decide)) mke_30 rfl rfl hl.1 rfl (Nat.le_of_ble_eq_true rfl) dL_law_1120 ⟨by omega, by omega⟩) (fun H locs hw => ?_)
  have hR2 := MR.sm (sf_X10_many hE) hR
  have hm2 := hm
  refine lv_istore (lv' := [(6, .int v.1), (5, .int (wc_many (sp_X5_many S (xs (5 * r + 1))).1)), (4, .int (nI (5 * r))), (3, .ref (ad 90 0)), (2, .ref (ad 30 0)), (1, .ref (ad 0 0)), (0, .ref b)]) hx hb dL_law_1123 hl (by decide) rfl (fun ls hl => ?_)
  refine lv_aload_n hx hb dL_law_1125 rfl (lv_at hl 4 rfl) ?_
  refine k_ci0 hw (k_rV (f := 30) (o := 0) (As := []) (rest := []) ⟨hx, hb, hml, hown, hts⟩ hK hO hw (ct_X10_thrown hR2 hIv (v := v.2 40 0 0) (by unfold sp_X10_thrown; rfl) _ (wk.hA hw hA)) (cwV 0 hts (gB_V w_ml_L_87 w_im_X10_thrown w_se_X10_thrown w_in_X10 w_co_X10_thrown) rfl rfl rfl (by decide +kernel) ⟨Nat.le_trans (Nat.le_of_ble_eq_true rfl) hfr, Nat.le_trans (Nat.le_of_ble_eq_true rfl) hlo⟩) (hR2.1 30 (by decide) (by decide)) mke_30 rfl rfl hl.1 rfl (Nat.le_of_ble_eq_true rfl) dL_law_1126 ⟨by omega, by omega⟩) (fun H locs hw => ?_)
  refine lv_iload hx hb dL_law_1129 (lv_at hl 1 rfl) ?_
  refine lv_icmp_eq (tgt := 1136) hx hb dL_law_1131 (by decide) (fun _ => ?_) (fun h => absurd h1 h)
  refine lv_iload hx hb dL_law_1136 (lv_at hl 1 rfl) ?_
  have fin : ∀ ls, lv_has ls 9 [(4, .int (nI (5 * r))), (3, .ref (ad 90 0)), (2, .ref (ad 30 0)), (1, .ref (ad 0 0)), (0, .ref b)] → W p l e R s m args below meth c H locs (cells + 602) (slots + 2712) Q (F0 m 1471 ls []) := fun ls hl => by
    refine kk L ad cp (wg (sp_X5_many S (xs (5 * r + 1))).1 (sp_X5_many S (xs (5 * r + 1))).2 g) H locs ls (GRW.same hR2 (MF.sm (sf_X10_many hE) hF)) ?_ hl
    rw [← cK_mK] at hw
    exact hw
  refine lv_if_ne (tgt := 1153) hx hb dL_law_1138 (by decide) (fun _ => ?_) (fun h => ?_)
  · refine lv_goto (tgt := 1471) hx hb dL_law_1153 (by decide) ?_
    refine W.widen (k := cells + 602) (n := slots + 2712) (by omega) (by omega) ?_
    exact fin _ (lv_sub hl [2, 3, 4, 5, 6] rfl)
  · obtain ⟨h3, h4⟩ := h2 h
    refine lv_aload_n hx hb dL_law_1141 rfl (lv_at hl 3 rfl) ?_
    refine lv_iconst (v := 0) hx hb dL_law_1142 (by decide) ?_
    refine k_lald hx hb hK hw hm2 1 ((mK_ou (Or.inr (by decide))).trans ((cK_ou (by decide)).trans up2_eq)) rfl (vp_in_nI (n := 0) (N := 1) (by decide) (by decide)) (v := v.1.toInt64) (by rw [h3, ← h4]; rfl) dL_law_1143 ?_
    refine lv_iload hx hb dL_law_1144 (lv_at hl 0 rfl) ?_
    refine lv_i2l (v := v.1.toInt64) hx hb dL_law_1146 rfl ?_
    refine W.lcmp hx hb dL_law_1147 ?_
    rw [lg_same]
    refine lv_if_eq (tgt := 1153) hx hb dL_law_1148 (by decide) (fun _ => ?_) (fun h => absurd rfl h)
    refine lv_goto (tgt := 1471) hx hb dL_law_1153 (by decide) ?_
    refine W.widen (k := cells + 602) (n := slots + 2712) (by omega) (by omega) ?_
    exact fin _ (lv_sub hl [2, 3, 4, 5, 6] rfl)

set_option maxHeartbeats 1000000 in
theorem law_rightOn {p : Program} {l : Launch} {e : Env} {R : Room} {s : State} {m : MethodId} {args : Array Value} {below : List Frame} {meth : Method} {c : Code} {H : Heap} {locs : List Loc} {cells slots : Nat} {Q : State → Prop} {ls : Array Slot} {D : va_G} {cI cG cJ cO : ClassId} {K0 : Nat → Nat} {A : Nat → Prop} {L : List (Nat × Nat)} {ad : Nat → Nat → Nat} {ce : Nat → Nat → va_E} {cp : Nat → Nat} {M S : (Nat → Nat → Nat → Int32)} {g : Nat → Int64} {b N r : Nat} {xs : Nat → Int32} (F : CallFix p m c cL_law 9 s args BIG RL) (hO : OW A K0 s) (hK : va_K D vwCl (ktys cI cG cJ cO) s) (hA : ∀ q, s.heap.size ≤ q → A q) (hst : l.stackTraces = false) (hfr : 200 ≤ R.frames) (hlo : 8000 ≤ R.locals) (hc : cells + 602 ≤ R.cells) (hs : slots + 2712 ≤ R.slots) (hX : va_X b N xs s s.heap) (hbl : b < s.heap.size) (hbA : ¬ A b) (hr5 : 5 * r + 5 ≤ N) (hN : N ≤ 2560) (hL : ∀ f o, cid f o = true → (f, o) ∈ L) (hLc : ∀ f o, (f, o) ∈ L → f < 30 → cid f o = true) (hI : CI S) (hR : MR M L cp) (hF : MF M L cp) (hIM : CI M) (hT : TL 70 L) (h59 : (59, 0) ∉ L) (hm : (90, 0) ∈ L) (hw : wk D A L ad (LWc cI cG cJ cO K0 ad cp ce g M S) s.heap H locs) (hl : lv_has ls 9 [(4, .int (nI (5 * r))), (3, .ref (ad 90 0)), (2, .ref (ad 30 0)), (1, .ref (ad 0 0)), (0, .ref b)]) {v : Int32 × (Nat → Nat → Nat → Int32)} (hE : sp_X10_rightOn M (xs (5 * r + 1)) (xs (5 * r + 2)) = some v) (hIv : CI v.2) (h1 : v.2 40 0 0 = wc_rightOn (sp_X5_rightOn S (xs (5 * r + 1)) (xs (5 * r + 2))).1) (h2 : wc_rightOn (sp_X5_rightOn S (xs (5 * r + 1)) (xs (5 * r + 2))).1 = 0 → (sp_X5_rightOn S (xs (5 * r + 1)) (xs (5 * r + 2))).1 = 0 ∧ (sp_X5_rightOn S (xs (5 * r + 1)) (xs (5 * r + 2))).2.1 = v.1) (kk : ∀ (L2 : List (Nat × Nat)) (u2 : Nat → Nat → Nat) (cp2 : Nat → Nat) (g2 : Nat → Int64) (H1 : Heap) (locs1 : List Loc) (ls1 : Array Slot), GRW L ad v.2 (L2, u2, cp2) → wk D A L2 u2 (LWc cI cG cJ cO K0 u2 cp2 ce g2 v.2 (wS (sp_X5_rightOn S (xs (5 * r + 1)) (xs (5 * r + 2))).1 S (sp_X5_rightOn S (xs (5 * r + 1)) (xs (5 * r + 2))).2.2)) s.heap H1 locs1 → lv_has ls1 9 [(4, .int (nI (5 * r))), (3, .ref (u2 90 0)), (2, .ref (u2 30 0)), (1, .ref (u2 0 0)), (0, .ref b)] → W p l e R s m args below meth c H1 locs1 (cells + 602) (slots + 2712) Q (F0 m 1471 ls1 [])) : W p l e R s m args below meth c H locs cells slots Q (F0 m 1197 ls []) := by
  obtain ⟨hx, hb, hml, hown, hts⟩ := id F
  refine lv_aload_n hx hb dL_law_1197 rfl (lv_at hl 3 rfl) ?_
  refine lv_aload_n hx hb dL_law_1198 rfl (lv_at hl 4 rfl) ?_
  refine lv_iload hx hb dL_law_1199 (lv_at hl 0 rfl) ?_
  refine lv_iconst (v := 1) hx hb dL_law_1201 (by decide) ?_
  refine lv_iadd hx hb dL_law_1202 ?_
  rw [show nI (5 * r) + 1 = nI (5 * r + 1) from nI_add _ 1]
  refine k_scr hx hb hX hbl hbA hw (n := 5 * r + 1) (by omega) hN dL_law_1203 ?_
  refine lv_aload_n hx hb dL_law_1204 rfl (lv_at hl 4 rfl) ?_
  refine lv_iload hx hb dL_law_1205 (lv_at hl 0 rfl) ?_
  refine lv_iconst (v := 2) hx hb dL_law_1207 (by decide) ?_
  refine lv_iadd hx hb dL_law_1208 ?_
  rw [show nI (5 * r) + 2 = nI (5 * r + 2) from nI_add _ 2]
  refine k_scr hx hb hX hbl hbA hw (n := 5 * r + 2) (by omega) hN dL_law_1209 ?_
  refine lv_aload_n hx hb dL_law_1210 rfl (lv_at hl 1 rfl) ?_
  refine k_ci hw (k_rSW (As := [.ref (ad 0 0), .int (xs (5 * r + 1)), .int (xs (5 * r + 2)), .ref (ad 90 0)]) (rest := []) ⟨hx, hb, hml, hown, hts⟩ hK hO hw (ct_L_rightOn hL S hI (xs (5 * r + 1)) (xs (5 * r + 2)) hst hm ((mK_ou (Or.inr (by decide))).trans up2_eq) _ (wk.hA hw hA)) (vx_cwSW 4 hts (gB_SH w_ml_L_141 w_st_L_rightOn w_in_L w_co_L_rightOn) rfl rfl rfl (by decide +kernel) ⟨Nat.le_trans (Nat.le_of_ble_eq_true rfl) hfr, Nat.le_trans (Nat.le_of_ble_eq_true rfl) hlo⟩) rfl hl.1 rfl (Nat.le_of_ble_eq_true rfl) dL_law_1211 ⟨by omega, by omega⟩) (fun H locs hw => ?_)
  rw [mK_itp (Or.inr (by decide)), cK_mK] at hw
  refine lv_istore (lv' := [(5, .int (wc_rightOn (sp_X5_rightOn S (xs (5 * r + 1)) (xs (5 * r + 2))).1)), (4, .int (nI (5 * r))), (3, .ref (ad 90 0)), (2, .ref (ad 30 0)), (1, .ref (ad 0 0)), (0, .ref b)]) hx hb dL_law_1214 hl (by decide) rfl (fun ls hl => ?_)
  refine lv_aload_n hx hb dL_law_1216 rfl (lv_at hl 3 rfl) ?_
  refine lv_aload_n hx hb dL_law_1217 rfl (lv_at hl 5 rfl) ?_
  refine lv_iload hx hb dL_law_1218 (lv_at hl 1 rfl) ?_
  refine lv_iconst (v := 1) hx hb dL_law_1220 (by decide) ?_
  refine lv_iadd hx hb dL_law_1221 ?_
  rw [show nI (5 * r) + 1 = nI (5 * r + 1) from nI_add _ 1]
  refine k_scr hx hb hX hbl hbA hw (n := 5 * r + 1) (by omega) hN dL_law_1222 ?_
  refine lv_aload_n hx hb dL_law_1223 rfl (lv_at hl 5 rfl) ?_
  refine lv_iload hx hb dL_law_1224 (lv_at hl 1 rfl) ?_
  refine lv_iconst (v := 2) hx hb dL_law_1226 (by decide) ?_
  refine lv_iadd hx hb dL_law_1227 ?_
  rw [show nI (5 * r) + 2 = nI (5 * r + 2) from nI_add _ 2]
  refine k_scr hx hb hX hbl hbA hw (n := 5 * r + 2) (by omega) hN dL_law_1228 ?_
  refine k_ci0 hw (k_rV (f := 30) (o := 0) (As := [.int (xs (5 * r + 1)), .int (xs (5 * r + 2))]) (rest := []) ⟨hx, hb, hml, hown, hts⟩ hK hO hw (ct_X10_rightOn hR hIM hE _ (wk.hA hw hA)) (cwV 2 hts (gB_V w_ml_L_143 w_im_X10_rightOn w_se_X10_rightOn w_in_X10 w_co_X10_rightOn) rfl rfl rfl (by decide +kernel) ⟨Nat.le_trans (Nat.le_of_ble_eq_true rfl) hfr, Nat.le_trans (Nat.le_of_ble_eq_true rfl) hlo⟩) (hR.1 30 (by decide) (by decide)) mke_30 rfl rfl hl.1 rfl (Nat.le_of_ble_eq_true rfl) dL_law_1229 ⟨by omega, by omega⟩) (fun H locs hw => ?_)
  have hR2 := MR.sm (sf_X10_rightOn hE) hR
  have hm2 := hm
  refine lv_istore (lv' := [(6, .int v.1), (5, .int (wc_rightOn (sp_X5_rightOn S (xs (5 * r + 1)) (xs (5 * r + 2))).1)), (4, .int (nI (5 * r))), (3, .ref (ad 90 0)), (2, .ref (ad 30 0)), (1, .ref (ad 0 0)), (0, .ref b)]) hx hb dL_law_1232 hl (by decide) rfl (fun ls hl => ?_)
  refine lv_aload_n hx hb dL_law_1234 rfl (lv_at hl 4 rfl) ?_
  refine k_ci0 hw (k_rV (f := 30) (o := 0) (As := []) (rest := []) ⟨hx, hb, hml, hown, hts⟩ hK hO hw (ct_X10_thrown hR2 hIv (v := v.2 40 0 0) (by unfold sp_X10_thrown; rfl) _ (wk.hA hw hA)) (cwV 0 hts (gB_V w_ml_L_87 w_im_X10_thrown w_se_X10_thrown w_in_X10 w_co_X10_thrown) rfl rfl rfl (by decide +kernel) ⟨Nat.le_trans (Nat.le_of_ble_eq_true rfl) hfr, Nat.le_trans (Nat.le_of_ble_eq_true rfl) hlo⟩) (hR2.1 30 (by decide) (by decide)) mke_30 rfl rfl hl.1 rfl (Nat.le_of_ble_eq_true rfl) dL_law_1235 ⟨by omega, by omega⟩) (fun H locs hw => ?_)
  refine lv_iload hx hb dL_law_1238 (lv_at hl 1 rfl) ?_
  refine lv_icmp_eq (tgt := 1245) hx hb dL_law_1240 (by decide) (fun _ => ?_) (fun h => absurd h1 h)
  refine lv_iload hx hb dL_law_1245 (lv_at hl 1 rfl) ?_
  have fin : ∀ ls, lv_has ls 9 [(4, .int (nI (5 * r))), (3, .ref (ad 90 0)), (2, .ref (ad 30 0)), (1, .ref (ad 0 0)), (0, .ref b)] → W p l e R s m args below meth c H locs (cells + 602) (slots + 2712) Q (F0 m 1471 ls []) := fun ls hl => by
    refine kk L ad cp (wg (sp_X5_rightOn S (xs (5 * r + 1)) (xs (5 * r + 2))).1 (sp_X5_rightOn S (xs (5 * r + 1)) (xs (5 * r + 2))).2.1 g) H locs ls (GRW.same hR2 (MF.sm (sf_X10_rightOn hE) hF)) ?_ hl
    rw [← cK_mK] at hw
    exact hw
  refine lv_if_ne (tgt := 1262) hx hb dL_law_1247 (by decide) (fun _ => ?_) (fun h => ?_)
  · refine lv_goto (tgt := 1471) hx hb dL_law_1262 (by decide) ?_
    refine W.widen (k := cells + 602) (n := slots + 2712) (by omega) (by omega) ?_
    exact fin _ (lv_sub hl [2, 3, 4, 5, 6] rfl)
  · obtain ⟨h3, h4⟩ := h2 h
    refine lv_aload_n hx hb dL_law_1250 rfl (lv_at hl 3 rfl) ?_
    refine lv_iconst (v := 0) hx hb dL_law_1251 (by decide) ?_
    refine k_lald hx hb hK hw hm2 1 ((mK_ou (Or.inr (by decide))).trans ((cK_ou (by decide)).trans up2_eq)) rfl (vp_in_nI (n := 0) (N := 1) (by decide) (by decide)) (v := v.1.toInt64) (by rw [h3, ← h4]; rfl) dL_law_1252 ?_
    refine lv_iload hx hb dL_law_1253 (lv_at hl 0 rfl) ?_
    refine lv_i2l (v := v.1.toInt64) hx hb dL_law_1255 rfl ?_
    refine W.lcmp hx hb dL_law_1256 ?_
    rw [lg_same]
    refine lv_if_eq (tgt := 1262) hx hb dL_law_1257 (by decide) (fun _ => ?_) (fun h => absurd rfl h)
    refine lv_goto (tgt := 1471) hx hb dL_law_1262 (by decide) ?_
    refine W.widen (k := cells + 602) (n := slots + 2712) (by omega) (by omega) ?_
    exact fin _ (lv_sub hl [2, 3, 4, 5, 6] rfl)

set_option maxHeartbeats 1000000 in
theorem law_shiftBy {p : Program} {l : Launch} {e : Env} {R : Room} {s : State} {m : MethodId} {args : Array Value} {below : List Frame} {meth : Method} {c : Code} {H : Heap} {locs : List Loc} {cells slots : Nat} {Q : State → Prop} {ls : Array Slot} {D : va_G} {cI cG cJ cO : ClassId} {K0 : Nat → Nat} {A : Nat → Prop} {L : List (Nat × Nat)} {ad : Nat → Nat → Nat} {ce : Nat → Nat → va_E} {cp : Nat → Nat} {M S : (Nat → Nat → Nat → Int32)} {g : Nat → Int64} {b N r : Nat} {xs : Nat → Int32} (F : CallFix p m c cL_law 9 s args BIG RL) (hO : OW A K0 s) (hK : va_K D vwCl (ktys cI cG cJ cO) s) (hA : ∀ q, s.heap.size ≤ q → A q) (hst : l.stackTraces = false) (hfr : 200 ≤ R.frames) (hlo : 8000 ≤ R.locals) (hc : cells + 602 ≤ R.cells) (hs : slots + 2712 ≤ R.slots) (hX : va_X b N xs s s.heap) (hbl : b < s.heap.size) (hbA : ¬ A b) (hr5 : 5 * r + 5 ≤ N) (hN : N ≤ 2560) (hL : ∀ f o, cid f o = true → (f, o) ∈ L) (hLc : ∀ f o, (f, o) ∈ L → f < 30 → cid f o = true) (hI : CI S) (hR : MR M L cp) (hF : MF M L cp) (hIM : CI M) (hT : TL 70 L) (h59 : (59, 0) ∉ L) (hm : (90, 0) ∈ L) (hw : wk D A L ad (LWc cI cG cJ cO K0 ad cp ce g M S) s.heap H locs) (hl : lv_has ls 9 [(4, .int (nI (5 * r))), (3, .ref (ad 90 0)), (2, .ref (ad 30 0)), (1, .ref (ad 0 0)), (0, .ref b)]) {v : Int32 × (Nat → Nat → Nat → Int32)} (hE : sp_X10_shiftBy M (xs (5 * r + 1)) (xs (5 * r + 2)) = some v) (hIv : CI v.2) (h1 : v.2 40 0 0 = wc_shiftBy (sp_X5_shiftBy S (xs (5 * r + 1)) (xs (5 * r + 2))).1) (h2 : wc_shiftBy (sp_X5_shiftBy S (xs (5 * r + 1)) (xs (5 * r + 2))).1 = 0 → (sp_X5_shiftBy S (xs (5 * r + 1)) (xs (5 * r + 2))).1 = 0 ∧ (sp_X5_shiftBy S (xs (5 * r + 1)) (xs (5 * r + 2))).2.1 = v.1) (kk : ∀ (L2 : List (Nat × Nat)) (u2 : Nat → Nat → Nat) (cp2 : Nat → Nat) (g2 : Nat → Int64) (H1 : Heap) (locs1 : List Loc) (ls1 : Array Slot), GRW L ad v.2 (L2, u2, cp2) → wk D A L2 u2 (LWc cI cG cJ cO K0 u2 cp2 ce g2 v.2 (wS (sp_X5_shiftBy S (xs (5 * r + 1)) (xs (5 * r + 2))).1 S (sp_X5_shiftBy S (xs (5 * r + 1)) (xs (5 * r + 2))).2.2)) s.heap H1 locs1 → lv_has ls1 9 [(4, .int (nI (5 * r))), (3, .ref (u2 90 0)), (2, .ref (u2 30 0)), (1, .ref (u2 0 0)), (0, .ref b)] → W p l e R s m args below meth c H1 locs1 (cells + 602) (slots + 2712) Q (F0 m 1471 ls1 [])) : W p l e R s m args below meth c H locs cells slots Q (F0 m 1265 ls []) := by
  obtain ⟨hx, hb, hml, hown, hts⟩ := id F
  refine lv_aload_n hx hb dL_law_1265 rfl (lv_at hl 3 rfl) ?_
  refine lv_aload_n hx hb dL_law_1266 rfl (lv_at hl 4 rfl) ?_
  refine lv_iload hx hb dL_law_1267 (lv_at hl 0 rfl) ?_
  refine lv_iconst (v := 1) hx hb dL_law_1269 (by decide) ?_
  refine lv_iadd hx hb dL_law_1270 ?_
  rw [show nI (5 * r) + 1 = nI (5 * r + 1) from nI_add _ 1]
  refine k_scr hx hb hX hbl hbA hw (n := 5 * r + 1) (by omega) hN dL_law_1271 ?_
  refine lv_aload_n hx hb dL_law_1272 rfl (lv_at hl 4 rfl) ?_
  refine lv_iload hx hb dL_law_1273 (lv_at hl 0 rfl) ?_
  refine lv_iconst (v := 2) hx hb dL_law_1275 (by decide) ?_
  refine lv_iadd hx hb dL_law_1276 ?_
  rw [show nI (5 * r) + 2 = nI (5 * r + 2) from nI_add _ 2]
  refine k_scr hx hb hX hbl hbA hw (n := 5 * r + 2) (by omega) hN dL_law_1277 ?_
  refine lv_aload_n hx hb dL_law_1278 rfl (lv_at hl 1 rfl) ?_
  refine k_ci hw (k_rSW (As := [.ref (ad 0 0), .int (xs (5 * r + 1)), .int (xs (5 * r + 2)), .ref (ad 90 0)]) (rest := []) ⟨hx, hb, hml, hown, hts⟩ hK hO hw (ct_L_shiftBy hL S hI (xs (5 * r + 1)) (xs (5 * r + 2)) hst hm ((mK_ou (Or.inr (by decide))).trans up2_eq) _ (wk.hA hw hA)) (vx_cwSW 4 hts (gB_SH w_ml_L_144 w_st_L_shiftBy w_in_L w_co_L_shiftBy) rfl rfl rfl (by decide +kernel) ⟨Nat.le_trans (Nat.le_of_ble_eq_true rfl) hfr, Nat.le_trans (Nat.le_of_ble_eq_true rfl) hlo⟩) rfl hl.1 rfl (Nat.le_of_ble_eq_true rfl) dL_law_1279 ⟨by omega, by omega⟩) (fun H locs hw => ?_)
  rw [mK_itp (Or.inr (by decide)), cK_mK] at hw
  refine lv_istore (lv' := [(5, .int (wc_shiftBy (sp_X5_shiftBy S (xs (5 * r + 1)) (xs (5 * r + 2))).1)), (4, .int (nI (5 * r))), (3, .ref (ad 90 0)), (2, .ref (ad 30 0)), (1, .ref (ad 0 0)), (0, .ref b)]) hx hb dL_law_1282 hl (by decide) rfl (fun ls hl => ?_)
  refine lv_aload_n hx hb dL_law_1284 rfl (lv_at hl 3 rfl) ?_
  refine lv_aload_n hx hb dL_law_1285 rfl (lv_at hl 5 rfl) ?_
  refine lv_iload hx hb dL_law_1286 (lv_at hl 1 rfl) ?_
  refine lv_iconst (v := 1) hx hb dL_law_1288 (by decide) ?_
  refine lv_iadd hx hb dL_law_1289 ?_
  rw [show nI (5 * r) + 1 = nI (5 * r + 1) from nI_add _ 1]
  refine k_scr hx hb hX hbl hbA hw (n := 5 * r + 1) (by omega) hN dL_law_1290 ?_
  refine lv_aload_n hx hb dL_law_1291 rfl (lv_at hl 5 rfl) ?_
  refine lv_iload hx hb dL_law_1292 (lv_at hl 1 rfl) ?_
  refine lv_iconst (v := 2) hx hb dL_law_1294 (by decide) ?_
  refine lv_iadd hx hb dL_law_1295 ?_
  rw [show nI (5 * r) + 2 = nI (5 * r + 2) from nI_add _ 2]
  refine k_scr hx hb hX hbl hbA hw (n := 5 * r + 2) (by omega) hN dL_law_1296 ?_
  refine k_ci hw (k_rV (f := 30) (o := 0) (As := [.int (xs (5 * r + 1)), .int (xs (5 * r + 2))]) (rest := []) ⟨hx, hb, hml, hown, hts⟩ hK hO hw (ct_X10_shiftBy hR hIM (TL.le hT (by decide)) hE _ (wk.hA hw hA)) (cwV 2 hts (gB_V w_ml_L_146 w_im_X10_shiftBy w_se_X10_shiftBy w_in_X10 w_co_X10_shiftBy) rfl rfl rfl (by decide +kernel) ⟨Nat.le_trans (Nat.le_of_ble_eq_true rfl) hfr, Nat.le_trans (Nat.le_of_ble_eq_true rfl) hlo⟩) (hR.1 30 (by decide) (by decide)) mke_30 rfl rfl hl.1 rfl (Nat.le_of_ble_eq_true rfl) dL_law_1297 ⟨by omega, by omega⟩) (fun H locs hw => ?_)
  have hR2 := MR.sm (sf_X10_shiftBy hE) hR
  have hm2 := hm
  refine lv_istore (lv' := [(6, .int v.1), (5, .int (wc_shiftBy (sp_X5_shiftBy S (xs (5 * r + 1)) (xs (5 * r + 2))).1)), (4, .int (nI (5 * r))), (3, .ref (ad 90 0)), (2, .ref (ad 30 0)), (1, .ref (ad 0 0)), (0, .ref b)]) hx hb dL_law_1300 hl (by decide) rfl (fun ls hl => ?_)
  refine lv_aload_n hx hb dL_law_1302 rfl (lv_at hl 4 rfl) ?_
  refine k_ci0 hw (k_rV (f := 30) (o := 0) (As := []) (rest := []) ⟨hx, hb, hml, hown, hts⟩ hK hO hw (ct_X10_thrown hR2 hIv (v := v.2 40 0 0) (by unfold sp_X10_thrown; rfl) _ (wk.hA hw hA)) (cwV 0 hts (gB_V w_ml_L_87 w_im_X10_thrown w_se_X10_thrown w_in_X10 w_co_X10_thrown) rfl rfl rfl (by decide +kernel) ⟨Nat.le_trans (Nat.le_of_ble_eq_true rfl) hfr, Nat.le_trans (Nat.le_of_ble_eq_true rfl) hlo⟩) (hR2.1 30 (by decide) (by decide)) mke_30 rfl rfl hl.1 rfl (Nat.le_of_ble_eq_true rfl) dL_law_1303 ⟨by omega, by omega⟩) (fun H locs hw => ?_)
  refine lv_iload hx hb dL_law_1306 (lv_at hl 1 rfl) ?_
  refine lv_icmp_eq (tgt := 1313) hx hb dL_law_1308 (by decide) (fun _ => ?_) (fun h => absurd h1 h)
  refine lv_iload hx hb dL_law_1313 (lv_at hl 1 rfl) ?_
  have fin : ∀ ls, lv_has ls 9 [(4, .int (nI (5 * r))), (3, .ref (ad 90 0)), (2, .ref (ad 30 0)), (1, .ref (ad 0 0)), (0, .ref b)] → W p l e R s m args below meth c H locs (cells + 602) (slots + 2712) Q (F0 m 1471 ls []) := fun ls hl => by
    refine kk L ad cp (wg (sp_X5_shiftBy S (xs (5 * r + 1)) (xs (5 * r + 2))).1 (sp_X5_shiftBy S (xs (5 * r + 1)) (xs (5 * r + 2))).2.1 g) H locs ls (GRW.same hR2 (MF.sm (sf_X10_shiftBy hE) hF)) ?_ hl
    rw [← cK_mK] at hw
    exact hw
  refine lv_if_ne (tgt := 1330) hx hb dL_law_1315 (by decide) (fun _ => ?_) (fun h => ?_)
  · refine lv_goto (tgt := 1471) hx hb dL_law_1330 (by decide) ?_
    refine W.widen (k := cells + 602) (n := slots + 2712) (by omega) (by omega) ?_
    exact fin _ (lv_sub hl [2, 3, 4, 5, 6] rfl)
  · obtain ⟨h3, h4⟩ := h2 h
    refine lv_aload_n hx hb dL_law_1318 rfl (lv_at hl 3 rfl) ?_
    refine lv_iconst (v := 0) hx hb dL_law_1319 (by decide) ?_
    refine k_lald hx hb hK hw hm2 1 ((mK_ou (Or.inr (by decide))).trans ((cK_ou (by decide)).trans up2_eq)) rfl (vp_in_nI (n := 0) (N := 1) (by decide) (by decide)) (v := v.1.toInt64) (by rw [h3, ← h4]; rfl) dL_law_1320 ?_
    refine lv_iload hx hb dL_law_1321 (lv_at hl 0 rfl) ?_
    refine lv_i2l (v := v.1.toInt64) hx hb dL_law_1323 rfl ?_
    refine W.lcmp hx hb dL_law_1324 ?_
    rw [lg_same]
    refine lv_if_eq (tgt := 1330) hx hb dL_law_1325 (by decide) (fun _ => ?_) (fun h => absurd rfl h)
    refine lv_goto (tgt := 1471) hx hb dL_law_1330 (by decide) ?_
    refine W.widen (k := cells + 602) (n := slots + 2712) (by omega) (by omega) ?_
    exact fin _ (lv_sub hl [2, 3, 4, 5, 6] rfl)

set_option maxHeartbeats 1000000 in
theorem law_next {p : Program} {l : Launch} {e : Env} {R : Room} {s : State} {m : MethodId} {args : Array Value} {below : List Frame} {meth : Method} {c : Code} {H : Heap} {locs : List Loc} {cells slots : Nat} {Q : State → Prop} {ls : Array Slot} {D : va_G} {cI cG cJ cO : ClassId} {K0 : Nat → Nat} {A : Nat → Prop} {L : List (Nat × Nat)} {ad : Nat → Nat → Nat} {ce : Nat → Nat → va_E} {cp : Nat → Nat} {M S : (Nat → Nat → Nat → Int32)} {g : Nat → Int64} {b N r : Nat} {xs : Nat → Int32} (F : CallFix p m c cL_law 9 s args BIG RL) (hO : OW A K0 s) (hK : va_K D vwCl (ktys cI cG cJ cO) s) (hA : ∀ q, s.heap.size ≤ q → A q) (hst : l.stackTraces = false) (hfr : 200 ≤ R.frames) (hlo : 8000 ≤ R.locals) (hc : cells + 602 ≤ R.cells) (hs : slots + 2712 ≤ R.slots) (hX : va_X b N xs s s.heap) (hbl : b < s.heap.size) (hbA : ¬ A b) (hr5 : 5 * r + 5 ≤ N) (hN : N ≤ 2560) (hL : ∀ f o, cid f o = true → (f, o) ∈ L) (hLc : ∀ f o, (f, o) ∈ L → f < 30 → cid f o = true) (hI : CI S) (hR : MR M L cp) (hF : MF M L cp) (hIM : CI M) (hT : TL 70 L) (h59 : (59, 0) ∉ L) (hm : (90, 0) ∈ L) (hw : wk D A L ad (LWc cI cG cJ cO K0 ad cp ce g M S) s.heap H locs) (hl : lv_has ls 9 [(4, .int (nI (5 * r))), (3, .ref (ad 90 0)), (2, .ref (ad 30 0)), (1, .ref (ad 0 0)), (0, .ref b)]) {v : Int32 × (Nat → Nat → Nat → Int32)} (hE : sp_X10_next M (xs (5 * r + 1)) = some v) (hIv : CI v.2) (h1 : v.2 40 0 0 = wc_next (sp_X5_next S (xs (5 * r + 1))).1) (h2 : wc_next (sp_X5_next S (xs (5 * r + 1))).1 = 0 → (sp_X5_next S (xs (5 * r + 1))).1 = 0 ∧ (sp_X5_next S (xs (5 * r + 1))).2 = v.1) (kk : ∀ (L2 : List (Nat × Nat)) (u2 : Nat → Nat → Nat) (cp2 : Nat → Nat) (g2 : Nat → Int64) (H1 : Heap) (locs1 : List Loc) (ls1 : Array Slot), GRW L ad v.2 (L2, u2, cp2) → wk D A L2 u2 (LWc cI cG cJ cO K0 u2 cp2 ce g2 v.2 (wS (sp_X5_next S (xs (5 * r + 1))).1 S S)) s.heap H1 locs1 → lv_has ls1 9 [(4, .int (nI (5 * r))), (3, .ref (u2 90 0)), (2, .ref (u2 30 0)), (1, .ref (u2 0 0)), (0, .ref b)] → W p l e R s m args below meth c H1 locs1 (cells + 602) (slots + 2712) Q (F0 m 1471 ls1 [])) : W p l e R s m args below meth c H locs cells slots Q (F0 m 1333 ls []) := by
  obtain ⟨hx, hb, hml, hown, hts⟩ := id F
  refine lv_aload_n hx hb dL_law_1333 rfl (lv_at hl 3 rfl) ?_
  refine lv_aload_n hx hb dL_law_1334 rfl (lv_at hl 4 rfl) ?_
  refine lv_iload hx hb dL_law_1335 (lv_at hl 0 rfl) ?_
  refine lv_iconst (v := 1) hx hb dL_law_1337 (by decide) ?_
  refine lv_iadd hx hb dL_law_1338 ?_
  rw [show nI (5 * r) + 1 = nI (5 * r + 1) from nI_add _ 1]
  refine k_scr hx hb hX hbl hbA hw (n := 5 * r + 1) (by omega) hN dL_law_1339 ?_
  refine lv_aload_n hx hb dL_law_1340 rfl (lv_at hl 1 rfl) ?_
  refine k_ci hw (k_rSW (As := [.ref (ad 0 0), .int (xs (5 * r + 1)), .ref (ad 90 0)]) (rest := []) ⟨hx, hb, hml, hown, hts⟩ hK hO hw (ct_L_next hL S hI (xs (5 * r + 1)) hst hm ((mK_ou (Or.inr (by decide))).trans up2_eq) _ (wk.hA hw hA)) (vx_cwSW 3 hts (gB_SH w_ml_L_147 w_st_L_next w_in_L w_co_L_next) rfl rfl rfl (by decide +kernel) ⟨Nat.le_trans (Nat.le_of_ble_eq_true rfl) hfr, Nat.le_trans (Nat.le_of_ble_eq_true rfl) hlo⟩) rfl hl.1 rfl (Nat.le_of_ble_eq_true rfl) dL_law_1341 ⟨by omega, by omega⟩) (fun H locs hw => ?_)
  rw [mK_itp (Or.inr (by decide)), cK_mK] at hw
  refine lv_istore (lv' := [(5, .int (wc_next (sp_X5_next S (xs (5 * r + 1))).1)), (4, .int (nI (5 * r))), (3, .ref (ad 90 0)), (2, .ref (ad 30 0)), (1, .ref (ad 0 0)), (0, .ref b)]) hx hb dL_law_1344 hl (by decide) rfl (fun ls hl => ?_)
  refine lv_aload_n hx hb dL_law_1346 rfl (lv_at hl 3 rfl) ?_
  refine lv_aload_n hx hb dL_law_1347 rfl (lv_at hl 5 rfl) ?_
  refine lv_iload hx hb dL_law_1348 (lv_at hl 1 rfl) ?_
  refine lv_iconst (v := 1) hx hb dL_law_1350 (by decide) ?_
  refine lv_iadd hx hb dL_law_1351 ?_
  rw [show nI (5 * r) + 1 = nI (5 * r + 1) from nI_add _ 1]
  refine k_scr hx hb hX hbl hbA hw (n := 5 * r + 1) (by omega) hN dL_law_1352 ?_
  refine k_ci0 hw (k_rV (f := 30) (o := 0) (As := [.int (xs (5 * r + 1))]) (rest := []) ⟨hx, hb, hml, hown, hts⟩ hK hO hw (ct_X10_next hR hIM hE _ (wk.hA hw hA)) (cwV 1 hts (gB_V w_ml_L_149 w_im_X10_next w_se_X10_next w_in_X10 w_co_X10_next) rfl rfl rfl (by decide +kernel) ⟨Nat.le_trans (Nat.le_of_ble_eq_true rfl) hfr, Nat.le_trans (Nat.le_of_ble_eq_true rfl) hlo⟩) (hR.1 30 (by decide) (by decide)) mke_30 rfl rfl hl.1 rfl (Nat.le_of_ble_eq_true rfl) dL_law_1353 ⟨by omega, by omega⟩) (fun H locs hw => ?_)
  have hR2 := MR.sm (sf_X10_next hE) hR
  have hm2 := hm
  refine lv_istore (lv' := [(6, .int v.1), (5, .int (wc_next (sp_X5_next S (xs (5 * r + 1))).1)), (4, .int (nI (5 * r))), (3, .ref (ad 90 0)), (2, .ref (ad 30 0)), (1, .ref (ad 0 0)), (0, .ref b)]) hx hb dL_law_1356 hl (by decide) rfl (fun ls hl => ?_)
  refine lv_aload_n hx hb dL_law_1358 rfl (lv_at hl 4 rfl) ?_
  refine k_ci0 hw (k_rV (f := 30) (o := 0) (As := []) (rest := []) ⟨hx, hb, hml, hown, hts⟩ hK hO hw (ct_X10_thrown hR2 hIv (v := v.2 40 0 0) (by unfold sp_X10_thrown; rfl) _ (wk.hA hw hA)) (cwV 0 hts (gB_V w_ml_L_87 w_im_X10_thrown w_se_X10_thrown w_in_X10 w_co_X10_thrown) rfl rfl rfl (by decide +kernel) ⟨Nat.le_trans (Nat.le_of_ble_eq_true rfl) hfr, Nat.le_trans (Nat.le_of_ble_eq_true rfl) hlo⟩) (hR2.1 30 (by decide) (by decide)) mke_30 rfl rfl hl.1 rfl (Nat.le_of_ble_eq_true rfl) dL_law_1359 ⟨by omega, by omega⟩) (fun H locs hw => ?_)
  refine lv_iload hx hb dL_law_1362 (lv_at hl 1 rfl) ?_
  refine lv_icmp_eq (tgt := 1369) hx hb dL_law_1364 (by decide) (fun _ => ?_) (fun h => absurd h1 h)
  refine lv_iload hx hb dL_law_1369 (lv_at hl 1 rfl) ?_
  have fin : ∀ ls, lv_has ls 9 [(4, .int (nI (5 * r))), (3, .ref (ad 90 0)), (2, .ref (ad 30 0)), (1, .ref (ad 0 0)), (0, .ref b)] → W p l e R s m args below meth c H locs (cells + 602) (slots + 2712) Q (F0 m 1471 ls []) := fun ls hl => by
    refine kk L ad cp (wg (sp_X5_next S (xs (5 * r + 1))).1 (sp_X5_next S (xs (5 * r + 1))).2 g) H locs ls (GRW.same hR2 (MF.sm (sf_X10_next hE) hF)) ?_ hl
    rw [← cK_mK] at hw
    exact hw
  refine lv_if_ne (tgt := 1386) hx hb dL_law_1371 (by decide) (fun _ => ?_) (fun h => ?_)
  · refine lv_goto (tgt := 1471) hx hb dL_law_1386 (by decide) ?_
    refine W.widen (k := cells + 602) (n := slots + 2712) (by omega) (by omega) ?_
    exact fin _ (lv_sub hl [2, 3, 4, 5, 6] rfl)
  · obtain ⟨h3, h4⟩ := h2 h
    refine lv_aload_n hx hb dL_law_1374 rfl (lv_at hl 3 rfl) ?_
    refine lv_iconst (v := 0) hx hb dL_law_1375 (by decide) ?_
    refine k_lald hx hb hK hw hm2 1 ((mK_ou (Or.inr (by decide))).trans ((cK_ou (by decide)).trans up2_eq)) rfl (vp_in_nI (n := 0) (N := 1) (by decide) (by decide)) (v := v.1.toInt64) (by rw [h3, ← h4]; rfl) dL_law_1376 ?_
    refine lv_iload hx hb dL_law_1377 (lv_at hl 0 rfl) ?_
    refine lv_i2l (v := v.1.toInt64) hx hb dL_law_1379 rfl ?_
    refine W.lcmp hx hb dL_law_1380 ?_
    rw [lg_same]
    refine lv_if_eq (tgt := 1386) hx hb dL_law_1381 (by decide) (fun _ => ?_) (fun h => absurd rfl h)
    refine lv_goto (tgt := 1471) hx hb dL_law_1386 (by decide) ?_
    refine W.widen (k := cells + 602) (n := slots + 2712) (by omega) (by omega) ?_
    exact fin _ (lv_sub hl [2, 3, 4, 5, 6] rfl)

set_option maxHeartbeats 1000000 in
theorem law_waitFor {p : Program} {l : Launch} {e : Env} {R : Room} {s : State} {m : MethodId} {args : Array Value} {below : List Frame} {meth : Method} {c : Code} {H : Heap} {locs : List Loc} {cells slots : Nat} {Q : State → Prop} {ls : Array Slot} {D : va_G} {cI cG cJ cO : ClassId} {K0 : Nat → Nat} {A : Nat → Prop} {L : List (Nat × Nat)} {ad : Nat → Nat → Nat} {ce : Nat → Nat → va_E} {cp : Nat → Nat} {M S : (Nat → Nat → Nat → Int32)} {g : Nat → Int64} {b N r : Nat} {xs : Nat → Int32} (F : CallFix p m c cL_law 9 s args BIG RL) (hO : OW A K0 s) (hK : va_K D vwCl (ktys cI cG cJ cO) s) (hA : ∀ q, s.heap.size ≤ q → A q) (hst : l.stackTraces = false) (hfr : 200 ≤ R.frames) (hlo : 8000 ≤ R.locals) (hc : cells + 602 ≤ R.cells) (hs : slots + 2712 ≤ R.slots) (hX : va_X b N xs s s.heap) (hbl : b < s.heap.size) (hbA : ¬ A b) (hr5 : 5 * r + 5 ≤ N) (hN : N ≤ 2560) (hL : ∀ f o, cid f o = true → (f, o) ∈ L) (hLc : ∀ f o, (f, o) ∈ L → f < 30 → cid f o = true) (hI : CI S) (hR : MR M L cp) (hF : MF M L cp) (hIM : CI M) (hT : TL 70 L) (h59 : (59, 0) ∉ L) (hm : (90, 0) ∈ L) (hw : wk D A L ad (LWc cI cG cJ cO K0 ad cp ce g M S) s.heap H locs) (hl : lv_has ls 9 [(4, .int (nI (5 * r))), (3, .ref (ad 90 0)), (2, .ref (ad 30 0)), (1, .ref (ad 0 0)), (0, .ref b)]) {v : Int32 × (Nat → Nat → Nat → Int32)} (hE : sp_X10_waitFor M (xs (5 * r + 1)) (xs (5 * r + 2)) = some v) (hIv : CI v.2) (h1 : v.2 40 0 0 = wc_waitFor (sp_X5_waitFor S (xs (5 * r + 1)) (xs (5 * r + 2))).1) (h2 : wc_waitFor (sp_X5_waitFor S (xs (5 * r + 1)) (xs (5 * r + 2))).1 = 0 → (sp_X5_waitFor S (xs (5 * r + 1)) (xs (5 * r + 2))).1 = 0 ∧ (sp_X5_waitFor S (xs (5 * r + 1)) (xs (5 * r + 2))).2 = v.1) (kk : ∀ (L2 : List (Nat × Nat)) (u2 : Nat → Nat → Nat) (cp2 : Nat → Nat) (g2 : Nat → Int64) (H1 : Heap) (locs1 : List Loc) (ls1 : Array Slot), GRW L ad v.2 (L2, u2, cp2) → wk D A L2 u2 (LWc cI cG cJ cO K0 u2 cp2 ce g2 v.2 (wS (sp_X5_waitFor S (xs (5 * r + 1)) (xs (5 * r + 2))).1 S S)) s.heap H1 locs1 → lv_has ls1 9 [(4, .int (nI (5 * r))), (3, .ref (u2 90 0)), (2, .ref (u2 30 0)), (1, .ref (u2 0 0)), (0, .ref b)] → W p l e R s m args below meth c H1 locs1 (cells + 602) (slots + 2712) Q (F0 m 1471 ls1 [])) : W p l e R s m args below meth c H locs cells slots Q (F0 m 1389 ls []) := by
  obtain ⟨hx, hb, hml, hown, hts⟩ := id F
  refine lv_aload_n hx hb dL_law_1389 rfl (lv_at hl 3 rfl) ?_
  refine lv_aload_n hx hb dL_law_1390 rfl (lv_at hl 4 rfl) ?_
  refine lv_iload hx hb dL_law_1391 (lv_at hl 0 rfl) ?_
  refine lv_iconst (v := 1) hx hb dL_law_1393 (by decide) ?_
  refine lv_iadd hx hb dL_law_1394 ?_
  rw [show nI (5 * r) + 1 = nI (5 * r + 1) from nI_add _ 1]
  refine k_scr hx hb hX hbl hbA hw (n := 5 * r + 1) (by omega) hN dL_law_1395 ?_
  refine lv_aload_n hx hb dL_law_1396 rfl (lv_at hl 4 rfl) ?_
  refine lv_iload hx hb dL_law_1397 (lv_at hl 0 rfl) ?_
  refine lv_iconst (v := 2) hx hb dL_law_1399 (by decide) ?_
  refine lv_iadd hx hb dL_law_1400 ?_
  rw [show nI (5 * r) + 2 = nI (5 * r + 2) from nI_add _ 2]
  refine k_scr hx hb hX hbl hbA hw (n := 5 * r + 2) (by omega) hN dL_law_1401 ?_
  refine lv_aload_n hx hb dL_law_1402 rfl (lv_at hl 1 rfl) ?_
  refine k_ci hw (k_rSW (As := [.ref (ad 0 0), .int (xs (5 * r + 1)), .int (xs (5 * r + 2)), .ref (ad 90 0)]) (rest := []) ⟨hx, hb, hml, hown, hts⟩ hK hO hw (ct_L_waitFor hL S hI (xs (5 * r + 1)) (xs (5 * r + 2)) hst hm ((mK_ou (Or.inr (by decide))).trans up2_eq) _ (wk.hA hw hA)) (vx_cwSW 4 hts (gB_SH w_ml_L_150 w_st_L_waitFor w_in_L w_co_L_waitFor) rfl rfl rfl (by decide +kernel) ⟨Nat.le_trans (Nat.le_of_ble_eq_true rfl) hfr, Nat.le_trans (Nat.le_of_ble_eq_true rfl) hlo⟩) rfl hl.1 rfl (Nat.le_of_ble_eq_true rfl) dL_law_1403 ⟨by omega, by omega⟩) (fun H locs hw => ?_)
  rw [mK_itp (Or.inr (by decide)), cK_mK] at hw
  refine lv_istore (lv' := [(5, .int (wc_waitFor (sp_X5_waitFor S (xs (5 * r + 1)) (xs (5 * r + 2))).1)), (4, .int (nI (5 * r))), (3, .ref (ad 90 0)), (2, .ref (ad 30 0)), (1, .ref (ad 0 0)), (0, .ref b)]) hx hb dL_law_1406 hl (by decide) rfl (fun ls hl => ?_)
  refine lv_aload_n hx hb dL_law_1408 rfl (lv_at hl 3 rfl) ?_
  refine lv_aload_n hx hb dL_law_1409 rfl (lv_at hl 5 rfl) ?_
  refine lv_iload hx hb dL_law_1410 (lv_at hl 1 rfl) ?_
  refine lv_iconst (v := 1) hx hb dL_law_1412 (by decide) ?_
  refine lv_iadd hx hb dL_law_1413 ?_
  rw [show nI (5 * r) + 1 = nI (5 * r + 1) from nI_add _ 1]
  refine k_scr hx hb hX hbl hbA hw (n := 5 * r + 1) (by omega) hN dL_law_1414 ?_
  refine lv_aload_n hx hb dL_law_1415 rfl (lv_at hl 5 rfl) ?_
  refine lv_iload hx hb dL_law_1416 (lv_at hl 1 rfl) ?_
  refine lv_iconst (v := 2) hx hb dL_law_1418 (by decide) ?_
  refine lv_iadd hx hb dL_law_1419 ?_
  rw [show nI (5 * r) + 2 = nI (5 * r + 2) from nI_add _ 2]
  refine k_scr hx hb hX hbl hbA hw (n := 5 * r + 2) (by omega) hN dL_law_1420 ?_
  refine k_ci0 hw (k_rV (f := 30) (o := 0) (As := [.int (xs (5 * r + 1)), .int (xs (5 * r + 2))]) (rest := []) ⟨hx, hb, hml, hown, hts⟩ hK hO hw (ct_X10_waitFor hR hIM hE _ (wk.hA hw hA)) (cwV 2 hts (gB_V w_ml_L_152 w_im_X10_waitFor w_se_X10_waitFor w_in_X10 w_co_X10_waitFor) rfl rfl rfl (by decide +kernel) ⟨Nat.le_trans (Nat.le_of_ble_eq_true rfl) hfr, Nat.le_trans (Nat.le_of_ble_eq_true rfl) hlo⟩) (hR.1 30 (by decide) (by decide)) mke_30 rfl rfl hl.1 rfl (Nat.le_of_ble_eq_true rfl) dL_law_1421 ⟨by omega, by omega⟩) (fun H locs hw => ?_)
  have hR2 := MR.sm (sf_X10_waitFor hE) hR
  have hm2 := hm
  refine lv_istore (lv' := [(6, .int v.1), (5, .int (wc_waitFor (sp_X5_waitFor S (xs (5 * r + 1)) (xs (5 * r + 2))).1)), (4, .int (nI (5 * r))), (3, .ref (ad 90 0)), (2, .ref (ad 30 0)), (1, .ref (ad 0 0)), (0, .ref b)]) hx hb dL_law_1424 hl (by decide) rfl (fun ls hl => ?_)
  refine lv_aload_n hx hb dL_law_1426 rfl (lv_at hl 4 rfl) ?_
  refine k_ci0 hw (k_rV (f := 30) (o := 0) (As := []) (rest := []) ⟨hx, hb, hml, hown, hts⟩ hK hO hw (ct_X10_thrown hR2 hIv (v := v.2 40 0 0) (by unfold sp_X10_thrown; rfl) _ (wk.hA hw hA)) (cwV 0 hts (gB_V w_ml_L_87 w_im_X10_thrown w_se_X10_thrown w_in_X10 w_co_X10_thrown) rfl rfl rfl (by decide +kernel) ⟨Nat.le_trans (Nat.le_of_ble_eq_true rfl) hfr, Nat.le_trans (Nat.le_of_ble_eq_true rfl) hlo⟩) (hR2.1 30 (by decide) (by decide)) mke_30 rfl rfl hl.1 rfl (Nat.le_of_ble_eq_true rfl) dL_law_1427 ⟨by omega, by omega⟩) (fun H locs hw => ?_)
  refine lv_iload hx hb dL_law_1430 (lv_at hl 1 rfl) ?_
  refine lv_icmp_eq (tgt := 1437) hx hb dL_law_1432 (by decide) (fun _ => ?_) (fun h => absurd h1 h)
  refine lv_iload hx hb dL_law_1437 (lv_at hl 1 rfl) ?_
  have fin : ∀ ls, lv_has ls 9 [(4, .int (nI (5 * r))), (3, .ref (ad 90 0)), (2, .ref (ad 30 0)), (1, .ref (ad 0 0)), (0, .ref b)] → W p l e R s m args below meth c H locs (cells + 602) (slots + 2712) Q (F0 m 1471 ls []) := fun ls hl => by
    refine kk L ad cp (wg (sp_X5_waitFor S (xs (5 * r + 1)) (xs (5 * r + 2))).1 (sp_X5_waitFor S (xs (5 * r + 1)) (xs (5 * r + 2))).2 g) H locs ls (GRW.same hR2 (MF.sm (sf_X10_waitFor hE) hF)) ?_ hl
    rw [← cK_mK] at hw
    exact hw
  refine lv_if_ne (tgt := 1454) hx hb dL_law_1439 (by decide) (fun _ => ?_) (fun h => ?_)
  · refine lv_goto (tgt := 1471) hx hb dL_law_1454 (by decide) ?_
    refine W.widen (k := cells + 602) (n := slots + 2712) (by omega) (by omega) ?_
    exact fin _ (lv_sub hl [2, 3, 4, 5, 6] rfl)
  · obtain ⟨h3, h4⟩ := h2 h
    refine lv_aload_n hx hb dL_law_1442 rfl (lv_at hl 3 rfl) ?_
    refine lv_iconst (v := 0) hx hb dL_law_1443 (by decide) ?_
    refine k_lald hx hb hK hw hm2 1 ((mK_ou (Or.inr (by decide))).trans ((cK_ou (by decide)).trans up2_eq)) rfl (vp_in_nI (n := 0) (N := 1) (by decide) (by decide)) (v := v.1.toInt64) (by rw [h3, ← h4]; rfl) dL_law_1444 ?_
    refine lv_iload hx hb dL_law_1445 (lv_at hl 0 rfl) ?_
    refine lv_i2l (v := v.1.toInt64) hx hb dL_law_1447 rfl ?_
    refine W.lcmp hx hb dL_law_1448 ?_
    rw [lg_same]
    refine lv_if_eq (tgt := 1454) hx hb dL_law_1449 (by decide) (fun _ => ?_) (fun h => absurd rfl h)
    refine lv_goto (tgt := 1471) hx hb dL_law_1454 (by decide) ?_
    refine W.widen (k := cells + 602) (n := slots + 2712) (by omega) (by omega) ?_
    exact fin _ (lv_sub hl [2, 3, 4, 5, 6] rfl)
