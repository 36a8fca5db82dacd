section P24T

set_option maxHeartbeats 4000000 in
set_option maxRecDepth 100000 in
theorem law_g3 {p : Program} {l : Launch} {e : Env} {R : Room} {s : State} {m : MethodId} {args : Array Value} {below : List Frame} {meth : Method} {c : Code} {Q : State → Prop} {D : va_G} {cI cG cJ cO : ClassId} {K0 : Nat → Nat} {A : Nat → Prop} {L : List (Nat × Nat)} {ad : Nat → Nat → Nat} (F : CallFix p m c cL_law 17 s args BIG RL) (hK : va_K D vwCl (ktys cI cG cJ cO) s) (hO : OW A K0 s) (hL : ∀ f o, cid f o = true → (f, o) ∈ L) (hA : ∀ q, s.heap.size ≤ q → A q) (hst : l.stackTraces = false) (hfr : 8 ≤ R.frames) (hlo : 180 ≤ R.locals) (hRc : 2000 ≤ R.cells) (hRs : 20000 ≤ R.slots) (h1 : K0 1 < 2 ^ 31) (m90 : (90, 0) ∈ L) (m91 : (91, 0) ∈ L) (m92 : (92, 0) ∈ L) (n93 : ∀ a, (93, a) ∉ L) {ns nr : Nat} (hns4 : 4 ≤ ns) (hns : ns ≤ 10) (hnr : nr ≤ 6) {kd nd : Nat → Int32} {ce : Nat → Nat → va_E} (h90 : ce 90 0 = .inl (cI, ns, .inl kd)) (h91 : ce 91 0 = .inl (cI, ns, .inl nd)) (h92 : ce 92 0 = .inl (cI, nr, .inl (fun _ => 0))) {S : STT} (hLA : LA kd nd ns S) (kk : ∀ (H : Heap) (locs : List Loc) (ls : Array Slot), va_S A s.heap H locs → W p l e R s m args below meth c H locs 500 4000 Q (F0 m 1005 ls [.int 1])) {H : Heap} {locs : List Loc} {ls : Array Slot} (hw : wk D A L ad (cK cI cJ ad ce S) s.heap H locs) (hl : lv_has ls 17 [(5, .int (nI nr)), (4, .ref (ad 91 0)), (3, .ref (ad 90 0)), (2, .int (nI ns)), (1, .ref (ad 0 0)), (0, .ref (K0 0))]) : W p l e R s m args below meth c H locs 130 1200 Q (F0 m 182 ls [.ref (ad 92 0)]) := by
  obtain ⟨hx, hb, hml, hown, hts⟩ := F
  refine lv_astore (lv' := [(6, .ref (ad 92 0)), (5, .int (nI nr)), (4, .ref (ad 91 0)), (3, .ref (ad 90 0)), (2, .int (nI ns)), (1, .ref (ad 0 0)), (0, .ref (K0 0))]) hx hb dL_law_182 hl (by decide) rfl (fun ls hl => ?_)
  refine lv_iconst (v := 0) hx hb dL_law_184 (by decide) ?_
  refine lv_istore (lv' := [(7, .int 0), (6, .ref (ad 92 0)), (5, .int (nI nr)), (4, .ref (ad 91 0)), (3, .ref (ad 90 0)), (2, .int (nI ns)), (1, .ref (ad 0 0)), (0, .ref (K0 0))]) hx hb dL_law_185 hl (by decide) rfl (fun ls hl => ?_)
  refine law_rights ⟨hx, hb, hml, hown, hts⟩ hK hO hL hA hst hfr hlo hRc hRs h1 m90 m91 m92 hns4 hns hnr (kd := kd) (nd := nd) (fun st S ce H locs ls hLR h90 h91 h92 hw hl => ?_) nr 0 (fun _ => 0) S ce H locs ls (Nat.zero_add nr) (LR.first hns hLA) h90 h91 h92 hw (lv_sub hl [0, 1, 2, 3, 4, 5, 6, 7] rfl)
  refine lv_iconst (v := 0) hx hb dL_law_270 (by decide) ?_
  refine lv_istore (lv' := [(7, .int 0), (6, .ref (ad 92 0)), (5, .int (nI nr)), (4, .ref (ad 91 0)), (3, .ref (ad 90 0)), (2, .int (nI ns)), (1, .ref (ad 0 0)), (0, .ref (K0 0))]) hx hb dL_law_271 hl (by decide) rfl (fun ls hl => ?_)
  refine W.widen (k := 150 + 2 * 0) (n := 1300 + 12 * 0) (by omega) (by omega) ?_
  refine law_roles ⟨hx, hb, hml, hown, hts⟩ hK hO hL hA hst hfr hlo hRc hRs h1 m90 m91 m92 hns4 hns hnr (kd := kd) (nd := nd) (fun S H locs ls hLO hw hl => ?_) 4 0 S H locs ls rfl (LO.first hnr hLR) hw (lv_sub hl [0, 1, 2, 3, 4, 5, 6, 7] rfl)
  refine lv_iconst (v := 0) hx hb dL_law_315 (by decide) ?_
  refine lv_istore (lv' := [(7, .int 0), (6, .ref (ad 92 0)), (5, .int (nI nr)), (4, .ref (ad 91 0)), (3, .ref (ad 90 0)), (2, .int (nI ns)), (1, .ref (ad 0 0)), (0, .ref (K0 0))]) hx hb dL_law_316 hl (by decide) rfl (fun ls hl => ?_)
  refine W.widen (k := 200 + 6 * 0) (n := 2000 + 40 * 0) (by omega) (by omega) ?_
  exact law_main ⟨hx, hb, hml, hown, hts⟩ hK hO hL hA hst hfr hlo hRc hRs h1 m90 m91 m92 hns4 hns hnr n93 h90 h91 h92 (fun S H locs ls hLS hw hl => law_end ⟨hx, hb, hml, hown, hts⟩ hK hO hL hA hst hfr hlo hRc hRs h1 m92 hnr h92 (fun _ H locs ls hw => kk H locs ls hw.2.2) hLS hw hl) 50 0 S H locs ls rfl (LSt.first hLO) hw (lv_sub hl [0, 1, 2, 3, 4, 5, 6, 7] rfl)

set_option maxHeartbeats 4000000 in
set_option maxRecDepth 100000 in
theorem law_g2 {p : Program} {l : Launch} {e : Env} {R : Room} {s : State} {m : MethodId} {args : Array Value} {below : List Frame} {meth : Method} {c : Code} {Q : State → Prop} {D : va_G} {cI cG cJ cO : ClassId} {K0 : Nat → Nat} {A : Nat → Prop} {L : List (Nat × Nat)} {ad : Nat → Nat → Nat} (F : CallFix p m c cL_law 17 s args BIG RL) (hK : va_K D vwCl (ktys cI cG cJ cO) s) (hO : OW A K0 s) (hL : ∀ f o, cid f o = true → (f, o) ∈ L) (hA : ∀ q, s.heap.size ≤ q → A q) (hst : l.stackTraces = false) (hfr : 8 ≤ R.frames) (hlo : 180 ≤ R.locals) (hRc : 2000 ≤ R.cells) (hRs : 20000 ≤ R.slots) (h1 : K0 1 < 2 ^ 31) (m90 : (90, 0) ∈ L) (m91 : (91, 0) ∈ L) (n92 : ∀ a, (92, a) ∉ L) (n93 : ∀ a, (93, a) ∉ L) {ns : Nat} (hns4 : 4 ≤ ns) (hns : ns ≤ 10) {ce : Nat → Nat → va_E} (h90 : ce 90 0 = .inl (cI, ns, .inl (fun _ => 0))) (h91 : ce 91 0 = .inl (cI, ns, .inl (fun _ => 0))) {S : STT} (hLA : LA (fun _ => 0) (fun _ => 0) 0 S) (kk : ∀ (H : Heap) (locs : List Loc) (ls : Array Slot), va_S A s.heap H locs → W p l e R s m args below meth c H locs 500 4000 Q (F0 m 1005 ls [.int 1])) {H : Heap} {locs : List Loc} {ls : Array Slot} (hw : wk D A L ad (cK cI cJ ad ce S) s.heap H locs) (hl : lv_has ls 17 [(3, .ref (ad 90 0)), (2, .int (nI ns)), (1, .ref (ad 0 0)), (0, .ref (K0 0))]) : W p l e R s m args below meth c H locs 100 1000 Q (F0 m 28 ls [.ref (ad 91 0)]) := by
  obtain ⟨hx, hb, hml, hown, hts⟩ := F
  refine lv_astore (lv' := [(4, .ref (ad 91 0)), (3, .ref (ad 90 0)), (2, .int (nI ns)), (1, .ref (ad 0 0)), (0, .ref (K0 0))]) hx hb dL_law_28 hl (by decide) rfl (fun ls hl => ?_)
  refine lv_iconst (v := 0) hx hb dL_law_30 (by decide) ?_
  refine lv_istore (lv' := [(5, .int 0), (4, .ref (ad 91 0)), (3, .ref (ad 90 0)), (2, .int (nI ns)), (1, .ref (ad 0 0)), (0, .ref (K0 0))]) hx hb dL_law_31 hl (by decide) rfl (fun ls hl => ?_)
  refine law_steps ⟨hx, hb, hml, hown, hts⟩ hK hO hL hA hst hfr hlo hRc hRs h1 m90 m91 hns4 hns (fun kd nd S ce H locs ls hLA h90 h91 hw hl => ?_) ns 0 (fun _ => 0) (fun _ => 0) S ce H locs ls (Nat.zero_add ns) hLA h90 h91 hw (lv_sub hl [0, 1, 2, 3, 4, 5] rfl)
  have hc : 100 + 2 * ns ≤ R.cells ∧ 1000 + 12 * ns ≤ R.slots := ⟨by omega, by omega⟩
  refine lv_iconst (v := 1) hx hb dL_law_165 (by decide) ?_
  refine lv_aload_n hx hb dL_law_166 rfl (lv_at hl 4 rfl) ?_
  refine lv_iconst (v := 1) hx hb dL_law_167 (by decide) ?_
  refine k_ci0 hw (k_rS (As := [.ref (K0 0), .int (nI 1)]) (rest := [.int 1]) ⟨hx, hb, hml, hown, hts⟩ hK hO hw (ct_L_cell h1 (k := 1) (by omega) _ (wk.hA hw hA)) (va_cwS 2 hts (gB_S w_ml_L_12 w_st_L_cell w_in_L w_co_L_cell) rfl rfl rfl (by decide +kernel) ⟨Nat.le_trans (Nat.le_of_ble_eq_true rfl) hfr, Nat.le_trans (Nat.le_of_ble_eq_true rfl) hlo⟩) rfl hl.1 rfl (Nat.le_of_ble_eq_true rfl) dL_law_168 hc) (fun H locs hw => ?_)
  refine lv_iconst (v := 5) hx hb dL_law_171 (by decide) ?_
  refine k_ci0 hw (k_rS (As := [.int (cv K0 1), .int (nI 5)]) (rest := [.int 1]) ⟨hx, hb, hml, hown, hts⟩ hK hO hw (ct_L_below (cv K0 1) (n := 5) (by omega) (by omega) _ (wk.hA hw hA)) (va_cwS 2 hts (gB_S w_ml_L_18 w_st_L_below w_in_L w_co_L_below) rfl rfl rfl (by decide +kernel) ⟨Nat.le_trans (Nat.le_of_ble_eq_true rfl) hfr, Nat.le_trans (Nat.le_of_ble_eq_true rfl) hlo⟩) rfl hl.1 rfl (Nat.le_of_ble_eq_true rfl) dL_law_172 hc) (fun H locs hw => ?_)
  obtain ⟨q5, hq5, eq5⟩ : ∃ q : Nat, q < 5 ∧ q = bl (cv K0 1) 5 := ⟨_, bl_lt (by omega), rfl⟩
  rw [← eq5]
  refine lv_iadd hx hb dL_law_175 ?_
  rw [show (1 + (nI q5) : Int32) = nI (1 + q5) from nI_add 1 q5]
  obtain ⟨nr, hnr, enr⟩ : ∃ nr, nr ≤ 6 ∧ 1 + q5 = nr := ⟨_, by omega, rfl⟩
  rw [enr]
  have hc : 100 + 2 * ns + 1 ≤ R.cells ∧ 1000 + 12 * ns + 12 ≤ R.slots := ⟨by omega, by omega⟩
  refine lv_istore (lv' := [(5, .int (nI nr)), (4, .ref (ad 91 0)), (3, .ref (ad 90 0)), (2, .int (nI ns)), (1, .ref (ad 0 0)), (0, .ref (K0 0))]) hx hb dL_law_176 hl (by decide) rfl (fun ls hl => ?_)
  refine lv_iload hx hb dL_law_178 (lv_at hl 0 rfl) ?_
  refine r_new ⟨hx, hb, hml, hown, hts⟩ hK hA hw (f := 92) (n := nr) (by decide) (n92 0) (by omega) hc dL_law_180 (fun u ce1 H hu h92 hce hw => ?_)
  rw [← hu 91 0 (by decide), ← hu 90 0 (by decide), ← hu 0 0 (by decide)] at hl
  have h90 := (hce 90 0 (by decide)).trans h90
  have h91 := (hce 91 0 (by decide)).trans h91
  have m90 : (90, 0) ∈ L ++ [(92, 0)] := List.mem_append_left _ m90
  have m91 : (91, 0) ∈ L ++ [(92, 0)] := List.mem_append_left _ m91
  have m92 : (92, 0) ∈ L ++ [(92, 0)] := List.mem_append_right _ (List.mem_singleton.mpr rfl)
  have n93 : ∀ a, (93, a) ∉ L ++ [(92, 0)] := fun a => nmemf (n93 a) (by decide)
  refine W.widen (k := 130) (n := 1200) (by omega) (by omega) ?_
  exact law_g3 (L := L ++ [(92, 0)]) (ad := u) ⟨hx, hb, hml, hown, hts⟩ hK hO (fun f o h => List.mem_append_left _ (hL f o h)) hA hst hfr hlo hRc hRs h1 m90 m91 m92 n93 hns4 hns hnr h90 h91 h92 hLA kk hw hl

set_option maxHeartbeats 4000000 in
set_option maxRecDepth 100000 in
theorem law_g1 {p : Program} {l : Launch} {e : Env} {R : Room} {s : State} {m : MethodId} {args : Array Value} {below : List Frame} {meth : Method} {c : Code} {Q : State → Prop} {D : va_G} {cI cG cJ cO : ClassId} {K0 : Nat → Nat} {A : Nat → Prop} {L : List (Nat × Nat)} {ad : Nat → Nat → Nat} (F : CallFix p m c cL_law 17 s args BIG RL) (hK : va_K D vwCl (ktys cI cG cJ cO) s) (hO : OW A K0 s) (hL : ∀ f o, cid f o = true → (f, o) ∈ L) (hA : ∀ q, s.heap.size ≤ q → A q) (hst : l.stackTraces = false) (hfr : 8 ≤ R.frames) (hlo : 180 ≤ R.locals) (hRc : 2000 ≤ R.cells) (hRs : 20000 ≤ R.slots) (h1 : K0 1 < 2 ^ 31) (m90 : (90, 0) ∈ L) (n91 : ∀ a, (91, a) ∉ L) (n92 : ∀ a, (92, a) ∉ L) (n93 : ∀ a, (93, a) ∉ L) {ns : Nat} (hns4 : 4 ≤ ns) (hns : ns ≤ 10) {ce : Nat → Nat → va_E} (h90 : ce 90 0 = .inl (cI, ns, .inl (fun _ => 0))) {S : STT} (hLA : LA (fun _ => 0) (fun _ => 0) 0 S) (kk : ∀ (H : Heap) (locs : List Loc) (ls : Array Slot), va_S A s.heap H locs → W p l e R s m args below meth c H locs 500 4000 Q (F0 m 1005 ls [.int 1])) {H : Heap} {locs : List Loc} {ls : Array Slot} (hw : wk D A L ad (cK cI cJ ad ce S) s.heap H locs) (hl : lv_has ls 17 [(2, .int (nI ns)), (1, .ref (ad 0 0)), (0, .ref (K0 0))]) : W p l e R s m args below meth c H locs 90 950 Q (F0 m 24 ls [.ref (ad 90 0)]) := by
  obtain ⟨hx, hb, hml, hown, hts⟩ := F
  have hc : 90 + 1 ≤ R.cells ∧ 950 + 12 ≤ R.slots := ⟨by omega, by omega⟩
  refine lv_astore_n (lv' := [(3, .ref (ad 90 0)), (2, .int (nI ns)), (1, .ref (ad 0 0)), (0, .ref (K0 0))]) hx hb dL_law_24 rfl hl (by decide) rfl (fun ls hl => ?_)
  refine lv_iload_n hx hb dL_law_25 rfl (lv_at hl 1 rfl) ?_
  refine r_new ⟨hx, hb, hml, hown, hts⟩ hK hA hw (f := 91) (n := ns) (by decide) (n91 0) (by omega) hc dL_law_26 (fun u ce1 H hu h91 hce hw => ?_)
  rw [← hu 90 0 (by decide), ← hu 0 0 (by decide)] at hl
  have h90 := (hce 90 0 (by decide)).trans h90
  have m90 : (90, 0) ∈ L ++ [(91, 0)] := List.mem_append_left _ m90
  have m91 : (91, 0) ∈ L ++ [(91, 0)] := List.mem_append_right _ (List.mem_singleton.mpr rfl)
  have n92 : ∀ a, (92, a) ∉ L ++ [(91, 0)] := fun a => nmemf (n92 a) (by decide)
  have n93 : ∀ a, (93, a) ∉ L ++ [(91, 0)] := fun a => nmemf (n93 a) (by decide)
  refine W.widen (k := 100) (n := 1000) (by omega) (by omega) ?_
  exact law_g2 (L := L ++ [(91, 0)]) (ad := u) ⟨hx, hb, hml, hown, hts⟩ hK hO (fun f o h => List.mem_append_left _ (hL f o h)) hA hst hfr hlo hRc hRs h1 m90 m91 n92 n93 hns4 hns h90 h91 hLA kk hw hl

set_option maxHeartbeats 4000000 in
set_option maxRecDepth 100000 in
theorem law_g0 {p : Program} {l : Launch} {e : Env} {R : Room} {s : State} {m : MethodId} {args : Array Value} {below : List Frame} {meth : Method} {c : Code} {Q : State → Prop} {D : va_G} {cI cG cJ cO : ClassId} {K0 : Nat → Nat} {A : Nat → Prop} {L : List (Nat × Nat)} {ad : Nat → Nat → Nat} (F : CallFix p m c cL_law 17 s args BIG RL) (hK : va_K D vwCl (ktys cI cG cJ cO) s) (hO : OW A K0 s) (hL : ∀ f o, cid f o = true → (f, o) ∈ L) (hA : ∀ q, s.heap.size ≤ q → A q) (hst : l.stackTraces = false) (hfr : 8 ≤ R.frames) (hlo : 180 ≤ R.locals) (hRc : 2000 ≤ R.cells) (hRs : 20000 ≤ R.slots) (h1 : K0 1 < 2 ^ 31) (n90 : ∀ a, (90, a) ∉ L) (n91 : ∀ a, (91, a) ∉ L) (n92 : ∀ a, (92, a) ∉ L) (n93 : ∀ a, (93, a) ∉ L) {ce : Nat → Nat → va_E} {S : STT} (hLA : LA (fun _ => 0) (fun _ => 0) 0 S) (kk : ∀ (H : Heap) (locs : List Loc) (ls : Array Slot), va_S A s.heap H locs → W p l e R s m args below meth c H locs 500 4000 Q (F0 m 1005 ls [.int 1])) {H : Heap} {locs : List Loc} {ls : Array Slot} (hw : wk D A L ad (cK cI cJ ad ce S) s.heap H locs) (hl : lv_has ls 17 [(1, .ref (ad 0 0)), (0, .ref (K0 0))]) : W p l e R s m args below meth c H locs 80 900 Q (F0 m 8 ls []) := by
  obtain ⟨hx, hb, hml, hown, hts⟩ := F
  have hc : 80 ≤ R.cells ∧ 900 ≤ R.slots := ⟨by omega, by omega⟩
  refine lv_iconst (v := 4) hx hb dL_law_8 (by decide) ?_
  refine lv_aload_n hx hb dL_law_9 rfl (lv_at hl 1 rfl) ?_
  refine lv_iconst (v := 0) hx hb dL_law_10 (by decide) ?_
  refine k_ci0 hw (k_rS (As := [.ref (K0 0), .int (nI 0)]) (rest := [.int 4]) ⟨hx, hb, hml, hown, hts⟩ hK hO hw (ct_L_cell h1 (k := 0) (by omega) _ (wk.hA hw hA)) (va_cwS 2 hts (gB_S w_ml_L_12 w_st_L_cell w_in_L w_co_L_cell) rfl rfl rfl (by decide +kernel) ⟨Nat.le_trans (Nat.le_of_ble_eq_true rfl) hfr, Nat.le_trans (Nat.le_of_ble_eq_true rfl) hlo⟩) rfl hl.1 rfl (Nat.le_of_ble_eq_true rfl) dL_law_11 hc) (fun H locs hw => ?_)
  refine lv_bipush (v := 7) hx hb dL_law_14 (by decide) ?_
  refine k_ci0 hw (k_rS (As := [.int (cv K0 0), .int (nI 7)]) (rest := [.int 4]) ⟨hx, hb, hml, hown, hts⟩ hK hO hw (ct_L_below (cv K0 0) (n := 7) (by omega) (by omega) _ (wk.hA hw hA)) (va_cwS 2 hts (gB_S w_ml_L_18 w_st_L_below w_in_L w_co_L_below) rfl rfl rfl (by decide +kernel) ⟨Nat.le_trans (Nat.le_of_ble_eq_true rfl) hfr, Nat.le_trans (Nat.le_of_ble_eq_true rfl) hlo⟩) rfl hl.1 rfl (Nat.le_of_ble_eq_true rfl) dL_law_16 hc) (fun H locs hw => ?_)
  obtain ⟨q7, hq7, eq7⟩ : ∃ q : Nat, q < 7 ∧ q = bl (cv K0 0) 7 := ⟨_, bl_lt (by omega), rfl⟩
  rw [← eq7]
  refine lv_iadd hx hb dL_law_19 ?_
  rw [show (4 + (nI q7) : Int32) = nI (4 + q7) from nI_add 4 q7]
  obtain ⟨ns, hns4, hns, ens⟩ : ∃ ns, 4 ≤ ns ∧ ns ≤ 10 ∧ 4 + q7 = ns := ⟨_, by omega, by omega, rfl⟩
  rw [ens]
  have hc : 80 + 1 ≤ R.cells ∧ 900 + 12 ≤ R.slots := ⟨by omega, by omega⟩
  refine lv_istore_n (lv' := [(2, .int (nI ns)), (1, .ref (ad 0 0)), (0, .ref (K0 0))]) hx hb dL_law_20 rfl hl (by decide) rfl (fun ls hl => ?_)
  refine lv_iload_n hx hb dL_law_21 rfl (lv_at hl 0 rfl) ?_
  refine r_new ⟨hx, hb, hml, hown, hts⟩ hK hA hw (f := 90) (n := ns) (by decide) (n90 0) (by omega) hc dL_law_22 (fun u ce1 H hu h90 hce hw => ?_)
  rw [← hu 0 0 (by decide)] at hl
  have m90 : (90, 0) ∈ L ++ [(90, 0)] := List.mem_append_right _ (List.mem_singleton.mpr rfl)
  have n91 : ∀ a, (91, a) ∉ L ++ [(90, 0)] := fun a => nmemf (n91 a) (by decide)
  have n92 : ∀ a, (92, a) ∉ L ++ [(90, 0)] := fun a => nmemf (n92 a) (by decide)
  have n93 : ∀ a, (93, a) ∉ L ++ [(90, 0)] := fun a => nmemf (n93 a) (by decide)
  refine W.widen (k := 90) (n := 950) (by omega) (by omega) ?_
  exact law_g1 (L := L ++ [(90, 0)]) (ad := u) ⟨hx, hb, hml, hown, hts⟩ hK hO (fun f o h => List.mem_append_left _ (hL f o h)) hA hst hfr hlo hRc hRs h1 m90 n91 n92 n93 hns4 hns h90 hLA kk hw hl

end P24T
