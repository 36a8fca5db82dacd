theorem w_ct_L_7 : Cond.constant RL 7 2147483647 ∈ BIG := kB 637 (by decide +kernel) (by decide +kernel)
theorem w_ct_L_8 : Cond.constant RL 8 790386105 ∈ BIG := kB 641 (by decide +kernel) (by decide +kernel)
section P24K
/-- what the law makes of a number: one below n -/
def bl (v : Int32) (n : Nat) : Nat := (v.toBitVec.toNat % 2 ^ 31) % n
theorem bl_lt {v : Int32} {n : Nat} (h : 0 < n) : bl v n < n := Nat.mod_lt _ h
theorem bl_eq {v : Int32} {n : Nat} (h0 : 0 < n) (hn : n < 2 ^ 31) : (v &&& 2147483647) - (v &&& 2147483647) / nI n * nI n = nI (bl v n) := by
  rw [pk_and v 31 (by decide +kernel), pk_rem (Nat.mod_lt _ (by decide)) h0 hn]; rfl
/-- the script's cell -/
def cv (K0 : Nat → Nat) (k : Nat) : Int32 := if k < K0 1 then nI (K0 (2 + k)) else 790386105 * nI (k + 3)
abbrev bw_L_below : List Cond := .code yL_below cL_below 2 (some .int) :: BIG
abbrev rm_L_below : Room := { frames := 0, cells := 0, slots := 0, locals := 0 }
abbrev bw_L_cell : List Cond := .code yL_cell cL_cell 2 (some .int) :: BIG
abbrev rm_L_cell : Room := { frames := 0, cells := 0, slots := 0, locals := 0 }
theorem ct_L_below {l : Launch} {D : va_G} {cI cG cJ cO : ClassId} {K0 : Nat → Nat} {A : Nat → Prop} {L : List (Nat × Nat)} {ad : Nat → Nat → Nat} {ce : Nat → Nat → va_E} (v : Int32) {n : Nat} (h0 : 0 < n) (hn : n < 2 ^ 31) (sz : Nat) (hA : ∀ q, sz ≤ q → A q) : Met l yL_below bw_L_below rm_L_below (kP D (ktys cI cG cJ cO) K0 A L ad ce sz [.int v, .int (nI n)]) (kQi D A (nI (bl v n)) L ad ce) 0 0 A := by
  refine Met.ofW (cc := cL_below) (maxL := 2) (ret := (some .int)) (by decide) rfl ?_
  intro p e s m args below meth c s₁ B hml hv
  obtain ⟨hav, hsz, hP, hD, hK, hO⟩ := hv
  have hx := B.exec
  have hb := B.bytes
  have hr := B.returns
  have hts : ∀ w ∈ BIG, w.before args s = true := fun w h => atoms_spec (ws := bw_L_below) B.pre w (List.mem_cons_of_mem _ h)
  have hown : s.vm.findClass RL = some m.cls := findClass_of_methodNamed B.named
  have hlocks := B.notSynchronized
  subst hsz
  have hw := wk.start hP hD
  refine k_start (by rfl) hav (Nat.le_of_ble_eq_true rfl) (fun ls hl => ?_)
  have hl : lv_has ls 2 [(0, .int v), (1, .int (nI n))] := hl
  refine lv_iload_n hx hb dL_below_0 rfl (lv_at hl 0 rfl) ?_
  refine lv_ldc hx hb hown (hts _ w_ct_L_7) dL_below_1 ?_
  refine lv_iand hx hb dL_below_3 ?_
  refine lv_iload_n hx hb dL_below_4 rfl (lv_at hl 1 rfl) ?_
  refine lv_irem hx hb dL_below_5 (nI_ne0 h0 hn) ?_
  exact k_iret hx hb hr hlocks rfl hw (bl_eq h0 hn).symm rfl dL_below_6
theorem ct_L_cell {l : Launch} {D : va_G} {cI cG cJ cO : ClassId} {K0 : Nat → Nat} {A : Nat → Prop} {L : List (Nat × Nat)} {ad : Nat → Nat → Nat} {ce : Nat → Nat → va_E} (h1 : K0 1 < 2 ^ 31) {k : Nat} (hk : k < 2 ^ 30) (sz : Nat) (hA : ∀ q, sz ≤ q → A q) : Met l yL_cell bw_L_cell rm_L_cell (kP D (ktys cI cG cJ cO) K0 A L ad ce sz [.ref (K0 0), .int (nI k)]) (kQi D A (cv K0 k) L ad ce) 0 0 A := by
  refine Met.ofW (cc := cL_cell) (maxL := 2) (ret := (some .int)) (by decide) rfl ?_
  intro p e s m args below meth c s₁ B hml hv
  obtain ⟨hav, hsz, hP, hD, hK, hO⟩ := hv
  have hx := B.exec
  have hb := B.bytes
  have hr := B.returns
  have hts : ∀ w ∈ BIG, w.before args s = true := fun w h => atoms_spec (ws := bw_L_cell) B.pre w (List.mem_cons_of_mem _ h)
  have hown : s.vm.findClass RL = some m.cls := findClass_of_methodNamed B.named
  have hlocks := B.notSynchronized
  subst hsz
  have hw := wk.start hP hD
  obtain ⟨hX, hbl, hbA⟩ := hO.2.2.2.1
  refine k_start (by rfl) hav (Nat.le_of_ble_eq_true rfl) (fun ls hl => ?_)
  have hl : lv_has ls 2 [(0, .ref (K0 0)), (1, .int (nI k))] := hl
  refine lv_iload_n hx hb dL_cell_0 rfl (lv_at hl 1 rfl) ?_
  refine lv_aload_n hx hb dL_cell_1 rfl (lv_at hl 0 rfl) ?_
  refine va_slen hx hb hX hbl hbA hw.2.2 dL_cell_2 ?_
  by_cases c : k < K0 1
  · have e : cv K0 k = nI (K0 (2 + k)) := if_pos c
    refine lv_icmp_ge (tgt := 12) hx hb dL_cell_3 (by decide) (fun h => absurd h (nI_ge c h1)) (fun _ => ?_)
    refine lv_aload_n hx hb dL_cell_6 rfl (lv_at hl 0 rfl) ?_
    refine lv_iload_n hx hb dL_cell_7 rfl (lv_at hl 1 rfl) ?_
    refine va_sld hx hb hX hbl hbA hw.2.2 (vp_in_nI c h1) dL_cell_8 ?_
    rw [nI_clamp (by omega)]
    refine lv_goto (tgt := 18) hx hb dL_cell_9 (by decide) ?_
    exact k_iret hx hb hr hlocks rfl hw e rfl dL_cell_18
  · have e : cv K0 k = 790386105 * nI (k + 3) := if_neg c
    refine lv_icmp_ge (tgt := 12) hx hb dL_cell_3 (by decide) (fun _ => ?_) (fun h => absurd (nI_le (Nat.le_of_not_lt c) (by omega)) h)
    refine lv_ldc hx hb hown (hts _ w_ct_L_8) dL_cell_12 ?_
    refine lv_iload_n hx hb dL_cell_14 rfl (lv_at hl 1 rfl) ?_
    refine lv_iconst (v := 3) hx hb dL_cell_15 (by decide) ?_
    refine lv_iadd hx hb dL_cell_16 ?_
    rw [show nI k + 3 = nI (k + 3) from nI_add k 3]
    refine lv_imul hx hb dL_cell_17 ?_
    exact k_iret hx hb hr hlocks rfl hw e rfl dL_cell_18
-- bits of what the law gives
theorem shl_1 {n : Nat} (h : n < 31) : (1 : Int32) <<< (nI n &&& 31) = nI (2 ^ n) := by
  have a : ∀ n, n < 31 → (1 : Int32) <<< (nI n &&& 31) = nI (2 ^ n) := by decide +kernel
  exact a n h
theorem lb_nI {q n : Nat} (hn : n ≤ 12) (h : q < 2 ^ n) : lb (nI q) n := by
  have b : (2 : Nat) ^ n ≤ 2 ^ 12 := Nat.pow_le_pow_right (by decide) hn
  refine lb_of (by rw [nI_toInt (by omega)]; omega) ?_
  rw [nI_toInt (by omega)]
  exact_mod_cast h
theorem within_n {x a b : Nat} (h1 : a ≤ x) (h2 : x ≤ b) (hb : b < 2 ^ 20) : ¬ sp_X5_isWithin (nI x) (nI a) (nI b) = 0 := by
  unfold sp_X5_isWithin
  rw [if_neg (nI_nlt h1 (by omega)), if_neg (nI_nlt h2 (by omega))]
  decide
theorem pow_pos (n : Nat) : 0 < 2 ^ n := Nat.two_pow_pos n
-- the law's own rows
variable {p : Program} {l : Launch} {e : Env} {R : Room} {s : State} {m : MethodId} {args : Array Value} {below : List Frame} {meth : Method} {c : Code} {H : Heap} {locs : List Loc} {cells slots : Nat} {Q : State → Prop} {cc : ByteArray} {pc : Nat} {ls : Array Slot} {rest : List Value} {D : va_G} {cI cG cJ cO : ClassId} {K0 : Nat → Nat} {A : Nat → Prop} {L : List (Nat × Nat)} {ad : Nat → Nat → Nat} {ce : Nat → Nat → va_E} {S Z M : STT} {r r' index nL : Nat} {own : String}
theorem cc_upa {f o q g a : Nat} {h : Nat → Int32} (hf : 30 ≤ f) : ccell cI cJ (upa ad f o q) g a h = ccell cI cJ ad g a h := by
  have e : ∀ n, n < 30 → upa ad f o q n = ad n := fun n hn => by unfold upa; rw [if_neg (by omega)]
  match g with
  | 0 => rw [cc_0, cc_0, e 1 (by decide), e 2 (by decide), e 3 (by decide), e 4 (by decide), e 5 (by decide)]
  | 1 => rw [cc_1, cc_1, e 7 (by decide), e 8 (by decide), e 9 (by decide), e 10 (by decide), e 11 (by decide), e 12 (by decide)]
  | 2 => rw [cc_2, cc_2, e 13 (by decide), e 14 (by decide), e 15 (by decide), e 16 (by decide)]
  | 3 => rw [cc_3, cc_3, e 17 (by decide), e 18 (by decide), e 19 (by decide), e 20 (by decide)]
  | 4 => rw [cc_4, cc_4, e 1 (by decide), e 2 (by decide), e 3 (by decide), e 21 (by decide), e 22 (by decide), e 23 (by decide)]
  | 5 =>
    show (.inl (cJ, 8, .inr (.inr (.inr (.inr (fun k => if k < 8 then some (upa ad f o q 6 k) else none))))) : va_E) = .inl (cJ, 8, .inr (.inr (.inr (.inr (fun k => if k < 8 then some (ad 6 k) else none)))))
    rw [e 6 (by decide)]
  | 6 => rw [cc_6, cc_6, e 24 (by decide), e 25 (by decide), e 26 (by decide), e 27 (by decide), e 28 (by decide)]
  | n + 7 => rfl
theorem cK_lo {g a : Nat} (h : g < 30) : cK cI cJ ad ce S g a = ccell cI cJ ad g a (S g a) := if_pos h
theorem cK_new {f o q : Nat} {x : va_E} (hf : 30 ≤ f) : up2 (cK cI cJ ad ce S) f o x = cK cI cJ (upa ad f o q) (up2 ce f o x) S := by
  funext g a
  by_cases h : g < 30
  · rw [up2_o (fun z => by omega), cK_lo h, cK_lo h, cc_upa hf]
  · rw [cK_30 (ad := upa ad f o q) (show 30 ≤ g by omega)]
    by_cases z : g = f ∧ a = o
    · obtain ⟨rfl, rfl⟩ := z
      rw [up2_eq, up2_eq]
    · rw [up2_o z, up2_o z, cK_30 (by omega)]
theorem cK_set {f o : Nat} {x : va_E} (hf : 30 ≤ f) : up2 (cK cI cJ ad ce S) f o x = cK cI cJ ad (up2 ce f o x) S := by
  funext g a
  by_cases h : g < 30
  · rw [up2_o (fun z => by omega), cK_lo h, cK_lo h]
  · rw [cK_30 (ce := up2 ce f o x) (show 30 ≤ g by omega)]
    by_cases z : g = f ∧ a = o
    · obtain ⟨rfl, rfl⟩ := z
      rw [up2_eq, up2_eq]
    · rw [up2_o z, up2_o z, cK_30 (by omega)]
/-- a new row of the law's own -/
theorem r_new (F : CallFix p m c cc nL s args BIG own) (hK : va_K D vwCl (ktys cI cG cJ cO) s) (hA : ∀ q, s.heap.size ≤ q → A q) (hw : wk D A L ad (cK cI cJ ad ce S) s.heap H locs) {f n : Nat} (hf : 30 ≤ f) (hnL : (f, 0) ∉ L) (hn : n ≤ 12) (hc : cells + 1 ≤ R.cells ∧ slots + 12 ≤ R.slots) (hdg : decode cc pc = .ok (.newarray .int, 2))
    (kk : ∀ (u : Nat → Nat → Nat) (ce1 : Nat → Nat → va_E) (H1 : Heap), (∀ g a, g ≠ f → u g a = ad g a) → ce1 f 0 = .inl (cI, n, .inl (fun _ => 0)) → (∀ g a, g ≠ f → ce1 g a = ce g a) → wk D A (L ++ [(f, 0)]) u (cK cI cJ u ce1 S) s.heap H1 locs → W p l e R s m args below meth c H1 locs (cells + 1) (slots + 12) Q (F0 m (pc + 2) ls (.ref (u f 0) :: rest))) : W p l e R s m args below meth c H locs cells slots Q (F0 m pc ls (.int (nI n) :: rest)) := by
  obtain ⟨hx, hb, -, -, hts⟩ := F
  refine k_newi hx hb (hts _ w_ac_int) hK hw hA (n := nI n) (N' := n) (q_ge (by omega)) (q_cl (by omega)) (by show n * 4 ≤ 536870912; omega) hc.1 (by have := hc.2; omega) f 0 hnL hdg (fun q H1 hw1 => ?_)
  rw [cK_new hf (q := q)] at hw1
  refine W.widen (k := cells + 1) (n := slots + 12) (Nat.le_refl _) (by omega) ?_
  exact kk (upa ad f 0 q) (up2 ce f 0 (.inl (cI, n, .inl (fun _ => 0)))) H1 (fun g a hg => by unfold upa; rw [if_neg hg]) up2_eq (fun g a hg => up2_n hg) hw1
/-- .. written -/
theorem r_ast (F : CallFix p m c cc nL s args BIG own) (hK : va_K D vwCl (ktys cI cG cJ cO) s) (hw : wk D A L ad (cK cI cJ ad ce S) s.heap H locs) {f n i : Nat} {g : Nat → Int32} (hi : (f, 0) ∈ L) (hf : 30 ≤ f) (he : ce f 0 = .inl (cI, n, .inl g)) (hin : i < n) (hn : n < 2 ^ 31) {x : Int32} (hdg : decode cc pc = .ok (.iastore, 1))
    (kk : ∀ (ce1 : Nat → Nat → va_E) (H1 : Heap) (locs1 : List Loc), ce1 f 0 = .inl (cI, n, .inl (upd g i x)) → (∀ h a, h ≠ f → ce1 h a = ce h a) → wk D A L ad (cK cI cJ ad ce1 S) s.heap H1 locs1 → W p l e R s m args below meth c H1 locs1 cells slots Q (F0 m (pc + 1) ls rest)) : W p l e R s m args below meth c H locs cells slots Q (F0 m pc ls (.int x :: .int (nI i) :: .ref (ad f 0) :: rest)) := by
  obtain ⟨hx, hb, -, -, hts⟩ := F
  exact k_astn hx hb hK hw hi 0 ((cK_30 hf).trans he) rfl hin hn (cK_set hf) hdg (fun H1 locs1 hw1 => kk _ H1 locs1 up2_eq (fun h a hh => up2_n hh) hw1)
/-- .. forgotten -/
theorem wk.drop {i : Nat × Nat} {H0 : Heap} (hw : wk D A (L ++ [i]) ad ce H0 H locs) : wk D A L ad ce H0 H locs := by
  have e : wl (L ++ [i]) ad ce = wl L ad ce ++ wl [i] ad ce := by unfold wl; rw [List.map_append]
  have g : ∀ (k : Nat) (q : Nat × va_E), (wl L ad ce)[k]? = some q → (wl (L ++ [i]) ad ce)[k]? = some q := fun k q hq => by
    rw [e, List.getElem?_append_left (List.getElem?_eq_some_iff.mp hq).1]; exact hq
  exact ⟨fun k q hq => hw.1 k q (g k q hq), ⟨fun a b p q hp hq => hw.2.1.1 a b p q (g a p hp) (g b q hq), fun k q hq => hw.2.1.2 k q (g k q hq)⟩, hw.2.2⟩
theorem wk.back {f : Nat} {u : Nat → Nat → Nat} {ce1 : Nat → Nat → va_E} {H0 : Heap} (hw : wk D A (L ++ [(f, 0)]) u (cK cI cJ u ce1 S) H0 H locs) (hf : 30 ≤ f) (hn : ∀ a, (f, a) ∉ L) (hu : ∀ g a, g ≠ f → u g a = ad g a) (hce : ∀ g a, g ≠ f → ce1 g a = ce g a) : wk D A L ad (cK cI cJ ad ce S) H0 H locs := by
  refine wk.congr (fun g a h => ?_) hw.drop
  have z : g ≠ f := fun y => hn a (y ▸ h)
  refine ⟨(hu g a z).symm, ?_⟩
  unfold cK
  by_cases q : g < 30
  · rw [if_pos q, if_pos q]
    have e : ∀ n, n < 30 → u n = ad n := fun n hn => by funext a; exact hu n a (by omega)
    match g with
    | 0 => rw [cc_0, cc_0, e 1 (by decide), e 2 (by decide), e 3 (by decide), e 4 (by decide), e 5 (by decide)]
    | 1 => rw [cc_1, cc_1, e 7 (by decide), e 8 (by decide), e 9 (by decide), e 10 (by decide), e 11 (by decide), e 12 (by decide)]
    | 2 => rw [cc_2, cc_2, e 13 (by decide), e 14 (by decide), e 15 (by decide), e 16 (by decide)]
    | 3 => rw [cc_3, cc_3, e 17 (by decide), e 18 (by decide), e 19 (by decide), e 20 (by decide)]
    | 4 => rw [cc_4, cc_4, e 1 (by decide), e 2 (by decide), e 3 (by decide), e 21 (by decide), e 22 (by decide), e 23 (by decide)]
    | 5 =>
      show (.inl (cJ, 8, .inr (.inr (.inr (.inr (fun k => if k < 8 then some (ad 6 k) else none))))) : va_E) = .inl (cJ, 8, .inr (.inr (.inr (.inr (fun k => if k < 8 then some (u 6 k) else none)))))
      rw [e 6 (by decide)]
    | 6 => rw [cc_6, cc_6, e 24 (by decide), e 25 (by decide), e 26 (by decide), e 27 (by decide), e 28 (by decide)]
    | n + 7 => rfl
  · rw [if_neg q, if_neg q, hce g a z]
-- steps, rights and roles are told
theorem n_step (hr : r < 512) (h : RLn r S M) {n : Nat} (hn : S 1 0 0 = nI n) (hlt : n < 12) {p1 p2 p3 p4 : Int32} (c1 : ¬ sp_X5_isWithin p1 0 3 = 0) (c2 : ¬ sp_X5_isWithin p2 1 9 = 0) (c3 : lb p3 n) (c4 : ¬ sp_X5_isOfKind p1 p4 = 0) : (sp_X5_step S p1 p2 p3 p4).1 = 0 ∧ (sp_X5_step S p1 p2 p3 p4).2.1 = nI n ∧ (∃ M', RLn (r + 1) (sp_X5_step S p1 p2 p3 p4).2.2 M') ∧ (∀ f, (f ≠ 1 ∧ f ≠ 7 ∧ f ≠ 8 ∧ f ≠ 9 ∧ f ≠ 10) → (sp_X5_step S p1 p2 p3 p4).2.2 f = S f) ∧ (sp_X5_step S p1 p2 p3 p4).2.2 1 0 0 = nI (n + 1) ∧ (sp_X5_step S p1 p2 p3 p4).2.2 1 0 1 = S 1 0 1 ∧ (sp_X5_step S p1 p2 p3 p4).2.2 7 0 = upd (S 7 0) n p1 ∧ (sp_X5_step S p1 p2 p3 p4).2.2 9 0 = upd (S 9 0) n p3 := by
  have hk : ¬ sp_X2_knows S p3 = 0 := fun z => (knows_iff (by omega) hn).1.mp z c3
  have hadd : sp_X2_addStep S p1 p2 p3 p4 = (nI n, up3 (up3 (up3 (up3 (up3 S 7 0 n p1) 8 0 n p2) 9 0 n p3) 10 0 n p4) 1 0 0 (nI (n + 1))) := by
    rw [un_X2_addStep]; unfold rw_X2_addStep
    rw [hn, if_pos (show nI n < (12 : Int32) from q_lt (n := 12) (by omega) (by decide)), q_cl (by omega), up3_e, q_succ, nI_pr]
  have hE : sp_X5_step S p1 p2 p3 p4 = (0, nI n, up3 (up3 (up3 (up3 (up3 S 7 0 n p1) 8 0 n p2) 9 0 n p3) 10 0 n p4) 1 0 0 (nI (n + 1))) := by
    rw [un_X5_step]; unfold rw_X5_step
    rw [if_neg c1, if_neg c2, if_neg hk, if_neg c4, hadd, if_neg (q_m1 (by omega))]
  obtain ⟨w, -, -, -, w4⟩ := s_step r S M hr h p1 p2 p3 p4
  rw [hE] at w4
  rw [hE]
  refine ⟨rfl, rfl, ⟨_, w4⟩, fun f hf => ?_, (show (up3 (up3 (up3 (up3 (up3 S 7 0 n p1) 8 0 n p2) 9 0 n p3) 10 0 n p4) 1 0 0 (nI (n + 1))) 1 0 0 = nI (n + 1) from up3_e), ?_, ?_, ?_⟩
  · show (up3 (up3 (up3 (up3 (up3 S 7 0 n p1) 8 0 n p2) 9 0 n p3) 10 0 n p4) 1 0 0 (nI (n + 1))) f = S f
    rw [up3_f hf.1, up3_f hf.2.2.2.2, up3_f hf.2.2.2.1, up3_f hf.2.2.1, up3_f hf.2.1]
  · show (up3 (up3 (up3 (up3 (up3 S 7 0 n p1) 8 0 n p2) 9 0 n p3) 10 0 n p4) 1 0 0 (nI (n + 1))) 1 0 1 = S 1 0 1
    rw [up3_i (by decide), up3_f (by decide), up3_f (by decide), up3_f (by decide), up3_f (by decide)]
  · show (up3 (up3 (up3 (up3 (up3 S 7 0 n p1) 8 0 n p2) 9 0 n p3) 10 0 n p4) 1 0 0 (nI (n + 1))) 7 0 = _
    rw [up3_f (by decide), up3_f (by decide), up3_f (by decide), up3_f (by decide), up3_s]
  · show (up3 (up3 (up3 (up3 (up3 S 7 0 n p1) 8 0 n p2) 9 0 n p3) 10 0 n p4) 1 0 0 (nI (n + 1))) 9 0 = _
    rw [up3_f (by decide), up3_f (by decide), up3_s, up3_f (by decide), up3_f (by decide)]
theorem n_right (hr : r < 512) (h : RLn r S M) {n k : Nat} (hn : S 1 0 1 = nI n) (hlt : n < 6) (hk : S 1 0 0 = nI k) (hk12 : k ≤ 12) {p1 : Int32} (c1 : lb p1 k) (c0 : ¬ p1 = 0) : (sp_X5_right S p1).1 = 0 ∧ (sp_X5_right S p1).2.1 = nI n ∧ (∃ M', RLn (r + 1) (sp_X5_right S p1).2.2 M') ∧ (∀ f, (f ≠ 1 ∧ f ≠ 12) → (sp_X5_right S p1).2.2 f = S f) ∧ (sp_X5_right S p1).2.2 1 0 1 = nI (n + 1) ∧ (sp_X5_right S p1).2.2 1 0 0 = S 1 0 0 ∧ (sp_X5_right S p1).2.2 12 0 = upd (S 12 0) n p1 := by
  have hkn : ¬ sp_X2_knows S p1 = 0 := fun z => (knows_iff hk12 hk).1.mp z c1
  have hp := (lb_pos c1 hk12).1
  have h1 : ¬ p1 < 1 := fun z => by
    rw [Int32.lt_iff_toInt_lt, one_i] at z
    exact c0 (Int32.toInt_inj.mp (by rw [z_i]; omega))
  have hadd : sp_X2_addRight S p1 = (nI n, up3 (up3 S 12 0 n p1) 1 0 1 (nI (n + 1))) := by
    rw [un_X2_addRight]; unfold rw_X2_addRight
    rw [hn, if_pos (show nI n < (6 : Int32) from q_lt (n := 6) (by omega) (by decide)), q_cl (by omega), up3_e, q_succ, nI_pr]
  have hE : sp_X5_right S p1 = (0, nI n, up3 (up3 S 12 0 n p1) 1 0 1 (nI (n + 1))) := by
    rw [un_X5_right]; unfold rw_X5_right
    rw [if_neg h1, if_neg hkn, hadd, if_neg (q_m1 (by omega))]
  obtain ⟨w, -, -, -, w4⟩ := s_right r S M hr h p1
  rw [hE] at w4
  rw [hE]
  refine ⟨rfl, rfl, ⟨_, w4⟩, fun f hf => ?_, (show (up3 (up3 S 12 0 n p1) 1 0 1 (nI (n + 1))) 1 0 1 = nI (n + 1) from up3_e), ?_, ?_⟩
  · show (up3 (up3 S 12 0 n p1) 1 0 1 (nI (n + 1))) f = S f
    rw [up3_f hf.1, up3_f hf.2]
  · show (up3 (up3 S 12 0 n p1) 1 0 1 (nI (n + 1))) 1 0 0 = S 1 0 0
    rw [up3_i (by decide), up3_f (by decide)]
  · show (up3 (up3 S 12 0 n p1) 1 0 1 (nI (n + 1))) 12 0 = _
    rw [up3_f (by decide), up3_s]
theorem n_role (hr : r < 512) (h : RLn r S M) {q k : Nat} (hq : q < 4) (hk : S 1 0 0 = nI k) (hk12 : k ≤ 12) {p1 : Int32} (c1 : lb p1 k) : (sp_X5_role S (nI q) p1).1 = 0 ∧ (sp_X5_role S (nI q) p1).2.1 = S 11 0 q ∧ (∃ M', RLn (r + 1) (sp_X5_role S (nI q) p1).2.2 M') ∧ (∀ f, f ≠ 11 → (sp_X5_role S (nI q) p1).2.2 f = S f) ∧ (sp_X5_role S (nI q) p1).2.2 11 0 = upd (S 11 0) q p1 := by
  have hkn : ¬ sp_X2_knows S p1 = 0 := fun z => (knows_iff hk12 hk).1.mp z c1
  have hE : sp_X5_role S (nI q) p1 = (0, S 11 0 q, up3 S 11 0 q p1) := by
    rw [un_X5_role]; unfold rw_X5_role
    rw [ite_in (n := 4) hq (by decide) rfl, if_neg hkn, q_cl (by omega)]
  obtain ⟨w, -, -, -, w4⟩ := s_role r S M hr h (nI q) p1
  rw [hE] at w4
  rw [hE]
  exact ⟨rfl, rfl, ⟨_, w4⟩, fun f hf => up3_f hf, (show (up3 S 11 0 q p1) 11 0 = upd (S 11 0) q p1 from up3_s)⟩
theorem n_next (v : IV S) {q : Nat} (hq : q < (S 0 0 0).toNatClampNeg) (hl : ¬ S 6 q 2 = 0) : (sp_X5_next S (nI q)).1 = 0 ∧ (sp_X5_next S (nI q)).2 = -1 := by
  have hja : sp_X5_joinerAt S (nI q) = (0, q) := jat_in v (fun _ _ => rfl) hq
  have hE : sp_X5_next S (nI q) = (0, -1) := by
    unfold sp_X5_next
    rw [hja, if_pos rfl]
    unfold sp_X5_nextStep
    rw [if_neg hl]
  rw [hE]; exact ⟨rfl, rfl⟩
end P24K
