section P24S
theorem K_arr {args : Array Value} {s : State} {ty : FieldType} (hp : ∀ C, ty ≠ .object C) (h : (Cond.arrayClass ty).before args s = true) : ∃ cA, ArrOfT s cA ty ∧ va_RA s cA ty := by
  obtain ⟨cA, kA, comp, h1, h2, h3⟩ := Cond.arrayClass_spec h
  exact ⟨cA, fun n z => ⟨fun k h => (by cases h), kA, h2, comp, h3⟩, by
    cases ty <;> first | exact absurd rfl (hp _) | exact h1⟩
theorem K_obj {args : Array Value} {s : State} {C : String} (h : (Cond.arrayOver (.object C)).before args s = true) : ∃ cA, ArrOfT s cA (.object C) ∧ va_RA s cA (.object C) := by
  obtain ⟨comp, cA, kA, h1, h2, h3, h4, h5⟩ := Cond.arrayOver_spec h
  exact ⟨cA, fun n z => ⟨fun k h => (by cases h), kA, h3, comp, h4⟩, kA, comp, h3, h4, h1, h5⟩
theorem tb {i : Nat} {w : Cond} (h : tables_1[i]? = some w) : w ∈ lw_tbl := List.mem_append_right _ (List.mem_of_getElem? h)
theorem w_is_X5 : Cond.instantiable RX5 7 ∈ BIG := kB 16 (by decide +kernel) (by decide +kernel)
theorem K_cls {args : Array Value} {s : State} (hts : ∀ w ∈ BIG, w.before args s = true) : ∀ q ∈ vwCl, ∃ (cC : ClassId) (iS : Nat → Nat), u_Kn s q.1 q.2.1 q.2.2 cC iS := by
  intro q hq
  simp only [List.mem_cons, List.not_mem_nil, or_false] at hq
  rcases hq with rfl | rfl | rfl | rfl | rfl | rfl
  · exact u_known hts inB_X0 (hts _ w_is_X0)
  · exact u_known hts inB_X1 (hts _ w_is_X1)
  · exact u_known hts inB_X2 (hts _ w_is_X2)
  · exact u_known hts inB_X3 (hts _ w_is_X3)
  · exact u_known hts inB_X4 (hts _ w_is_X4)
  · exact u_known hts inB_X5 (hts _ w_is_X5)
theorem K_all {args : Array Value} {s : State} (hts0 : ∀ w ∈ lw_tbl, w.before args s = true) : ∃ (D : va_G) (cI cJ : ClassId), va_K D vwCl (ktys cI cI cJ cJ) s := by
  have hts : ∀ w ∈ BIG, w.before args s = true := fun w h => hts0 w (List.mem_filter.mp h).1
  have h1 : ∀ c : Nat, ∃ (cC : ClassId) (iS : Nat → Nat), ∀ q : vw_C, vwCl[c]? = some q → u_Kn s q.1 q.2.1 q.2.2 cC iS := fun c => by
    cases hq : vwCl[c]? with
    | none => exact ⟨0, fun _ => 0, fun q h => nomatch h⟩
    | some q =>
      obtain ⟨cC, iS, h⟩ := K_cls hts q (List.mem_of_getElem? hq)
      exact ⟨cC, iS, fun q' e => by cases e; exact h⟩
  obtain ⟨cI, i1, i2⟩ := K_arr (ty := .int) (fun C h => nomatch h) (hts _ w_ac_int)
  obtain ⟨cJ, j1, j2⟩ := K_obj (C := "OnboardingWorks$Joiner") (hts0 _ (tb (i := 147) (by decide +kernel)))
  refine ⟨(fun c => Classical.choose (h1 c), fun c => Classical.choose (Classical.choose_spec (h1 c))), cI, cJ, fun c q hq => Classical.choose_spec (Classical.choose_spec (h1 c)) q hq, fun k q hk => ?_⟩
  match k, hk with
  | 0, hk => cases hk; exact ⟨i1, i2⟩
  | 1, hk => cases hk; exact ⟨i1, i2⟩
  | 2, hk => cases hk; exact ⟨j1, j2⟩
  | 3, hk => cases hk; exact ⟨j1, j2⟩
  | n + 4, hk => exact nomatch hk
theorem nI_bv (x : Int32) : nI x.toBitVec.toNat = x := by
  apply Int32.toBitVec_inj.mp
  show BitVec.ofNat 32 x.toBitVec.toNat = x.toBitVec
  simp
/-- what the Statement gives of the start, piece by piece -/
def nrw : List Cond := flatC (Jvm.Cond.and given_1 narrow_1)
theorem kstr_t : ∀ q ∈ kstr, Cond.stringRef q.1 q.2.1 q.2.2 ∈ lw_tbl := by decide +kernel
theorem OW_all {args : Array Value} {s : State} {D : va_G} {tys : List (ClassId × FieldType)} {b N : Nat} {xs : Nat → Int32} (hts0 : ∀ w ∈ lw_tbl, w.before args s = true) (hg : ∀ w ∈ nrw, w.before args s = true) (hK : va_K D vwCl tys s) (hX : va_X b N xs s s.heap) (hbl : b < s.heap.size) : ∃ K0 : Nat → Nat, K0 0 = b ∧ K0 1 = N ∧ OW (fun q => s.heap.size ≤ q) K0 s := by
  have hA : ∀ a : Nat, a < s.heap.size → ¬ (fun q : Nat => s.heap.size ≤ q) a := fun a h => Nat.not_le.mpr h
  have t := fun (i : Nat) (w : Cond) (h : tables_1[i]? = some w) => hts0 w (tb h)
  obtain ⟨K0, k0, k1, k2⟩ : ∃ K0 : Nat → Nat, K0 0 = b ∧ K0 1 = N ∧ ∀ k, K0 (2 + k) = (xs k).toBitVec.toNat := ⟨fun n => if n = 0 then b else if n = 1 then N else (xs (n - 2)).toBitVec.toNat, rfl, rfl, fun k => by
    show (if 2 + k = 0 then b else if 2 + k = 1 then N else (xs (2 + k - 2)).toBitVec.toNat) = _
    rw [if_neg (by omega), if_neg (by omega), Nat.add_sub_cancel_left]⟩
  refine ⟨K0, k0, k1, ⟨vx_Zqof (t 257 _ (by decide +kernel)) (t 7 _ (by decide +kernel)) (hg _ (show Cond.isRef (.static "java/lang/Throwable" "UNASSIGNED_STACK" "[Ljava/lang/StackTraceElement;") ∈ nrw by decide +kernel)) hA, vx_Zqof (t 259 _ (by decide +kernel)) (t 7 _ (by decide +kernel)) (hg _ (show Cond.isRef (.static "java/lang/Throwable" "SUPPRESSED_SENTINEL" "Ljava/util/List;") ∈ nrw by decide +kernel)) hA⟩, fun q hq => ?_, fun w hw => ?_, ⟨?_, by rw [k0]; exact hbl, by rw [k0]; exact hA b hbl⟩, ⟨va_AO.of (hts0 _ (tb (i := 147) (by decide +kernel))), trivial⟩⟩
  · have h := hts0 _ (kstr_t q hq)
    have ho : q.1 = RX5 := (show ∀ q ∈ kstr, q.1 = RX5 by decide) q hq
    obtain ⟨k, cf, i, a, -, -, -, -, -, h6⟩ := Cond.stringRef_spec (by rw [ho]; exact (hK.1 5 _ rfl).2.1) h
    exact ⟨a, vk_R.of h h6⟩
  · have hw := List.mem_filter.mp hw
    exact va_Nw.of (kmv_t hw.2) (hts0 _ hw.1)
  · have e : (fun i => nI (K0 (2 + i))) = xs := funext fun i => by rw [k2, nI_bv]
    rw [e, k0, k1]; exact hX
theorem cid_lt {f o : Nat} (h : cid f o = true) : f < 29 := by
  unfold cid at h
  split at h
  · omega
  · split at h
    · omega
    · split at h
      · omega
      · exact absurd h (by decide)
theorem LJ_or {L : List (Nat × Nat)} {j : Nat} {i : Nat × Nat} (h : i ∈ LJ L j) : i ∈ L ∨ (jid i.1 ∧ i.2 < j) := by
  induction j with
  | zero => exact Or.inl h
  | succ j ih =>
    unfold LJ at h
    simp only [List.mem_append, List.mem_singleton] at h
    rcases h with ((((((h | h) | h) | h) | h) | h) | h)
    · exact (ih h).imp id (fun y => ⟨y.1, Nat.lt_succ_of_lt y.2⟩)
    all_goals (subst h; exact Or.inr ⟨by unfold jid; omega, Nat.lt_succ_self _⟩)
/-- the class's own ids -/
def LCl : List (Nat × Nat) := LJ ([] ++ [(0, 0)] ++ [(1, 0)] ++ [(7, 0)] ++ [(8, 0)] ++ [(9, 0)] ++ [(10, 0)] ++ [(11, 0)] ++ [(12, 0)] ++ [(2, 0)] ++ [(13, 0)] ++ [(14, 0)] ++ [(15, 0)] ++ [(16, 0)] ++ [(3, 0)] ++ [(17, 0)] ++ [(18, 0)] ++ [(19, 0)] ++ [(20, 0)] ++ [(4, 0)] ++ [(21, 0)] ++ [(22, 0)] ++ [(23, 0)] ++ [(5, 0)]) 8
theorem LCl_cid {f o : Nat} (h : (f, o) ∈ LCl) : cid f o = true := by
  unfold LCl at h
  rcases LJ_or h with h | ⟨h1, h2⟩
  · exact (by decide : ∀ i ∈ ([] ++ [(0, 0)] ++ [(1, 0)] ++ [(7, 0)] ++ [(8, 0)] ++ [(9, 0)] ++ [(10, 0)] ++ [(11, 0)] ++ [(12, 0)] ++ [(2, 0)] ++ [(13, 0)] ++ [(14, 0)] ++ [(15, 0)] ++ [(16, 0)] ++ [(3, 0)] ++ [(17, 0)] ++ [(18, 0)] ++ [(19, 0)] ++ [(20, 0)] ++ [(4, 0)] ++ [(21, 0)] ++ [(22, 0)] ++ [(23, 0)] ++ [(5, 0)]), cid i.1 i.2 = true) _ h
  · have h2 : o < 8 := h2
    have h1 : jid f := h1
    unfold cid
    rcases h1 with rfl | rfl | rfl | rfl | rfl | rfl <;> simp [h2]
theorem cid_LCl {f o : Nat} (h : cid f o = true) : (f, o) ∈ LCl := by
  unfold LCl
  by_cases hj : jid f ∧ o < 8
  · exact LJ_in hj.2 hj.1
  by_cases h5 : f = 5 ∧ o = 0
  · obtain ⟨rfl, rfl⟩ := h5
    exact LJ_L (by simp)
  · refine LJ_L ?_
    exact (by decide : ∀ i ∈ NW, i ∈ ([] ++ [(0, 0)] ++ [(1, 0)] ++ [(7, 0)] ++ [(8, 0)] ++ [(9, 0)] ++ [(10, 0)] ++ [(11, 0)] ++ [(12, 0)] ++ [(2, 0)] ++ [(13, 0)] ++ [(14, 0)] ++ [(15, 0)] ++ [(16, 0)] ++ [(3, 0)] ++ [(17, 0)] ++ [(18, 0)] ++ [(19, 0)] ++ [(20, 0)] ++ [(4, 0)] ++ [(21, 0)] ++ [(22, 0)] ++ [(23, 0)] ++ [(5, 0)])) _ (cid_N h hj h5)
theorem LCl_no {f o : Nat} (h : 29 ≤ f) : (f, o) ∉ LCl := fun z => by have := cid_lt (LCl_cid z); omega
theorem wk.nil {D : va_G} {A : Nat → Prop} {ad : Nat → Nat → Nat} {ce : Nat → Nat → va_E} {H : Heap} : wk D A [] ad ce H H [] :=
  ⟨fun k q h => by simp [wl] at h, ⟨fun i j p1 q1 h _ _ => by simp [wl] at h, fun k q h => by simp [wl] at h⟩, va_S.rf⟩
theorem world_0 {D : va_G} {A : Nat → Prop} {cI cJ : ClassId} {ce ce0 : Nat → Nat → va_E} {H0 H : Heap} {locs : List Loc} {u : Nat → Nat → Nat} (hw : wk D A LCl u (cA cI cJ u ce0) H0 H locs) : wk D A LCl u (cK cI cJ u ce S0) H0 H locs := by
  refine hw.congr (fun f o h => ⟨rfl, ?_⟩)
  have c := LCl_cid h
  have hf := cid_lt c
  unfold cA cK
  rw [if_pos c, if_pos (by omega)]
theorem LA.start {kd nd : Nat → Int32} : LA kd nd 0 S0 :=
  ⟨0, M0, Nat.le_refl 0, RLn.start, rfl, rfl, fun s hs => Int.le_refl _, fun s hs => by show (0 : Int32).toInt ≤ 199; decide, rfl, rfl, fun a ha => absurd ha (Nat.not_lt_zero a), fun q hq => rfl⟩
end P24S
