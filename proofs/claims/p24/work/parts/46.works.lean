section WORKS
variable {p : Program} {l : Launch} {e : Env} {R : Room} {s : State} {m : MethodId} {args : Array Value} {below : List Frame} {meth : Method} {c : Code} {H : Heap} {locs : List Loc} {cells slots : Nat} {Q : State → Prop} {cc : ByteArray} {pc : Nat} {ls : Array Slot} {rest st0 : List Value} {D : va_G} {A : Nat → Prop} {tys : List (ClassId × FieldType)} {K0 : Nat → Nat} {H0 : Heap} {L L' : List (Nat × Nat)} {ad ad' : Nat → Nat → Nat} {ce ce' : Nat → Nat → va_E} {cI cG cJ cO : ClassId} {mc ms : Nat}
theorem cX_o {N : List (Nat × Nat)} {f o : Nat} (h : (f, o) ∉ N) : cX cI cJ ad ce N f o = ce f o := if_neg h
theorem cX_i {N : List (Nat × Nat)} {f o : Nat} (h : (f, o) ∈ N) : cX cI cJ ad ce N f o = ccell cI cJ ad f o (S0 f o) := if_pos h
theorem k_astq2 (hx : p.tables.exec = Jvm.exec) (hb : c.code = cc) (hK : va_K D vwCl tys s) (hw : wk D A L ad ce H0 H locs) {f o a : Nat} (hi : (f, o) ∈ L) (ha : ad f o = a) (t0 : Nat) {f2 o2 v : Nat} (hi2 : (f2, o2) ∈ L) (ha2 : ad f2 o2 = v) {ci : Nat} {r : vw_C} {cA : ClassId} {n : Nat} {vs : List Value} {g : Nat → Option Nat} (he : ce f o = .inl (cA, n, .inr (.inr (.inr (.inr g))))) (ht : tys[t0]? = some (cA, .object r.1)) (hv : ce f2 o2 = .inr (ci, vs)) (hc : vwCl[ci]? = some r) {i : Int32} (hin : vp_in i n) (hdg : decode cc pc = .ok (.aastore, 1))
    (kk : ∀ (H1 : Heap) (locs1 : List Loc), wk D A L ad (up2 ce f o (.inl (cA, n, .inr (.inr (.inr (.inr (va_up g i.toNatClampNeg (some v)))))))) H0 H1 locs1 → W p l e R s m args below meth c H1 locs1 cells slots Q (F0 m (pc + 1) ls rest)) : W p l e R s m args below meth c H locs cells slots Q (F0 m pc ls (.ref v :: .int i :: .ref a :: rest)) := by
  subst ha; subst ha2
  obtain ⟨q, hq⟩ := wl_in hi
  obtain ⟨q2, hq2⟩ := wl_in hi2
  refine va_astq hx hb hK hw.1 hw.2.1 hw.2.2 q t0 q2 ci ((wl_at hq).trans (by rw [he])) ht ((wl_at hq2).trans (by rw [hv])) hc hin hdg (fun H1 locs1 h1 h2 h3 => kk H1 locs1 ⟨?_, ?_, h3⟩)
  · rw [wl_set hw.2.1 hq] at h1; exact h1
  · rw [wl_set hw.2.1 hq] at h2; exact h2
/-- the class's ids, made joiner by joiner -/
def LJ (L : List (Nat × Nat)) : Nat → List (Nat × Nat)
  | 0 => L
  | j + 1 => LJ L j ++ [(6, j)] ++ [(24, j)] ++ [(25, j)] ++ [(26, j)] ++ [(27, j)] ++ [(28, j)]
abbrev jid (f : Nat) : Prop := f = 6 ∨ f = 24 ∨ f = 25 ∨ f = 26 ∨ f = 27 ∨ f = 28
theorem LJ_in {j k f : Nat} (h : k < j) (hf : jid f) : (f, k) ∈ LJ L j := by
  induction j with
  | zero => exact absurd h (Nat.not_lt_zero _)
  | succ j ih =>
    unfold LJ
    by_cases q : k = j
    · subst q
      rcases hf with rfl | rfl | rfl | rfl | rfl | rfl <;> simp
    · have := ih (by omega)
      simp [this]
theorem LJ_L {j : Nat} {i : Nat × Nat} (h : i ∈ L) : i ∈ LJ L j := by
  induction j with
  | zero => exact h
  | succ j ih =>
    unfold LJ
    simp [ih]
theorem LJ_n {j : Nat} {f o : Nat} (h : (f, o) ∉ L) (ho : j ≤ o) : (f, o) ∉ LJ L j := by
  induction j with
  | zero => exact h
  | succ j ih =>
    unfold LJ
    have h1 := ih (by omega)
    have h2 : o ≠ j := by omega
    simp [h1, h2]
/-- the cells when j joiners are made -/
def cJn (cI cJ : ClassId) (u : Nat → Nat → Nat) (CE : Nat → Nat → va_E) (j : Nat) : Nat → Nat → va_E := fun f o => if jid f ∧ o < j then ccell cI cJ u f o (S0 f o) else if f = 5 ∧ o = 0 then .inl (cJ, 8, .inr (.inr (.inr (.inr (fun k => if k < j then some (u 6 k) else none))))) else CE f o
theorem cJn_o {u : Nat → Nat → Nat} {CE : Nat → Nat → va_E} {j f o : Nat} (h : ¬ jid f) (h5 : f ≠ 5) : cJn cI cJ u CE j f o = CE f o := by
  unfold cJn; rw [if_neg (fun z => h z.1), if_neg (fun z => h5 z.1)]
theorem cJn_5 {u : Nat → Nat → Nat} {CE : Nat → Nat → va_E} {j : Nat} : cJn cI cJ u CE j 5 0 = .inl (cJ, 8, .inr (.inr (.inr (.inr (fun k => if k < j then some (u 6 k) else none))))) := by
  unfold cJn; rw [if_neg (by unfold jid; omega), if_pos ⟨rfl, rfl⟩]
theorem ccell_jx {u u' : Nat → Nat → Nat} {f o : Nat} {g : Nat → Int32} (hf : jid f) (h : ∀ f, jid f → u' f o = u f o) : ccell cI cJ u' f o g = ccell cI cJ u f o g := by
  rcases hf with rfl | rfl | rfl | rfl | rfl | rfl
  · rw [cc_6, cc_6, h 24 (by unfold jid; omega), h 25 (by unfold jid; omega), h 26 (by unfold jid; omega), h 27 (by unfold jid; omega), h 28 (by unfold jid; omega)]
  all_goals rfl
theorem cJn_s {u1 u2 : Nat → Nat → Nat} {CE : Nat → Nat → va_E} {j a : Nat} {z : va_E} (hE : Ex (LJ L j) u1 u2) (ha : u2 6 j = a) : up2 (cX cI cJ u2 (up2 (cJn cI cJ u1 CE j) 6 j z) [(6, j), (24, j), (25, j), (26, j), (27, j), (28, j)]) 5 0 (.inl (cJ, 8, .inr (.inr (.inr (.inr (va_up (fun k => if k < j then some (u1 6 k) else none) j (some a))))))) = cJn cI cJ u2 CE (j + 1) := by
  funext f o
  by_cases h5 : f = 5 ∧ o = 0
  · obtain ⟨rfl, rfl⟩ := h5
    rw [up2_eq, cJn_5]
    congr 7
    funext k
    unfold va_up
    by_cases q : k = j
    · subst q
      rw [if_pos rfl, if_pos (Nat.lt_succ_self _), ha]
    · rw [if_neg q]
      show (if k < j then some (u1 6 k) else none) = _
      by_cases q2 : k < j
      · rw [if_pos q2, if_pos (by omega), hE 6 k (LJ_in q2 (Or.inl rfl))]
      · rw [if_neg q2, if_neg (by omega)]
  · rw [up2_o h5]
    by_cases hj : jid f ∧ o < j + 1
    · have e2 : cJn cI cJ u2 CE (j + 1) f o = ccell cI cJ u2 f o (S0 f o) := by unfold cJn; rw [if_pos hj]
      rw [e2]
      by_cases q : o = j
      · subst q
        exact cX_i (by rcases hj.1 with rfl | rfl | rfl | rfl | rfl | rfl <;> simp)
      · rw [cX_o (by simp [q]), up2_o (fun z => q z.2)]
        unfold cJn
        rw [if_pos ⟨hj.1, by omega⟩]
        exact (ccell_jx hj.1 (fun f hf => hE f o (LJ_in (by omega) hf))).symm
    · have e2 : cJn cI cJ u2 CE (j + 1) f o = CE f o := by unfold cJn; rw [if_neg hj, if_neg h5]
      have q : ¬ (jid f ∧ o = j) := fun z => hj ⟨z.1, by omega⟩
      rw [e2, cX_o (by
        intro z
        simp only [List.mem_cons, List.not_mem_nil, or_false, Prod.mk.injEq] at z
        refine q ?_
        unfold jid
        omega), up2_o (fun z => q ⟨Or.inl z.1, z.2⟩)]
      unfold cJn
      rw [if_neg (fun z => hj ⟨z.1, by omega⟩), if_neg h5]
theorem cJn_0 {u : Nat → Nat → Nat} {CE : Nat → Nat → va_E} (h : CE 5 0 = .inl (cJ, 8, .inr (.inr (.inr (.inr (fun _ => none)))))) : cJn cI cJ u CE 0 = CE := by
  funext f o
  unfold cJn
  rw [if_neg (fun z => Nat.not_lt_zero _ z.2)]
  by_cases h5 : f = 5 ∧ o = 0
  · obtain ⟨rfl, rfl⟩ := h5
    rw [if_pos ⟨rfl, rfl⟩, h]
    congr 7
  · rw [if_neg h5]
/-- all the class's cells -/
def cA (cI cJ : ClassId) (u : Nat → Nat → Nat) (ce : Nat → Nat → va_E) : Nat → Nat → va_E := fun f o => if cid f o = true then ccell cI cJ u f o (S0 f o) else ce f o
abbrev NW : List (Nat × Nat) := [(0, 0), (1, 0), (2, 0), (3, 0), (4, 0), (7, 0), (8, 0), (9, 0), (10, 0), (11, 0), (12, 0), (13, 0), (14, 0), (15, 0), (16, 0), (17, 0), (18, 0), (19, 0), (20, 0), (21, 0), (22, 0), (23, 0)]
theorem cid_N {f o : Nat} (hc : cid f o = true) (hj : ¬ (jid f ∧ o < 8)) (h5 : ¬ (f = 5 ∧ o = 0)) : (f, o) ∈ NW := by
  unfold cid at hc
  split at hc
  · rename_i h
    exact absurd ⟨Or.inl h, of_decide_eq_true hc⟩ hj
  · split at hc
    · have h0 := of_decide_eq_true hc
      subst h0
      rename_i h1 h2
      have h3 : f ≠ 5 := fun z => h5 ⟨z, rfl⟩
      have : f = 0 ∨ f = 1 ∨ f = 2 ∨ f = 3 ∨ f = 4 ∨ f = 7 ∨ f = 8 ∨ f = 9 ∨ f = 10 ∨ f = 11 ∨ f = 12 ∨ f = 13 ∨ f = 14 ∨ f = 15 ∨ f = 16 ∨ f = 17 ∨ f = 18 ∨ f = 19 ∨ f = 20 ∨ f = 21 ∨ f = 22 ∨ f = 23 := by omega
      rcases this with rfl | rfl | rfl | rfl | rfl | rfl | rfl | rfl | rfl | rfl | rfl | rfl | rfl | rfl | rfl | rfl | rfl | rfl | rfl | rfl | rfl | rfl <;> exact List.contains_iff_mem.mp (by decide)
    · split at hc
      · exfalso
        refine hj ⟨?_, of_decide_eq_true hc⟩
        unfold jid
        omega
      · exact absurd hc (by decide)
theorem cA_x {u5 u : Nat → Nat → Nat} {CE : Nat → Nat → va_E} (hCN : ∀ f o, ¬ (f = 5 ∧ o = 0) → CE f o = if (f, o) ∈ NW then ccell cI cJ u5 f o (S0 f o) else ce f o) (hE : ∀ f, 0 < f → f < 24 → f ≠ 6 → u f 0 = u5 f 0) : cA cI cJ u ce = cJn cI cJ u CE 8 := by
  funext f o
  unfold cA cJn
  by_cases hj : jid f ∧ o < 8
  · rw [if_pos hj, if_pos (by unfold cid; rcases hj.1 with rfl | rfl | rfl | rfl | rfl | rfl <;> simp [hj.2])]
  · rw [if_neg hj]
    by_cases h5 : f = 5 ∧ o = 0
    · obtain ⟨rfl, rfl⟩ := h5
      exact (if_pos (by decide)).trans (if_pos ⟨rfl, rfl⟩).symm
    · rw [if_neg h5, hCN f o h5]
      by_cases h : (f, o) ∈ NW
      · rw [if_pos h]
        simp only [NW, List.mem_cons, List.not_mem_nil, or_false, Prod.mk.injEq] at h
        rcases h with ⟨rfl, rfl⟩ | ⟨rfl, rfl⟩ | ⟨rfl, rfl⟩ | ⟨rfl, rfl⟩ | ⟨rfl, rfl⟩ | ⟨rfl, rfl⟩ | ⟨rfl, rfl⟩ | ⟨rfl, rfl⟩ | ⟨rfl, rfl⟩ | ⟨rfl, rfl⟩ | ⟨rfl, rfl⟩ | ⟨rfl, rfl⟩ | ⟨rfl, rfl⟩ | ⟨rfl, rfl⟩ | ⟨rfl, rfl⟩ | ⟨rfl, rfl⟩ | ⟨rfl, rfl⟩ | ⟨rfl, rfl⟩ | ⟨rfl, rfl⟩ | ⟨rfl, rfl⟩ | ⟨rfl, rfl⟩ | ⟨rfl, rfl⟩
        · rw [if_pos (by decide), cc_0, cc_0, hE 1 (by decide) (by decide) (by decide), hE 2 (by decide) (by decide) (by decide), hE 3 (by decide) (by decide) (by decide), hE 4 (by decide) (by decide) (by decide), hE 5 (by decide) (by decide) (by decide)]
        · rw [if_pos (by decide), cc_1, cc_1, hE 7 (by decide) (by decide) (by decide), hE 8 (by decide) (by decide) (by decide), hE 9 (by decide) (by decide) (by decide), hE 10 (by decide) (by decide) (by decide), hE 11 (by decide) (by decide) (by decide), hE 12 (by decide) (by decide) (by decide)]
        · rw [if_pos (by decide), cc_2, cc_2, hE 13 (by decide) (by decide) (by decide), hE 14 (by decide) (by decide) (by decide), hE 15 (by decide) (by decide) (by decide), hE 16 (by decide) (by decide) (by decide)]
        · rw [if_pos (by decide), cc_3, cc_3, hE 17 (by decide) (by decide) (by decide), hE 18 (by decide) (by decide) (by decide), hE 19 (by decide) (by decide) (by decide), hE 20 (by decide) (by decide) (by decide)]
        · rw [if_pos (by decide), cc_4, cc_4, hE 1 (by decide) (by decide) (by decide), hE 2 (by decide) (by decide) (by decide), hE 3 (by decide) (by decide) (by decide), hE 21 (by decide) (by decide) (by decide), hE 22 (by decide) (by decide) (by decide), hE 23 (by decide) (by decide) (by decide)]
        · rw [if_pos (by decide)]; rfl
        · rw [if_pos (by decide)]; rfl
        · rw [if_pos (by decide)]; rfl
        · rw [if_pos (by decide)]; rfl
        · rw [if_pos (by decide)]; rfl
        · rw [if_pos (by decide)]; rfl
        · rw [if_pos (by decide)]; rfl
        · rw [if_pos (by decide)]; rfl
        · rw [if_pos (by decide)]; rfl
        · rw [if_pos (by decide)]; rfl
        · rw [if_pos (by decide)]; rfl
        · rw [if_pos (by decide)]; rfl
        · rw [if_pos (by decide)]; rfl
        · rw [if_pos (by decide)]; rfl
        · rw [if_pos (by decide)]; rfl
        · rw [if_pos (by decide)]; rfl
        · rw [if_pos (by decide)]; rfl
      · rw [if_neg h, if_neg (fun hc => h (cid_N hc hj h5))]
end WORKS
