section MADD3
variable {p : Program} {l : Launch} {e : Env} {R : Room} {s : State} {m : MethodId} {args : Array Value} {below : List Frame} {meth : Method} {c : Code} {H : Heap} {locs : List Loc} {cells slots : Nat} {Q : State → Prop} {cc : ByteArray} {pc : Nat} {ls : Array Slot} {rest st0 : List Value} {D : va_G} {A : Nat → Prop} {tys : List (ClassId × FieldType)} {K0 : Nat → Nat} {H0 : Heap} {L L' : List (Nat × Nat)} {ad ad' : Nat → Nat → Nat} {ce ce' : Nat → Nat → va_E} {cI cG cJ cO : ClassId} {mc ms : Nat} {cp cp2 : Nat → Nat} {S S1 S2 T U : Nat → Nat → Nat → Int32} {u : Nat → Nat → Nat}
/-- rows of an element that is not there yet -/
theorem SE.up {r n : Nat} {v : Int32} (h : SE S T) (hr : (7 ≤ r ∧ r < 11 ∧ msz S 0 ≤ n) ∨ ((r = 14 ∨ r = 15 ∨ r = 16 ∨ r = 41) ∧ msz S 2 ≤ n) ∨ (17 ≤ r ∧ r < 20 ∧ msz S 3 ≤ n) ∨ (r = 12 ∧ msz S 1 ≤ n)) : SE S (up3 T r 0 n v) := by
  have key : ∀ r' o, (r' = r → o ≠ n) → up3 T r 0 n v r' 0 o = T r' 0 o := fun r' o z => by
    by_cases c : r' = r
    · subst c; exact up3_i (z rfl)
    · rw [up3_f c]
  refine ⟨fun f hf => ?_, fun k hk => (key 12 k (fun e => by omega)).trans (h.2.1 k hk), fun r' o a b c => (key r' o (fun e => by omega)).trans (h.2.2.1 r' o a b c), fun r' o a c => (key r' o (fun e => by omega)).trans (h.2.2.2.1 r' o a c), fun r' o a b c => (key r' o (fun e => by omega)).trans (h.2.2.2.2.1 r' o a b c), fun r' o a c => ?_⟩
  · rw [up3_f (by omega)]; exact h.1 f hf
  · rw [up3_f (by omega)]; exact h.2.2.2.2.2 r' o a c
theorem SE.nj {v0 v1 : Int32} {n : Nat} (hn : msz S 4 ≤ n) : SE S (newJ S n v0 v1) := by
  have key : ∀ f, ¬ (f = 6 ∨ (23 < f ∧ f < 29)) → newJ S n v0 v1 f = S f := fun f z => by
    funext o; exact nj_o (fun y => z y.2)
  refine ⟨fun f hf => key f (by omega), fun k hk => by rw [key 12 (by omega)], fun r o a b c => by rw [key r (by omega)], fun r o a c => by rw [key r (by omega)], fun r o a b c => by rw [key r (by omega)], fun r o a c => nj_o (fun z => by have := z.1; omega)⟩
noncomputable def elS (T : Nat → Nat → Nat → Int32) (n : Nat) (v0 v1 v2 v3 : Int32) : Nat → Nat → Nat → Int32 := up3 (up3 (up3 (up3 T 7 0 n v0) 8 0 n v1) 9 0 n v2) 10 0 n v3
noncomputable def elO (T : Nat → Nat → Nat → Int32) (n : Nat) (v0 v1 v2 : Int32) : Nat → Nat → Nat → Int32 := up3 (up3 (up3 (up3 T 14 0 n v0) 15 0 n v1) 16 0 n v2) 41 0 n 0
noncomputable def elE (T : Nat → Nat → Nat → Int32) (n : Nat) (v0 v1 v2 : Int32) : Nat → Nat → Nat → Int32 := up3 (up3 (up3 T 17 0 n v0) 18 0 n v1) 19 0 n v2
theorem SE.elS {n : Nat} {v0 v1 v2 v3 : Int32} (h : msz T 0 ≤ n) : SE T (elS T n v0 v1 v2 v3) := (((SE.rf.up (Or.inl ⟨by decide, by decide, h⟩)).up (Or.inl ⟨by decide, by decide, h⟩)).up (Or.inl ⟨by decide, by decide, h⟩)).up (Or.inl ⟨by decide, by decide, h⟩)
theorem SE.elO {n : Nat} {v0 v1 v2 : Int32} (h : msz T 2 ≤ n) : SE T (elO T n v0 v1 v2) := (((SE.rf.up (Or.inr (Or.inl ⟨by decide, h⟩))).up (Or.inr (Or.inl ⟨by decide, h⟩))).up (Or.inr (Or.inl ⟨by decide, h⟩))).up (Or.inr (Or.inl ⟨by decide, h⟩))
theorem SE.elE {n : Nat} {v0 v1 v2 : Int32} (h : msz T 3 ≤ n) : SE T (elE T n v0 v1 v2) := ((SE.rf.up (Or.inr (Or.inr (Or.inl ⟨by decide, by decide, h⟩)))).up (Or.inr (Or.inr (Or.inl ⟨by decide, by decide, h⟩)))).up (Or.inr (Or.inr (Or.inl ⟨by decide, by decide, h⟩)))
theorem SE.el12 {n : Nat} {v : Int32} (h : msz T 1 ≤ n) : SE T (up3 T 12 0 n v) := SE.rf.up (Or.inr (Or.inr (Or.inr ⟨rfl, h⟩)))
/-- a new cell is the reference's -/
theorem wk.el {f n q : Nat} {x : va_E} (hf : 43 ≤ f) (hf2 : f < 53) (hR : MR T L cp) (hF : MF T L cp) (hn : (f, n) ∉ L) (hS : SE T U) (hx : mcell cI cO K0 (upa ad f n q) cp U f n = x) (hw : wk D A (L ++ [(f, n)]) (upa ad f n q) (up2 (mK cI cO K0 ad cp ce T) f n x) H0 H locs) : wk D A (L ++ [(f, n)]) (upa ad f n q) (mK cI cO K0 (upa ad f n q) cp ce U) H0 H locs := by
  refine hw.congr (fun g p h => ⟨rfl, ?_⟩)
  by_cases c : g = f ∧ p = n
  · obtain ⟨rfl, rfl⟩ := c
    rw [up2_eq, mK_in (by omega) hf2, hx]
  · rw [up2_o c]
    have hm : (g, p) ∈ L := (List.mem_append.mp h).elim id (fun z => absurd (by cases List.mem_singleton.mp z; exact ⟨rfl, rfl⟩) c)
    exact mK_ex hR hF (Ex.upa hn) hS hm
theorem wk.elJ {n q : Nat} {v0 v1 : Int32} {x : va_E} (hR : MR T L cp) (hF : MF T L cp) (hn : (46, n) ∉ L) (hz : msz T 4 ≤ n) (hE : Ex (L ++ [(46, n)]) (upa ad 46 n q) u) (hw : wk D A (L ++ [(46, n)] ++ [(47, n)] ++ [(48, n)] ++ [(49, n)] ++ [(50, n)] ++ [(51, n)]) u (mX cI cO K0 cp (newJ T n v0 v1) u (up2 (mK cI cO K0 ad cp ce T) 46 n x) [(46, n), (47, n), (48, n), (49, n), (50, n), (51, n)]) H0 H locs) : wk D A (L ++ [(46, n)] ++ [(47, n)] ++ [(48, n)] ++ [(49, n)] ++ [(50, n)] ++ [(51, n)]) u (mK cI cO K0 u cp ce (newJ T n v0 v1)) H0 H locs := by
  refine hw.congr (fun g p h => ⟨rfl, ?_⟩)
  unfold mX
  by_cases c : (g, p) ∈ [(46, n), (47, n), (48, n), (49, n), (50, n), (51, n)]
  · rw [if_pos c]
    have : 46 ≤ g ∧ g < 52 := by
      simp only [List.mem_cons, List.not_mem_nil, or_false, Prod.mk.injEq] at c
      omega
    exact mK_in (by omega) (by omega)
  · rw [if_neg c]
    have hm : (g, p) ∈ L := by
      simp only [List.mem_append, List.mem_singleton] at h
      simp only [List.mem_cons, List.not_mem_nil, or_false, not_or] at c
      obtain ⟨c1, c2, c3, c4, c5, c6⟩ := c
      rcases h with ((((((h | h) | h) | h) | h) | h) | h) <;> first | exact h | exact absurd h (by assumption)
    have hne : ¬ (g = 46 ∧ p = n) := fun z => c (by rw [z.1, z.2]; simp)
    rw [up2_o hne]
    exact mK_ex hR hF (Ex.tr (Ex.upa hn) hE (fun _ z => List.mem_append_left _ z)) (SE.nj hz) hm
/-- MF over sizes -/
def MFz (z : Nat → Nat) (L : List (Nat × Nat)) (cp : Nat → Nat) : Prop :=
  (∀ k, z 0 ≤ k → (43, k) ∉ L) ∧ (∀ k, z 1 ≤ k → (52, k) ∉ L) ∧ (∀ k, z 2 ≤ k → (44, k) ∉ L) ∧ (∀ k, z 3 ≤ k → (45, k) ∉ L) ∧ (∀ f k, 46 ≤ f → f < 52 → z 4 ≤ k → (f, k) ∉ L) ∧
  (∀ t, t < 5 → (cp t = 0 → (38 + t, 0) ∉ L) ∧ (cp t ≠ 0 → (38 + t, 0) ∈ L) ∧ (cp t = 0 ∨ cp t = 10 ∨ cp t = 15 ∨ cp t = 22))
theorem MFz.le {z z' : Nat → Nat} (h : MFz z L cp) (hz : ∀ t, t < 5 → z t ≤ z' t) : MFz z' L cp := ⟨fun k a => h.1 k (Nat.le_trans (hz 0 (by decide)) a), fun k a => h.2.1 k (Nat.le_trans (hz 1 (by decide)) a), fun k a => h.2.2.1 k (Nat.le_trans (hz 2 (by decide)) a), fun k a => h.2.2.2.1 k (Nat.le_trans (hz 3 (by decide)) a), fun f k a b c => h.2.2.2.2.1 f k a b (Nat.le_trans (hz 4 (by decide)) c), h.2.2.2.2.2⟩
theorem MFz.push {z : Nat → Nat} {f o : Nat} (h : MFz z L cp) (h0 : 43 ≤ f) (h1 : f = 43 → o < z 0) (h2 : f = 52 → o < z 1) (h3 : f = 44 → o < z 2) (h4 : f = 45 → o < z 3) (h5 : 46 ≤ f → f < 52 → o < z 4) : MFz z (L ++ [(f, o)]) cp := by
  refine ⟨fun k a y => ?_, fun k a y => ?_, fun k a y => ?_, fun k a y => ?_, fun g k b c a y => ?_, fun t ht => ⟨fun a => nmemf ((h.2.2.2.2.2 t ht).1 a) (by omega), fun a => List.mem_append_left _ ((h.2.2.2.2.2 t ht).2.1 a), (h.2.2.2.2.2 t ht).2.2⟩⟩
  · rcases List.mem_append.mp y with y | y
    · exact h.1 k a y
    · cases List.mem_singleton.mp y; have := h1 rfl; omega
  · rcases List.mem_append.mp y with y | y
    · exact h.2.1 k a y
    · cases List.mem_singleton.mp y; have := h2 rfl; omega
  · rcases List.mem_append.mp y with y | y
    · exact h.2.2.1 k a y
    · cases List.mem_singleton.mp y; have := h3 rfl; omega
  · rcases List.mem_append.mp y with y | y
    · exact h.2.2.2.1 k a y
    · cases List.mem_singleton.mp y; have := h4 rfl; omega
  · rcases List.mem_append.mp y with y | y
    · exact h.2.2.2.2.1 g k b c a y
    · cases List.mem_singleton.mp y; have := h5 b c; omega
theorem MFz.gl {z : Nat → Nat} {t n : Nat} {L2 : List (Nat × Nat)} {u2 : Nat → Nat → Nat} (h : MFz z L cp) (ht : t < 5) (hG : GL t n L ad cp L2 u2 cp2) : MFz z L2 cp2 := by
  obtain ⟨g1, g2, -, g4, g5, g6⟩ := hG
  have key : ∀ i, i ∈ L2 → i ∈ L ∨ i = (38 + t, 0) := fun i hi => by
    rcases g1 with rfl | rfl
    · exact Or.inl hi
    · exact (List.mem_append.mp hi).elim Or.inl (fun y => Or.inr (List.mem_singleton.mp y))
  have sub : ∀ i, i ∈ L → i ∈ L2 := fun i hi => by
    rcases g1 with rfl | rfl
    · exact hi
    · exact List.mem_append_left _ hi
  have nk : ∀ f o, f ≠ 38 + t → (f, o) ∉ L → (f, o) ∉ L2 := fun f o hf hn y => (key _ y).elim hn (fun e => hf (congrArg Prod.fst e))
  refine ⟨fun k a => nk _ _ (by omega) (h.1 k a), fun k a => nk _ _ (by omega) (h.2.1 k a), fun k a => nk _ _ (by omega) (h.2.2.1 k a), fun k a => nk _ _ (by omega) (h.2.2.2.1 k a), fun f k a b c => nk _ _ (by omega) (h.2.2.2.2.1 f k a b c), fun t' ht' => ?_⟩
  by_cases e : t' = t
  · subst e
    exact ⟨fun a => by omega, fun _ => g2, by omega⟩
  · obtain ⟨a, b, c⟩ := h.2.2.2.2.2 t' ht'
    rw [g4 t' e]
    exact ⟨fun y => nk _ _ (by omega) (a y), fun y => sub _ (b y), c⟩
theorem addS_z {t n t' : Nat} (ht : t < 5) (ht' : t' < 5) (hn : n < 22) : msz (addS S t (nI (n + 1))) t' = if t' = t then n + 1 else msz S t' := by
  unfold msz
  by_cases e : t' = t
  · subst e
    rw [addS_zi ht, nI_clamp (by omega), if_pos rfl]
  · rw [addS_zo ht e ht', if_neg e]
theorem MR.add {t n : Nat} {L2 : List (Nat × Nat)} {u2 : Nat → Nat → Nat} (h : MR S L cp) (ht : t < 5) (hn : msz S t = n) (hn22 : n < 22) (hG : GL t n L ad cp L2 u2 cp2) (h0 : t = 0 → (43, n) ∈ L) (h1 : t = 1 → (127 < S 12 0 n → (52, n) ∈ L) ∧ ¬ S 12 0 n < -128) (h2 : t = 2 → (44, n) ∈ L) (h3 : t = 3 → (45, n) ∈ L) (h4 : t = 4 → ∀ f, 46 ≤ f → f < 52 → (f, n) ∈ L) : MR (addS S t (nI (n + 1))) L2 cp2 := by
  obtain ⟨g1, g2, -, g4, g5, g6⟩ := hG
  have sub : ∀ i, i ∈ L → i ∈ L2 := fun i hi => by
    rcases g1 with rfl | rfl
    · exact hi
    · exact List.mem_append_left _ hi
  have zz := fun t' (ht' : t' < 5) => addS_z (S := S) (t' := t') ht ht' hn22
  have e12 : addS S t (nI (n + 1)) 12 = S 12 := addS_r (by decide) (by decide)
  have lt : ∀ t' k, t' < 5 → k < msz (addS S t (nI (n + 1))) t' → k < msz S t' ∨ (t' = t ∧ k = n) := fun t' k ht' hk => by
    rw [zz t' ht'] at hk
    by_cases e : t' = t
    · rw [if_pos e] at hk; subst e; omega
    · rw [if_neg e] at hk; exact Or.inl hk
  refine ⟨fun f a b => sub _ (h.1 f a b), fun t' ht' hp => ?_, fun t' ht' => ?_, fun k hk => ?_, fun k hk => ?_, fun k hk => ?_, fun k hk => ?_, fun f k a b hk => ?_⟩
  · by_cases e : t' = t
    · subst e; exact g2
    · rw [zz t' ht', if_neg e] at hp; exact sub _ (h.2.1 t' ht' hp)
  · rw [zz t' ht']
    by_cases e : t' = t
    · subst e; rw [if_pos rfl]; omega
    · rw [if_neg e, g4 t' e]; exact h.2.2.1 t' ht'
  · rcases lt 0 k (by decide) hk with y | ⟨e, rfl⟩
    · exact sub _ (h.2.2.2.1 k y)
    · exact sub _ (h0 e.symm)
  · rw [e12]
    rcases lt 1 k (by decide) hk with y | ⟨e, rfl⟩
    · exact ⟨fun w => sub _ ((h.2.2.2.2.1 k y).1 w), (h.2.2.2.2.1 k y).2⟩
    · exact ⟨fun w => sub _ ((h1 e.symm).1 w), (h1 e.symm).2⟩
  · rcases lt 2 k (by decide) hk with y | ⟨e, rfl⟩
    · exact sub _ (h.2.2.2.2.2.1 k y)
    · exact sub _ (h2 e.symm)
  · rcases lt 3 k (by decide) hk with y | ⟨e, rfl⟩
    · exact sub _ (h.2.2.2.2.2.2.1 k y)
    · exact sub _ (h3 e.symm)
  · rcases lt 4 k (by decide) hk with y | ⟨e, rfl⟩
    · exact sub _ (h.2.2.2.2.2.2.2 f k a b y)
    · exact sub _ (h4 e.symm f a b)
theorem SE.ci (h : SE S T) (k : CI S) : CI T := by unfold CI; rw [h.1 1 (by omega), h.1 2 (by omega), h.1 3 (by omega), h.1 0 (by omega)]; exact k
def mxt (t : Nat) : Nat := if t = 0 then 12 else if t = 1 then 6 else if t = 4 then 8 else 20
theorem CI.add {t n : Nat} (ht : t < 5) (hn : n < mxt t) (k : CI S) : CI (addS S t (nI (n + 1))) := by
  have hm : mxt t ≤ 20 := by unfold mxt; repeat' split
                             all_goals decide
  have e : (nI (n + 1)).toInt = (n + 1 : Nat) := nI_toInt (by omega)
  have h : t = 0 ∨ t = 1 ∨ t = 2 ∨ t = 3 ∨ t = 4 := by omega
  obtain ⟨k1, k2, k3, k4, k5⟩ := k
  rcases h with rfl | rfl | rfl | rfl | rfl
  · have hn : n < 12 := hn
    exact ⟨by show 0 ≤ (nI (n + 1)).toInt ∧ (nI (n + 1)).toInt ≤ 12; omega, k2, k3, k4, k5⟩
  · have hn : n < 6 := hn
    exact ⟨k1, by show 0 ≤ (nI (n + 1)).toInt ∧ (nI (n + 1)).toInt ≤ 6; omega, k3, k4, k5⟩
  · have hn : n < 20 := hn
    exact ⟨k1, k2, by show 0 ≤ (nI (n + 1)).toInt ∧ (nI (n + 1)).toInt ≤ 20; omega, k4, k5⟩
  · have hn : n < 20 := hn
    exact ⟨k1, k2, k3, by show 0 ≤ (nI (n + 1)).toInt ∧ (nI (n + 1)).toInt ≤ 20; omega, k5⟩
  · have hn : n < 8 := hn
    exact ⟨k1, k2, k3, k4, by show 0 ≤ (nI (n + 1)).toInt ∧ (nI (n + 1)).toInt ≤ 8; omega⟩
theorem MF.addz {t n : Nat} (h : MF S L cp) (hS : SE S T) (ht : t < 5) (hz : msz S t = n) (hn : n < 22) : MFz (msz (addS T t (nI (n + 1)))) L cp := by
  have h : MFz (msz S) L cp := h
  refine h.le (fun t' ht' => ?_)
  rw [addS_z ht ht' hn, hS.z t']
  by_cases e : t' = t
  · rw [if_pos e, e, hz]; exact Nat.le_succ _
  · rw [if_neg e]; exact Nat.le_refl _
theorem mem_k {i : Nat × Nat} {f n : Nat} (h : i ∈ L ++ [(f, n)]) (hf : 38 ≤ f ∧ f < 53) : i ∈ L ∨ (38 ≤ i.1 ∧ i.1 < 53) := (List.mem_append.mp h).elim Or.inl (fun z => by cases List.mem_singleton.mp z; exact Or.inr hf)
theorem mem_k6 {i : Nat × Nat} {n : Nat} (h : i ∈ L ++ [(46, n)] ++ [(47, n)] ++ [(48, n)] ++ [(49, n)] ++ [(50, n)] ++ [(51, n)]) : i ∈ L ∨ (38 ≤ i.1 ∧ i.1 < 53) := by
  simp only [List.mem_append, List.mem_singleton] at h
  rcases h with ((((((h | h) | h) | h) | h) | h) | h)
  · exact Or.inl h
  all_goals (subst h; exact Or.inr ⟨Nat.le_of_ble_eq_true rfl, Nat.le_of_ble_eq_true rfl⟩)
theorem mem_j {f n : Nat} (a : 46 ≤ f) (b : f < 52) : (f, n) ∈ L ++ [(46, n)] ++ [(47, n)] ++ [(48, n)] ++ [(49, n)] ++ [(50, n)] ++ [(51, n)] := by
  have : f = 46 ∨ f = 47 ∨ f = 48 ∨ f = 49 ∨ f = 50 ∨ f = 51 := by omega
  rcases this with rfl | rfl | rfl | rfl | rfl | rfl <;> simp
theorem mc_elS {n : Nat} {v0 v1 v2 v3 : Int32} : mcell cI cO K0 u cp (elS T n v0 v1 v2 v3) 43 n = .inr (12, [.int v0, .int v1, .int v2, .int v3]) := by
  unfold elS
  show (.inr (12, [.int (up3 T 7 0 n v0 7 0 n), .int (up3 (up3 T 7 0 n v0) 8 0 n v1 8 0 n), .int (up3 (up3 (up3 T 7 0 n v0) 8 0 n v1) 9 0 n v2 9 0 n), .int (up3 (up3 (up3 (up3 T 7 0 n v0) 8 0 n v1) 9 0 n v2) 10 0 n v3 10 0 n)]) : va_E) = _
  rw [up3_e, up3_e, up3_e, up3_e]
theorem mc_elO {n : Nat} {v0 v1 v2 : Int32} : mcell cI cO K0 u cp (elO T n v0 v1 v2) 44 n = .inr (10, [.int v0, .int v1, .int v2, .int 0]) := by
  unfold elO
  show (.inr (10, [.int (up3 T 14 0 n v0 14 0 n), .int (up3 (up3 T 14 0 n v0) 15 0 n v1 15 0 n), .int (up3 (up3 (up3 T 14 0 n v0) 15 0 n v1) 16 0 n v2 16 0 n), .int (up3 (up3 (up3 (up3 T 14 0 n v0) 15 0 n v1) 16 0 n v2) 41 0 n 0 41 0 n)]) : va_E) = _
  rw [up3_e, up3_e, up3_e, up3_e]
theorem mc_elE {n : Nat} {v0 v1 v2 : Int32} : mcell cI cO K0 u cp (elE T n v0 v1 v2) 45 n = .inr (11, [.int v0, .int v1, .int v2]) := by
  unfold elE
  show (.inr (11, [.int (up3 T 17 0 n v0 17 0 n), .int (up3 (up3 T 17 0 n v0) 18 0 n v1 18 0 n), .int (up3 (up3 (up3 T 17 0 n v0) 18 0 n v1) 19 0 n v2 19 0 n)]) : va_E) = _
  rw [up3_e, up3_e, up3_e]
theorem mc_el12 {n : Nat} {v : Int32} : mcell cI cO K0 u cp (up3 T 12 0 n v) 52 n = .inr (0, [.int v]) := by
  show (.inr (0, [.int (up3 T 12 0 n v 12 0 n)]) : va_E) = _
  rw [up3_e]
abbrev GW : Type := List (Nat × Nat) × (Nat → Nat → Nat) × (Nat → Nat)
/-- the world behind a call that may have made cells -/
def GRW (L : List (Nat × Nat)) (ad : Nat → Nat → Nat) (T : Nat → Nat → Nat → Int32) (g : GW) : Prop :=
  (MR T g.1 g.2.2 ∧ MF T g.1 g.2.2) ∧ (∀ i, i ∈ L → i ∈ g.1) ∧ (∀ i, i ∈ g.1 → i ∈ L ∨ (38 ≤ i.1 ∧ i.1 < 53)) ∧ (∀ f o, (f, o) ∈ L → (f < 38 ∨ 43 ≤ f) → g.2.1 f o = ad f o)
theorem GRW.same (h : MR T L cp) (h2 : MF T L cp) : GRW L ad T (L, ad, cp) := ⟨⟨h, h2⟩, fun _ h => h, fun _ h => Or.inl h, fun _ _ _ _ => rfl⟩
theorem GRW.of {t n : Nat} {L1 L2 : List (Nat × Nat)} {u1 u2 : Nat → Nat → Nat} (ht : t < 5) (h : MR T L2 cp2) (h2 : MF T L2 cp2) (hG : GL t n L1 u1 cp L2 u2 cp2) (hs : ∀ i, i ∈ L → i ∈ L1) (hk : ∀ i, i ∈ L1 → i ∈ L ∨ (38 ≤ i.1 ∧ i.1 < 53)) (he : Ex L ad u1) : GRW L ad T (L2, u2, cp2) := by
  obtain ⟨g1, g2, g3, -⟩ := hG
  refine ⟨⟨h, h2⟩, fun i hi => ?_, fun i hi => ?_, fun f o hm hf => (g3 f o (by omega)).trans (he f o hm)⟩
  · rcases g1 with rfl | rfl
    · exact hs i hi
    · exact List.mem_append_left _ (hs i hi)
  · have hi : i ∈ L2 := hi
    rcases g1 with rfl | rfl
    · exact hk i hi
    · rcases List.mem_append.mp hi with y | y
      · exact hk i y
      · cases List.mem_singleton.mp y; exact Or.inr ⟨by show 38 ≤ 38 + t; omega, by show 38 + t < 53; omega⟩
theorem TL.small {n : Nat} (h : TL n L) {f o : Nat} (hf : f < 60) : TL n (L ++ [(f, o)]) := fun i hi => (List.mem_append.mp hi).elim (h i) (fun z => by cases List.mem_singleton.mp z; exact Or.inl hf)
theorem TL.gl {n t k : Nat} {L2 : List (Nat × Nat)} {u2 : Nat → Nat → Nat} (h : TL n L) (ht : t < 5) (hG : GL t k L ad cp L2 u2 cp2) : TL n L2 := by
  rcases hG.1 with e | e
  · rw [e]; exact h
  · rw [e]; exact h.small (by omega)
abbrev kQg (D : va_G) (A : Nat → Prop) (v : Int32) (T : Nat → Nat → Nat → Int32) (L : List (Nat × Nat)) (ad : Nat → Nat → Nat) (cI cO : ClassId) (K0 : Nat → Nat) (ce : Nat → Nat → va_E) : Array Value → State → Outcome → State → Prop := va_Qi (fun (r : Int32) (g : GW) => r = v ∧ GRW L ad T g) (fun g t => WE D A g.1 g.2.1 (mK cI cO K0 g.2.1 g.2.2 ce T) t) A
theorem m_iretG {v : Int32 × (Nat → Nat → Nat → Int32)} {x : Int32} {ty : FieldType} {L2 : List (Nat × Nat)} {u2 : Nat → Nat → Nat} (hx : p.tables.exec = Jvm.exec) (hb : c.code = cc) (hr : meth.sig.returnType = some ty) (hlocks : meth.locks = false) (hn : narrow ty (.int x) = .int x) (hG : GRW L ad S (L2, u2, cp2)) (hw : wk D A L2 u2 (mK cI cO K0 u2 cp2 ce S) s.heap H locs) (hE : some (x, S) = some v) (hc : cells ≤ mc) (hs : slots ≤ ms) (hdg : decode cc pc = .ok (.ireturn, 1)) : W p l e R s m args below meth c H locs cells slots (MQ below (kQg D A v.1 v.2 L ad cI cO K0 ce) args s mc ms A) (F0 m pc ls [.int x]) := by
  cases hE
  exact W.widen hc hs (W.zret hx hb hr hn (fun t ht _ => ⟨⟨_, (L2, u2, cp2), rfl, ⟨rfl, hG⟩, by rw [ht]; exact hw.1, hw.2.1⟩, hw.2.2.F ht⟩) hw.2.2.2.2 hdg hlocks)
end MADD3
